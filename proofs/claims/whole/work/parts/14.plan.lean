-- CopierJobs$Plan.untell()V
abbrev rm_X3_untell : Room := { frames := 1, cells := 0, slots := 0, locals := 23 }
theorem cv_X3_untell : CV yX3_untell cX3_untell 1 (none) 0 := ⟨wC_X3_untell, wI_X3_untell, wS_X3_untell, wZ_X3, by decide +kernel⟩
def m_X3_untell (g : zG) (p0 : Nat) : Option (zG) := (m_J7_fill_53178 g 16 p0 (nI 20)).bind fun g1 => bd (ui g1 10 p0 0 (nI 200)) fun g2 => bd (ui g2 11 p0 0 (nI 4)) fun g3 => bd (ui g3 12 p0 0 (nI 0)) fun g4 => gd (isb (nI 0) = true) (bd (ui g4 13 p0 0 (nI 0)) fun g5 => gd (isb (nI 0) = true) (bd (ui g5 14 p0 0 (nI 0)) fun g6 => gd (isb (nI 0) = true) (bd (ui g6 15 p0 0 (nI 0)) fun g7 => some g7)))
set_option maxRecDepth 100000 in
set_option maxHeartbeats 4000000 in
theorem c_X3_untell (l : Launch) (z : zE) (gm : zG) (g : zG) (p0 : Nat) (hp0 : p0 < dm 73) : ∀ x, m_X3_untell g p0 = some x → Ms dm l yX3_untell cX3_untell 1 (none) rm_X3_untell z [.ref (za z 73 p0)] ((wx z gm) g) (osv x) ((wx z gm) ((fun x => x) x)) := by
  refine ms_of (Wf := (wx z gm)) (ri := .return_) (out := osv) (nxt := (fun x => x)) (ok := (fun _ => True)) (lv := [(0, .ref (za z 73 p0))]) (by decide) ⟨rfl, rfl⟩ (Nat.le_of_ble_eq_true rfl) rfl (en_v ) (fun p e s m below meth c => ?_)
  refine j_eq (M2 := (m_J7_fill_53178 g 16 p0 (nI 20)).bind fun g1 => bd (ui g1 10 p0 0 (nI 200)) fun g2 => bd (ui g2 11 p0 0 (nI 4)) fun g3 => bd (ui g3 12 p0 0 (nI 0)) fun g4 => gd (isb (nI 0) = true) (bd (ui g4 13 p0 0 (nI 0)) fun g5 => gd (isb (nI 0) = true) (bd (ui g5 14 p0 0 (nI 0)) fun g6 => gd (isb (nI 0) = true) (bd (ui g6 15 p0 0 (nI 0)) fun g7 => some g7)))) rfl ?_
  refine j_aload_n (q := 1) (i := 0) (n := 0) dX3_untell_0 rfl rfl rfl ?_
  refine g_X3_trays (q := 4) wF_X3_9 hp0 dX3_untell_1 rfl ?_
  refine j_bipush (q := 6) (v := (nI 20)) dX3_untell_4 rfl rfl ?_
  refine j_sv (q := 9) (rn_S (R := rm_X3_untell) (As := [.ref (za z 16 p0), .int (nI 20)]) (rest := []) (c_J7_fill_53178 _ z gm g 16 p0 isX_16 hp0 (nI 20)) cv_J7_fill_53178 wM_X3_31 ⟨rfl, rfl⟩ ⟨(Nat.le_of_ble_eq_true rfl), (Nat.le_of_ble_eq_true rfl)⟩ rfl (Nat.le_of_ble_eq_true rfl) dX3_untell_6) rfl (fun g1 => ?_)
  refine j_aload_n (q := 10) (i := 0) (n := 0) dX3_untell_9 rfl rfl rfl ?_
  refine j_sipush (q := 13) (v := (nI 200)) dX3_untell_10 rfl rfl ?_
  refine p_X3_toner (q := 16) dm_le wF_X3_37 hp0 dX3_untell_13 rfl (fun g2 => ?_)
  refine j_aload_n (q := 17) (i := 0) (n := 0) dX3_untell_16 rfl rfl rfl ?_
  refine j_iconst (q := 18) (v := (nI 4)) dX3_untell_17 rfl rfl ?_
  refine p_X3_bins (q := 21) dm_le wF_X3_41 hp0 dX3_untell_18 rfl (fun g3 => ?_)
  refine j_aload_n (q := 22) (i := 0) (n := 0) dX3_untell_21 rfl rfl rfl ?_
  refine j_iconst (q := 23) (v := (nI 0)) dX3_untell_22 rfl rfl ?_
  refine p_X3_jobCount (q := 26) dm_le wF_X3_44 hp0 dX3_untell_23 rfl (fun g4 => ?_)
  refine j_aload_n (q := 27) (i := 0) (n := 0) dX3_untell_26 rfl rfl rfl ?_
  refine j_iconst (q := 28) (v := (nI 0)) dX3_untell_27 rfl rfl ?_
  refine p_X3_traysTold (q := 31) dm_le wF_X3_47 hp0 dX3_untell_28 rfl (fun g5 => ?_)
  refine j_aload_n (q := 32) (i := 0) (n := 0) dX3_untell_31 rfl rfl rfl ?_
  refine j_iconst (q := 33) (v := (nI 0)) dX3_untell_32 rfl rfl ?_
  refine p_X3_tonerTold (q := 36) dm_le wF_X3_51 hp0 dX3_untell_33 rfl (fun g6 => ?_)
  refine j_aload_n (q := 37) (i := 0) (n := 0) dX3_untell_36 rfl rfl rfl ?_
  refine j_iconst (q := 38) (v := (nI 0)) dX3_untell_37 rfl rfl ?_
  refine p_X3_binsTold (q := 41) dm_le wF_X3_54 hp0 dX3_untell_38 rfl (fun g7 => ?_)
  exact j_ret (x := g7) dX3_untell_41 ⟨trivial, rfl, rfl⟩
-- CopierJobs$Plan.jobAt(I)LCopierJobs$Job;
abbrev rm_X3_jobAt : Room := { frames := 0, cells := 0, slots := 0, locals := 0 }
theorem cv_X3_jobAt : CV yX3_jobAt cX3_jobAt 2 (some (.object "CopierJobs$Job")) 1 := ⟨wC_X3_jobAt, wI_X3_jobAt, wS_X3_jobAt, wZ_X3, by decide +kernel⟩
def m_X3_jobAt (g : zG) (p0 : Nat) (a0 : Int32) : Option (Option Nat) := if a0 < (nI 0) then some none else if a0 < (gi g 12 p0 0) then if a0 < (nI 6) then gd (inb a0 6 = true) (some (some (6 * p0 + a0.toNatClampNeg))) else some none else some none
set_option maxRecDepth 100000 in
set_option maxHeartbeats 4000000 in
theorem c_X3_jobAt (l : Launch) (z : zE) (gm : zG) (g : zG) (p0 : Nat) (hp0 : p0 < dm 73) (a0 : Int32) : ∀ x, m_X3_jobAt g p0 a0 = some x → Ms dm l yX3_jobAt cX3_jobAt 2 (some (.object "CopierJobs$Job")) rm_X3_jobAt z [.ref (za z 73 p0), .int a0] ((wx z gm) g) ((orf z 71) x) ((wx z gm) ((fun _ => g) x)) := by
  refine ms_of (Wf := (wx z gm)) (ri := .areturn) (out := (orf z 71)) (nxt := (fun _ => g)) (ok := (fun _ => True)) (lv := [(0, .ref (za z 73 p0)), (1, .int a0)]) (by decide) ⟨rfl, rfl⟩ (Nat.le_of_ble_eq_true rfl) rfl (en_r (k0 := 71) (out := fun x => x)) (fun p e s m below meth c => ?_)
  refine j_eq (M2 := if a0 < (nI 0) then some none else if a0 < (gi g 12 p0 0) then if a0 < (nI 6) then gd (inb a0 6 = true) (some (some (6 * p0 + a0.toNatClampNeg))) else some none else some none) rfl ?_
  refine j_iload_n (q := 1) (i := 1) (n := 1) dX3_jobAt_0 rfl rfl rfl ?_
  refine j_if_lt (tgt := 30) (q := 4) dX3_jobAt_1 rfl rfl ?_ ?_
  · refine j_null (q := 31) dX3_jobAt_30 rfl ?_
    exact j_ret (x := none) dX3_jobAt_31 ⟨trivial, rfl, rfl⟩
  · refine j_iload_n (q := 5) (i := 1) (n := 1) dX3_jobAt_4 rfl rfl rfl ?_
    refine j_aload_n (q := 6) (i := 0) (n := 0) dX3_jobAt_5 rfl rfl rfl ?_
    refine g_X3_jobCount (q := 9) wF_X3_44 hp0 dX3_jobAt_6 rfl ?_
    refine j_icmp_ge (tgt := 30) (q := 12) dX3_jobAt_9 rfl rfl ?_ ?_
    · refine j_null (q := 31) dX3_jobAt_30 rfl ?_
      exact j_ret (x := none) dX3_jobAt_31 ⟨trivial, rfl, rfl⟩
    · refine j_iload_n (q := 13) (i := 1) (n := 1) dX3_jobAt_12 rfl rfl rfl ?_
      refine j_aload_n (q := 14) (i := 0) (n := 0) dX3_jobAt_13 rfl rfl rfl ?_
      refine g_X3_jobs (q := 17) wF_X3_17 hp0 dX3_jobAt_14 rfl ?_
      refine a81_len (q := 18) hp0 dX3_jobAt_17 rfl ?_
      refine j_icmp_ge (tgt := 30) (q := 21) dX3_jobAt_18 rfl rfl ?_ ?_
      · refine j_null (q := 31) dX3_jobAt_30 rfl ?_
        exact j_ret (x := none) dX3_jobAt_31 ⟨trivial, rfl, rfl⟩
      · refine j_aload_n (q := 22) (i := 0) (n := 0) dX3_jobAt_21 rfl rfl rfl ?_
        refine g_X3_jobs (q := 25) wF_X3_17 hp0 dX3_jobAt_22 rfl ?_
        refine j_iload_n (q := 26) (i := 1) (n := 1) dX3_jobAt_25 rfl rfl rfl ?_
        refine a81_ld (q := 27) hp0 dX3_jobAt_26 rfl ?_
        refine j_goto (tgt := 31) dX3_jobAt_27 rfl ?_
        exact j_ret (x := some (6 * p0 + a0.toNatClampNeg)) dX3_jobAt_31 ⟨trivial, rfl, rfl⟩
-- CopierJobs$Plan.hasBin(I)Z
abbrev rm_X3_hasBin : Room := { frames := 0, cells := 0, slots := 0, locals := 0 }
theorem cv_X3_hasBin : CV yX3_hasBin cX3_hasBin 2 (some .boolean) 1 := ⟨wC_X3_hasBin, wI_X3_hasBin, wS_X3_hasBin, wZ_X3, by decide +kernel⟩
def m_X3_hasBin (g : zG) (p0 : Nat) (a0 : Int32) : Option (Int32) := if a0 < (nI 0) then some (nI 0) else if a0 < (gi g 11 p0 0) then some (nI 1) else some (nI 0)
set_option maxRecDepth 100000 in
set_option maxHeartbeats 4000000 in
theorem c_X3_hasBin (l : Launch) (z : zE) (gm : zG) (g : zG) (p0 : Nat) (hp0 : p0 < dm 73) (a0 : Int32) : ∀ x, m_X3_hasBin g p0 a0 = some x → Ms dm l yX3_hasBin cX3_hasBin 2 (some .boolean) rm_X3_hasBin z [.ref (za z 73 p0), .int a0] ((wx z gm) g) (oi x) ((wx z gm) ((fun _ => g) x)) := by
  refine ms_of (Wf := (wx z gm)) (ri := .ireturn) (out := oi) (nxt := (fun _ => g)) (ok := (fun x => isb x = true)) (lv := [(0, .ref (za z 73 p0)), (1, .int a0)]) (by decide) ⟨rfl, rfl⟩ (Nat.le_of_ble_eq_true rfl) rfl (en_z (out := fun x => x)) (fun p e s m below meth c => ?_)
  refine j_eq (M2 := if a0 < (nI 0) then some (nI 0) else if a0 < (gi g 11 p0 0) then some (nI 1) else some (nI 0)) rfl ?_
  refine j_iload_n (q := 1) (i := 1) (n := 1) dX3_hasBin_0 rfl rfl rfl ?_
  refine j_if_lt (tgt := 16) (q := 4) dX3_hasBin_1 rfl rfl ?_ ?_
  · refine j_iconst (q := 17) (v := (nI 0)) dX3_hasBin_16 rfl rfl ?_
    exact j_ret (x := (nI 0)) dX3_hasBin_17 ⟨rfl, rfl, rfl⟩
  · refine j_iload_n (q := 5) (i := 1) (n := 1) dX3_hasBin_4 rfl rfl rfl ?_
    refine j_aload_n (q := 6) (i := 0) (n := 0) dX3_hasBin_5 rfl rfl rfl ?_
    refine g_X3_bins (q := 9) wF_X3_41 hp0 dX3_hasBin_6 rfl ?_
    refine j_icmp_ge (tgt := 16) (q := 12) dX3_hasBin_9 rfl rfl ?_ ?_
    · refine j_iconst (q := 17) (v := (nI 0)) dX3_hasBin_16 rfl rfl ?_
      exact j_ret (x := (nI 0)) dX3_hasBin_17 ⟨rfl, rfl, rfl⟩
    · refine j_iconst (q := 13) (v := (nI 1)) dX3_hasBin_12 rfl rfl ?_
      refine j_goto (tgt := 17) dX3_hasBin_13 rfl ?_
      exact j_ret (x := (nI 1)) dX3_hasBin_17 ⟨rfl, rfl, rfl⟩
-- CopierJobs$Plan.binOf(LCopierJobs$Job;I)I
abbrev rm_X3_binOf : Room := { frames := 1, cells := 0, slots := 0, locals := 21 }
theorem cv_X3_binOf : CV yX3_binOf cX3_binOf 4 (some .int) 2 := ⟨wC_X3_binOf, wI_X3_binOf, wS_X3_binOf, wZ_X3, by decide +kernel⟩
def m_X3_binOf_B20 (p0 : Nat) (j0 : Nat) (a1 : Int32) (g : zG) (s0 : Int32) : Option (Int32) := if (nI 0) < (gi g 11 p0 0) then gd (¬ ((gi g 11 p0 0) : Int32) = 0) (some (s0 - s0 / (gi g 11 p0 0) * (gi g 11 p0 0))) else some (nI 0)
set_option maxRecDepth 100000 in
set_option maxHeartbeats 4000000 in
theorem t_X3_binOf_B20 {p : Program} {l : Launch} {e : Env} {s : State} {m : MethodId} {args : Array Value} {below : List Frame} {meth : Method} {c : Code} {cells slots : Nat} {Q : Int32 → State → Prop} (z : zE) (gm : zG) (p0 : Nat) (j0 : Nat) (a1 : Int32) (hp0 : p0 < dm 73) (hj0 : j0 < dm 71) (g : zG) (s0 : Int32) : zJ dm p l e rm_X3_binOf s m args below meth c cX3_binOf 4 yX3_binOf.cls z cells slots (wx z gm) (fn (fun _ => True) (fun _ => g) oi) .ireturn Q 20 [(0, .ref (za z 73 p0))] [.int s0] g (m_X3_binOf_B20 p0 j0 a1 g s0) := by
  refine j_eq (M2 := if (nI 0) < (gi g 11 p0 0) then gd (¬ ((gi g 11 p0 0) : Int32) = 0) (some (s0 - s0 / (gi g 11 p0 0) * (gi g 11 p0 0))) else some (nI 0)) rfl ?_
  refine j_istore_n (q := 21) (n := 3) (lv' := [(3, .int s0), (0, .ref (za z 73 p0))]) dX3_binOf_20 rfl (Nat.le_of_ble_eq_true rfl) rfl rfl ?_
  refine j_aload_n (q := 22) (i := 1) (n := 0) dX3_binOf_21 rfl rfl rfl ?_
  refine g_X3_bins (q := 25) wF_X3_41 hp0 dX3_binOf_22 rfl ?_
  refine j_if_le (tgt := 37) (q := 28) dX3_binOf_25 rfl rfl ?_ ?_
  · refine j_iconst (q := 38) (v := (nI 0)) dX3_binOf_37 rfl rfl ?_
    exact j_ret (x := (nI 0)) dX3_binOf_38 ⟨trivial, rfl, rfl⟩
  · refine j_iload_n (q := 29) (i := 0) (n := 3) dX3_binOf_28 rfl rfl rfl ?_
    refine j_aload_n (q := 30) (i := 1) (n := 0) dX3_binOf_29 rfl rfl rfl ?_
    refine g_X3_bins (q := 33) wF_X3_41 hp0 dX3_binOf_30 rfl ?_
    refine j_irem (q := 34) dX3_binOf_33 rfl ?_
    refine j_goto (tgt := 38) dX3_binOf_34 rfl ?_
    exact j_ret (x := s0 - s0 / (gi g 11 p0 0) * (gi g 11 p0 0)) dX3_binOf_38 ⟨trivial, rfl, rfl⟩
def m_X3_binOf (g : zG) (p0 : Nat) (j0 : Nat) (a1 : Int32) : Option (Int32) := if (gi g 23 j0 0) = (nI 0) then (m_X1_leafOf g j0 a1).bind fun r1 => m_X3_binOf_B20 p0 j0 a1 g r1 else (m_X1_copyOf g j0 a1).bind fun r2 => m_X3_binOf_B20 p0 j0 a1 g r2
set_option maxRecDepth 100000 in
set_option maxHeartbeats 4000000 in
theorem c_X3_binOf (l : Launch) (z : zE) (gm : zG) (g : zG) (p0 : Nat) (hp0 : p0 < dm 73) (j0 : Nat) (hj0 : j0 < dm 71) (a1 : Int32) : ∀ x, m_X3_binOf g p0 j0 a1 = some x → Ms dm l yX3_binOf cX3_binOf 4 (some .int) rm_X3_binOf z [.ref (za z 73 p0), .ref (za z 71 j0), .int a1] ((wx z gm) g) (oi x) ((wx z gm) ((fun _ => g) x)) := by
  refine ms_of (Wf := (wx z gm)) (ri := .ireturn) (out := oi) (nxt := (fun _ => g)) (ok := (fun _ => True)) (lv := [(0, .ref (za z 73 p0)), (1, .ref (za z 71 j0)), (2, .int a1)]) (by decide) ⟨rfl, rfl⟩ (Nat.le_of_ble_eq_true rfl) rfl (en_i (out := fun x => x)) (fun p e s m below meth c => ?_)
  refine j_eq (M2 := if (gi g 23 j0 0) = (nI 0) then (m_X1_leafOf g j0 a1).bind fun r1 => m_X3_binOf_B20 p0 j0 a1 g r1 else (m_X1_copyOf g j0 a1).bind fun r2 => m_X3_binOf_B20 p0 j0 a1 g r2) rfl ?_
  refine j_aload_n (q := 1) (i := 1) (n := 1) dX3_binOf_0 rfl rfl rfl ?_
  refine gN_X1_sorted (q := 4) wG_X3_57 hj0 dX3_binOf_1 rfl ?_
  refine j_if_eq (tgt := 15) (q := 7) dX3_binOf_4 rfl rfl ?_ ?_
  · refine j_aload_n (q := 16) (i := 1) (n := 1) dX3_binOf_15 rfl rfl rfl ?_
    refine j_iload_n (q := 17) (i := 2) (n := 2) dX3_binOf_16 rfl rfl rfl ?_
    refine j_ci (q := 20) (rn_V (R := rm_X3_binOf) (As := [.int a1]) (rest := []) (c_X1_leafOf _ z gm g j0 hj0 a1) cv_X1_leafOf wM_X3_64 ⟨rfl, rfl⟩ ⟨(Nat.le_of_ble_eq_true rfl), (Nat.le_of_ble_eq_true rfl)⟩ hj0 rfl rfl rfl (Nat.le_of_ble_eq_true rfl) dX3_binOf_17) rfl (fun r1 => ?_)
    refine j_lv [0] (lv' := [(0, .ref (za z 73 p0))]) rfl ?_
    exact t_X3_binOf_B20 z gm p0 j0 a1 hp0 hj0 g r1
  · refine j_aload_n (q := 8) (i := 1) (n := 1) dX3_binOf_7 rfl rfl rfl ?_
    refine j_iload_n (q := 9) (i := 2) (n := 2) dX3_binOf_8 rfl rfl rfl ?_
    refine j_ci (q := 12) (rn_V (R := rm_X3_binOf) (As := [.int a1]) (rest := []) (c_X1_copyOf _ z gm g j0 hj0 a1) cv_X1_copyOf wM_X3_60 ⟨rfl, rfl⟩ ⟨(Nat.le_of_ble_eq_true rfl), (Nat.le_of_ble_eq_true rfl)⟩ hj0 rfl rfl rfl (Nat.le_of_ble_eq_true rfl) dX3_binOf_9) rfl (fun r2 => ?_)
    refine j_goto (tgt := 20) dX3_binOf_12 rfl ?_
    refine j_lv [0] (lv' := [(0, .ref (za z 73 p0))]) rfl ?_
    exact t_X3_binOf_B20 z gm p0 j0 a1 hp0 hj0 g r2
-- CopierJobs$Plan.readNumbers(LCopierJobs$Text;[I[I)Z
abbrev rm_X3_readNumbers : Room := { frames := 3, cells := 0, slots := 0, locals := 63 }
theorem cv_X3_readNumbers : CV yX3_readNumbers cX3_readNumbers 5 (some .boolean) 3 := ⟨wC_X3_readNumbers, wI_X3_readNumbers, wS_X3_readNumbers, wZ_X3, by decide +kernel⟩
def m_X3_readNumbers_B67 (p0 : Nat) (k1 n1 : Nat) (k2 n2 : Nat) (g : zG) : Option (Int32 × zG) := (m_X5_readToken g).bind fun g1 => if (gi g1 52 0 0) = (nI 3) then some ((nI 1), g1) else some ((nI 0), g1)
set_option maxRecDepth 100000 in
set_option maxHeartbeats 4000000 in
theorem t_X3_readNumbers_B67 {p : Program} {l : Launch} {e : Env} {s : State} {m : MethodId} {args : Array Value} {below : List Frame} {meth : Method} {c : Code} {cells slots : Nat} {Q : (Int32 × zG) → State → Prop} (z : zE) (gm : zG) (p0 : Nat) (k1 n1 : Nat) (k2 n2 : Nat) (hp0 : p0 < dm 73) (hk1 : isR dm k1 n1) (hk2 : isR dm k2 n2) (g : zG) : zJ dm p l e rm_X3_readNumbers s m args below meth c cX3_readNumbers 5 yX3_readNumbers.cls z cells slots (wx z gm) (fn (fun x => isb x.1 = true) (fun x => x.2) osi) .ireturn Q 67 [(1, .ref (za z 75 0))] [] g (m_X3_readNumbers_B67 p0 k1 n1 k2 n2 g) := by
  refine j_eq (M2 := (m_X5_readToken g).bind fun g1 => if (gi g1 52 0 0) = (nI 3) then some ((nI 1), g1) else some ((nI 0), g1)) rfl ?_
  refine j_aload_n (q := 68) (i := 0) (n := 1) dX3_readNumbers_67 rfl rfl rfl ?_
  refine j_sv (q := 71) (rn_V (R := rm_X3_readNumbers) (As := []) (rest := []) (c_X5_readToken _ z gm g) cv_X5_readToken wM_X3_72 ⟨rfl, rfl⟩ ⟨(Nat.le_of_ble_eq_true rfl), (Nat.le_of_ble_eq_true rfl)⟩ (Nat.le_of_ble_eq_true rfl) rfl rfl rfl (Nat.le_of_ble_eq_true rfl) dX3_readNumbers_68) rfl (fun g1 => ?_)
  refine j_aload_n (q := 72) (i := 0) (n := 1) dX3_readNumbers_71 rfl rfl rfl ?_
  refine gN_X5_token (q := 75) wG_X3_75 (Nat.le_of_ble_eq_true rfl) dX3_readNumbers_72 rfl ?_
  refine j_iconst (q := 76) (v := (nI 3)) dX3_readNumbers_75 rfl rfl ?_
  refine j_icmp_ne (tgt := 83) (q := 79) dX3_readNumbers_76 rfl rfl ?_ ?_
  · refine j_iconst (q := 84) (v := (nI 0)) dX3_readNumbers_83 rfl rfl ?_
    exact j_ret (x := ((nI 0), g1)) dX3_readNumbers_84 ⟨rfl, rfl, rfl⟩
  · refine j_iconst (q := 80) (v := (nI 1)) dX3_readNumbers_79 rfl rfl ?_
    refine j_goto (tgt := 84) dX3_readNumbers_80 rfl ?_
    exact j_ret (x := ((nI 1), g1)) dX3_readNumbers_84 ⟨rfl, rfl, rfl⟩
def m_X3_readNumbers_L3 (p0 : Nat) (k1 n1 : Nat) (k2 n2 : Nat) : Nat → zG → Int32 → Option (Int32 × zG)
  | 0, _, _ => none
  | f + 1, g, x4 => if x4 < (nI (ln k1)) then (m_X5_readToken g).bind fun g2 => if (gi g2 52 0 0) = (nI 2) then gd (inb x4 (ln k1) = true) (if (gi g2 54 0 0) < (xr g2 k1 n1 x4.toNatClampNeg) then some ((nI 0), g2) else (m_X6_at g2 k2 n2 x4).bind fun r3 => if r3 < (gi g2 54 0 0) then some ((nI 0), g2) else (m_X6_put g2 17 p0 x4 (gi g2 54 0 0)).bind fun g4 => m_X3_readNumbers_L3 p0 k1 n1 k2 n2 f g4 (x4 + (nI 1))) else some ((nI 0), g2) else m_X3_readNumbers_B67 p0 k1 n1 k2 n2 g
set_option maxRecDepth 100000 in
set_option maxHeartbeats 4000000 in
theorem t_X3_readNumbers_L3 {p : Program} {l : Launch} {e : Env} {s : State} {m : MethodId} {args : Array Value} {below : List Frame} {meth : Method} {c : Code} {cells slots : Nat} {Q : (Int32 × zG) → State → Prop} (z : zE) (gm : zG) (p0 : Nat) (k1 n1 : Nat) (k2 n2 : Nat) (hp0 : p0 < dm 73) (hk1 : isR dm k1 n1) (hk2 : isR dm k2 n2) : ∀ (f : Nat) (g : zG) (x4 : Int32), zJ dm p l e rm_X3_readNumbers s m args below meth c cX3_readNumbers 5 yX3_readNumbers.cls z cells slots (wx z gm) (fn (fun x => isb x.1 = true) (fun x => x.2) osi) .ireturn Q 3 [(0, .ref (za z 73 p0)), (1, .ref (za z 75 0)), (2, .ref (za z k1 n1)), (3, .ref (za z k2 n2)), (4, .int x4)] [] g (m_X3_readNumbers_L3 p0 k1 n1 k2 n2 f g x4) := by
  intro f
  induction f with
  | zero => intro g x4; exact j_none
  | succ f ih =>
    intro g x4
    refine j_eq (M2 := if x4 < (nI (ln k1)) then (m_X5_readToken g).bind fun g2 => if (gi g2 52 0 0) = (nI 2) then gd (inb x4 (ln k1) = true) (if (gi g2 54 0 0) < (xr g2 k1 n1 x4.toNatClampNeg) then some ((nI 0), g2) else (m_X6_at g2 k2 n2 x4).bind fun r3 => if r3 < (gi g2 54 0 0) then some ((nI 0), g2) else (m_X6_put g2 17 p0 x4 (gi g2 54 0 0)).bind fun g4 => m_X3_readNumbers_L3 p0 k1 n1 k2 n2 f g4 (x4 + (nI 1))) else some ((nI 0), g2) else m_X3_readNumbers_B67 p0 k1 n1 k2 n2 g) rfl ?_
    refine j_iload (q := 5) (i := 4) (n := 4) dX3_readNumbers_3 rfl rfl ?_
    refine j_aload_n (q := 6) (i := 2) (n := 2) dX3_readNumbers_5 rfl rfl rfl ?_
    refine ar_len (v := nI (ln k1)) (q := 7) hk1 rfl dX3_readNumbers_6 rfl ?_
    refine j_icmp_ge (tgt := 67) (q := 10) dX3_readNumbers_7 rfl rfl ?_ ?_
    · refine j_lv [1] (lv' := [(1, .ref (za z 75 0))]) rfl ?_
      exact t_X3_readNumbers_B67 z gm p0 k1 n1 k2 n2 hp0 hk1 hk2 g
    · refine j_aload_n (q := 11) (i := 1) (n := 1) dX3_readNumbers_10 rfl rfl rfl ?_
      refine j_sv (q := 14) (rn_V (R := rm_X3_readNumbers) (As := []) (rest := []) (c_X5_readToken _ z gm g) cv_X5_readToken wM_X3_72 ⟨rfl, rfl⟩ ⟨(Nat.le_of_ble_eq_true rfl), (Nat.le_of_ble_eq_true rfl)⟩ (Nat.le_of_ble_eq_true rfl) rfl rfl rfl (Nat.le_of_ble_eq_true rfl) dX3_readNumbers_11) rfl (fun g2 => ?_)
      refine j_aload_n (q := 15) (i := 1) (n := 1) dX3_readNumbers_14 rfl rfl rfl ?_
      refine gN_X5_token (q := 18) wG_X3_75 (Nat.le_of_ble_eq_true rfl) dX3_readNumbers_15 rfl ?_
      refine j_iconst (q := 19) (v := (nI 2)) dX3_readNumbers_18 rfl rfl ?_
      refine j_icmp_ne (tgt := 46) (q := 22) dX3_readNumbers_19 rfl rfl ?_ ?_
      · refine j_iconst (q := 47) (v := (nI 0)) dX3_readNumbers_46 rfl rfl ?_
        exact j_ret (x := ((nI 0), g2)) dX3_readNumbers_47 ⟨rfl, rfl, rfl⟩
      · refine j_aload_n (q := 23) (i := 1) (n := 1) dX3_readNumbers_22 rfl rfl rfl ?_
        refine gN_X5_value (q := 26) wG_X3_85 (Nat.le_of_ble_eq_true rfl) dX3_readNumbers_23 rfl ?_
        refine j_aload_n (q := 27) (i := 2) (n := 2) dX3_readNumbers_26 rfl rfl rfl ?_
        refine j_iload (q := 29) (i := 4) (n := 4) dX3_readNumbers_27 rfl rfl ?_
        refine ar_ld (q := 30) hk1 rfl dX3_readNumbers_29 rfl ?_
        refine j_icmp_lt (tgt := 46) (q := 33) dX3_readNumbers_30 rfl rfl ?_ ?_
        · refine j_iconst (q := 47) (v := (nI 0)) dX3_readNumbers_46 rfl rfl ?_
          exact j_ret (x := ((nI 0), g2)) dX3_readNumbers_47 ⟨rfl, rfl, rfl⟩
        · refine j_aload_n (q := 34) (i := 1) (n := 1) dX3_readNumbers_33 rfl rfl rfl ?_
          refine gN_X5_value (q := 37) wG_X3_85 (Nat.le_of_ble_eq_true rfl) dX3_readNumbers_34 rfl ?_
          refine j_aload_n (q := 38) (i := 3) (n := 3) dX3_readNumbers_37 rfl rfl rfl ?_
          refine j_iload (q := 40) (i := 4) (n := 4) dX3_readNumbers_38 rfl rfl ?_
          refine j_ci (q := 43) (rn_N (R := rm_X3_readNumbers) (As := [.ref (za z k2 n2), .int x4]) (rest := [.int (gi g2 54 0 0)]) (c_X6_at _ z gm g2 k2 n2 hk2 x4) cv_X6_at wO_X3_126 ⟨rfl, rfl⟩ ⟨(Nat.le_of_ble_eq_true rfl), (Nat.le_of_ble_eq_true rfl)⟩ rfl (Nat.le_of_ble_eq_true rfl) dX3_readNumbers_40) rfl (fun r3 => ?_)
          refine j_icmp_le (tgt := 48) (q := 46) dX3_readNumbers_43 rfl rfl ?_ ?_
          · refine j_aload_n (q := 49) (i := 0) (n := 0) dX3_readNumbers_48 rfl rfl rfl ?_
            refine g_X3_numbers (q := 52) wF_X3_24 hp0 dX3_readNumbers_49 rfl ?_
            refine j_iload (q := 54) (i := 4) (n := 4) dX3_readNumbers_52 rfl rfl ?_
            refine j_aload_n (q := 55) (i := 1) (n := 1) dX3_readNumbers_54 rfl rfl rfl ?_
            refine gN_X5_value (q := 58) wG_X3_85 (Nat.le_of_ble_eq_true rfl) dX3_readNumbers_55 rfl ?_
            refine j_sv (q := 61) (rn_N (R := rm_X3_readNumbers) (As := [.ref (za z 17 p0), .int x4, .int (gi g2 54 0 0)]) (rest := []) (c_X6_put _ z gm g2 17 p0 isX_17 hp0 x4 (gi g2 54 0 0)) cv_X6_put wO_X3_130 ⟨rfl, rfl⟩ ⟨(Nat.le_of_ble_eq_true rfl), (Nat.le_of_ble_eq_true rfl)⟩ rfl (Nat.le_of_ble_eq_true rfl) dX3_readNumbers_58) rfl (fun g4 => ?_)
            refine j_iinc (q := 64) (n := 4) (i := 4) (v := x4 + (nI 1)) (lv' := [(4, .int (x4 + (nI 1))), (0, .ref (za z 73 p0)), (1, .ref (za z 75 0)), (2, .ref (za z k1 n1)), (3, .ref (za z k2 n2))]) dX3_readNumbers_61 rfl rfl (Nat.le_of_ble_eq_true rfl) rfl rfl ?_
            refine j_goto (tgt := 3) dX3_readNumbers_64 rfl ?_
            refine j_lv [1, 2, 3, 4, 0] (lv' := [(0, .ref (za z 73 p0)), (1, .ref (za z 75 0)), (2, .ref (za z k1 n1)), (3, .ref (za z k2 n2)), (4, .int (x4 + (nI 1)))]) rfl ?_
            exact ih g4 (x4 + (nI 1))
          · refine j_iconst (q := 47) (v := (nI 0)) dX3_readNumbers_46 rfl rfl ?_
            exact j_ret (x := ((nI 0), g2)) dX3_readNumbers_47 ⟨rfl, rfl, rfl⟩
def m_X3_readNumbers (g : zG) (p0 : Nat) (k1 n1 : Nat) (k2 n2 : Nat) : Option (Int32 × zG) := m_X3_readNumbers_L3 p0 k1 n1 k2 n2 FU g (nI 0)
set_option maxRecDepth 100000 in
set_option maxHeartbeats 4000000 in
theorem c_X3_readNumbers (l : Launch) (z : zE) (gm : zG) (g : zG) (p0 : Nat) (hp0 : p0 < dm 73) (k1 n1 : Nat) (hk1 : isR dm k1 n1) (k2 n2 : Nat) (hk2 : isR dm k2 n2) : ∀ x, m_X3_readNumbers g p0 k1 n1 k2 n2 = some x → Ms dm l yX3_readNumbers cX3_readNumbers 5 (some .boolean) rm_X3_readNumbers z [.ref (za z 73 p0), .ref (za z 75 0), .ref (za z k1 n1), .ref (za z k2 n2)] ((wx z gm) g) (osi x) ((wx z gm) ((fun x => x.2) x)) := by
  refine ms_of (Wf := (wx z gm)) (ri := .ireturn) (out := osi) (nxt := (fun x => x.2)) (ok := (fun x => isb x.1 = true)) (lv := [(0, .ref (za z 73 p0)), (1, .ref (za z 75 0)), (2, .ref (za z k1 n1)), (3, .ref (za z k2 n2))]) (by decide) ⟨rfl, rfl⟩ (Nat.le_of_ble_eq_true rfl) rfl (en_z (out := fun x : Int32 × zG => x.1)) (fun p e s m below meth c => ?_)
  refine j_eq (M2 := m_X3_readNumbers_L3 p0 k1 n1 k2 n2 FU g (nI 0)) rfl ?_
  refine j_iconst (q := 1) (v := (nI 0)) dX3_readNumbers_0 rfl rfl ?_
  refine j_istore (q := 3) (n := 4) (lv' := [(4, .int (nI 0)), (0, .ref (za z 73 p0)), (1, .ref (za z 75 0)), (2, .ref (za z k1 n1)), (3, .ref (za z k2 n2))]) dX3_readNumbers_1 (Nat.le_of_ble_eq_true rfl) rfl rfl ?_
  refine j_lv [1, 2, 3, 4, 0] (lv' := [(0, .ref (za z 73 p0)), (1, .ref (za z 75 0)), (2, .ref (za z k1 n1)), (3, .ref (za z k2 n2)), (4, .int (nI 0))]) rfl ?_
  exact t_X3_readNumbers_L3 z gm p0 k1 n1 k2 n2 hp0 hk1 hk2 FU g (nI 0)
-- CopierJobs$Plan.tellTrays()Z
abbrev rm_X3_tellTrays : Room := { frames := 1, cells := 0, slots := 0, locals := 22 }
theorem cv_X3_tellTrays : CV yX3_tellTrays cX3_tellTrays 1 (some .boolean) 0 := ⟨wC_X3_tellTrays, wI_X3_tellTrays, wS_X3_tellTrays, wZ_X3, by decide +kernel⟩
def m_X3_tellTrays (g : zG) (p0 : Nat) : Option (Int32 × zG) := (m_X6_copyRow g 17 p0 16 p0).bind fun g1 => gd (isb (nI 1) = true) (bd (ui g1 13 p0 0 (nI 1)) fun g2 => some ((nI 1), g2))
set_option maxRecDepth 100000 in
set_option maxHeartbeats 4000000 in
theorem c_X3_tellTrays (l : Launch) (z : zE) (gm : zG) (g : zG) (p0 : Nat) (hp0 : p0 < dm 73) : ∀ x, m_X3_tellTrays g p0 = some x → Ms dm l yX3_tellTrays cX3_tellTrays 1 (some .boolean) rm_X3_tellTrays z [.ref (za z 73 p0)] ((wx z gm) g) (osi x) ((wx z gm) ((fun x => x.2) x)) := by
  refine ms_of (Wf := (wx z gm)) (ri := .ireturn) (out := osi) (nxt := (fun x => x.2)) (ok := (fun x => isb x.1 = true)) (lv := [(0, .ref (za z 73 p0))]) (by decide) ⟨rfl, rfl⟩ (Nat.le_of_ble_eq_true rfl) rfl (en_z (out := fun x : Int32 × zG => x.1)) (fun p e s m below meth c => ?_)
  refine j_eq (M2 := (m_X6_copyRow g 17 p0 16 p0).bind fun g1 => gd (isb (nI 1) = true) (bd (ui g1 13 p0 0 (nI 1)) fun g2 => some ((nI 1), g2))) rfl ?_
  refine j_aload_n (q := 1) (i := 0) (n := 0) dX3_tellTrays_0 rfl rfl rfl ?_
  refine g_X3_numbers (q := 4) wF_X3_24 hp0 dX3_tellTrays_1 rfl ?_
  refine j_aload_n (q := 5) (i := 0) (n := 0) dX3_tellTrays_4 rfl rfl rfl ?_
  refine g_X3_trays (q := 8) wF_X3_9 hp0 dX3_tellTrays_5 rfl ?_
  refine j_sv (q := 11) (rn_N (R := rm_X3_tellTrays) (As := [.ref (za z 17 p0), .ref (za z 16 p0)]) (rest := []) (c_X6_copyRow _ z gm g 17 p0 isX_17 hp0 16 p0 isX_16 hp0) cv_X6_copyRow wO_X3_134 ⟨rfl, rfl⟩ ⟨(Nat.le_of_ble_eq_true rfl), (Nat.le_of_ble_eq_true rfl)⟩ rfl (Nat.le_of_ble_eq_true rfl) dX3_tellTrays_8) rfl (fun g1 => ?_)
  refine j_aload_n (q := 12) (i := 0) (n := 0) dX3_tellTrays_11 rfl rfl rfl ?_
  refine j_iconst (q := 13) (v := (nI 1)) dX3_tellTrays_12 rfl rfl ?_
  refine p_X3_traysTold (q := 16) dm_le wF_X3_47 hp0 dX3_tellTrays_13 rfl (fun g2 => ?_)
  refine j_iconst (q := 17) (v := (nI 1)) dX3_tellTrays_16 rfl rfl ?_
  exact j_ret (x := ((nI 1), g2)) dX3_tellTrays_17 ⟨rfl, rfl, rfl⟩
-- CopierJobs$Plan.tellToner()Z
abbrev rm_X3_tellToner : Room := { frames := 1, cells := 0, slots := 0, locals := 21 }
theorem cv_X3_tellToner : CV yX3_tellToner cX3_tellToner 1 (some .boolean) 0 := ⟨wC_X3_tellToner, wI_X3_tellToner, wS_X3_tellToner, wZ_X3, by decide +kernel⟩
def m_X3_tellToner (g : zG) (p0 : Nat) : Option (Int32 × zG) := (m_X6_at g 17 p0 (nI 0)).bind fun r1 => bd (ui g 10 p0 0 r1) fun g2 => gd (isb (nI 1) = true) (bd (ui g2 14 p0 0 (nI 1)) fun g3 => some ((nI 1), g3))
set_option maxRecDepth 100000 in
set_option maxHeartbeats 4000000 in
theorem c_X3_tellToner (l : Launch) (z : zE) (gm : zG) (g : zG) (p0 : Nat) (hp0 : p0 < dm 73) : ∀ x, m_X3_tellToner g p0 = some x → Ms dm l yX3_tellToner cX3_tellToner 1 (some .boolean) rm_X3_tellToner z [.ref (za z 73 p0)] ((wx z gm) g) (osi x) ((wx z gm) ((fun x => x.2) x)) := by
  refine ms_of (Wf := (wx z gm)) (ri := .ireturn) (out := osi) (nxt := (fun x => x.2)) (ok := (fun x => isb x.1 = true)) (lv := [(0, .ref (za z 73 p0))]) (by decide) ⟨rfl, rfl⟩ (Nat.le_of_ble_eq_true rfl) rfl (en_z (out := fun x : Int32 × zG => x.1)) (fun p e s m below meth c => ?_)
  refine j_eq (M2 := (m_X6_at g 17 p0 (nI 0)).bind fun r1 => bd (ui g 10 p0 0 r1) fun g2 => gd (isb (nI 1) = true) (bd (ui g2 14 p0 0 (nI 1)) fun g3 => some ((nI 1), g3))) rfl ?_
  refine j_aload_n (q := 1) (i := 0) (n := 0) dX3_tellToner_0 rfl rfl rfl ?_
  refine j_aload_n (q := 2) (i := 0) (n := 0) dX3_tellToner_1 rfl rfl rfl ?_
  refine g_X3_numbers (q := 5) wF_X3_24 hp0 dX3_tellToner_2 rfl ?_
  refine j_iconst (q := 6) (v := (nI 0)) dX3_tellToner_5 rfl rfl ?_
  refine j_ci (q := 9) (rn_N (R := rm_X3_tellToner) (As := [.ref (za z 17 p0), .int (nI 0)]) (rest := [.ref (za z 73 p0)]) (c_X6_at _ z gm g 17 p0 (Or.inl ⟨isX_17, hp0⟩) (nI 0)) cv_X6_at wO_X3_126 ⟨rfl, rfl⟩ ⟨(Nat.le_of_ble_eq_true rfl), (Nat.le_of_ble_eq_true rfl)⟩ rfl (Nat.le_of_ble_eq_true rfl) dX3_tellToner_6) rfl (fun r1 => ?_)
  refine p_X3_toner (q := 12) dm_le wF_X3_37 hp0 dX3_tellToner_9 rfl (fun g2 => ?_)
  refine j_aload_n (q := 13) (i := 0) (n := 0) dX3_tellToner_12 rfl rfl rfl ?_
  refine j_iconst (q := 14) (v := (nI 1)) dX3_tellToner_13 rfl rfl ?_
  refine p_X3_tonerTold (q := 17) dm_le wF_X3_51 hp0 dX3_tellToner_14 rfl (fun g3 => ?_)
  refine j_iconst (q := 18) (v := (nI 1)) dX3_tellToner_17 rfl rfl ?_
  exact j_ret (x := ((nI 1), g3)) dX3_tellToner_18 ⟨rfl, rfl, rfl⟩
-- CopierJobs$Plan.tellBins()Z
abbrev rm_X3_tellBins : Room := { frames := 1, cells := 0, slots := 0, locals := 21 }
theorem cv_X3_tellBins : CV yX3_tellBins cX3_tellBins 1 (some .boolean) 0 := ⟨wC_X3_tellBins, wI_X3_tellBins, wS_X3_tellBins, wZ_X3, by decide +kernel⟩
def m_X3_tellBins (g : zG) (p0 : Nat) : Option (Int32 × zG) := (m_X6_at g 17 p0 (nI 0)).bind fun r1 => bd (ui g 11 p0 0 r1) fun g2 => gd (isb (nI 1) = true) (bd (ui g2 15 p0 0 (nI 1)) fun g3 => some ((nI 1), g3))
set_option maxRecDepth 100000 in
set_option maxHeartbeats 4000000 in
theorem c_X3_tellBins (l : Launch) (z : zE) (gm : zG) (g : zG) (p0 : Nat) (hp0 : p0 < dm 73) : ∀ x, m_X3_tellBins g p0 = some x → Ms dm l yX3_tellBins cX3_tellBins 1 (some .boolean) rm_X3_tellBins z [.ref (za z 73 p0)] ((wx z gm) g) (osi x) ((wx z gm) ((fun x => x.2) x)) := by
  refine ms_of (Wf := (wx z gm)) (ri := .ireturn) (out := osi) (nxt := (fun x => x.2)) (ok := (fun x => isb x.1 = true)) (lv := [(0, .ref (za z 73 p0))]) (by decide) ⟨rfl, rfl⟩ (Nat.le_of_ble_eq_true rfl) rfl (en_z (out := fun x : Int32 × zG => x.1)) (fun p e s m below meth c => ?_)
  refine j_eq (M2 := (m_X6_at g 17 p0 (nI 0)).bind fun r1 => bd (ui g 11 p0 0 r1) fun g2 => gd (isb (nI 1) = true) (bd (ui g2 15 p0 0 (nI 1)) fun g3 => some ((nI 1), g3))) rfl ?_
  refine j_aload_n (q := 1) (i := 0) (n := 0) dX3_tellBins_0 rfl rfl rfl ?_
  refine j_aload_n (q := 2) (i := 0) (n := 0) dX3_tellBins_1 rfl rfl rfl ?_
  refine g_X3_numbers (q := 5) wF_X3_24 hp0 dX3_tellBins_2 rfl ?_
  refine j_iconst (q := 6) (v := (nI 0)) dX3_tellBins_5 rfl rfl ?_
  refine j_ci (q := 9) (rn_N (R := rm_X3_tellBins) (As := [.ref (za z 17 p0), .int (nI 0)]) (rest := [.ref (za z 73 p0)]) (c_X6_at _ z gm g 17 p0 (Or.inl ⟨isX_17, hp0⟩) (nI 0)) cv_X6_at wO_X3_126 ⟨rfl, rfl⟩ ⟨(Nat.le_of_ble_eq_true rfl), (Nat.le_of_ble_eq_true rfl)⟩ rfl (Nat.le_of_ble_eq_true rfl) dX3_tellBins_6) rfl (fun r1 => ?_)
  refine p_X3_bins (q := 12) dm_le wF_X3_41 hp0 dX3_tellBins_9 rfl (fun g2 => ?_)
  refine j_aload_n (q := 13) (i := 0) (n := 0) dX3_tellBins_12 rfl rfl rfl ?_
  refine j_iconst (q := 14) (v := (nI 1)) dX3_tellBins_13 rfl rfl ?_
  refine p_X3_binsTold (q := 17) dm_le wF_X3_54 hp0 dX3_tellBins_14 rfl (fun g3 => ?_)
  refine j_iconst (q := 18) (v := (nI 1)) dX3_tellBins_17 rfl rfl ?_
  exact j_ret (x := ((nI 1), g3)) dX3_tellBins_18 ⟨rfl, rfl, rfl⟩
-- CopierJobs$Plan.tellJob()Z
abbrev rm_X3_tellJob : Room := { frames := 2, cells := 0, slots := 0, locals := 42 }
theorem cv_X3_tellJob : CV yX3_tellJob cX3_tellJob 2 (some .boolean) 0 := ⟨wC_X3_tellJob, wI_X3_tellJob, wS_X3_tellJob, wZ_X3, by decide +kernel⟩
def m_X3_tellJob (g : zG) (p0 : Nat) : Option (Int32 × zG) := bd (ui g 12 p0 0 ((gi g 12 p0 0) + (nI 1))) fun g1 => (m_X3_jobAt g1 p0 ((gi g1 12 p0 0) - (nI 1))).bind fun x => oc x (some ((nI 0), g1)) (fun n2 => gd (n2 < dm 71) ((m_X1_tell g1 n2 17 p0).bind fun g4 => some ((nI 1), g4)))
set_option maxRecDepth 100000 in
set_option maxHeartbeats 4000000 in
theorem c_X3_tellJob (l : Launch) (z : zE) (gm : zG) (g : zG) (p0 : Nat) (hp0 : p0 < dm 73) : ∀ x, m_X3_tellJob g p0 = some x → Ms dm l yX3_tellJob cX3_tellJob 2 (some .boolean) rm_X3_tellJob z [.ref (za z 73 p0)] ((wx z gm) g) (osi x) ((wx z gm) ((fun x => x.2) x)) := by
  refine ms_of (Wf := (wx z gm)) (ri := .ireturn) (out := osi) (nxt := (fun x => x.2)) (ok := (fun x => isb x.1 = true)) (lv := [(0, .ref (za z 73 p0))]) (by decide) ⟨rfl, rfl⟩ (Nat.le_of_ble_eq_true rfl) rfl (en_z (out := fun x : Int32 × zG => x.1)) (fun p e s m below meth c => ?_)
  refine j_eq (M2 := bd (ui g 12 p0 0 ((gi g 12 p0 0) + (nI 1))) fun g1 => (m_X3_jobAt g1 p0 ((gi g1 12 p0 0) - (nI 1))).bind fun x => oc x (some ((nI 0), g1)) (fun n2 => gd (n2 < dm 71) ((m_X1_tell g1 n2 17 p0).bind fun g4 => some ((nI 1), g4)))) rfl ?_
  refine j_aload_n (q := 1) (i := 0) (n := 0) dX3_tellJob_0 rfl rfl rfl ?_
  refine j_dup (q := 2) dX3_tellJob_1 rfl rfl ?_
  refine g_X3_jobCount (q := 5) wF_X3_44 hp0 dX3_tellJob_2 rfl ?_
  refine j_iconst (q := 6) (v := (nI 1)) dX3_tellJob_5 rfl rfl ?_
  refine j_iadd (q := 7) dX3_tellJob_6 rfl ?_
  refine p_X3_jobCount (q := 10) dm_le wF_X3_44 hp0 dX3_tellJob_7 rfl (fun g1 => ?_)
  refine j_aload_n (q := 11) (i := 0) (n := 0) dX3_tellJob_10 rfl rfl rfl ?_
  refine j_aload_n (q := 12) (i := 0) (n := 0) dX3_tellJob_11 rfl rfl rfl ?_
  refine g_X3_jobCount (q := 15) wF_X3_44 hp0 dX3_tellJob_12 rfl ?_
  refine j_iconst (q := 16) (v := (nI 1)) dX3_tellJob_15 rfl rfl ?_
  refine j_isub (q := 17) dX3_tellJob_16 rfl ?_
  refine j_crs (k0 := 71) (q := 20) (rn_V (R := rm_X3_tellJob) (As := [.int ((gi g1 12 p0 0) - (nI 1))]) (rest := []) (c_X3_jobAt _ z gm g1 p0 hp0 ((gi g1 12 p0 0) - (nI 1))) cv_X3_jobAt wM_X3_138 ⟨rfl, rfl⟩ ⟨(Nat.le_of_ble_eq_true rfl), (Nat.le_of_ble_eq_true rfl)⟩ hp0 rfl rfl rfl (Nat.le_of_ble_eq_true rfl) dX3_tellJob_17) rfl ?_ (fun n2 => ?_)
  · refine j_astore_nN (q := 21) (n := 1) (lv' := [(1, .null), (0, .ref (za z 73 p0))]) dX3_tellJob_20 rfl (Nat.le_of_ble_eq_true rfl) rfl rfl ?_
    refine j_aload_nN (q := 22) (i := 0) (n := 1) dX3_tellJob_21 rfl rfl rfl ?_
    refine j_nul0 (tgt := 33) dX3_tellJob_22 rfl ?_
    refine j_aload_nN (q := 34) (i := 0) (n := 1) dX3_tellJob_33 rfl rfl rfl ?_
    refine j_nul0 (tgt := 41) dX3_tellJob_34 rfl ?_
    refine j_iconst (q := 42) (v := (nI 0)) dX3_tellJob_41 rfl rfl ?_
    exact j_ret (x := ((nI 0), g1)) dX3_tellJob_42 ⟨rfl, rfl, rfl⟩
  · refine j_gd (fun hn3 => ?_)
    refine j_astore_n (q := 21) (n := 1) (lv' := [(1, .ref (za z 71 n2)), (0, .ref (za z 73 p0))]) dX3_tellJob_20 rfl (Nat.le_of_ble_eq_true rfl) rfl rfl ?_
    refine j_aload_n (q := 22) (i := 0) (n := 1) dX3_tellJob_21 rfl rfl rfl ?_
    refine j_nul1 (q := 25) dX3_tellJob_22 rfl ?_
    refine j_aload_n (q := 26) (i := 0) (n := 1) dX3_tellJob_25 rfl rfl rfl ?_
    refine j_aload_n (q := 27) (i := 1) (n := 0) dX3_tellJob_26 rfl rfl rfl ?_
    refine g_X3_numbers (q := 30) wF_X3_24 hp0 dX3_tellJob_27 rfl ?_
    refine j_sv (q := 33) (rn_V (R := rm_X3_tellJob) (As := [.ref (za z 17 p0)]) (rest := []) (c_X1_tell _ z gm g1 n2 hn3 17 p0 isX_17 hp0) cv_X1_tell wM_X3_142 ⟨rfl, rfl⟩ ⟨(Nat.le_of_ble_eq_true rfl), (Nat.le_of_ble_eq_true rfl)⟩ hn3 rfl rfl rfl (Nat.le_of_ble_eq_true rfl) dX3_tellJob_30) rfl (fun g4 => ?_)
    refine j_aload_n (q := 34) (i := 0) (n := 1) dX3_tellJob_33 rfl rfl rfl ?_
    refine j_nul1 (q := 37) dX3_tellJob_34 rfl ?_
    refine j_iconst (q := 38) (v := (nI 1)) dX3_tellJob_37 rfl rfl ?_
    refine j_goto (tgt := 42) dX3_tellJob_38 rfl ?_
    exact j_ret (x := ((nI 1), g4)) dX3_tellJob_42 ⟨rfl, rfl, rfl⟩
-- CopierJobs$Plan.readItem(LCopierJobs$Text;)Z
abbrev rm_X3_readItem : Room := { frames := 4, cells := 0, slots := 0, locals := 87 }
theorem cv_X3_readItem : CV yX3_readItem cX3_readItem 2 (some .boolean) 1 := ⟨wC_X3_readItem, wI_X3_readItem, wS_X3_readItem, wZ_X3, by decide +kernel⟩
def m_X3_readItem_B16 (p0 : Nat) (g : zG) (s0 : Int32) : Option (Int32 × zG) := if s0 = (nI 98) then (if (gi g 15 p0 0) = (nI 0) then sb (m_X3_readNumbers g p0 205 0 206 0) fun r1 g2 => if r1 = (nI 0) then some ((nI 0), g2) else sb (m_X3_tellBins g2 p0) fun r4 g5 => if r4 = (nI 0) then some ((nI 0), g5) else some ((nI 1), g5) else some ((nI 0), g)) else if s0 = (nI 106) then (if (gi g 12 p0 0) < (nI 6) then sb (m_X3_readNumbers g p0 200 0 207 0) fun r8 g9 => if r8 = (nI 0) then some ((nI 0), g9) else sb (m_X3_tellJob g9 p0) fun r11 g12 => if r11 = (nI 0) then some ((nI 0), g12) else some ((nI 1), g12) else some ((nI 0), g)) else if s0 = (nI 107) then (if (gi g 14 p0 0) = (nI 0) then sb (m_X3_readNumbers g p0 203 0 204 0) fun r15 g16 => if r15 = (nI 0) then some ((nI 0), g16) else sb (m_X3_tellToner g16 p0) fun r18 g19 => if r18 = (nI 0) then some ((nI 0), g19) else some ((nI 1), g19) else some ((nI 0), g)) else if s0 = (nI 116) then (if (gi g 13 p0 0) = (nI 0) then sb (m_X3_readNumbers g p0 201 0 202 0) fun r22 g23 => if r22 = (nI 0) then some ((nI 0), g23) else sb (m_X3_tellTrays g23 p0) fun r25 g26 => if r25 = (nI 0) then some ((nI 0), g26) else some ((nI 1), g26) else some ((nI 0), g)) else (some ((nI 0), g))
set_option maxRecDepth 100000 in
set_option maxHeartbeats 4000000 in
theorem t_X3_readItem_B16 {p : Program} {l : Launch} {e : Env} {s : State} {m : MethodId} {args : Array Value} {below : List Frame} {meth : Method} {c : Code} {cells slots : Nat} {Q : (Int32 × zG) → State → Prop} (z : zE) (gm : zG) (p0 : Nat) (hp0 : p0 < dm 73) (g : zG) (s0 : Int32) : zJ dm p l e rm_X3_readItem s m args below meth c cX3_readItem 2 yX3_readItem.cls z cells slots (wx z gm) (fn (fun x => isb x.1 = true) (fun x => x.2) osi) .ireturn Q 16 [(0, .ref (za z 73 p0)), (1, .ref (za z 75 0))] [.int s0] g (m_X3_readItem_B16 p0 g s0) := by
  refine j_eq (M2 := if s0 = (nI 98) then (if (gi g 15 p0 0) = (nI 0) then sb (m_X3_readNumbers g p0 205 0 206 0) fun r1 g2 => if r1 = (nI 0) then some ((nI 0), g2) else sb (m_X3_tellBins g2 p0) fun r4 g5 => if r4 = (nI 0) then some ((nI 0), g5) else some ((nI 1), g5) else some ((nI 0), g)) else if s0 = (nI 106) then (if (gi g 12 p0 0) < (nI 6) then sb (m_X3_readNumbers g p0 200 0 207 0) fun r8 g9 => if r8 = (nI 0) then some ((nI 0), g9) else sb (m_X3_tellJob g9 p0) fun r11 g12 => if r11 = (nI 0) then some ((nI 0), g12) else some ((nI 1), g12) else some ((nI 0), g)) else if s0 = (nI 107) then (if (gi g 14 p0 0) = (nI 0) then sb (m_X3_readNumbers g p0 203 0 204 0) fun r15 g16 => if r15 = (nI 0) then some ((nI 0), g16) else sb (m_X3_tellToner g16 p0) fun r18 g19 => if r18 = (nI 0) then some ((nI 0), g19) else some ((nI 1), g19) else some ((nI 0), g)) else if s0 = (nI 116) then (if (gi g 13 p0 0) = (nI 0) then sb (m_X3_readNumbers g p0 201 0 202 0) fun r22 g23 => if r22 = (nI 0) then some ((nI 0), g23) else sb (m_X3_tellTrays g23 p0) fun r25 g26 => if r25 = (nI 0) then some ((nI 0), g26) else some ((nI 1), g26) else some ((nI 0), g)) else (some ((nI 0), g))) rfl ?_
  refine j_case (v := (nI 98)) ?_ (fun h7 => ?_)
  · refine j_lookup (tgt := 128) dX3_readItem_16 rfl rfl rfl ?_
    refine j_aload_n (q := 129) (i := 0) (n := 0) dX3_readItem_128 rfl rfl rfl ?_
    refine g_X3_binsTold (q := 132) wF_X3_54 hp0 dX3_readItem_129 rfl ?_
    refine j_if_ne (tgt := 160) (q := 135) dX3_readItem_132 rfl rfl ?_ ?_
    · refine j_iconst (q := 161) (v := (nI 0)) dX3_readItem_160 rfl rfl ?_
      exact j_ret (x := ((nI 0), g)) dX3_readItem_161 ⟨rfl, rfl, rfl⟩
    · refine j_aload_n (q := 136) (i := 0) (n := 0) dX3_readItem_135 rfl rfl rfl ?_
      refine j_aload_n (q := 137) (i := 1) (n := 1) dX3_readItem_136 rfl rfl rfl ?_
      refine j_getsN (k := 205) (q := 140) (by decide) (by decide) wG_X3_111 dX3_readItem_137 rfl ?_
      refine j_getsN (k := 206) (q := 143) (by decide) (by decide) wG_X3_114 dX3_readItem_140 rfl ?_
      refine j_ss (q := 146) (rn_V (R := rm_X3_readItem) (As := [.ref (za z 75 0), .ref (za z 205 0), .ref (za z 206 0)]) (rest := []) (c_X3_readNumbers _ z gm g p0 hp0 205 0 (Or.inr ⟨by decide, by decide, rfl⟩) 206 0 (Or.inr ⟨by decide, by decide, rfl⟩)) cv_X3_readNumbers wM_X3_94 ⟨rfl, rfl⟩ ⟨(Nat.le_of_ble_eq_true rfl), (Nat.le_of_ble_eq_true rfl)⟩ hp0 rfl rfl rfl (Nat.le_of_ble_eq_true rfl) dX3_readItem_143) rfl (fun r1 g2 => ?_)
      refine j_if_eq (tgt := 160) (q := 149) dX3_readItem_146 rfl rfl ?_ ?_
      · refine j_iconst (q := 161) (v := (nI 0)) dX3_readItem_160 rfl rfl ?_
        exact j_ret (x := ((nI 0), g2)) dX3_readItem_161 ⟨rfl, rfl, rfl⟩
      · refine j_aload_n (q := 150) (i := 0) (n := 0) dX3_readItem_149 rfl rfl rfl ?_
        refine j_ss (q := 153) (rn_V (R := rm_X3_readItem) (As := []) (rest := []) (c_X3_tellBins _ z gm g2 p0 hp0) cv_X3_tellBins wM_X3_117 ⟨rfl, rfl⟩ ⟨(Nat.le_of_ble_eq_true rfl), (Nat.le_of_ble_eq_true rfl)⟩ hp0 rfl rfl rfl (Nat.le_of_ble_eq_true rfl) dX3_readItem_150) rfl (fun r4 g5 => ?_)
        refine j_if_eq (tgt := 160) (q := 156) dX3_readItem_153 rfl rfl ?_ ?_
        · refine j_iconst (q := 161) (v := (nI 0)) dX3_readItem_160 rfl rfl ?_
          exact j_ret (x := ((nI 0), g5)) dX3_readItem_161 ⟨rfl, rfl, rfl⟩
        · refine j_iconst (q := 157) (v := (nI 1)) dX3_readItem_156 rfl rfl ?_
          refine j_goto (tgt := 161) dX3_readItem_157 rfl ?_
          exact j_ret (x := ((nI 1), g5)) dX3_readItem_161 ⟨rfl, rfl, rfl⟩
  refine j_case (v := (nI 106)) ?_ (fun h14 => ?_)
  · refine j_lookup (tgt := 162) dX3_readItem_16 rfl rfl rfl ?_
    refine j_aload_n (q := 163) (i := 0) (n := 0) dX3_readItem_162 rfl rfl rfl ?_
    refine g_X3_jobCount (q := 166) wF_X3_44 hp0 dX3_readItem_163 rfl ?_
    refine j_bipush (q := 168) (v := (nI 6)) dX3_readItem_166 rfl rfl ?_
    refine j_icmp_ge (tgt := 196) (q := 171) dX3_readItem_168 rfl rfl ?_ ?_
    · refine j_iconst (q := 197) (v := (nI 0)) dX3_readItem_196 rfl rfl ?_
      exact j_ret (x := ((nI 0), g)) dX3_readItem_197 ⟨rfl, rfl, rfl⟩
    · refine j_aload_n (q := 172) (i := 0) (n := 0) dX3_readItem_171 rfl rfl rfl ?_
      refine j_aload_n (q := 173) (i := 1) (n := 1) dX3_readItem_172 rfl rfl rfl ?_
      refine j_getsN (k := 200) (q := 176) (by decide) (by decide) wG_X3_21 dX3_readItem_173 rfl ?_
      refine j_getsN (k := 207) (q := 179) (by decide) (by decide) wG_X3_120 dX3_readItem_176 rfl ?_
      refine j_ss (q := 182) (rn_V (R := rm_X3_readItem) (As := [.ref (za z 75 0), .ref (za z 200 0), .ref (za z 207 0)]) (rest := []) (c_X3_readNumbers _ z gm g p0 hp0 200 0 (Or.inr ⟨by decide, by decide, rfl⟩) 207 0 (Or.inr ⟨by decide, by decide, rfl⟩)) cv_X3_readNumbers wM_X3_94 ⟨rfl, rfl⟩ ⟨(Nat.le_of_ble_eq_true rfl), (Nat.le_of_ble_eq_true rfl)⟩ hp0 rfl rfl rfl (Nat.le_of_ble_eq_true rfl) dX3_readItem_179) rfl (fun r8 g9 => ?_)
      refine j_if_eq (tgt := 196) (q := 185) dX3_readItem_182 rfl rfl ?_ ?_
      · refine j_iconst (q := 197) (v := (nI 0)) dX3_readItem_196 rfl rfl ?_
        exact j_ret (x := ((nI 0), g9)) dX3_readItem_197 ⟨rfl, rfl, rfl⟩
      · refine j_aload_n (q := 186) (i := 0) (n := 0) dX3_readItem_185 rfl rfl rfl ?_
        refine j_ss (q := 189) (rn_V (R := rm_X3_readItem) (As := []) (rest := []) (c_X3_tellJob _ z gm g9 p0 hp0) cv_X3_tellJob wM_X3_123 ⟨rfl, rfl⟩ ⟨(Nat.le_of_ble_eq_true rfl), (Nat.le_of_ble_eq_true rfl)⟩ hp0 rfl rfl rfl (Nat.le_of_ble_eq_true rfl) dX3_readItem_186) rfl (fun r11 g12 => ?_)
        refine j_if_eq (tgt := 196) (q := 192) dX3_readItem_189 rfl rfl ?_ ?_
        · refine j_iconst (q := 197) (v := (nI 0)) dX3_readItem_196 rfl rfl ?_
          exact j_ret (x := ((nI 0), g12)) dX3_readItem_197 ⟨rfl, rfl, rfl⟩
        · refine j_iconst (q := 193) (v := (nI 1)) dX3_readItem_192 rfl rfl ?_
          refine j_goto (tgt := 197) dX3_readItem_193 rfl ?_
          exact j_ret (x := ((nI 1), g12)) dX3_readItem_197 ⟨rfl, rfl, rfl⟩
  refine j_case (v := (nI 107)) ?_ (fun h21 => ?_)
  · refine j_lookup (tgt := 94) dX3_readItem_16 rfl rfl rfl ?_
    refine j_aload_n (q := 95) (i := 0) (n := 0) dX3_readItem_94 rfl rfl rfl ?_
    refine g_X3_tonerTold (q := 98) wF_X3_51 hp0 dX3_readItem_95 rfl ?_
    refine j_if_ne (tgt := 126) (q := 101) dX3_readItem_98 rfl rfl ?_ ?_
    · refine j_iconst (q := 127) (v := (nI 0)) dX3_readItem_126 rfl rfl ?_
      exact j_ret (x := ((nI 0), g)) dX3_readItem_127 ⟨rfl, rfl, rfl⟩
    · refine j_aload_n (q := 102) (i := 0) (n := 0) dX3_readItem_101 rfl rfl rfl ?_
      refine j_aload_n (q := 103) (i := 1) (n := 1) dX3_readItem_102 rfl rfl rfl ?_
      refine j_getsN (k := 203) (q := 106) (by decide) (by decide) wG_X3_102 dX3_readItem_103 rfl ?_
      refine j_getsN (k := 204) (q := 109) (by decide) (by decide) wG_X3_105 dX3_readItem_106 rfl ?_
      refine j_ss (q := 112) (rn_V (R := rm_X3_readItem) (As := [.ref (za z 75 0), .ref (za z 203 0), .ref (za z 204 0)]) (rest := []) (c_X3_readNumbers _ z gm g p0 hp0 203 0 (Or.inr ⟨by decide, by decide, rfl⟩) 204 0 (Or.inr ⟨by decide, by decide, rfl⟩)) cv_X3_readNumbers wM_X3_94 ⟨rfl, rfl⟩ ⟨(Nat.le_of_ble_eq_true rfl), (Nat.le_of_ble_eq_true rfl)⟩ hp0 rfl rfl rfl (Nat.le_of_ble_eq_true rfl) dX3_readItem_109) rfl (fun r15 g16 => ?_)
      refine j_if_eq (tgt := 126) (q := 115) dX3_readItem_112 rfl rfl ?_ ?_
      · refine j_iconst (q := 127) (v := (nI 0)) dX3_readItem_126 rfl rfl ?_
        exact j_ret (x := ((nI 0), g16)) dX3_readItem_127 ⟨rfl, rfl, rfl⟩
      · refine j_aload_n (q := 116) (i := 0) (n := 0) dX3_readItem_115 rfl rfl rfl ?_
        refine j_ss (q := 119) (rn_V (R := rm_X3_readItem) (As := []) (rest := []) (c_X3_tellToner _ z gm g16 p0 hp0) cv_X3_tellToner wM_X3_108 ⟨rfl, rfl⟩ ⟨(Nat.le_of_ble_eq_true rfl), (Nat.le_of_ble_eq_true rfl)⟩ hp0 rfl rfl rfl (Nat.le_of_ble_eq_true rfl) dX3_readItem_116) rfl (fun r18 g19 => ?_)
        refine j_if_eq (tgt := 126) (q := 122) dX3_readItem_119 rfl rfl ?_ ?_
        · refine j_iconst (q := 127) (v := (nI 0)) dX3_readItem_126 rfl rfl ?_
          exact j_ret (x := ((nI 0), g19)) dX3_readItem_127 ⟨rfl, rfl, rfl⟩
        · refine j_iconst (q := 123) (v := (nI 1)) dX3_readItem_122 rfl rfl ?_
          refine j_goto (tgt := 127) dX3_readItem_123 rfl ?_
          exact j_ret (x := ((nI 1), g19)) dX3_readItem_127 ⟨rfl, rfl, rfl⟩
  refine j_case (v := (nI 116)) ?_ (fun h28 => ?_)
  · refine j_lookup (tgt := 60) dX3_readItem_16 rfl rfl rfl ?_
    refine j_aload_n (q := 61) (i := 0) (n := 0) dX3_readItem_60 rfl rfl rfl ?_
    refine g_X3_traysTold (q := 64) wF_X3_47 hp0 dX3_readItem_61 rfl ?_
    refine j_if_ne (tgt := 92) (q := 67) dX3_readItem_64 rfl rfl ?_ ?_
    · refine j_iconst (q := 93) (v := (nI 0)) dX3_readItem_92 rfl rfl ?_
      exact j_ret (x := ((nI 0), g)) dX3_readItem_93 ⟨rfl, rfl, rfl⟩
    · refine j_aload_n (q := 68) (i := 0) (n := 0) dX3_readItem_67 rfl rfl rfl ?_
      refine j_aload_n (q := 69) (i := 1) (n := 1) dX3_readItem_68 rfl rfl rfl ?_
      refine j_getsN (k := 201) (q := 72) (by decide) (by decide) wG_X3_88 dX3_readItem_69 rfl ?_
      refine j_getsN (k := 202) (q := 75) (by decide) (by decide) wG_X3_91 dX3_readItem_72 rfl ?_
      refine j_ss (q := 78) (rn_V (R := rm_X3_readItem) (As := [.ref (za z 75 0), .ref (za z 201 0), .ref (za z 202 0)]) (rest := []) (c_X3_readNumbers _ z gm g p0 hp0 201 0 (Or.inr ⟨by decide, by decide, rfl⟩) 202 0 (Or.inr ⟨by decide, by decide, rfl⟩)) cv_X3_readNumbers wM_X3_94 ⟨rfl, rfl⟩ ⟨(Nat.le_of_ble_eq_true rfl), (Nat.le_of_ble_eq_true rfl)⟩ hp0 rfl rfl rfl (Nat.le_of_ble_eq_true rfl) dX3_readItem_75) rfl (fun r22 g23 => ?_)
      refine j_if_eq (tgt := 92) (q := 81) dX3_readItem_78 rfl rfl ?_ ?_
      · refine j_iconst (q := 93) (v := (nI 0)) dX3_readItem_92 rfl rfl ?_
        exact j_ret (x := ((nI 0), g23)) dX3_readItem_93 ⟨rfl, rfl, rfl⟩
      · refine j_aload_n (q := 82) (i := 0) (n := 0) dX3_readItem_81 rfl rfl rfl ?_
        refine j_ss (q := 85) (rn_V (R := rm_X3_readItem) (As := []) (rest := []) (c_X3_tellTrays _ z gm g23 p0 hp0) cv_X3_tellTrays wM_X3_98 ⟨rfl, rfl⟩ ⟨(Nat.le_of_ble_eq_true rfl), (Nat.le_of_ble_eq_true rfl)⟩ hp0 rfl rfl rfl (Nat.le_of_ble_eq_true rfl) dX3_readItem_82) rfl (fun r25 g26 => ?_)
        refine j_if_eq (tgt := 92) (q := 88) dX3_readItem_85 rfl rfl ?_ ?_
        · refine j_iconst (q := 93) (v := (nI 0)) dX3_readItem_92 rfl rfl ?_
          exact j_ret (x := ((nI 0), g26)) dX3_readItem_93 ⟨rfl, rfl, rfl⟩
        · refine j_iconst (q := 89) (v := (nI 1)) dX3_readItem_88 rfl rfl ?_
          refine j_goto (tgt := 93) dX3_readItem_89 rfl ?_
          exact j_ret (x := ((nI 1), g26)) dX3_readItem_93 ⟨rfl, rfl, rfl⟩
  refine j_lookup (tgt := 198) (off := 182) dX3_readItem_16 rfl (by have e0 := (q_ne (n := 98) h7 rfl).symm; have e1 := (q_ne (n := 106) h14 rfl).symm; have e2 := (q_ne (n := 107) h21 rfl).symm; have e3 := (q_ne (n := 116) h28 rfl).symm; simp [Op.lookupswitch.offset, e0, e0.symm, e1, e1.symm, e2, e2.symm, e3, e3.symm]) rfl ?_
  refine j_iconst (q := 199) (v := (nI 0)) dX3_readItem_198 rfl rfl ?_
  exact j_ret (x := ((nI 0), g)) dX3_readItem_199 ⟨rfl, rfl, rfl⟩
def m_X3_readItem (g : zG) (p0 : Nat) : Option (Int32 × zG) := if (gi g 52 0 0) = (nI 1) then m_X3_readItem_B16 p0 g (gi g 54 0 0) else m_X3_readItem_B16 p0 g (nI 0)
set_option maxRecDepth 100000 in
set_option maxHeartbeats 4000000 in
theorem c_X3_readItem (l : Launch) (z : zE) (gm : zG) (g : zG) (p0 : Nat) (hp0 : p0 < dm 73) : ∀ x, m_X3_readItem g p0 = some x → Ms dm l yX3_readItem cX3_readItem 2 (some .boolean) rm_X3_readItem z [.ref (za z 73 p0), .ref (za z 75 0)] ((wx z gm) g) (osi x) ((wx z gm) ((fun x => x.2) x)) := by
  refine ms_of (Wf := (wx z gm)) (ri := .ireturn) (out := osi) (nxt := (fun x => x.2)) (ok := (fun x => isb x.1 = true)) (lv := [(0, .ref (za z 73 p0)), (1, .ref (za z 75 0))]) (by decide) ⟨rfl, rfl⟩ (Nat.le_of_ble_eq_true rfl) rfl (en_z (out := fun x : Int32 × zG => x.1)) (fun p e s m below meth c => ?_)
  refine j_eq (M2 := if (gi g 52 0 0) = (nI 1) then m_X3_readItem_B16 p0 g (gi g 54 0 0) else m_X3_readItem_B16 p0 g (nI 0)) rfl ?_
  refine j_aload_n (q := 1) (i := 1) (n := 1) dX3_readItem_0 rfl rfl rfl ?_
  refine gN_X5_token (q := 4) wG_X3_75 (Nat.le_of_ble_eq_true rfl) dX3_readItem_1 rfl ?_
  refine j_iconst (q := 5) (v := (nI 1)) dX3_readItem_4 rfl rfl ?_
  refine j_icmp_ne (tgt := 15) (q := 8) dX3_readItem_5 rfl rfl ?_ ?_
  · refine j_iconst (q := 16) (v := (nI 0)) dX3_readItem_15 rfl rfl ?_
    exact t_X3_readItem_B16 z gm p0 hp0 g (nI 0)
  · refine j_aload_n (q := 9) (i := 1) (n := 1) dX3_readItem_8 rfl rfl rfl ?_
    refine gN_X5_value (q := 12) wG_X3_85 (Nat.le_of_ble_eq_true rfl) dX3_readItem_9 rfl ?_
    refine j_goto (tgt := 16) dX3_readItem_12 rfl ?_
    exact t_X3_readItem_B16 z gm p0 hp0 g (gi g 54 0 0)
-- CopierJobs$Plan.readFrom(LCopierJobs$Text;)I
abbrev rm_X3_readFrom : Room := { frames := 5, cells := 0, slots := 0, locals := 108 }
theorem cv_X3_readFrom : CV yX3_readFrom cX3_readFrom 3 (some .int) 1 := ⟨wC_X3_readFrom, wI_X3_readFrom, wS_X3_readFrom, wZ_X3, by decide +kernel⟩
def m_X3_readFrom_B37 (p0 : Nat) (g : zG) : Option (Int32 × zG) := some ((-10) - (gi g 53 0 0), g)
set_option maxRecDepth 100000 in
set_option maxHeartbeats 4000000 in
theorem t_X3_readFrom_B37 {p : Program} {l : Launch} {e : Env} {s : State} {m : MethodId} {args : Array Value} {below : List Frame} {meth : Method} {c : Code} {cells slots : Nat} {Q : (Int32 × zG) → State → Prop} (z : zE) (gm : zG) (p0 : Nat) (hp0 : p0 < dm 73) (g : zG) : zJ dm p l e rm_X3_readFrom s m args below meth c cX3_readFrom 3 yX3_readFrom.cls z cells slots (wx z gm) (fn (fun _ => True) (fun x => x.2) osi) .ireturn Q 37 [(1, .ref (za z 75 0))] [] g (m_X3_readFrom_B37 p0 g) := by
  refine j_eq (M2 := some ((-10) - (gi g 53 0 0), g)) rfl ?_
  refine j_goto (tgt := 46) dX3_readFrom_37 rfl ?_
  refine j_bipush (q := 48) (v := (-10)) dX3_readFrom_46 rfl rfl ?_
  refine j_aload_n (q := 49) (i := 0) (n := 1) dX3_readFrom_48 rfl rfl rfl ?_
  refine gN_X5_start (q := 52) wG_X3_82 (Nat.le_of_ble_eq_true rfl) dX3_readFrom_49 rfl ?_
  refine j_isub (q := 53) dX3_readFrom_52 rfl ?_
  exact j_ret (x := ((-10) - (gi g 53 0 0), g)) dX3_readFrom_53 ⟨trivial, rfl, rfl⟩
def m_X3_readFrom_L10 (p0 : Nat) : Nat → zG → Int32 → Option (Int32 × zG)
  | 0, _, _ => none
  | f + 1, g, x2 => if (nI 120) < x2 then some ((-10) - (gi g 53 0 0), g) else (m_X5_readToken g).bind fun g3 => if (gi g3 52 0 0) = (nI 0) then some (x2, g3) else sb (m_X3_readItem g3 p0) fun r4 g5 => if r4 = (nI 0) then m_X3_readFrom_B37 p0 g5 else m_X3_readFrom_L10 p0 f g5 (x2 + (nI 1))
set_option maxRecDepth 100000 in
set_option maxHeartbeats 4000000 in
theorem t_X3_readFrom_L10 {p : Program} {l : Launch} {e : Env} {s : State} {m : MethodId} {args : Array Value} {below : List Frame} {meth : Method} {c : Code} {cells slots : Nat} {Q : (Int32 × zG) → State → Prop} (z : zE) (gm : zG) (p0 : Nat) (hp0 : p0 < dm 73) : ∀ (f : Nat) (g : zG) (x2 : Int32), zJ dm p l e rm_X3_readFrom s m args below meth c cX3_readFrom 3 yX3_readFrom.cls z cells slots (wx z gm) (fn (fun _ => True) (fun x => x.2) osi) .ireturn Q 10 [(0, .ref (za z 73 p0)), (1, .ref (za z 75 0)), (2, .int x2)] [] g (m_X3_readFrom_L10 p0 f g x2) := by
  intro f
  induction f with
  | zero => intro g x2; exact j_none
  | succ f ih =>
    intro g x2
    refine j_eq (M2 := if (nI 120) < x2 then some ((-10) - (gi g 53 0 0), g) else (m_X5_readToken g).bind fun g3 => if (gi g3 52 0 0) = (nI 0) then some (x2, g3) else sb (m_X3_readItem g3 p0) fun r4 g5 => if r4 = (nI 0) then m_X3_readFrom_B37 p0 g5 else m_X3_readFrom_L10 p0 f g5 (x2 + (nI 1))) rfl ?_
    refine j_iload_n (q := 11) (i := 2) (n := 2) dX3_readFrom_10 rfl rfl rfl ?_
    refine j_bipush (q := 13) (v := (nI 120)) dX3_readFrom_11 rfl rfl ?_
    refine j_icmp_gt (tgt := 46) (q := 16) dX3_readFrom_13 rfl rfl ?_ ?_
    · refine j_bipush (q := 48) (v := (-10)) dX3_readFrom_46 rfl rfl ?_
      refine j_aload_n (q := 49) (i := 1) (n := 1) dX3_readFrom_48 rfl rfl rfl ?_
      refine gN_X5_start (q := 52) wG_X3_82 (Nat.le_of_ble_eq_true rfl) dX3_readFrom_49 rfl ?_
      refine j_isub (q := 53) dX3_readFrom_52 rfl ?_
      exact j_ret (x := ((-10) - (gi g 53 0 0), g)) dX3_readFrom_53 ⟨trivial, rfl, rfl⟩
    · refine j_aload_n (q := 17) (i := 1) (n := 1) dX3_readFrom_16 rfl rfl rfl ?_
      refine j_sv (q := 20) (rn_V (R := rm_X3_readFrom) (As := []) (rest := []) (c_X5_readToken _ z gm g) cv_X5_readToken wM_X3_72 ⟨rfl, rfl⟩ ⟨(Nat.le_of_ble_eq_true rfl), (Nat.le_of_ble_eq_true rfl)⟩ (Nat.le_of_ble_eq_true rfl) rfl rfl rfl (Nat.le_of_ble_eq_true rfl) dX3_readFrom_17) rfl (fun g3 => ?_)
      refine j_aload_n (q := 21) (i := 1) (n := 1) dX3_readFrom_20 rfl rfl rfl ?_
      refine gN_X5_token (q := 24) wG_X3_75 (Nat.le_of_ble_eq_true rfl) dX3_readFrom_21 rfl ?_
      refine j_if_ne (tgt := 29) (q := 27) dX3_readFrom_24 rfl rfl ?_ ?_
      · refine j_aload_n (q := 30) (i := 0) (n := 0) dX3_readFrom_29 rfl rfl rfl ?_
        refine j_aload_n (q := 31) (i := 1) (n := 1) dX3_readFrom_30 rfl rfl rfl ?_
        refine j_ss (q := 34) (rn_V (R := rm_X3_readFrom) (As := [.ref (za z 75 0)]) (rest := []) (c_X3_readItem _ z gm g3 p0 hp0) cv_X3_readItem wM_X3_78 ⟨rfl, rfl⟩ ⟨(Nat.le_of_ble_eq_true rfl), (Nat.le_of_ble_eq_true rfl)⟩ hp0 rfl rfl rfl (Nat.le_of_ble_eq_true rfl) dX3_readFrom_31) rfl (fun r4 g5 => ?_)
        refine j_if_ne (tgt := 40) (q := 37) dX3_readFrom_34 rfl rfl ?_ ?_
        · refine j_iinc (q := 43) (n := 2) (i := 2) (v := x2 + (nI 1)) (lv' := [(2, .int (x2 + (nI 1))), (0, .ref (za z 73 p0)), (1, .ref (za z 75 0))]) dX3_readFrom_40 rfl rfl (Nat.le_of_ble_eq_true rfl) rfl rfl ?_
          refine j_goto (tgt := 10) dX3_readFrom_43 rfl ?_
          refine j_lv [1, 2, 0] (lv' := [(0, .ref (za z 73 p0)), (1, .ref (za z 75 0)), (2, .int (x2 + (nI 1)))]) rfl ?_
          exact ih g5 (x2 + (nI 1))
        · refine j_lv [1] (lv' := [(1, .ref (za z 75 0))]) rfl ?_
          exact t_X3_readFrom_B37 z gm p0 hp0 g5
      · refine j_iload_n (q := 28) (i := 2) (n := 2) dX3_readFrom_27 rfl rfl rfl ?_
        exact j_ret (x := (x2, g3)) dX3_readFrom_28 ⟨trivial, rfl, rfl⟩
def m_X3_readFrom (g : zG) (p0 : Nat) : Option (Int32 × zG) := (m_X3_untell g p0).bind fun g1 => (m_X5_rewind g1).bind fun g2 => m_X3_readFrom_L10 p0 FU g2 (nI 0)
set_option maxRecDepth 100000 in
set_option maxHeartbeats 4000000 in
theorem c_X3_readFrom (l : Launch) (z : zE) (gm : zG) (g : zG) (p0 : Nat) (hp0 : p0 < dm 73) : ∀ x, m_X3_readFrom g p0 = some x → Ms dm l yX3_readFrom cX3_readFrom 3 (some .int) rm_X3_readFrom z [.ref (za z 73 p0), .ref (za z 75 0)] ((wx z gm) g) (osi x) ((wx z gm) ((fun x => x.2) x)) := by
  refine ms_of (Wf := (wx z gm)) (ri := .ireturn) (out := osi) (nxt := (fun x => x.2)) (ok := (fun _ => True)) (lv := [(0, .ref (za z 73 p0)), (1, .ref (za z 75 0))]) (by decide) ⟨rfl, rfl⟩ (Nat.le_of_ble_eq_true rfl) rfl (en_i (out := fun x : Int32 × zG => x.1)) (fun p e s m below meth c => ?_)
  refine j_eq (M2 := (m_X3_untell g p0).bind fun g1 => (m_X5_rewind g1).bind fun g2 => m_X3_readFrom_L10 p0 FU g2 (nI 0)) rfl ?_
  refine j_aload_n (q := 1) (i := 0) (n := 0) dX3_readFrom_0 rfl rfl rfl ?_
  refine j_sv (q := 4) (rn_V (R := rm_X3_readFrom) (As := []) (rest := []) (c_X3_untell _ z gm g p0 hp0) cv_X3_untell wM_X3_28 ⟨rfl, rfl⟩ ⟨(Nat.le_of_ble_eq_true rfl), (Nat.le_of_ble_eq_true rfl)⟩ hp0 rfl rfl rfl (Nat.le_of_ble_eq_true rfl) dX3_readFrom_1) rfl (fun g1 => ?_)
  refine j_aload_n (q := 5) (i := 1) (n := 1) dX3_readFrom_4 rfl rfl rfl ?_
  refine j_sv (q := 8) (rn_V (R := rm_X3_readFrom) (As := []) (rest := []) (c_X5_rewind _ z gm g1) cv_X5_rewind wM_X3_67 ⟨rfl, rfl⟩ ⟨(Nat.le_of_ble_eq_true rfl), (Nat.le_of_ble_eq_true rfl)⟩ (Nat.le_of_ble_eq_true rfl) rfl rfl rfl (Nat.le_of_ble_eq_true rfl) dX3_readFrom_5) rfl (fun g2 => ?_)
  refine j_iconst (q := 9) (v := (nI 0)) dX3_readFrom_8 rfl rfl ?_
  refine j_istore_n (q := 10) (n := 2) (lv' := [(2, .int (nI 0)), (0, .ref (za z 73 p0)), (1, .ref (za z 75 0))]) dX3_readFrom_9 rfl (Nat.le_of_ble_eq_true rfl) rfl rfl ?_
  refine j_lv [1, 2, 0] (lv' := [(0, .ref (za z 73 p0)), (1, .ref (za z 75 0)), (2, .int (nI 0))]) rfl ?_
  exact t_X3_readFrom_L10 z gm p0 hp0 FU g2 (nI 0)
