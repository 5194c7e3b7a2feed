-- CopierJobs$Job.tell([I)V
abbrev rm_X1_tell : Room := { frames := 1, cells := 0, slots := 0, locals := 21 }
theorem cv_X1_tell : CV yX1_tell cX1_tell 2 (none) 1 := ⟨wC_X1_tell, wI_X1_tell, wS_X1_tell, wZ_X1, by decide +kernel⟩
def m_X1_tell_B86 (j0 : Nat) (k0 n0 : Nat) (g : zG) (s0 : Int32) : Option (zG) := bd (ui g 25 j0 0 s0) fun g11 => if (gi g11 23 j0 0) = (nI 0) then bd (ui g11 26 j0 0 (gi g11 21 j0 0)) fun g12 => some g12 else bd (ui g11 26 j0 0 (gi g11 25 j0 0)) fun g13 => some g13
set_option maxRecDepth 100000 in
set_option maxHeartbeats 4000000 in
theorem t_X1_tell_B86 {p : Program} {l : Launch} {e : Env} {s : State} {m : MethodId} {args : Array Value} {below : List Frame} {meth : Method} {c : Code} {cells slots : Nat} {Q : zG → State → Prop} (z : zE) (gm : zG) (j0 : Nat) (k0 n0 : Nat) (hj0 : j0 < dm 71) (hk0 : isX k0) (gk0 : n0 < dm k0) (g : zG) (s0 : Int32) : zJ dm p l e rm_X1_tell s m args below meth c cX1_tell 2 yX1_tell.cls z cells slots (wx z gm) (fn (fun _ => True) (fun x => x) osv) .return_ Q 86 [(0, .ref (za z 71 j0))] [.int s0, .ref (za z 71 j0)] g (m_X1_tell_B86 j0 k0 n0 g s0) := by
  refine j_eq (M2 := bd (ui g 25 j0 0 s0) fun g11 => if (gi g11 23 j0 0) = (nI 0) then bd (ui g11 26 j0 0 (gi g11 21 j0 0)) fun g12 => some g12 else bd (ui g11 26 j0 0 (gi g11 25 j0 0)) fun g13 => some g13) rfl ?_
  refine p_X1_leaves (q := 89) dm_le wF_X1_16 hj0 dX1_tell_86 rfl (fun g11 => ?_)
  refine j_aload_n (q := 90) (i := 0) (n := 0) dX1_tell_89 rfl rfl rfl ?_
  refine j_aload_n (q := 91) (i := 0) (n := 0) dX1_tell_90 rfl rfl rfl ?_
  refine g_X1_sorted (q := 94) wF_X1_32 hj0 dX1_tell_91 rfl ?_
  refine j_if_eq (tgt := 104) (q := 97) dX1_tell_94 rfl rfl ?_ ?_
  · refine j_aload_n (q := 105) (i := 0) (n := 0) dX1_tell_104 rfl rfl rfl ?_
    refine g_X1_copies (q := 108) wF_X1_13 hj0 dX1_tell_105 rfl ?_
    refine p_X1_run (q := 111) dm_le wF_X1_19 hj0 dX1_tell_108 rfl (fun g12 => ?_)
    exact j_ret (x := g12) dX1_tell_111 ⟨trivial, rfl, rfl⟩
  · refine j_aload_n (q := 98) (i := 0) (n := 0) dX1_tell_97 rfl rfl rfl ?_
    refine g_X1_leaves (q := 101) wF_X1_16 hj0 dX1_tell_98 rfl ?_
    refine j_goto (tgt := 108) dX1_tell_101 rfl ?_
    refine p_X1_run (q := 111) dm_le wF_X1_19 hj0 dX1_tell_108 rfl (fun g13 => ?_)
    exact j_ret (x := g13) dX1_tell_111 ⟨trivial, rfl, rfl⟩
def m_X1_tell_B51 (j0 : Nat) (k0 n0 : Nat) (g : zG) (s0 : Int32) : Option (zG) := gd (isb s0 = true) (bd (ui g 23 j0 0 s0) fun g8 => (m_X6_at g8 k0 n0 (nI 4)).bind fun r9 => bd (ui g8 24 j0 0 r9) fun g10 => if (gi g10 22 j0 0) = (nI 0) then m_X1_tell_B86 j0 k0 n0 g10 (gi g10 20 j0 0) else gd (¬ ((nI 2) : Int32) = 0) (m_X1_tell_B86 j0 k0 n0 g10 (((gi g10 20 j0 0) + (nI 1)) / (nI 2))))
set_option maxRecDepth 100000 in
set_option maxHeartbeats 4000000 in
theorem t_X1_tell_B51 {p : Program} {l : Launch} {e : Env} {s : State} {m : MethodId} {args : Array Value} {below : List Frame} {meth : Method} {c : Code} {cells slots : Nat} {Q : zG → State → Prop} (z : zE) (gm : zG) (j0 : Nat) (k0 n0 : Nat) (hj0 : j0 < dm 71) (hk0 : isX k0) (gk0 : n0 < dm k0) (g : zG) (s0 : Int32) : zJ dm p l e rm_X1_tell s m args below meth c cX1_tell 2 yX1_tell.cls z cells slots (wx z gm) (fn (fun _ => True) (fun x => x) osv) .return_ Q 51 [(0, .ref (za z 71 j0)), (1, .ref (za z k0 n0))] [.int s0, .ref (za z 71 j0)] g (m_X1_tell_B51 j0 k0 n0 g s0) := by
  refine j_eq (M2 := gd (isb s0 = true) (bd (ui g 23 j0 0 s0) fun g8 => (m_X6_at g8 k0 n0 (nI 4)).bind fun r9 => bd (ui g8 24 j0 0 r9) fun g10 => if (gi g10 22 j0 0) = (nI 0) then m_X1_tell_B86 j0 k0 n0 g10 (gi g10 20 j0 0) else gd (¬ ((nI 2) : Int32) = 0) (m_X1_tell_B86 j0 k0 n0 g10 (((gi g10 20 j0 0) + (nI 1)) / (nI 2))))) rfl ?_
  refine p_X1_sorted (q := 54) dm_le wF_X1_32 hj0 dX1_tell_51 rfl (fun g8 => ?_)
  refine j_aload_n (q := 55) (i := 0) (n := 0) dX1_tell_54 rfl rfl rfl ?_
  refine j_aload_n (q := 56) (i := 1) (n := 1) dX1_tell_55 rfl rfl rfl ?_
  refine j_iconst (q := 57) (v := (nI 4)) dX1_tell_56 rfl rfl ?_
  refine j_ci (q := 60) (rn_N (R := rm_X1_tell) (As := [.ref (za z k0 n0), .int (nI 4)]) (rest := [.ref (za z 71 j0)]) (c_X6_at _ z gm g8 k0 n0 (Or.inl ⟨hk0, gk0⟩) (nI 4)) cv_X6_at wO_X1_22 ⟨rfl, rfl⟩ ⟨(Nat.le_of_ble_eq_true rfl), (Nat.le_of_ble_eq_true rfl)⟩ rfl (Nat.le_of_ble_eq_true rfl) dX1_tell_57) rfl (fun r9 => ?_)
  refine p_X1_tray (q := 63) dm_le wF_X1_35 hj0 dX1_tell_60 rfl (fun g10 => ?_)
  refine j_aload_n (q := 64) (i := 0) (n := 0) dX1_tell_63 rfl rfl rfl ?_
  refine j_aload_n (q := 65) (i := 0) (n := 0) dX1_tell_64 rfl rfl rfl ?_
  refine g_X1_both (q := 68) wF_X1_28 hj0 dX1_tell_65 rfl ?_
  refine j_if_eq (tgt := 82) (q := 71) dX1_tell_68 rfl rfl ?_ ?_
  · refine j_aload_n (q := 83) (i := 0) (n := 0) dX1_tell_82 rfl rfl rfl ?_
    refine g_X1_pages (q := 86) wF_X1_7 hj0 dX1_tell_83 rfl ?_
    refine j_lv [0] (lv' := [(0, .ref (za z 71 j0))]) rfl ?_
    exact t_X1_tell_B86 z gm j0 k0 n0 hj0 hk0 gk0 g10 (gi g10 20 j0 0)
  · refine j_aload_n (q := 72) (i := 0) (n := 0) dX1_tell_71 rfl rfl rfl ?_
    refine g_X1_pages (q := 75) wF_X1_7 hj0 dX1_tell_72 rfl ?_
    refine j_iconst (q := 76) (v := (nI 1)) dX1_tell_75 rfl rfl ?_
    refine j_iadd (q := 77) dX1_tell_76 rfl ?_
    refine j_iconst (q := 78) (v := (nI 2)) dX1_tell_77 rfl rfl ?_
    refine j_idiv (q := 79) dX1_tell_78 rfl ?_
    refine j_goto (tgt := 86) dX1_tell_79 rfl ?_
    refine j_lv [0] (lv' := [(0, .ref (za z 71 j0))]) rfl ?_
    exact t_X1_tell_B86 z gm j0 k0 n0 hj0 hk0 gk0 g10 (((gi g10 20 j0 0) + (nI 1)) / (nI 2))
def m_X1_tell_B33 (j0 : Nat) (k0 n0 : Nat) (g : zG) (s0 : Int32) : Option (zG) := gd (isb s0 = true) (bd (ui g 22 j0 0 s0) fun g6 => (m_X6_at g6 k0 n0 (nI 3)).bind fun r7 => if r7 = (nI 1) then m_X1_tell_B51 j0 k0 n0 g6 (nI 1) else m_X1_tell_B51 j0 k0 n0 g6 (nI 0))
set_option maxRecDepth 100000 in
set_option maxHeartbeats 4000000 in
theorem t_X1_tell_B33 {p : Program} {l : Launch} {e : Env} {s : State} {m : MethodId} {args : Array Value} {below : List Frame} {meth : Method} {c : Code} {cells slots : Nat} {Q : zG → State → Prop} (z : zE) (gm : zG) (j0 : Nat) (k0 n0 : Nat) (hj0 : j0 < dm 71) (hk0 : isX k0) (gk0 : n0 < dm k0) (g : zG) (s0 : Int32) : zJ dm p l e rm_X1_tell s m args below meth c cX1_tell 2 yX1_tell.cls z cells slots (wx z gm) (fn (fun _ => True) (fun x => x) osv) .return_ Q 33 [(0, .ref (za z 71 j0)), (1, .ref (za z k0 n0))] [.int s0, .ref (za z 71 j0)] g (m_X1_tell_B33 j0 k0 n0 g s0) := by
  refine j_eq (M2 := gd (isb s0 = true) (bd (ui g 22 j0 0 s0) fun g6 => (m_X6_at g6 k0 n0 (nI 3)).bind fun r7 => if r7 = (nI 1) then m_X1_tell_B51 j0 k0 n0 g6 (nI 1) else m_X1_tell_B51 j0 k0 n0 g6 (nI 0))) rfl ?_
  refine p_X1_both (q := 36) dm_le wF_X1_28 hj0 dX1_tell_33 rfl (fun g6 => ?_)
  refine j_aload_n (q := 37) (i := 0) (n := 0) dX1_tell_36 rfl rfl rfl ?_
  refine j_aload_n (q := 38) (i := 1) (n := 1) dX1_tell_37 rfl rfl rfl ?_
  refine j_iconst (q := 39) (v := (nI 3)) dX1_tell_38 rfl rfl ?_
  refine j_ci (q := 42) (rn_N (R := rm_X1_tell) (As := [.ref (za z k0 n0), .int (nI 3)]) (rest := [.ref (za z 71 j0)]) (c_X6_at _ z gm g6 k0 n0 (Or.inl ⟨hk0, gk0⟩) (nI 3)) cv_X6_at wO_X1_22 ⟨rfl, rfl⟩ ⟨(Nat.le_of_ble_eq_true rfl), (Nat.le_of_ble_eq_true rfl)⟩ rfl (Nat.le_of_ble_eq_true rfl) dX1_tell_39) rfl (fun r7 => ?_)
  refine j_iconst (q := 43) (v := (nI 1)) dX1_tell_42 rfl rfl ?_
  refine j_icmp_ne (tgt := 50) (q := 46) dX1_tell_43 rfl rfl ?_ ?_
  · refine j_iconst (q := 51) (v := (nI 0)) dX1_tell_50 rfl rfl ?_
    exact t_X1_tell_B51 z gm j0 k0 n0 hj0 hk0 gk0 g6 (nI 0)
  · refine j_iconst (q := 47) (v := (nI 1)) dX1_tell_46 rfl rfl ?_
    refine j_goto (tgt := 51) dX1_tell_47 rfl ?_
    exact t_X1_tell_B51 z gm j0 k0 n0 hj0 hk0 gk0 g6 (nI 1)
def m_X1_tell (g : zG) (j0 : Nat) (k0 n0 : Nat) : Option (zG) := (m_X6_at g k0 n0 (nI 0)).bind fun r1 => bd (ui g 20 j0 0 r1) fun g2 => (m_X6_at g2 k0 n0 (nI 1)).bind fun r3 => bd (ui g2 21 j0 0 r3) fun g4 => (m_X6_at g4 k0 n0 (nI 2)).bind fun r5 => if r5 = (nI 1) then m_X1_tell_B33 j0 k0 n0 g4 (nI 1) else m_X1_tell_B33 j0 k0 n0 g4 (nI 0)
set_option maxRecDepth 100000 in
set_option maxHeartbeats 4000000 in
theorem c_X1_tell (l : Launch) (z : zE) (gm : zG) (g : zG) (j0 : Nat) (hj0 : j0 < dm 71) (k0 n0 : Nat) (hk0 : isX k0) (gk0 : n0 < dm k0) : ∀ x, m_X1_tell g j0 k0 n0 = some x → Ms dm l yX1_tell cX1_tell 2 (none) rm_X1_tell z [.ref (za z 71 j0), .ref (za z k0 n0)] ((wx z gm) g) (osv x) ((wx z gm) ((fun x => x) x)) := by
  refine ms_of (Wf := (wx z gm)) (ri := .return_) (out := osv) (nxt := (fun x => x)) (ok := (fun _ => True)) (lv := [(0, .ref (za z 71 j0)), (1, .ref (za z k0 n0))]) (by decide) ⟨rfl, rfl⟩ (Nat.le_of_ble_eq_true rfl) rfl (en_v ) (fun p e s m below meth c => ?_)
  refine j_eq (M2 := (m_X6_at g k0 n0 (nI 0)).bind fun r1 => bd (ui g 20 j0 0 r1) fun g2 => (m_X6_at g2 k0 n0 (nI 1)).bind fun r3 => bd (ui g2 21 j0 0 r3) fun g4 => (m_X6_at g4 k0 n0 (nI 2)).bind fun r5 => if r5 = (nI 1) then m_X1_tell_B33 j0 k0 n0 g4 (nI 1) else m_X1_tell_B33 j0 k0 n0 g4 (nI 0)) rfl ?_
  refine j_aload_n (q := 1) (i := 0) (n := 0) dX1_tell_0 rfl rfl rfl ?_
  refine j_aload_n (q := 2) (i := 1) (n := 1) dX1_tell_1 rfl rfl rfl ?_
  refine j_iconst (q := 3) (v := (nI 0)) dX1_tell_2 rfl rfl ?_
  refine j_ci (q := 6) (rn_N (R := rm_X1_tell) (As := [.ref (za z k0 n0), .int (nI 0)]) (rest := [.ref (za z 71 j0)]) (c_X6_at _ z gm g k0 n0 (Or.inl ⟨hk0, gk0⟩) (nI 0)) cv_X6_at wO_X1_22 ⟨rfl, rfl⟩ ⟨(Nat.le_of_ble_eq_true rfl), (Nat.le_of_ble_eq_true rfl)⟩ rfl (Nat.le_of_ble_eq_true rfl) dX1_tell_3) rfl (fun r1 => ?_)
  refine p_X1_pages (q := 9) dm_le wF_X1_7 hj0 dX1_tell_6 rfl (fun g2 => ?_)
  refine j_aload_n (q := 10) (i := 0) (n := 0) dX1_tell_9 rfl rfl rfl ?_
  refine j_aload_n (q := 11) (i := 1) (n := 1) dX1_tell_10 rfl rfl rfl ?_
  refine j_iconst (q := 12) (v := (nI 1)) dX1_tell_11 rfl rfl ?_
  refine j_ci (q := 15) (rn_N (R := rm_X1_tell) (As := [.ref (za z k0 n0), .int (nI 1)]) (rest := [.ref (za z 71 j0)]) (c_X6_at _ z gm g2 k0 n0 (Or.inl ⟨hk0, gk0⟩) (nI 1)) cv_X6_at wO_X1_22 ⟨rfl, rfl⟩ ⟨(Nat.le_of_ble_eq_true rfl), (Nat.le_of_ble_eq_true rfl)⟩ rfl (Nat.le_of_ble_eq_true rfl) dX1_tell_12) rfl (fun r3 => ?_)
  refine p_X1_copies (q := 18) dm_le wF_X1_13 hj0 dX1_tell_15 rfl (fun g4 => ?_)
  refine j_aload_n (q := 19) (i := 0) (n := 0) dX1_tell_18 rfl rfl rfl ?_
  refine j_aload_n (q := 20) (i := 1) (n := 1) dX1_tell_19 rfl rfl rfl ?_
  refine j_iconst (q := 21) (v := (nI 2)) dX1_tell_20 rfl rfl ?_
  refine j_ci (q := 24) (rn_N (R := rm_X1_tell) (As := [.ref (za z k0 n0), .int (nI 2)]) (rest := [.ref (za z 71 j0)]) (c_X6_at _ z gm g4 k0 n0 (Or.inl ⟨hk0, gk0⟩) (nI 2)) cv_X6_at wO_X1_22 ⟨rfl, rfl⟩ ⟨(Nat.le_of_ble_eq_true rfl), (Nat.le_of_ble_eq_true rfl)⟩ rfl (Nat.le_of_ble_eq_true rfl) dX1_tell_21) rfl (fun r5 => ?_)
  refine j_iconst (q := 25) (v := (nI 1)) dX1_tell_24 rfl rfl ?_
  refine j_icmp_ne (tgt := 32) (q := 28) dX1_tell_25 rfl rfl ?_ ?_
  · refine j_iconst (q := 33) (v := (nI 0)) dX1_tell_32 rfl rfl ?_
    exact t_X1_tell_B33 z gm j0 k0 n0 hj0 hk0 gk0 g4 (nI 0)
  · refine j_iconst (q := 29) (v := (nI 1)) dX1_tell_28 rfl rfl ?_
    refine j_goto (tgt := 33) dX1_tell_29 rfl ?_
    exact t_X1_tell_B33 z gm j0 k0 n0 hj0 hk0 gk0 g4 (nI 1)
-- CopierJobs$Job.all()I
abbrev rm_X1_all : Room := { frames := 0, cells := 0, slots := 0, locals := 0 }
theorem cv_X1_all : CV yX1_all cX1_all 1 (some .int) 0 := ⟨wC_X1_all, wI_X1_all, wS_X1_all, wZ_X1, by decide +kernel⟩
def m_X1_all (g : zG) (j0 : Nat) : Option (Int32) := some ((gi g 25 j0 0) * (gi g 21 j0 0))
set_option maxRecDepth 100000 in
set_option maxHeartbeats 4000000 in
theorem c_X1_all (l : Launch) (z : zE) (gm : zG) (g : zG) (j0 : Nat) (hj0 : j0 < dm 71) : ∀ x, m_X1_all g j0 = some x → Ms dm l yX1_all cX1_all 1 (some .int) rm_X1_all z [.ref (za z 71 j0)] ((wx z gm) g) (oi x) ((wx z gm) ((fun _ => g) x)) := by
  refine ms_of (Wf := (wx z gm)) (ri := .ireturn) (out := oi) (nxt := (fun _ => g)) (ok := (fun _ => True)) (lv := [(0, .ref (za z 71 j0))]) (by decide) ⟨rfl, rfl⟩ (Nat.le_of_ble_eq_true rfl) rfl (en_i (out := fun x => x)) (fun p e s m below meth c => ?_)
  refine j_eq (M2 := some ((gi g 25 j0 0) * (gi g 21 j0 0))) rfl ?_
  refine j_aload_n (q := 1) (i := 0) (n := 0) dX1_all_0 rfl rfl rfl ?_
  refine g_X1_leaves (q := 4) wF_X1_16 hj0 dX1_all_1 rfl ?_
  refine j_aload_n (q := 5) (i := 0) (n := 0) dX1_all_4 rfl rfl rfl ?_
  refine g_X1_copies (q := 8) wF_X1_13 hj0 dX1_all_5 rfl ?_
  refine j_imul (q := 9) dX1_all_8 rfl ?_
  exact j_ret (x := (gi g 25 j0 0) * (gi g 21 j0 0)) dX1_all_9 ⟨trivial, rfl, rfl⟩
-- CopierJobs$Job.hasSheet(I)Z
abbrev rm_X1_hasSheet : Room := { frames := 1, cells := 0, slots := 0, locals := 20 }
theorem cv_X1_hasSheet : CV yX1_hasSheet cX1_hasSheet 2 (some .boolean) 1 := ⟨wC_X1_hasSheet, wI_X1_hasSheet, wS_X1_hasSheet, wZ_X1, by decide +kernel⟩
def m_X1_hasSheet (g : zG) (j0 : Nat) (a0 : Int32) : Option (Int32) := if a0 < (nI 0) then some (nI 0) else (m_X1_all g j0).bind fun r1 => if a0 < r1 then some (nI 1) else some (nI 0)
set_option maxRecDepth 100000 in
set_option maxHeartbeats 4000000 in
theorem c_X1_hasSheet (l : Launch) (z : zE) (gm : zG) (g : zG) (j0 : Nat) (hj0 : j0 < dm 71) (a0 : Int32) : ∀ x, m_X1_hasSheet g j0 a0 = some x → Ms dm l yX1_hasSheet cX1_hasSheet 2 (some .boolean) rm_X1_hasSheet z [.ref (za z 71 j0), .int a0] ((wx z gm) g) (oi x) ((wx z gm) ((fun _ => g) x)) := by
  refine ms_of (Wf := (wx z gm)) (ri := .ireturn) (out := oi) (nxt := (fun _ => g)) (ok := (fun x => isb x = true)) (lv := [(0, .ref (za z 71 j0)), (1, .int a0)]) (by decide) ⟨rfl, rfl⟩ (Nat.le_of_ble_eq_true rfl) rfl (en_z (out := fun x => x)) (fun p e s m below meth c => ?_)
  refine j_eq (M2 := if a0 < (nI 0) then some (nI 0) else (m_X1_all g j0).bind fun r1 => if a0 < r1 then some (nI 1) else some (nI 0)) rfl ?_
  refine j_iload_n (q := 1) (i := 1) (n := 1) dX1_hasSheet_0 rfl rfl rfl ?_
  refine j_if_lt (tgt := 16) (q := 4) dX1_hasSheet_1 rfl rfl ?_ ?_
  · refine j_iconst (q := 17) (v := (nI 0)) dX1_hasSheet_16 rfl rfl ?_
    exact j_ret (x := (nI 0)) dX1_hasSheet_17 ⟨rfl, rfl, rfl⟩
  · refine j_iload_n (q := 5) (i := 1) (n := 1) dX1_hasSheet_4 rfl rfl rfl ?_
    refine j_aload_n (q := 6) (i := 0) (n := 0) dX1_hasSheet_5 rfl rfl rfl ?_
    refine j_ci (q := 9) (rn_V (R := rm_X1_hasSheet) (As := []) (rest := [.int a0]) (c_X1_all _ z gm g j0 hj0) cv_X1_all wM_X1_38 ⟨rfl, rfl⟩ ⟨(Nat.le_of_ble_eq_true rfl), (Nat.le_of_ble_eq_true rfl)⟩ hj0 rfl rfl rfl (Nat.le_of_ble_eq_true rfl) dX1_hasSheet_6) rfl (fun r1 => ?_)
    refine j_icmp_ge (tgt := 16) (q := 12) dX1_hasSheet_9 rfl rfl ?_ ?_
    · refine j_iconst (q := 17) (v := (nI 0)) dX1_hasSheet_16 rfl rfl ?_
      exact j_ret (x := (nI 0)) dX1_hasSheet_17 ⟨rfl, rfl, rfl⟩
    · refine j_iconst (q := 13) (v := (nI 1)) dX1_hasSheet_12 rfl rfl ?_
      refine j_goto (tgt := 17) dX1_hasSheet_13 rfl ?_
      exact j_ret (x := (nI 1)) dX1_hasSheet_17 ⟨rfl, rfl, rfl⟩
-- CopierJobs$Job.hasPage(I)Z
abbrev rm_X1_hasPage : Room := { frames := 0, cells := 0, slots := 0, locals := 0 }
theorem cv_X1_hasPage : CV yX1_hasPage cX1_hasPage 2 (some .boolean) 1 := ⟨wC_X1_hasPage, wI_X1_hasPage, wS_X1_hasPage, wZ_X1, by decide +kernel⟩
def m_X1_hasPage (g : zG) (j0 : Nat) (a0 : Int32) : Option (Int32) := if a0 < (nI 1) then some (nI 0) else if (gi g 20 j0 0) < a0 then some (nI 0) else some (nI 1)
set_option maxRecDepth 100000 in
set_option maxHeartbeats 4000000 in
theorem c_X1_hasPage (l : Launch) (z : zE) (gm : zG) (g : zG) (j0 : Nat) (hj0 : j0 < dm 71) (a0 : Int32) : ∀ x, m_X1_hasPage g j0 a0 = some x → Ms dm l yX1_hasPage cX1_hasPage 2 (some .boolean) rm_X1_hasPage z [.ref (za z 71 j0), .int a0] ((wx z gm) g) (oi x) ((wx z gm) ((fun _ => g) x)) := by
  refine ms_of (Wf := (wx z gm)) (ri := .ireturn) (out := oi) (nxt := (fun _ => g)) (ok := (fun x => isb x = true)) (lv := [(0, .ref (za z 71 j0)), (1, .int a0)]) (by decide) ⟨rfl, rfl⟩ (Nat.le_of_ble_eq_true rfl) rfl (en_z (out := fun x => x)) (fun p e s m below meth c => ?_)
  refine j_eq (M2 := if a0 < (nI 1) then some (nI 0) else if (gi g 20 j0 0) < a0 then some (nI 0) else some (nI 1)) rfl ?_
  refine j_iload_n (q := 1) (i := 1) (n := 1) dX1_hasPage_0 rfl rfl rfl ?_
  refine j_iconst (q := 2) (v := (nI 1)) dX1_hasPage_1 rfl rfl ?_
  refine j_icmp_lt (tgt := 17) (q := 5) dX1_hasPage_2 rfl rfl ?_ ?_
  · refine j_iconst (q := 18) (v := (nI 0)) dX1_hasPage_17 rfl rfl ?_
    exact j_ret (x := (nI 0)) dX1_hasPage_18 ⟨rfl, rfl, rfl⟩
  · refine j_iload_n (q := 6) (i := 1) (n := 1) dX1_hasPage_5 rfl rfl rfl ?_
    refine j_aload_n (q := 7) (i := 0) (n := 0) dX1_hasPage_6 rfl rfl rfl ?_
    refine g_X1_pages (q := 10) wF_X1_7 hj0 dX1_hasPage_7 rfl ?_
    refine j_icmp_gt (tgt := 17) (q := 13) dX1_hasPage_10 rfl rfl ?_ ?_
    · refine j_iconst (q := 18) (v := (nI 0)) dX1_hasPage_17 rfl rfl ?_
      exact j_ret (x := (nI 0)) dX1_hasPage_18 ⟨rfl, rfl, rfl⟩
    · refine j_iconst (q := 14) (v := (nI 1)) dX1_hasPage_13 rfl rfl ?_
      refine j_goto (tgt := 18) dX1_hasPage_14 rfl ?_
      exact j_ret (x := (nI 1)) dX1_hasPage_18 ⟨rfl, rfl, rfl⟩
-- CopierJobs$Job.copyOf(I)I
abbrev rm_X1_copyOf : Room := { frames := 0, cells := 0, slots := 0, locals := 0 }
theorem cv_X1_copyOf : CV yX1_copyOf cX1_copyOf 2 (some .int) 1 := ⟨wC_X1_copyOf, wI_X1_copyOf, wS_X1_copyOf, wZ_X1, by decide +kernel⟩
def m_X1_copyOf (g : zG) (j0 : Nat) (a0 : Int32) : Option (Int32) := if (nI 0) < (gi g 26 j0 0) then if (gi g 23 j0 0) = (nI 0) then gd (¬ ((gi g 26 j0 0) : Int32) = 0) (some (a0 - a0 / (gi g 26 j0 0) * (gi g 26 j0 0))) else gd (¬ ((gi g 26 j0 0) : Int32) = 0) (some (a0 / (gi g 26 j0 0))) else some (nI 0)
set_option maxRecDepth 100000 in
set_option maxHeartbeats 4000000 in
theorem c_X1_copyOf (l : Launch) (z : zE) (gm : zG) (g : zG) (j0 : Nat) (hj0 : j0 < dm 71) (a0 : Int32) : ∀ x, m_X1_copyOf g j0 a0 = some x → Ms dm l yX1_copyOf cX1_copyOf 2 (some .int) rm_X1_copyOf z [.ref (za z 71 j0), .int a0] ((wx z gm) g) (oi x) ((wx z gm) ((fun _ => g) x)) := by
  refine ms_of (Wf := (wx z gm)) (ri := .ireturn) (out := oi) (nxt := (fun _ => g)) (ok := (fun _ => True)) (lv := [(0, .ref (za z 71 j0)), (1, .int a0)]) (by decide) ⟨rfl, rfl⟩ (Nat.le_of_ble_eq_true rfl) rfl (en_i (out := fun x => x)) (fun p e s m below meth c => ?_)
  refine j_eq (M2 := if (nI 0) < (gi g 26 j0 0) then if (gi g 23 j0 0) = (nI 0) then gd (¬ ((gi g 26 j0 0) : Int32) = 0) (some (a0 - a0 / (gi g 26 j0 0) * (gi g 26 j0 0))) else gd (¬ ((gi g 26 j0 0) : Int32) = 0) (some (a0 / (gi g 26 j0 0))) else some (nI 0)) rfl ?_
  refine j_aload_n (q := 1) (i := 0) (n := 0) dX1_copyOf_0 rfl rfl rfl ?_
  refine g_X1_run (q := 4) wF_X1_19 hj0 dX1_copyOf_1 rfl ?_
  refine j_if_gt (tgt := 9) (q := 7) dX1_copyOf_4 rfl rfl ?_ ?_
  · refine j_aload_n (q := 10) (i := 0) (n := 0) dX1_copyOf_9 rfl rfl rfl ?_
    refine g_X1_sorted (q := 13) wF_X1_32 hj0 dX1_copyOf_10 rfl ?_
    refine j_if_eq (tgt := 25) (q := 16) dX1_copyOf_13 rfl rfl ?_ ?_
    · refine j_iload_n (q := 26) (i := 1) (n := 1) dX1_copyOf_25 rfl rfl rfl ?_
      refine j_aload_n (q := 27) (i := 0) (n := 0) dX1_copyOf_26 rfl rfl rfl ?_
      refine g_X1_run (q := 30) wF_X1_19 hj0 dX1_copyOf_27 rfl ?_
      refine j_irem (q := 31) dX1_copyOf_30 rfl ?_
      exact j_ret (x := a0 - a0 / (gi g 26 j0 0) * (gi g 26 j0 0)) dX1_copyOf_31 ⟨trivial, rfl, rfl⟩
    · refine j_iload_n (q := 17) (i := 1) (n := 1) dX1_copyOf_16 rfl rfl rfl ?_
      refine j_aload_n (q := 18) (i := 0) (n := 0) dX1_copyOf_17 rfl rfl rfl ?_
      refine g_X1_run (q := 21) wF_X1_19 hj0 dX1_copyOf_18 rfl ?_
      refine j_idiv (q := 22) dX1_copyOf_21 rfl ?_
      refine j_goto (tgt := 31) dX1_copyOf_22 rfl ?_
      exact j_ret (x := a0 / (gi g 26 j0 0)) dX1_copyOf_31 ⟨trivial, rfl, rfl⟩
  · refine j_iconst (q := 8) (v := (nI 0)) dX1_copyOf_7 rfl rfl ?_
    exact j_ret (x := (nI 0)) dX1_copyOf_8 ⟨trivial, rfl, rfl⟩
-- CopierJobs$Job.leafOf(I)I
abbrev rm_X1_leafOf : Room := { frames := 0, cells := 0, slots := 0, locals := 0 }
theorem cv_X1_leafOf : CV yX1_leafOf cX1_leafOf 2 (some .int) 1 := ⟨wC_X1_leafOf, wI_X1_leafOf, wS_X1_leafOf, wZ_X1, by decide +kernel⟩
def m_X1_leafOf (g : zG) (j0 : Nat) (a0 : Int32) : Option (Int32) := if (nI 0) < (gi g 26 j0 0) then if (gi g 23 j0 0) = (nI 0) then gd (¬ ((gi g 26 j0 0) : Int32) = 0) (some (a0 / (gi g 26 j0 0))) else gd (¬ ((gi g 26 j0 0) : Int32) = 0) (some (a0 - a0 / (gi g 26 j0 0) * (gi g 26 j0 0))) else some (nI 0)
set_option maxRecDepth 100000 in
set_option maxHeartbeats 4000000 in
theorem c_X1_leafOf (l : Launch) (z : zE) (gm : zG) (g : zG) (j0 : Nat) (hj0 : j0 < dm 71) (a0 : Int32) : ∀ x, m_X1_leafOf g j0 a0 = some x → Ms dm l yX1_leafOf cX1_leafOf 2 (some .int) rm_X1_leafOf z [.ref (za z 71 j0), .int a0] ((wx z gm) g) (oi x) ((wx z gm) ((fun _ => g) x)) := by
  refine ms_of (Wf := (wx z gm)) (ri := .ireturn) (out := oi) (nxt := (fun _ => g)) (ok := (fun _ => True)) (lv := [(0, .ref (za z 71 j0)), (1, .int a0)]) (by decide) ⟨rfl, rfl⟩ (Nat.le_of_ble_eq_true rfl) rfl (en_i (out := fun x => x)) (fun p e s m below meth c => ?_)
  refine j_eq (M2 := if (nI 0) < (gi g 26 j0 0) then if (gi g 23 j0 0) = (nI 0) then gd (¬ ((gi g 26 j0 0) : Int32) = 0) (some (a0 / (gi g 26 j0 0))) else gd (¬ ((gi g 26 j0 0) : Int32) = 0) (some (a0 - a0 / (gi g 26 j0 0) * (gi g 26 j0 0))) else some (nI 0)) rfl ?_
  refine j_aload_n (q := 1) (i := 0) (n := 0) dX1_leafOf_0 rfl rfl rfl ?_
  refine g_X1_run (q := 4) wF_X1_19 hj0 dX1_leafOf_1 rfl ?_
  refine j_if_gt (tgt := 9) (q := 7) dX1_leafOf_4 rfl rfl ?_ ?_
  · refine j_aload_n (q := 10) (i := 0) (n := 0) dX1_leafOf_9 rfl rfl rfl ?_
    refine g_X1_sorted (q := 13) wF_X1_32 hj0 dX1_leafOf_10 rfl ?_
    refine j_if_eq (tgt := 25) (q := 16) dX1_leafOf_13 rfl rfl ?_ ?_
    · refine j_iload_n (q := 26) (i := 1) (n := 1) dX1_leafOf_25 rfl rfl rfl ?_
      refine j_aload_n (q := 27) (i := 0) (n := 0) dX1_leafOf_26 rfl rfl rfl ?_
      refine g_X1_run (q := 30) wF_X1_19 hj0 dX1_leafOf_27 rfl ?_
      refine j_idiv (q := 31) dX1_leafOf_30 rfl ?_
      exact j_ret (x := a0 / (gi g 26 j0 0)) dX1_leafOf_31 ⟨trivial, rfl, rfl⟩
    · refine j_iload_n (q := 17) (i := 1) (n := 1) dX1_leafOf_16 rfl rfl rfl ?_
      refine j_aload_n (q := 18) (i := 0) (n := 0) dX1_leafOf_17 rfl rfl rfl ?_
      refine g_X1_run (q := 21) wF_X1_19 hj0 dX1_leafOf_18 rfl ?_
      refine j_irem (q := 22) dX1_leafOf_21 rfl ?_
      refine j_goto (tgt := 31) dX1_leafOf_22 rfl ?_
      exact j_ret (x := a0 - a0 / (gi g 26 j0 0) * (gi g 26 j0 0)) dX1_leafOf_31 ⟨trivial, rfl, rfl⟩
  · refine j_iconst (q := 8) (v := (nI 0)) dX1_leafOf_7 rfl rfl ?_
    exact j_ret (x := (nI 0)) dX1_leafOf_8 ⟨trivial, rfl, rfl⟩
-- CopierJobs$Job.frontOf(I)I
abbrev rm_X1_frontOf : Room := { frames := 1, cells := 0, slots := 0, locals := 21 }
theorem cv_X1_frontOf : CV yX1_frontOf cX1_frontOf 2 (some .int) 1 := ⟨wC_X1_frontOf, wI_X1_frontOf, wS_X1_frontOf, wZ_X1, by decide +kernel⟩
def m_X1_frontOf (g : zG) (j0 : Nat) (a0 : Int32) : Option (Int32) := if (gi g 22 j0 0) = (nI 0) then (m_X1_leafOf g j0 a0).bind fun r1 => some (r1 + (nI 1)) else (m_X1_leafOf g j0 a0).bind fun r2 => some (((nI 2) * r2) + (nI 1))
set_option maxRecDepth 100000 in
set_option maxHeartbeats 4000000 in
theorem c_X1_frontOf (l : Launch) (z : zE) (gm : zG) (g : zG) (j0 : Nat) (hj0 : j0 < dm 71) (a0 : Int32) : ∀ x, m_X1_frontOf g j0 a0 = some x → Ms dm l yX1_frontOf cX1_frontOf 2 (some .int) rm_X1_frontOf z [.ref (za z 71 j0), .int a0] ((wx z gm) g) (oi x) ((wx z gm) ((fun _ => g) x)) := by
  refine ms_of (Wf := (wx z gm)) (ri := .ireturn) (out := oi) (nxt := (fun _ => g)) (ok := (fun _ => True)) (lv := [(0, .ref (za z 71 j0)), (1, .int a0)]) (by decide) ⟨rfl, rfl⟩ (Nat.le_of_ble_eq_true rfl) rfl (en_i (out := fun x => x)) (fun p e s m below meth c => ?_)
  refine j_eq (M2 := if (gi g 22 j0 0) = (nI 0) then (m_X1_leafOf g j0 a0).bind fun r1 => some (r1 + (nI 1)) else (m_X1_leafOf g j0 a0).bind fun r2 => some (((nI 2) * r2) + (nI 1))) rfl ?_
  refine j_aload_n (q := 1) (i := 0) (n := 0) dX1_frontOf_0 rfl rfl rfl ?_
  refine g_X1_both (q := 4) wF_X1_28 hj0 dX1_frontOf_1 rfl ?_
  refine j_if_eq (tgt := 19) (q := 7) dX1_frontOf_4 rfl rfl ?_ ?_
  · refine j_aload_n (q := 20) (i := 0) (n := 0) dX1_frontOf_19 rfl rfl rfl ?_
    refine j_iload_n (q := 21) (i := 1) (n := 1) dX1_frontOf_20 rfl rfl rfl ?_
    refine j_ci (q := 24) (rn_V (R := rm_X1_frontOf) (As := [.int a0]) (rest := []) (c_X1_leafOf _ z gm g j0 hj0 a0) cv_X1_leafOf wM_X1_42 ⟨rfl, rfl⟩ ⟨(Nat.le_of_ble_eq_true rfl), (Nat.le_of_ble_eq_true rfl)⟩ hj0 rfl rfl rfl (Nat.le_of_ble_eq_true rfl) dX1_frontOf_21) rfl (fun r1 => ?_)
    refine j_iconst (q := 25) (v := (nI 1)) dX1_frontOf_24 rfl rfl ?_
    refine j_iadd (q := 26) dX1_frontOf_25 rfl ?_
    exact j_ret (x := r1 + (nI 1)) dX1_frontOf_26 ⟨trivial, rfl, rfl⟩
  · refine j_iconst (q := 8) (v := (nI 2)) dX1_frontOf_7 rfl rfl ?_
    refine j_aload_n (q := 9) (i := 0) (n := 0) dX1_frontOf_8 rfl rfl rfl ?_
    refine j_iload_n (q := 10) (i := 1) (n := 1) dX1_frontOf_9 rfl rfl rfl ?_
    refine j_ci (q := 13) (rn_V (R := rm_X1_frontOf) (As := [.int a0]) (rest := [.int (nI 2)]) (c_X1_leafOf _ z gm g j0 hj0 a0) cv_X1_leafOf wM_X1_42 ⟨rfl, rfl⟩ ⟨(Nat.le_of_ble_eq_true rfl), (Nat.le_of_ble_eq_true rfl)⟩ hj0 rfl rfl rfl (Nat.le_of_ble_eq_true rfl) dX1_frontOf_10) rfl (fun r2 => ?_)
    refine j_imul (q := 14) dX1_frontOf_13 rfl ?_
    refine j_iconst (q := 15) (v := (nI 1)) dX1_frontOf_14 rfl rfl ?_
    refine j_iadd (q := 16) dX1_frontOf_15 rfl ?_
    refine j_goto (tgt := 26) dX1_frontOf_16 rfl ?_
    exact j_ret (x := ((nI 2) * r2) + (nI 1)) dX1_frontOf_26 ⟨trivial, rfl, rfl⟩
-- CopierJobs$Job.backOf(I)I
abbrev rm_X1_backOf : Room := { frames := 1, cells := 0, slots := 0, locals := 21 }
theorem cv_X1_backOf : CV yX1_backOf cX1_backOf 3 (some .int) 1 := ⟨wC_X1_backOf, wI_X1_backOf, wS_X1_backOf, wZ_X1, by decide +kernel⟩
def m_X1_backOf (g : zG) (j0 : Nat) (a0 : Int32) : Option (Int32) := (m_X1_leafOf g j0 a0).bind fun r1 => if (gi g 22 j0 0) = (nI 0) then some (nI 0) else if (gi g 20 j0 0) < (((nI 2) * r1) + (nI 2)) then some (nI 0) else some (((nI 2) * r1) + (nI 2))
set_option maxRecDepth 100000 in
set_option maxHeartbeats 4000000 in
theorem c_X1_backOf (l : Launch) (z : zE) (gm : zG) (g : zG) (j0 : Nat) (hj0 : j0 < dm 71) (a0 : Int32) : ∀ x, m_X1_backOf g j0 a0 = some x → Ms dm l yX1_backOf cX1_backOf 3 (some .int) rm_X1_backOf z [.ref (za z 71 j0), .int a0] ((wx z gm) g) (oi x) ((wx z gm) ((fun _ => g) x)) := by
  refine ms_of (Wf := (wx z gm)) (ri := .ireturn) (out := oi) (nxt := (fun _ => g)) (ok := (fun _ => True)) (lv := [(0, .ref (za z 71 j0)), (1, .int a0)]) (by decide) ⟨rfl, rfl⟩ (Nat.le_of_ble_eq_true rfl) rfl (en_i (out := fun x => x)) (fun p e s m below meth c => ?_)
  refine j_eq (M2 := (m_X1_leafOf g j0 a0).bind fun r1 => if (gi g 22 j0 0) = (nI 0) then some (nI 0) else if (gi g 20 j0 0) < (((nI 2) * r1) + (nI 2)) then some (nI 0) else some (((nI 2) * r1) + (nI 2))) rfl ?_
  refine j_iconst (q := 1) (v := (nI 2)) dX1_backOf_0 rfl rfl ?_
  refine j_aload_n (q := 2) (i := 0) (n := 0) dX1_backOf_1 rfl rfl rfl ?_
  refine j_iload_n (q := 3) (i := 1) (n := 1) dX1_backOf_2 rfl rfl rfl ?_
  refine j_ci (q := 6) (rn_V (R := rm_X1_backOf) (As := [.int a0]) (rest := [.int (nI 2)]) (c_X1_leafOf _ z gm g j0 hj0 a0) cv_X1_leafOf wM_X1_42 ⟨rfl, rfl⟩ ⟨(Nat.le_of_ble_eq_true rfl), (Nat.le_of_ble_eq_true rfl)⟩ hj0 rfl rfl rfl (Nat.le_of_ble_eq_true rfl) dX1_backOf_3) rfl (fun r1 => ?_)
  refine j_imul (q := 7) dX1_backOf_6 rfl ?_
  refine j_iconst (q := 8) (v := (nI 2)) dX1_backOf_7 rfl rfl ?_
  refine j_iadd (q := 9) dX1_backOf_8 rfl ?_
  refine j_istore_n (q := 10) (n := 2) (lv' := [(2, .int (((nI 2) * r1) + (nI 2))), (0, .ref (za z 71 j0)), (1, .int a0)]) dX1_backOf_9 rfl (Nat.le_of_ble_eq_true rfl) rfl rfl ?_
  refine j_aload_n (q := 11) (i := 1) (n := 0) dX1_backOf_10 rfl rfl rfl ?_
  refine g_X1_both (q := 14) wF_X1_28 hj0 dX1_backOf_11 rfl ?_
  refine j_if_eq (tgt := 29) (q := 17) dX1_backOf_14 rfl rfl ?_ ?_
  · refine j_iconst (q := 30) (v := (nI 0)) dX1_backOf_29 rfl rfl ?_
    exact j_ret (x := (nI 0)) dX1_backOf_30 ⟨trivial, rfl, rfl⟩
  · refine j_iload_n (q := 18) (i := 0) (n := 2) dX1_backOf_17 rfl rfl rfl ?_
    refine j_aload_n (q := 19) (i := 1) (n := 0) dX1_backOf_18 rfl rfl rfl ?_
    refine g_X1_pages (q := 22) wF_X1_7 hj0 dX1_backOf_19 rfl ?_
    refine j_icmp_gt (tgt := 29) (q := 25) dX1_backOf_22 rfl rfl ?_ ?_
    · refine j_iconst (q := 30) (v := (nI 0)) dX1_backOf_29 rfl rfl ?_
      exact j_ret (x := (nI 0)) dX1_backOf_30 ⟨trivial, rfl, rfl⟩
    · refine j_iload_n (q := 26) (i := 0) (n := 2) dX1_backOf_25 rfl rfl rfl ?_
      refine j_goto (tgt := 30) dX1_backOf_26 rfl ?_
      exact j_ret (x := ((nI 2) * r1) + (nI 2)) dX1_backOf_30 ⟨trivial, rfl, rfl⟩
-- CopierJobs$Job.sidesOf(I)I
abbrev rm_X1_sidesOf : Room := { frames := 2, cells := 0, slots := 0, locals := 43 }
theorem cv_X1_sidesOf : CV yX1_sidesOf cX1_sidesOf 2 (some .int) 1 := ⟨wC_X1_sidesOf, wI_X1_sidesOf, wS_X1_sidesOf, wZ_X1, by decide +kernel⟩
def m_X1_sidesOf (g : zG) (j0 : Nat) (a0 : Int32) : Option (Int32) := (m_X1_backOf g j0 a0).bind fun r1 => if r1 = (nI 0) then some (nI 1) else some (nI 2)
set_option maxRecDepth 100000 in
set_option maxHeartbeats 4000000 in
theorem c_X1_sidesOf (l : Launch) (z : zE) (gm : zG) (g : zG) (j0 : Nat) (hj0 : j0 < dm 71) (a0 : Int32) : ∀ x, m_X1_sidesOf g j0 a0 = some x → Ms dm l yX1_sidesOf cX1_sidesOf 2 (some .int) rm_X1_sidesOf z [.ref (za z 71 j0), .int a0] ((wx z gm) g) (oi x) ((wx z gm) ((fun _ => g) x)) := by
  refine ms_of (Wf := (wx z gm)) (ri := .ireturn) (out := oi) (nxt := (fun _ => g)) (ok := (fun _ => True)) (lv := [(0, .ref (za z 71 j0)), (1, .int a0)]) (by decide) ⟨rfl, rfl⟩ (Nat.le_of_ble_eq_true rfl) rfl (en_i (out := fun x => x)) (fun p e s m below meth c => ?_)
  refine j_eq (M2 := (m_X1_backOf g j0 a0).bind fun r1 => if r1 = (nI 0) then some (nI 1) else some (nI 2)) rfl ?_
  refine j_aload_n (q := 1) (i := 0) (n := 0) dX1_sidesOf_0 rfl rfl rfl ?_
  refine j_iload_n (q := 2) (i := 1) (n := 1) dX1_sidesOf_1 rfl rfl rfl ?_
  refine j_ci (q := 5) (rn_V (R := rm_X1_sidesOf) (As := [.int a0]) (rest := []) (c_X1_backOf _ z gm g j0 hj0 a0) cv_X1_backOf wM_X1_46 ⟨rfl, rfl⟩ ⟨(Nat.le_of_ble_eq_true rfl), (Nat.le_of_ble_eq_true rfl)⟩ hj0 rfl rfl rfl (Nat.le_of_ble_eq_true rfl) dX1_sidesOf_2) rfl (fun r1 => ?_)
  refine j_if_ne (tgt := 12) (q := 8) dX1_sidesOf_5 rfl rfl ?_ ?_
  · refine j_iconst (q := 13) (v := (nI 2)) dX1_sidesOf_12 rfl rfl ?_
    exact j_ret (x := (nI 2)) dX1_sidesOf_13 ⟨trivial, rfl, rfl⟩
  · refine j_iconst (q := 9) (v := (nI 1)) dX1_sidesOf_8 rfl rfl ?_
    refine j_goto (tgt := 13) dX1_sidesOf_9 rfl ?_
    exact j_ret (x := (nI 1)) dX1_sidesOf_13 ⟨trivial, rfl, rfl⟩
-- CopierJobs$Job.sheetWith(II)I
abbrev rm_X1_sheetWith : Room := { frames := 0, cells := 0, slots := 0, locals := 0 }
theorem cv_X1_sheetWith : CV yX1_sheetWith cX1_sheetWith 4 (some .int) 2 := ⟨wC_X1_sheetWith, wI_X1_sheetWith, wS_X1_sheetWith, wZ_X1, by decide +kernel⟩
def m_X1_sheetWith_B18 (j0 : Nat) (a0 : Int32) (a1 : Int32) (g : zG) (s0 : Int32) : Option (Int32) := if (gi g 23 j0 0) = (nI 0) then some ((s0 * (gi g 21 j0 0)) + a1) else some ((a1 * (gi g 25 j0 0)) + s0)
set_option maxRecDepth 100000 in
set_option maxHeartbeats 4000000 in
theorem t_X1_sheetWith_B18 {p : Program} {l : Launch} {e : Env} {s : State} {m : MethodId} {args : Array Value} {below : List Frame} {meth : Method} {c : Code} {cells slots : Nat} {Q : Int32 → State → Prop} (z : zE) (gm : zG) (j0 : Nat) (a0 : Int32) (a1 : Int32) (hj0 : j0 < dm 71) (g : zG) (s0 : Int32) : zJ dm p l e rm_X1_sheetWith s m args below meth c cX1_sheetWith 4 yX1_sheetWith.cls z cells slots (wx z gm) (fn (fun _ => True) (fun _ => g) oi) .ireturn Q 18 [(0, .ref (za z 71 j0)), (2, .int a1)] [.int s0] g (m_X1_sheetWith_B18 j0 a0 a1 g s0) := by
  refine j_eq (M2 := if (gi g 23 j0 0) = (nI 0) then some ((s0 * (gi g 21 j0 0)) + a1) else some ((a1 * (gi g 25 j0 0)) + s0)) rfl ?_
  refine j_istore_n (q := 19) (n := 3) (lv' := [(3, .int s0), (0, .ref (za z 71 j0)), (2, .int a1)]) dX1_sheetWith_18 rfl (Nat.le_of_ble_eq_true rfl) rfl rfl ?_
  refine j_aload_n (q := 20) (i := 1) (n := 0) dX1_sheetWith_19 rfl rfl rfl ?_
  refine g_X1_sorted (q := 23) wF_X1_32 hj0 dX1_sheetWith_20 rfl ?_
  refine j_if_eq (tgt := 37) (q := 26) dX1_sheetWith_23 rfl rfl ?_ ?_
  · refine j_iload_n (q := 38) (i := 0) (n := 3) dX1_sheetWith_37 rfl rfl rfl ?_
    refine j_aload_n (q := 39) (i := 1) (n := 0) dX1_sheetWith_38 rfl rfl rfl ?_
    refine g_X1_copies (q := 42) wF_X1_13 hj0 dX1_sheetWith_39 rfl ?_
    refine j_imul (q := 43) dX1_sheetWith_42 rfl ?_
    refine j_iload_n (q := 44) (i := 2) (n := 2) dX1_sheetWith_43 rfl rfl rfl ?_
    refine j_iadd (q := 45) dX1_sheetWith_44 rfl ?_
    exact j_ret (x := (s0 * (gi g 21 j0 0)) + a1) dX1_sheetWith_45 ⟨trivial, rfl, rfl⟩
  · refine j_iload_n (q := 27) (i := 2) (n := 2) dX1_sheetWith_26 rfl rfl rfl ?_
    refine j_aload_n (q := 28) (i := 1) (n := 0) dX1_sheetWith_27 rfl rfl rfl ?_
    refine g_X1_leaves (q := 31) wF_X1_16 hj0 dX1_sheetWith_28 rfl ?_
    refine j_imul (q := 32) dX1_sheetWith_31 rfl ?_
    refine j_iload_n (q := 33) (i := 0) (n := 3) dX1_sheetWith_32 rfl rfl rfl ?_
    refine j_iadd (q := 34) dX1_sheetWith_33 rfl ?_
    refine j_goto (tgt := 45) dX1_sheetWith_34 rfl ?_
    exact j_ret (x := (a1 * (gi g 25 j0 0)) + s0) dX1_sheetWith_45 ⟨trivial, rfl, rfl⟩
def m_X1_sheetWith (g : zG) (j0 : Nat) (a0 : Int32) (a1 : Int32) : Option (Int32) := if (gi g 22 j0 0) = (nI 0) then m_X1_sheetWith_B18 j0 a0 a1 g (a0 - (nI 1)) else gd (¬ ((nI 2) : Int32) = 0) (m_X1_sheetWith_B18 j0 a0 a1 g ((a0 - (nI 1)) / (nI 2)))
set_option maxRecDepth 100000 in
set_option maxHeartbeats 4000000 in
theorem c_X1_sheetWith (l : Launch) (z : zE) (gm : zG) (g : zG) (j0 : Nat) (hj0 : j0 < dm 71) (a0 : Int32) (a1 : Int32) : ∀ x, m_X1_sheetWith g j0 a0 a1 = some x → Ms dm l yX1_sheetWith cX1_sheetWith 4 (some .int) rm_X1_sheetWith z [.ref (za z 71 j0), .int a0, .int a1] ((wx z gm) g) (oi x) ((wx z gm) ((fun _ => g) x)) := by
  refine ms_of (Wf := (wx z gm)) (ri := .ireturn) (out := oi) (nxt := (fun _ => g)) (ok := (fun _ => True)) (lv := [(0, .ref (za z 71 j0)), (1, .int a0), (2, .int a1)]) (by decide) ⟨rfl, rfl⟩ (Nat.le_of_ble_eq_true rfl) rfl (en_i (out := fun x => x)) (fun p e s m below meth c => ?_)
  refine j_eq (M2 := if (gi g 22 j0 0) = (nI 0) then m_X1_sheetWith_B18 j0 a0 a1 g (a0 - (nI 1)) else gd (¬ ((nI 2) : Int32) = 0) (m_X1_sheetWith_B18 j0 a0 a1 g ((a0 - (nI 1)) / (nI 2)))) rfl ?_
  refine j_aload_n (q := 1) (i := 0) (n := 0) dX1_sheetWith_0 rfl rfl rfl ?_
  refine g_X1_both (q := 4) wF_X1_28 hj0 dX1_sheetWith_1 rfl ?_
  refine j_if_eq (tgt := 15) (q := 7) dX1_sheetWith_4 rfl rfl ?_ ?_
  · refine j_iload_n (q := 16) (i := 1) (n := 1) dX1_sheetWith_15 rfl rfl rfl ?_
    refine j_iconst (q := 17) (v := (nI 1)) dX1_sheetWith_16 rfl rfl ?_
    refine j_isub (q := 18) dX1_sheetWith_17 rfl ?_
    refine j_lv [0, 2] (lv' := [(0, .ref (za z 71 j0)), (2, .int a1)]) rfl ?_
    exact t_X1_sheetWith_B18 z gm j0 a0 a1 hj0 g (a0 - (nI 1))
  · refine j_iload_n (q := 8) (i := 1) (n := 1) dX1_sheetWith_7 rfl rfl rfl ?_
    refine j_iconst (q := 9) (v := (nI 1)) dX1_sheetWith_8 rfl rfl ?_
    refine j_isub (q := 10) dX1_sheetWith_9 rfl ?_
    refine j_iconst (q := 11) (v := (nI 2)) dX1_sheetWith_10 rfl rfl ?_
    refine j_idiv (q := 12) dX1_sheetWith_11 rfl ?_
    refine j_goto (tgt := 18) dX1_sheetWith_12 rfl ?_
    refine j_lv [0, 2] (lv' := [(0, .ref (za z 71 j0)), (2, .int a1)]) rfl ?_
    exact t_X1_sheetWith_B18 z gm j0 a0 a1 hj0 g ((a0 - (nI 1)) / (nI 2))
