-- CopierJobs$Course.begin(LCopierJobs$Plan;)V
abbrev rm_X0_begin : Room := { frames := 2, cells := 0, slots := 0, locals := 45 }
theorem cv_X0_begin : CV yX0_begin cX0_begin 2 (none) 1 := ⟨wC_X0_begin, wI_X0_begin, wS_X0_begin, wZ_X0, by decide +kernel⟩
def m_X0_begin (g : zG) (c0 : Nat) (p0 : Nat) : Option (zG) := (m_X2_begin g (11 * c0) p0).bind fun g1 => bd (ui g1 30 c0 0 (nI 0)) fun g2 => bd (ui g2 31 c0 0 (nI 0)) fun g3 => some g3
set_option maxRecDepth 100000 in
set_option maxHeartbeats 4000000 in
theorem c_X0_begin (l : Launch) (z : zE) (gm : zG) (g : zG) (c0 : Nat) (hc0 : c0 < dm 70) (p0 : Nat) (hp0 : p0 < dm 73) : ∀ x, m_X0_begin g c0 p0 = some x → Ms dm l yX0_begin cX0_begin 2 (none) rm_X0_begin z [.ref (za z 70 c0), .ref (za z 73 p0)] ((wx z gm) g) (osv x) ((wx z gm) ((fun x => x) x)) := by
  refine ms_of (Wf := (wx z gm)) (ri := .return_) (out := osv) (nxt := (fun x => x)) (ok := (fun _ => True)) (lv := [(0, .ref (za z 70 c0)), (1, .ref (za z 73 p0))]) (by decide) ⟨rfl, rfl⟩ (Nat.le_of_ble_eq_true rfl) rfl (en_v ) (fun p e s m below meth c => ?_)
  refine j_eq (M2 := (m_X2_begin g (11 * c0) p0).bind fun g1 => bd (ui g1 30 c0 0 (nI 0)) fun g2 => bd (ui g2 31 c0 0 (nI 0)) fun g3 => some g3) rfl ?_
  refine j_aload_n (q := 1) (i := 0) (n := 0) dX0_begin_0 rfl rfl rfl ?_
  refine g_X0_now (q := 4) wF_X0_12 hc0 dX0_begin_1 rfl ?_
  refine j_aload_n (q := 5) (i := 1) (n := 1) dX0_begin_4 rfl rfl rfl ?_
  refine j_sv (q := 8) (rn_V (R := rm_X0_begin) (As := [.ref (za z 73 p0)]) (rest := []) (c_X2_begin _ z gm g (11 * c0) (dm_now hc0) p0 hp0) cv_X2_begin wM_X0_22 ⟨rfl, rfl⟩ ⟨(Nat.le_of_ble_eq_true rfl), (Nat.le_of_ble_eq_true rfl)⟩ (dm_now hc0) rfl rfl rfl (Nat.le_of_ble_eq_true rfl) dX0_begin_5) rfl (fun g1 => ?_)
  refine j_aload_n (q := 9) (i := 0) (n := 0) dX0_begin_8 rfl rfl rfl ?_
  refine j_iconst (q := 10) (v := (nI 0)) dX0_begin_9 rfl rfl ?_
  refine p_X0_oldest (q := 13) dm_le wF_X0_26 hc0 dX0_begin_10 rfl (fun g2 => ?_)
  refine j_aload_n (q := 14) (i := 0) (n := 0) dX0_begin_13 rfl rfl rfl ?_
  refine j_iconst (q := 15) (v := (nI 0)) dX0_begin_14 rfl rfl ?_
  refine p_X0_knownCount (q := 18) dm_le wF_X0_30 hc0 dX0_begin_15 rfl (fun g3 => ?_)
  exact j_ret (x := g3) dX0_begin_18 ⟨trivial, rfl, rfl⟩
-- CopierJobs$Course.knownAt(I)LCopierJobs$Now;
abbrev rm_X0_knownAt : Room := { frames := 1, cells := 0, slots := 0, locals := 22 }
theorem cv_X0_knownAt : CV yX0_knownAt cX0_knownAt 3 (some (.object "CopierJobs$Now")) 1 := ⟨wC_X0_knownAt, wI_X0_knownAt, wS_X0_knownAt, wZ_X0, by decide +kernel⟩
def m_X0_knownAt (g : zG) (c0 : Nat) (a0 : Int32) : Option (Option Nat) := (m_J9_floorMod_7cf53 ((gi g 30 c0 0) + a0) (nI 10)).bind fun r1 => if r1 < (nI 10) then gd (inb r1 10 = true) (some (some (11 * c0 + 1 + r1.toNatClampNeg))) else some none
set_option maxRecDepth 100000 in
set_option maxHeartbeats 4000000 in
theorem c_X0_knownAt (l : Launch) (z : zE) (gm : zG) (g : zG) (c0 : Nat) (hc0 : c0 < dm 70) (a0 : Int32) : ∀ x, m_X0_knownAt g c0 a0 = some x → Ms dm l yX0_knownAt cX0_knownAt 3 (some (.object "CopierJobs$Now")) rm_X0_knownAt z [.ref (za z 70 c0), .int a0] ((wx z gm) g) ((orf z 72) x) ((wx z gm) ((fun _ => g) x)) := by
  refine ms_of (Wf := (wx z gm)) (ri := .areturn) (out := (orf z 72)) (nxt := (fun _ => g)) (ok := (fun _ => True)) (lv := [(0, .ref (za z 70 c0)), (1, .int a0)]) (by decide) ⟨rfl, rfl⟩ (Nat.le_of_ble_eq_true rfl) rfl (en_r (k0 := 72) (out := fun x => x)) (fun p e s m below meth c => ?_)
  refine j_eq (M2 := (m_J9_floorMod_7cf53 ((gi g 30 c0 0) + a0) (nI 10)).bind fun r1 => if r1 < (nI 10) then gd (inb r1 10 = true) (some (some (11 * c0 + 1 + r1.toNatClampNeg))) else some none) rfl ?_
  refine j_aload_n (q := 1) (i := 0) (n := 0) dX0_knownAt_0 rfl rfl rfl ?_
  refine g_X0_oldest (q := 4) wF_X0_26 hc0 dX0_knownAt_1 rfl ?_
  refine j_iload_n (q := 5) (i := 1) (n := 1) dX0_knownAt_4 rfl rfl rfl ?_
  refine j_iadd (q := 6) dX0_knownAt_5 rfl ?_
  refine j_bipush (q := 8) (v := (nI 10)) dX0_knownAt_6 rfl rfl ?_
  refine j_ci (q := 11) (rn_S (R := rm_X0_knownAt) (As := [.int ((gi g 30 c0 0) + a0), .int (nI 10)]) (rest := []) (c_J9_floorMod_7cf53 _ z gm g ((gi g 30 c0 0) + a0) (nI 10)) cv_J9_floorMod_7cf53 wM_X0_33 ⟨rfl, rfl⟩ ⟨(Nat.le_of_ble_eq_true rfl), (Nat.le_of_ble_eq_true rfl)⟩ rfl (Nat.le_of_ble_eq_true rfl) dX0_knownAt_8) rfl (fun r1 => ?_)
  refine j_istore_n (q := 12) (n := 2) (lv' := [(2, .int r1), (0, .ref (za z 70 c0)), (1, .int a0)]) dX0_knownAt_11 rfl (Nat.le_of_ble_eq_true rfl) rfl rfl ?_
  refine j_iload_n (q := 13) (i := 0) (n := 2) dX0_knownAt_12 rfl rfl rfl ?_
  refine j_aload_n (q := 14) (i := 1) (n := 0) dX0_knownAt_13 rfl rfl rfl ?_
  refine g_X0_known (q := 17) wF_X0_18 hc0 dX0_knownAt_14 rfl ?_
  refine a80_len (q := 18) hc0 dX0_knownAt_17 rfl ?_
  refine j_icmp_ge (tgt := 30) (q := 21) dX0_knownAt_18 rfl rfl ?_ ?_
  · refine j_null (q := 31) dX0_knownAt_30 rfl ?_
    exact j_ret (x := none) dX0_knownAt_31 ⟨trivial, rfl, rfl⟩
  · refine j_aload_n (q := 22) (i := 1) (n := 0) dX0_knownAt_21 rfl rfl rfl ?_
    refine g_X0_known (q := 25) wF_X0_18 hc0 dX0_knownAt_22 rfl ?_
    refine j_iload_n (q := 26) (i := 0) (n := 2) dX0_knownAt_25 rfl rfl rfl ?_
    refine a80_ld (q := 27) hc0 dX0_knownAt_26 rfl ?_
    refine j_goto (tgt := 31) dX0_knownAt_27 rfl ?_
    exact j_ret (x := some (11 * c0 + 1 + r1.toNatClampNeg)) dX0_knownAt_31 ⟨trivial, rfl, rfl⟩
-- CopierJobs$Course.remember()V
abbrev rm_X0_remember : Room := { frames := 2, cells := 0, slots := 0, locals := 44 }
theorem cv_X0_remember : CV yX0_remember cX0_remember 2 (none) 0 := ⟨wC_X0_remember, wI_X0_remember, wS_X0_remember, wZ_X0, by decide +kernel⟩
def m_X0_remember_B30 (c0 : Nat) (g : zG) : Option (zG) := (m_X0_knownAt g c0 (gi g 31 c0 0)).bind fun x => oc x (bd (ui g 31 c0 0 ((gi g 31 c0 0) + (nI 1))) fun g3 => some g3) (fun n1 => gd (n1 < dm 72) ((m_X2_copyFrom g n1 (11 * c0)).bind fun g4 => bd (ui g4 31 c0 0 ((gi g4 31 c0 0) + (nI 1))) fun g5 => some g5))
set_option maxRecDepth 100000 in
set_option maxHeartbeats 4000000 in
theorem t_X0_remember_B30 {p : Program} {l : Launch} {e : Env} {s : State} {m : MethodId} {args : Array Value} {below : List Frame} {meth : Method} {c : Code} {cells slots : Nat} {Q : zG → State → Prop} (z : zE) (gm : zG) (c0 : Nat) (hc0 : c0 < dm 70) (g : zG) : zJ dm p l e rm_X0_remember s m args below meth c cX0_remember 2 yX0_remember.cls z cells slots (wx z gm) (fn (fun _ => True) (fun x => x) osv) .return_ Q 30 [(0, .ref (za z 70 c0))] [] g (m_X0_remember_B30 c0 g) := by
  refine j_eq (M2 := (m_X0_knownAt g c0 (gi g 31 c0 0)).bind fun x => oc x (bd (ui g 31 c0 0 ((gi g 31 c0 0) + (nI 1))) fun g3 => some g3) (fun n1 => gd (n1 < dm 72) ((m_X2_copyFrom g n1 (11 * c0)).bind fun g4 => bd (ui g4 31 c0 0 ((gi g4 31 c0 0) + (nI 1))) fun g5 => some g5))) rfl ?_
  refine j_aload_n (q := 31) (i := 0) (n := 0) dX0_remember_30 rfl rfl rfl ?_
  refine j_aload_n (q := 32) (i := 0) (n := 0) dX0_remember_31 rfl rfl rfl ?_
  refine g_X0_knownCount (q := 35) wF_X0_30 hc0 dX0_remember_32 rfl ?_
  refine j_crs (k0 := 72) (q := 38) (rn_V (R := rm_X0_remember) (As := [.int (gi g 31 c0 0)]) (rest := []) (c_X0_knownAt _ z gm g c0 hc0 (gi g 31 c0 0)) cv_X0_knownAt wM_X0_39 ⟨rfl, rfl⟩ ⟨(Nat.le_of_ble_eq_true rfl), (Nat.le_of_ble_eq_true rfl)⟩ hc0 rfl rfl rfl (Nat.le_of_ble_eq_true rfl) dX0_remember_35) rfl ?_ (fun n1 => ?_)
  · refine j_astore_nN (q := 39) (n := 1) (lv' := [(1, .null), (0, .ref (za z 70 c0))]) dX0_remember_38 rfl (Nat.le_of_ble_eq_true rfl) rfl rfl ?_
    refine j_aload_nN (q := 40) (i := 0) (n := 1) dX0_remember_39 rfl rfl rfl ?_
    refine j_nul0 (tgt := 51) dX0_remember_40 rfl ?_
    refine j_aload_n (q := 52) (i := 1) (n := 0) dX0_remember_51 rfl rfl rfl ?_
    refine j_dup (q := 53) dX0_remember_52 rfl rfl ?_
    refine g_X0_knownCount (q := 56) wF_X0_30 hc0 dX0_remember_53 rfl ?_
    refine j_iconst (q := 57) (v := (nI 1)) dX0_remember_56 rfl rfl ?_
    refine j_iadd (q := 58) dX0_remember_57 rfl ?_
    refine p_X0_knownCount (q := 61) dm_le wF_X0_30 hc0 dX0_remember_58 rfl (fun g3 => ?_)
    exact j_ret (x := g3) dX0_remember_61 ⟨trivial, rfl, rfl⟩
  · refine j_gd (fun hn2 => ?_)
    refine j_astore_n (q := 39) (n := 1) (lv' := [(1, .ref (za z 72 n1)), (0, .ref (za z 70 c0))]) dX0_remember_38 rfl (Nat.le_of_ble_eq_true rfl) rfl rfl ?_
    refine j_aload_n (q := 40) (i := 0) (n := 1) dX0_remember_39 rfl rfl rfl ?_
    refine j_nul1 (q := 43) dX0_remember_40 rfl ?_
    refine j_aload_n (q := 44) (i := 0) (n := 1) dX0_remember_43 rfl rfl rfl ?_
    refine j_aload_n (q := 45) (i := 1) (n := 0) dX0_remember_44 rfl rfl rfl ?_
    refine g_X0_now (q := 48) wF_X0_12 hc0 dX0_remember_45 rfl ?_
    refine j_sv (q := 51) (rn_V (R := rm_X0_remember) (As := [.ref (za z 72 (11 * c0))]) (rest := []) (c_X2_copyFrom _ z gm g n1 hn2 (11 * c0) (dm_now hc0)) cv_X2_copyFrom wM_X0_43 ⟨rfl, rfl⟩ ⟨(Nat.le_of_ble_eq_true rfl), (Nat.le_of_ble_eq_true rfl)⟩ hn2 rfl rfl rfl (Nat.le_of_ble_eq_true rfl) dX0_remember_48) rfl (fun g4 => ?_)
    refine j_aload_n (q := 52) (i := 1) (n := 0) dX0_remember_51 rfl rfl rfl ?_
    refine j_dup (q := 53) dX0_remember_52 rfl rfl ?_
    refine g_X0_knownCount (q := 56) wF_X0_30 hc0 dX0_remember_53 rfl ?_
    refine j_iconst (q := 57) (v := (nI 1)) dX0_remember_56 rfl rfl ?_
    refine j_iadd (q := 58) dX0_remember_57 rfl ?_
    refine p_X0_knownCount (q := 61) dm_le wF_X0_30 hc0 dX0_remember_58 rfl (fun g5 => ?_)
    exact j_ret (x := g5) dX0_remember_61 ⟨trivial, rfl, rfl⟩
def m_X0_remember (g : zG) (c0 : Nat) : Option (zG) := if (gi g 31 c0 0) < (nI 10) then m_X0_remember_B30 c0 g else (m_J9_floorMod_7cf53 ((gi g 30 c0 0) + (nI 1)) (nI 10)).bind fun r6 => bd (ui g 30 c0 0 r6) fun g7 => bd (ui g7 31 c0 0 (nI 9)) fun g8 => m_X0_remember_B30 c0 g8
set_option maxRecDepth 100000 in
set_option maxHeartbeats 4000000 in
theorem c_X0_remember (l : Launch) (z : zE) (gm : zG) (g : zG) (c0 : Nat) (hc0 : c0 < dm 70) : ∀ x, m_X0_remember g c0 = some x → Ms dm l yX0_remember cX0_remember 2 (none) rm_X0_remember z [.ref (za z 70 c0)] ((wx z gm) g) (osv x) ((wx z gm) ((fun x => x) x)) := by
  refine ms_of (Wf := (wx z gm)) (ri := .return_) (out := osv) (nxt := (fun x => x)) (ok := (fun _ => True)) (lv := [(0, .ref (za z 70 c0))]) (by decide) ⟨rfl, rfl⟩ (Nat.le_of_ble_eq_true rfl) rfl (en_v ) (fun p e s m below meth c => ?_)
  refine j_eq (M2 := if (gi g 31 c0 0) < (nI 10) then m_X0_remember_B30 c0 g else (m_J9_floorMod_7cf53 ((gi g 30 c0 0) + (nI 1)) (nI 10)).bind fun r6 => bd (ui g 30 c0 0 r6) fun g7 => bd (ui g7 31 c0 0 (nI 9)) fun g8 => m_X0_remember_B30 c0 g8) rfl ?_
  refine j_aload_n (q := 1) (i := 0) (n := 0) dX0_remember_0 rfl rfl rfl ?_
  refine g_X0_knownCount (q := 4) wF_X0_30 hc0 dX0_remember_1 rfl ?_
  refine j_bipush (q := 6) (v := (nI 10)) dX0_remember_4 rfl rfl ?_
  refine j_icmp_lt (tgt := 30) (q := 9) dX0_remember_6 rfl rfl ?_ ?_
  · exact t_X0_remember_B30 z gm c0 hc0 g
  · refine j_aload_n (q := 10) (i := 0) (n := 0) dX0_remember_9 rfl rfl rfl ?_
    refine j_aload_n (q := 11) (i := 0) (n := 0) dX0_remember_10 rfl rfl rfl ?_
    refine g_X0_oldest (q := 14) wF_X0_26 hc0 dX0_remember_11 rfl ?_
    refine j_iconst (q := 15) (v := (nI 1)) dX0_remember_14 rfl rfl ?_
    refine j_iadd (q := 16) dX0_remember_15 rfl ?_
    refine j_bipush (q := 18) (v := (nI 10)) dX0_remember_16 rfl rfl ?_
    refine j_ci (q := 21) (rn_S (R := rm_X0_remember) (As := [.int ((gi g 30 c0 0) + (nI 1)), .int (nI 10)]) (rest := [.ref (za z 70 c0)]) (c_J9_floorMod_7cf53 _ z gm g ((gi g 30 c0 0) + (nI 1)) (nI 10)) cv_J9_floorMod_7cf53 wM_X0_33 ⟨rfl, rfl⟩ ⟨(Nat.le_of_ble_eq_true rfl), (Nat.le_of_ble_eq_true rfl)⟩ rfl (Nat.le_of_ble_eq_true rfl) dX0_remember_18) rfl (fun r6 => ?_)
    refine p_X0_oldest (q := 24) dm_le wF_X0_26 hc0 dX0_remember_21 rfl (fun g7 => ?_)
    refine j_aload_n (q := 25) (i := 0) (n := 0) dX0_remember_24 rfl rfl rfl ?_
    refine j_bipush (q := 27) (v := (nI 9)) dX0_remember_25 rfl rfl ?_
    refine p_X0_knownCount (q := 30) dm_le wF_X0_30 hc0 dX0_remember_27 rfl (fun g8 => ?_)
    exact t_X0_remember_B30 z gm c0 hc0 g8
-- CopierJobs$Course.takeBack()V
abbrev rm_X0_takeBack : Room := { frames := 2, cells := 0, slots := 0, locals := 44 }
theorem cv_X0_takeBack : CV yX0_takeBack cX0_takeBack 2 (none) 0 := ⟨wC_X0_takeBack, wI_X0_takeBack, wS_X0_takeBack, wZ_X0, by decide +kernel⟩
def m_X0_takeBack (g : zG) (c0 : Nat) : Option (zG) := if (gi g 31 c0 0) = (nI 0) then some g else bd (ui g 31 c0 0 ((gi g 31 c0 0) - (nI 1))) fun g1 => (m_X0_knownAt g1 c0 (gi g1 31 c0 0)).bind fun x => oc x (some g1) (fun n2 => gd (n2 < dm 72) ((m_X2_copyFrom g1 (11 * c0) n2).bind fun g4 => some g4))
set_option maxRecDepth 100000 in
set_option maxHeartbeats 4000000 in
theorem c_X0_takeBack (l : Launch) (z : zE) (gm : zG) (g : zG) (c0 : Nat) (hc0 : c0 < dm 70) : ∀ x, m_X0_takeBack g c0 = some x → Ms dm l yX0_takeBack cX0_takeBack 2 (none) rm_X0_takeBack z [.ref (za z 70 c0)] ((wx z gm) g) (osv x) ((wx z gm) ((fun x => x) x)) := by
  refine ms_of (Wf := (wx z gm)) (ri := .return_) (out := osv) (nxt := (fun x => x)) (ok := (fun _ => True)) (lv := [(0, .ref (za z 70 c0))]) (by decide) ⟨rfl, rfl⟩ (Nat.le_of_ble_eq_true rfl) rfl (en_v ) (fun p e s m below meth c => ?_)
  refine j_eq (M2 := if (gi g 31 c0 0) = (nI 0) then some g else bd (ui g 31 c0 0 ((gi g 31 c0 0) - (nI 1))) fun g1 => (m_X0_knownAt g1 c0 (gi g1 31 c0 0)).bind fun x => oc x (some g1) (fun n2 => gd (n2 < dm 72) ((m_X2_copyFrom g1 (11 * c0) n2).bind fun g4 => some g4))) rfl ?_
  refine j_aload_n (q := 1) (i := 0) (n := 0) dX0_takeBack_0 rfl rfl rfl ?_
  refine g_X0_knownCount (q := 4) wF_X0_30 hc0 dX0_takeBack_1 rfl ?_
  refine j_if_ne (tgt := 8) (q := 7) dX0_takeBack_4 rfl rfl ?_ ?_
  · refine j_aload_n (q := 9) (i := 0) (n := 0) dX0_takeBack_8 rfl rfl rfl ?_
    refine j_dup (q := 10) dX0_takeBack_9 rfl rfl ?_
    refine g_X0_knownCount (q := 13) wF_X0_30 hc0 dX0_takeBack_10 rfl ?_
    refine j_iconst (q := 14) (v := (nI 1)) dX0_takeBack_13 rfl rfl ?_
    refine j_isub (q := 15) dX0_takeBack_14 rfl ?_
    refine p_X0_knownCount (q := 18) dm_le wF_X0_30 hc0 dX0_takeBack_15 rfl (fun g1 => ?_)
    refine j_aload_n (q := 19) (i := 0) (n := 0) dX0_takeBack_18 rfl rfl rfl ?_
    refine j_aload_n (q := 20) (i := 0) (n := 0) dX0_takeBack_19 rfl rfl rfl ?_
    refine g_X0_knownCount (q := 23) wF_X0_30 hc0 dX0_takeBack_20 rfl ?_
    refine j_crs (k0 := 72) (q := 26) (rn_V (R := rm_X0_takeBack) (As := [.int (gi g1 31 c0 0)]) (rest := []) (c_X0_knownAt _ z gm g1 c0 hc0 (gi g1 31 c0 0)) cv_X0_knownAt wM_X0_39 ⟨rfl, rfl⟩ ⟨(Nat.le_of_ble_eq_true rfl), (Nat.le_of_ble_eq_true rfl)⟩ hc0 rfl rfl rfl (Nat.le_of_ble_eq_true rfl) dX0_takeBack_23) rfl ?_ (fun n2 => ?_)
    · refine j_astore_nN (q := 27) (n := 1) (lv' := [(1, .null), (0, .ref (za z 70 c0))]) dX0_takeBack_26 rfl (Nat.le_of_ble_eq_true rfl) rfl rfl ?_
      refine j_aload_nN (q := 28) (i := 0) (n := 1) dX0_takeBack_27 rfl rfl rfl ?_
      refine j_nul0 (tgt := 39) dX0_takeBack_28 rfl ?_
      exact j_ret (x := g1) dX0_takeBack_39 ⟨trivial, rfl, rfl⟩
    · refine j_gd (fun hn3 => ?_)
      refine j_astore_n (q := 27) (n := 1) (lv' := [(1, .ref (za z 72 n2)), (0, .ref (za z 70 c0))]) dX0_takeBack_26 rfl (Nat.le_of_ble_eq_true rfl) rfl rfl ?_
      refine j_aload_n (q := 28) (i := 0) (n := 1) dX0_takeBack_27 rfl rfl rfl ?_
      refine j_nul1 (q := 31) dX0_takeBack_28 rfl ?_
      refine j_aload_n (q := 32) (i := 1) (n := 0) dX0_takeBack_31 rfl rfl rfl ?_
      refine g_X0_now (q := 35) wF_X0_12 hc0 dX0_takeBack_32 rfl ?_
      refine j_aload_n (q := 36) (i := 0) (n := 1) dX0_takeBack_35 rfl rfl rfl ?_
      refine j_sv (q := 39) (rn_V (R := rm_X0_takeBack) (As := [.ref (za z 72 n2)]) (rest := []) (c_X2_copyFrom _ z gm g1 (11 * c0) (dm_now hc0) n2 hn3) cv_X2_copyFrom wM_X0_43 ⟨rfl, rfl⟩ ⟨(Nat.le_of_ble_eq_true rfl), (Nat.le_of_ble_eq_true rfl)⟩ (dm_now hc0) rfl rfl rfl (Nat.le_of_ble_eq_true rfl) dX0_takeBack_36) rfl (fun g4 => ?_)
      exact j_ret (x := g4) dX0_takeBack_39 ⟨trivial, rfl, rfl⟩
  · exact j_ret (x := g) dX0_takeBack_7 ⟨trivial, rfl, rfl⟩
-- CopierJobs$Course.copyFrom(LCopierJobs$Course;)V
abbrev rm_X0_copyFrom : Room := { frames := 2, cells := 0, slots := 0, locals := 44 }
theorem cv_X0_copyFrom : CV yX0_copyFrom cX0_copyFrom 5 (none) 1 := ⟨wC_X0_copyFrom, wI_X0_copyFrom, wS_X0_copyFrom, wZ_X0, by decide +kernel⟩
def m_X0_copyFrom_B62 (c0 : Nat) (c1 : Nat) (K26 : zG → Int32 → Option (zG)) (g : zG) (x2 : Int32) : Option (zG) := K26 g (x2 + (nI 1))
set_option maxRecDepth 100000 in
set_option maxHeartbeats 4000000 in
theorem t_X0_copyFrom_B62 {p : Program} {l : Launch} {e : Env} {s : State} {m : MethodId} {args : Array Value} {below : List Frame} {meth : Method} {c : Code} {cells slots : Nat} {Q : zG → State → Prop} (z : zE) (gm : zG) (c0 : Nat) (c1 : Nat) (hc0 : c0 < dm 70) (hc1 : c1 < dm 70) (K26 : zG → Int32 → Option (zG)) (hK26 : ∀ (g : zG) (x2 : Int32), zJ dm p l e rm_X0_copyFrom s m args below meth c cX0_copyFrom 5 yX0_copyFrom.cls z cells slots (wx z gm) (fn (fun _ => True) (fun x => x) osv) .return_ Q 26 [(0, .ref (za z 70 c0)), (1, .ref (za z 70 c1)), (2, .int x2)] [] g (K26 g x2)) (g : zG) (x2 : Int32) : zJ dm p l e rm_X0_copyFrom s m args below meth c cX0_copyFrom 5 yX0_copyFrom.cls z cells slots (wx z gm) (fn (fun _ => True) (fun x => x) osv) .return_ Q 62 [(0, .ref (za z 70 c0)), (1, .ref (za z 70 c1)), (2, .int x2)] [] g (m_X0_copyFrom_B62 c0 c1 K26 g x2) := by
  refine j_eq (M2 := K26 g (x2 + (nI 1))) rfl ?_
  refine j_iinc (q := 65) (n := 2) (i := 2) (v := x2 + (nI 1)) (lv' := [(2, .int (x2 + (nI 1))), (0, .ref (za z 70 c0)), (1, .ref (za z 70 c1))]) dX0_copyFrom_62 rfl rfl (Nat.le_of_ble_eq_true rfl) rfl rfl ?_
  refine j_goto (tgt := 26) dX0_copyFrom_65 rfl ?_
  refine j_lv [1, 2, 0] (lv' := [(0, .ref (za z 70 c0)), (1, .ref (za z 70 c1)), (2, .int (x2 + (nI 1)))]) rfl ?_
  exact hK26 g (x2 + (nI 1))
def m_X0_copyFrom_L26 (c0 : Nat) (c1 : Nat) : Nat → zG → Int32 → Option (zG)
  | 0, _, _ => none
  | f + 1, g, x2 => if x2 < (gi g 31 c0 0) then (m_X0_knownAt g c1 x2).bind fun x => oc x ((m_X0_knownAt g c0 x2).bind fun x => oc x (m_X0_copyFrom_B62 c0 c1 (m_X0_copyFrom_L26 c0 c1 f) g x2) (fun n6 => gd (n6 < dm 72) (m_X0_copyFrom_B62 c0 c1 (m_X0_copyFrom_L26 c0 c1 f) g x2))) (fun n4 => gd (n4 < dm 72) ((m_X0_knownAt g c0 x2).bind fun x => oc x (m_X0_copyFrom_B62 c0 c1 (m_X0_copyFrom_L26 c0 c1 f) g x2) (fun n8 => gd (n8 < dm 72) ((m_X2_copyFrom g n8 n4).bind fun g10 => m_X0_copyFrom_B62 c0 c1 (m_X0_copyFrom_L26 c0 c1 f) g10 x2)))) else some g
set_option maxRecDepth 100000 in
set_option maxHeartbeats 4000000 in
theorem t_X0_copyFrom_L26 {p : Program} {l : Launch} {e : Env} {s : State} {m : MethodId} {args : Array Value} {below : List Frame} {meth : Method} {c : Code} {cells slots : Nat} {Q : zG → State → Prop} (z : zE) (gm : zG) (c0 : Nat) (c1 : Nat) (hc0 : c0 < dm 70) (hc1 : c1 < dm 70) : ∀ (f : Nat) (g : zG) (x2 : Int32), zJ dm p l e rm_X0_copyFrom s m args below meth c cX0_copyFrom 5 yX0_copyFrom.cls z cells slots (wx z gm) (fn (fun _ => True) (fun x => x) osv) .return_ Q 26 [(0, .ref (za z 70 c0)), (1, .ref (za z 70 c1)), (2, .int x2)] [] g (m_X0_copyFrom_L26 c0 c1 f g x2) := by
  intro f
  induction f with
  | zero => intro g x2; exact j_none
  | succ f ih =>
    intro g x2
    refine j_eq (M2 := if x2 < (gi g 31 c0 0) then (m_X0_knownAt g c1 x2).bind fun x => oc x ((m_X0_knownAt g c0 x2).bind fun x => oc x (m_X0_copyFrom_B62 c0 c1 (m_X0_copyFrom_L26 c0 c1 f) g x2) (fun n6 => gd (n6 < dm 72) (m_X0_copyFrom_B62 c0 c1 (m_X0_copyFrom_L26 c0 c1 f) g x2))) (fun n4 => gd (n4 < dm 72) ((m_X0_knownAt g c0 x2).bind fun x => oc x (m_X0_copyFrom_B62 c0 c1 (m_X0_copyFrom_L26 c0 c1 f) g x2) (fun n8 => gd (n8 < dm 72) ((m_X2_copyFrom g n8 n4).bind fun g10 => m_X0_copyFrom_B62 c0 c1 (m_X0_copyFrom_L26 c0 c1 f) g10 x2)))) else some g) rfl ?_
    refine j_iload_n (q := 27) (i := 2) (n := 2) dX0_copyFrom_26 rfl rfl rfl ?_
    refine j_aload_n (q := 28) (i := 0) (n := 0) dX0_copyFrom_27 rfl rfl rfl ?_
    refine g_X0_knownCount (q := 31) wF_X0_30 hc0 dX0_copyFrom_28 rfl ?_
    refine j_icmp_ge (tgt := 68) (q := 34) dX0_copyFrom_31 rfl rfl ?_ ?_
    · exact j_ret (x := g) dX0_copyFrom_68 ⟨trivial, rfl, rfl⟩
    · refine j_aload_n (q := 35) (i := 1) (n := 1) dX0_copyFrom_34 rfl rfl rfl ?_
      refine j_iload_n (q := 36) (i := 2) (n := 2) dX0_copyFrom_35 rfl rfl rfl ?_
      refine j_crs (k0 := 72) (q := 39) (rn_V (R := rm_X0_copyFrom) (As := [.int x2]) (rest := []) (c_X0_knownAt _ z gm g c1 hc1 x2) cv_X0_knownAt wM_X0_39 ⟨rfl, rfl⟩ ⟨(Nat.le_of_ble_eq_true rfl), (Nat.le_of_ble_eq_true rfl)⟩ hc1 rfl rfl rfl (Nat.le_of_ble_eq_true rfl) dX0_copyFrom_36) rfl ?_ (fun n4 => ?_)
      · refine j_astore_nN (q := 40) (n := 3) (lv' := [(3, .null), (0, .ref (za z 70 c0)), (1, .ref (za z 70 c1)), (2, .int x2)]) dX0_copyFrom_39 rfl (Nat.le_of_ble_eq_true rfl) rfl rfl ?_
        refine j_aload_n (q := 41) (i := 1) (n := 0) dX0_copyFrom_40 rfl rfl rfl ?_
        refine j_iload_n (q := 42) (i := 3) (n := 2) dX0_copyFrom_41 rfl rfl rfl ?_
        refine j_crs (k0 := 72) (q := 45) (rn_V (R := rm_X0_copyFrom) (As := [.int x2]) (rest := []) (c_X0_knownAt _ z gm g c0 hc0 x2) cv_X0_knownAt wM_X0_39 ⟨rfl, rfl⟩ ⟨(Nat.le_of_ble_eq_true rfl), (Nat.le_of_ble_eq_true rfl)⟩ hc0 rfl rfl rfl (Nat.le_of_ble_eq_true rfl) dX0_copyFrom_42) rfl ?_ (fun n6 => ?_)
        · refine j_astoreN (q := 47) (n := 4) (lv' := [(4, .null), (3, .null), (0, .ref (za z 70 c0)), (1, .ref (za z 70 c1)), (2, .int x2)]) dX0_copyFrom_45 (Nat.le_of_ble_eq_true rfl) rfl rfl ?_
          refine j_aload_nN (q := 48) (i := 1) (n := 3) dX0_copyFrom_47 rfl rfl rfl ?_
          refine j_nul0 (tgt := 62) dX0_copyFrom_48 rfl ?_
          refine j_lv [2, 3, 4] (lv' := [(0, .ref (za z 70 c0)), (1, .ref (za z 70 c1)), (2, .int x2)]) rfl ?_
          exact t_X0_copyFrom_B62 z gm c0 c1 hc0 hc1 (m_X0_copyFrom_L26 c0 c1 f) ih g x2
        · refine j_gd (fun hn7 => ?_)
          refine j_astore (q := 47) (n := 4) (lv' := [(4, .ref (za z 72 n6)), (3, .null), (0, .ref (za z 70 c0)), (1, .ref (za z 70 c1)), (2, .int x2)]) dX0_copyFrom_45 (Nat.le_of_ble_eq_true rfl) rfl rfl ?_
          refine j_aload_nN (q := 48) (i := 1) (n := 3) dX0_copyFrom_47 rfl rfl rfl ?_
          refine j_nul0 (tgt := 62) dX0_copyFrom_48 rfl ?_
          refine j_lv [2, 3, 4] (lv' := [(0, .ref (za z 70 c0)), (1, .ref (za z 70 c1)), (2, .int x2)]) rfl ?_
          exact t_X0_copyFrom_B62 z gm c0 c1 hc0 hc1 (m_X0_copyFrom_L26 c0 c1 f) ih g x2
      · refine j_gd (fun hn5 => ?_)
        refine j_astore_n (q := 40) (n := 3) (lv' := [(3, .ref (za z 72 n4)), (0, .ref (za z 70 c0)), (1, .ref (za z 70 c1)), (2, .int x2)]) dX0_copyFrom_39 rfl (Nat.le_of_ble_eq_true rfl) rfl rfl ?_
        refine j_aload_n (q := 41) (i := 1) (n := 0) dX0_copyFrom_40 rfl rfl rfl ?_
        refine j_iload_n (q := 42) (i := 3) (n := 2) dX0_copyFrom_41 rfl rfl rfl ?_
        refine j_crs (k0 := 72) (q := 45) (rn_V (R := rm_X0_copyFrom) (As := [.int x2]) (rest := []) (c_X0_knownAt _ z gm g c0 hc0 x2) cv_X0_knownAt wM_X0_39 ⟨rfl, rfl⟩ ⟨(Nat.le_of_ble_eq_true rfl), (Nat.le_of_ble_eq_true rfl)⟩ hc0 rfl rfl rfl (Nat.le_of_ble_eq_true rfl) dX0_copyFrom_42) rfl ?_ (fun n8 => ?_)
        · refine j_astoreN (q := 47) (n := 4) (lv' := [(4, .null), (3, .ref (za z 72 n4)), (0, .ref (za z 70 c0)), (1, .ref (za z 70 c1)), (2, .int x2)]) dX0_copyFrom_45 (Nat.le_of_ble_eq_true rfl) rfl rfl ?_
          refine j_aload_n (q := 48) (i := 1) (n := 3) dX0_copyFrom_47 rfl rfl rfl ?_
          refine j_nul1 (q := 51) dX0_copyFrom_48 rfl ?_
          refine j_aloadN (q := 53) (i := 0) (n := 4) dX0_copyFrom_51 rfl rfl ?_
          refine j_nul0 (tgt := 62) dX0_copyFrom_53 rfl ?_
          refine j_lv [2, 3, 4] (lv' := [(0, .ref (za z 70 c0)), (1, .ref (za z 70 c1)), (2, .int x2)]) rfl ?_
          exact t_X0_copyFrom_B62 z gm c0 c1 hc0 hc1 (m_X0_copyFrom_L26 c0 c1 f) ih g x2
        · refine j_gd (fun hn9 => ?_)
          refine j_astore (q := 47) (n := 4) (lv' := [(4, .ref (za z 72 n8)), (3, .ref (za z 72 n4)), (0, .ref (za z 70 c0)), (1, .ref (za z 70 c1)), (2, .int x2)]) dX0_copyFrom_45 (Nat.le_of_ble_eq_true rfl) rfl rfl ?_
          refine j_aload_n (q := 48) (i := 1) (n := 3) dX0_copyFrom_47 rfl rfl rfl ?_
          refine j_nul1 (q := 51) dX0_copyFrom_48 rfl ?_
          refine j_aload (q := 53) (i := 0) (n := 4) dX0_copyFrom_51 rfl rfl ?_
          refine j_nul1 (q := 56) dX0_copyFrom_53 rfl ?_
          refine j_aload (q := 58) (i := 0) (n := 4) dX0_copyFrom_56 rfl rfl ?_
          refine j_aload_n (q := 59) (i := 1) (n := 3) dX0_copyFrom_58 rfl rfl rfl ?_
          refine j_sv (q := 62) (rn_V (R := rm_X0_copyFrom) (As := [.ref (za z 72 n4)]) (rest := []) (c_X2_copyFrom _ z gm g n8 hn9 n4 hn5) cv_X2_copyFrom wM_X0_43 ⟨rfl, rfl⟩ ⟨(Nat.le_of_ble_eq_true rfl), (Nat.le_of_ble_eq_true rfl)⟩ hn9 rfl rfl rfl (Nat.le_of_ble_eq_true rfl) dX0_copyFrom_59) rfl (fun g10 => ?_)
          refine j_lv [2, 3, 4] (lv' := [(0, .ref (za z 70 c0)), (1, .ref (za z 70 c1)), (2, .int x2)]) rfl ?_
          exact t_X0_copyFrom_B62 z gm c0 c1 hc0 hc1 (m_X0_copyFrom_L26 c0 c1 f) ih g10 x2
def m_X0_copyFrom (g : zG) (c0 : Nat) (c1 : Nat) : Option (zG) := (m_X2_copyFrom g (11 * c0) (11 * c1)).bind fun g1 => bd (ui g1 30 c0 0 (nI 0)) fun g2 => bd (ui g2 31 c0 0 (gi g2 31 c1 0)) fun g3 => m_X0_copyFrom_L26 c0 c1 FU g3 (nI 0)
set_option maxRecDepth 100000 in
set_option maxHeartbeats 4000000 in
theorem c_X0_copyFrom (l : Launch) (z : zE) (gm : zG) (g : zG) (c0 : Nat) (hc0 : c0 < dm 70) (c1 : Nat) (hc1 : c1 < dm 70) : ∀ x, m_X0_copyFrom g c0 c1 = some x → Ms dm l yX0_copyFrom cX0_copyFrom 5 (none) rm_X0_copyFrom z [.ref (za z 70 c0), .ref (za z 70 c1)] ((wx z gm) g) (osv x) ((wx z gm) ((fun x => x) x)) := by
  refine ms_of (Wf := (wx z gm)) (ri := .return_) (out := osv) (nxt := (fun x => x)) (ok := (fun _ => True)) (lv := [(0, .ref (za z 70 c0)), (1, .ref (za z 70 c1))]) (by decide) ⟨rfl, rfl⟩ (Nat.le_of_ble_eq_true rfl) rfl (en_v ) (fun p e s m below meth c => ?_)
  refine j_eq (M2 := (m_X2_copyFrom g (11 * c0) (11 * c1)).bind fun g1 => bd (ui g1 30 c0 0 (nI 0)) fun g2 => bd (ui g2 31 c0 0 (gi g2 31 c1 0)) fun g3 => m_X0_copyFrom_L26 c0 c1 FU g3 (nI 0)) rfl ?_
  refine j_aload_n (q := 1) (i := 0) (n := 0) dX0_copyFrom_0 rfl rfl rfl ?_
  refine g_X0_now (q := 4) wF_X0_12 hc0 dX0_copyFrom_1 rfl ?_
  refine j_aload_n (q := 5) (i := 1) (n := 1) dX0_copyFrom_4 rfl rfl rfl ?_
  refine g_X0_now (q := 8) wF_X0_12 hc1 dX0_copyFrom_5 rfl ?_
  refine j_sv (q := 11) (rn_V (R := rm_X0_copyFrom) (As := [.ref (za z 72 (11 * c1))]) (rest := []) (c_X2_copyFrom _ z gm g (11 * c0) (dm_now hc0) (11 * c1) (dm_now hc1)) cv_X2_copyFrom wM_X0_43 ⟨rfl, rfl⟩ ⟨(Nat.le_of_ble_eq_true rfl), (Nat.le_of_ble_eq_true rfl)⟩ (dm_now hc0) rfl rfl rfl (Nat.le_of_ble_eq_true rfl) dX0_copyFrom_8) rfl (fun g1 => ?_)
  refine j_aload_n (q := 12) (i := 0) (n := 0) dX0_copyFrom_11 rfl rfl rfl ?_
  refine j_iconst (q := 13) (v := (nI 0)) dX0_copyFrom_12 rfl rfl ?_
  refine p_X0_oldest (q := 16) dm_le wF_X0_26 hc0 dX0_copyFrom_13 rfl (fun g2 => ?_)
  refine j_aload_n (q := 17) (i := 0) (n := 0) dX0_copyFrom_16 rfl rfl rfl ?_
  refine j_aload_n (q := 18) (i := 1) (n := 1) dX0_copyFrom_17 rfl rfl rfl ?_
  refine g_X0_knownCount (q := 21) wF_X0_30 hc1 dX0_copyFrom_18 rfl ?_
  refine p_X0_knownCount (q := 24) dm_le wF_X0_30 hc0 dX0_copyFrom_21 rfl (fun g3 => ?_)
  refine j_iconst (q := 25) (v := (nI 0)) dX0_copyFrom_24 rfl rfl ?_
  refine j_istore_n (q := 26) (n := 2) (lv' := [(2, .int (nI 0)), (0, .ref (za z 70 c0)), (1, .ref (za z 70 c1))]) dX0_copyFrom_25 rfl (Nat.le_of_ble_eq_true rfl) rfl rfl ?_
  refine j_lv [1, 2, 0] (lv' := [(0, .ref (za z 70 c0)), (1, .ref (za z 70 c1)), (2, .int (nI 0))]) rfl ?_
  exact t_X0_copyFrom_L26 z gm c0 c1 hc0 hc1 FU g3 (nI 0)
-- CopierJobs$Seen.add(III)I
abbrev rm_X4_add : Room := { frames := 1, cells := 0, slots := 0, locals := 22 }
theorem cv_X4_add : CV yX4_add cX4_add 4 (some .int) 3 := ⟨wC_X4_add, wI_X4_add, wS_X4_add, wZ_X4, by decide +kernel⟩
def m_X4_add (g : zG) (a0 : Int32) (a1 : Int32) (a2 : Int32) : Option (Int32 × zG) := (m_X6_put g 41 0 (gi g 40 0 0) a0).bind fun g1 => (m_X6_put g1 42 0 (gi g1 40 0 0) a1).bind fun g2 => (m_X6_put g2 43 0 (gi g2 40 0 0) a2).bind fun g3 => bd (ui g3 40 0 0 ((gi g3 40 0 0) + (nI 1))) fun g4 => some (gi g4 40 0 0, g4)
set_option maxRecDepth 100000 in
set_option maxHeartbeats 4000000 in
theorem c_X4_add (l : Launch) (z : zE) (gm : zG) (g : zG) (a0 : Int32) (a1 : Int32) (a2 : Int32) : ∀ x, m_X4_add g a0 a1 a2 = some x → Ms dm l yX4_add cX4_add 4 (some .int) rm_X4_add z [.ref (za z 74 0), .int a0, .int a1, .int a2] ((wx z gm) g) (osi x) ((wx z gm) ((fun x => x.2) x)) := by
  refine ms_of (Wf := (wx z gm)) (ri := .ireturn) (out := osi) (nxt := (fun x => x.2)) (ok := (fun _ => True)) (lv := [(0, .ref (za z 74 0)), (1, .int a0), (2, .int a1), (3, .int a2)]) (by decide) ⟨rfl, rfl⟩ (Nat.le_of_ble_eq_true rfl) rfl (en_i (out := fun x : Int32 × zG => x.1)) (fun p e s m below meth c => ?_)
  refine j_eq (M2 := (m_X6_put g 41 0 (gi g 40 0 0) a0).bind fun g1 => (m_X6_put g1 42 0 (gi g1 40 0 0) a1).bind fun g2 => (m_X6_put g2 43 0 (gi g2 40 0 0) a2).bind fun g3 => bd (ui g3 40 0 0 ((gi g3 40 0 0) + (nI 1))) fun g4 => some (gi g4 40 0 0, g4)) rfl ?_
  refine j_aload_n (q := 1) (i := 0) (n := 0) dX4_add_0 rfl rfl rfl ?_
  refine g_X4_sheets (q := 4) wF_X4_9 (Nat.le_of_ble_eq_true rfl) dX4_add_1 rfl ?_
  refine j_aload_n (q := 5) (i := 0) (n := 0) dX4_add_4 rfl rfl rfl ?_
  refine g_X4_size (q := 8) wF_X4_24 (Nat.le_of_ble_eq_true rfl) dX4_add_5 rfl ?_
  refine j_iload_n (q := 9) (i := 1) (n := 1) dX4_add_8 rfl rfl rfl ?_
  refine j_sv (q := 12) (rn_N (R := rm_X4_add) (As := [.ref (za z 41 0), .int (gi g 40 0 0), .int a0]) (rest := []) (c_X6_put _ z gm g 41 0 isX_41 (Nat.le_of_ble_eq_true rfl) (gi g 40 0 0) a0) cv_X6_put wO_X4_28 ⟨rfl, rfl⟩ ⟨(Nat.le_of_ble_eq_true rfl), (Nat.le_of_ble_eq_true rfl)⟩ rfl (Nat.le_of_ble_eq_true rfl) dX4_add_9) rfl (fun g1 => ?_)
  refine j_aload_n (q := 13) (i := 0) (n := 0) dX4_add_12 rfl rfl rfl ?_
  refine g_X4_pages (q := 16) wF_X4_15 (Nat.le_of_ble_eq_true rfl) dX4_add_13 rfl ?_
  refine j_aload_n (q := 17) (i := 0) (n := 0) dX4_add_16 rfl rfl rfl ?_
  refine g_X4_size (q := 20) wF_X4_24 (Nat.le_of_ble_eq_true rfl) dX4_add_17 rfl ?_
  refine j_iload_n (q := 21) (i := 2) (n := 2) dX4_add_20 rfl rfl rfl ?_
  refine j_sv (q := 24) (rn_N (R := rm_X4_add) (As := [.ref (za z 42 0), .int (gi g1 40 0 0), .int a1]) (rest := []) (c_X6_put _ z gm g1 42 0 isX_42 (Nat.le_of_ble_eq_true rfl) (gi g1 40 0 0) a1) cv_X6_put wO_X4_28 ⟨rfl, rfl⟩ ⟨(Nat.le_of_ble_eq_true rfl), (Nat.le_of_ble_eq_true rfl)⟩ rfl (Nat.le_of_ble_eq_true rfl) dX4_add_21) rfl (fun g2 => ?_)
  refine j_aload_n (q := 25) (i := 0) (n := 0) dX4_add_24 rfl rfl rfl ?_
  refine g_X4_there (q := 28) wF_X4_18 (Nat.le_of_ble_eq_true rfl) dX4_add_25 rfl ?_
  refine j_aload_n (q := 29) (i := 0) (n := 0) dX4_add_28 rfl rfl rfl ?_
  refine g_X4_size (q := 32) wF_X4_24 (Nat.le_of_ble_eq_true rfl) dX4_add_29 rfl ?_
  refine j_iload_n (q := 33) (i := 3) (n := 3) dX4_add_32 rfl rfl rfl ?_
  refine j_sv (q := 36) (rn_N (R := rm_X4_add) (As := [.ref (za z 43 0), .int (gi g2 40 0 0), .int a2]) (rest := []) (c_X6_put _ z gm g2 43 0 isX_43 (Nat.le_of_ble_eq_true rfl) (gi g2 40 0 0) a2) cv_X6_put wO_X4_28 ⟨rfl, rfl⟩ ⟨(Nat.le_of_ble_eq_true rfl), (Nat.le_of_ble_eq_true rfl)⟩ rfl (Nat.le_of_ble_eq_true rfl) dX4_add_33) rfl (fun g3 => ?_)
  refine j_aload_n (q := 37) (i := 0) (n := 0) dX4_add_36 rfl rfl rfl ?_
  refine j_dup (q := 38) dX4_add_37 rfl rfl ?_
  refine g_X4_size (q := 41) wF_X4_24 (Nat.le_of_ble_eq_true rfl) dX4_add_38 rfl ?_
  refine j_iconst (q := 42) (v := (nI 1)) dX4_add_41 rfl rfl ?_
  refine j_iadd (q := 43) dX4_add_42 rfl ?_
  refine p_X4_size (q := 46) dm_le wF_X4_24 (Nat.le_of_ble_eq_true rfl) dX4_add_43 rfl (fun g4 => ?_)
  refine j_aload_n (q := 47) (i := 0) (n := 0) dX4_add_46 rfl rfl rfl ?_
  refine g_X4_size (q := 50) wF_X4_24 (Nat.le_of_ble_eq_true rfl) dX4_add_47 rfl ?_
  exact j_ret (x := (gi g4 40 0 0, g4)) dX4_add_50 ⟨trivial, rfl, rfl⟩
-- CopierJobs$Seen.forgetAll()I
abbrev rm_X4_forgetAll : Room := { frames := 0, cells := 0, slots := 0, locals := 0 }
theorem cv_X4_forgetAll : CV yX4_forgetAll cX4_forgetAll 2 (some .int) 0 := ⟨wC_X4_forgetAll, wI_X4_forgetAll, wS_X4_forgetAll, wZ_X4, by decide +kernel⟩
def m_X4_forgetAll (g : zG) : Option (Int32 × zG) := bd (ui g 40 0 0 (nI 0)) fun g1 => some (gi g 40 0 0, g1)
set_option maxRecDepth 100000 in
set_option maxHeartbeats 4000000 in
theorem c_X4_forgetAll (l : Launch) (z : zE) (gm : zG) (g : zG) : ∀ x, m_X4_forgetAll g = some x → Ms dm l yX4_forgetAll cX4_forgetAll 2 (some .int) rm_X4_forgetAll z [.ref (za z 74 0)] ((wx z gm) g) (osi x) ((wx z gm) ((fun x => x.2) x)) := by
  refine ms_of (Wf := (wx z gm)) (ri := .ireturn) (out := osi) (nxt := (fun x => x.2)) (ok := (fun _ => True)) (lv := [(0, .ref (za z 74 0))]) (by decide) ⟨rfl, rfl⟩ (Nat.le_of_ble_eq_true rfl) rfl (en_i (out := fun x : Int32 × zG => x.1)) (fun p e s m below meth c => ?_)
  refine j_eq (M2 := bd (ui g 40 0 0 (nI 0)) fun g1 => some (gi g 40 0 0, g1)) rfl ?_
  refine j_aload_n (q := 1) (i := 0) (n := 0) dX4_forgetAll_0 rfl rfl rfl ?_
  refine g_X4_size (q := 4) wF_X4_24 (Nat.le_of_ble_eq_true rfl) dX4_forgetAll_1 rfl ?_
  refine j_istore_n (q := 5) (n := 1) (lv' := [(1, .int (gi g 40 0 0)), (0, .ref (za z 74 0))]) dX4_forgetAll_4 rfl (Nat.le_of_ble_eq_true rfl) rfl rfl ?_
  refine j_aload_n (q := 6) (i := 1) (n := 0) dX4_forgetAll_5 rfl rfl rfl ?_
  refine j_iconst (q := 7) (v := (nI 0)) dX4_forgetAll_6 rfl rfl ?_
  refine p_X4_size (q := 10) dm_le wF_X4_24 (Nat.le_of_ble_eq_true rfl) dX4_forgetAll_7 rfl (fun g1 => ?_)
  refine j_iload_n (q := 11) (i := 0) (n := 1) dX4_forgetAll_10 rfl rfl rfl ?_
  exact j_ret (x := (gi g 40 0 0, g1)) dX4_forgetAll_11 ⟨trivial, rfl, rfl⟩
-- CopierJobs$Seen.fits(LCopierJobs$Job;)Z
abbrev rm_X4_fits : Room := { frames := 2, cells := 0, slots := 0, locals := 42 }
theorem cv_X4_fits : CV yX4_fits cX4_fits 5 (some .boolean) 1 := ⟨wC_X4_fits, wI_X4_fits, wS_X4_fits, wZ_X4, by decide +kernel⟩
def m_X4_fits_B69 (j0 : Nat) (g : zG) (K2 : Int32 → Option (Int32)) (x2 : Int32) (s0 : Int32) (s1 : Int32) : Option (Int32) := if s1 = s0 then K2 (x2 + (nI 1)) else some (nI 0)
set_option maxRecDepth 100000 in
set_option maxHeartbeats 4000000 in
theorem t_X4_fits_B69 {p : Program} {l : Launch} {e : Env} {s : State} {m : MethodId} {args : Array Value} {below : List Frame} {meth : Method} {c : Code} {cells slots : Nat} {Q : Int32 → State → Prop} (z : zE) (gm : zG) (j0 : Nat) (hj0 : j0 < dm 71) (g : zG) (K2 : Int32 → Option (Int32)) (hK2 : ∀ (x2 : Int32), zJ dm p l e rm_X4_fits s m args below meth c cX4_fits 5 yX4_fits.cls z cells slots (wx z gm) (fn (fun x => isb x = true) (fun _ => g) oi) .ireturn Q 2 [(0, .ref (za z 74 0)), (1, .ref (za z 71 j0)), (2, .int x2)] [] g (K2 x2)) (x2 : Int32) (s0 : Int32) (s1 : Int32) : zJ dm p l e rm_X4_fits s m args below meth c cX4_fits 5 yX4_fits.cls z cells slots (wx z gm) (fn (fun x => isb x = true) (fun _ => g) oi) .ireturn Q 69 [(0, .ref (za z 74 0)), (1, .ref (za z 71 j0)), (2, .int x2)] [.int s0, .int s1] g (m_X4_fits_B69 j0 g K2 x2 s0 s1) := by
  refine j_eq (M2 := if s1 = s0 then K2 (x2 + (nI 1)) else some (nI 0)) rfl ?_
  refine j_icmp_eq (tgt := 74) (q := 72) dX4_fits_69 rfl rfl ?_ ?_
  · refine j_iinc (q := 77) (n := 2) (i := 2) (v := x2 + (nI 1)) (lv' := [(2, .int (x2 + (nI 1))), (0, .ref (za z 74 0)), (1, .ref (za z 71 j0))]) dX4_fits_74 rfl rfl (Nat.le_of_ble_eq_true rfl) rfl rfl ?_
    refine j_goto (tgt := 2) dX4_fits_77 rfl ?_
    refine j_lv [1, 2, 0] (lv' := [(0, .ref (za z 74 0)), (1, .ref (za z 71 j0)), (2, .int (x2 + (nI 1)))]) rfl ?_
    exact hK2 (x2 + (nI 1))
  · refine j_iconst (q := 73) (v := (nI 0)) dX4_fits_72 rfl rfl ?_
    exact j_ret (x := (nI 0)) dX4_fits_73 ⟨rfl, rfl, rfl⟩
def m_X4_fits_B48 (j0 : Nat) (g : zG) (K2 : Int32 → Option (Int32)) (x2 : Int32) (s0 : Int32) : Option (Int32) := (m_X6_at g 43 0 x2).bind fun r3 => if r3 = (nI 1) then m_X4_fits_B69 j0 g K2 x2 (nI 1) s0 else m_X4_fits_B69 j0 g K2 x2 (nI 0) s0
set_option maxRecDepth 100000 in
set_option maxHeartbeats 4000000 in
theorem t_X4_fits_B48 {p : Program} {l : Launch} {e : Env} {s : State} {m : MethodId} {args : Array Value} {below : List Frame} {meth : Method} {c : Code} {cells slots : Nat} {Q : Int32 → State → Prop} (z : zE) (gm : zG) (j0 : Nat) (hj0 : j0 < dm 71) (g : zG) (K2 : Int32 → Option (Int32)) (hK2 : ∀ (x2 : Int32), zJ dm p l e rm_X4_fits s m args below meth c cX4_fits 5 yX4_fits.cls z cells slots (wx z gm) (fn (fun x => isb x = true) (fun _ => g) oi) .ireturn Q 2 [(0, .ref (za z 74 0)), (1, .ref (za z 71 j0)), (2, .int x2)] [] g (K2 x2)) (x2 : Int32) (s0 : Int32) : zJ dm p l e rm_X4_fits s m args below meth c cX4_fits 5 yX4_fits.cls z cells slots (wx z gm) (fn (fun x => isb x = true) (fun _ => g) oi) .ireturn Q 48 [(0, .ref (za z 74 0)), (1, .ref (za z 71 j0)), (2, .int x2)] [.int s0] g (m_X4_fits_B48 j0 g K2 x2 s0) := by
  refine j_eq (M2 := (m_X6_at g 43 0 x2).bind fun r3 => if r3 = (nI 1) then m_X4_fits_B69 j0 g K2 x2 (nI 1) s0 else m_X4_fits_B69 j0 g K2 x2 (nI 0) s0) rfl ?_
  refine j_istore (q := 50) (n := 4) (lv' := [(4, .int s0), (0, .ref (za z 74 0)), (1, .ref (za z 71 j0)), (2, .int x2)]) dX4_fits_48 (Nat.le_of_ble_eq_true rfl) rfl rfl ?_
  refine j_iload (q := 52) (i := 0) (n := 4) dX4_fits_50 rfl rfl ?_
  refine j_aload_n (q := 53) (i := 1) (n := 0) dX4_fits_52 rfl rfl rfl ?_
  refine g_X4_there (q := 56) wF_X4_18 (Nat.le_of_ble_eq_true rfl) dX4_fits_53 rfl ?_
  refine j_iload_n (q := 57) (i := 3) (n := 2) dX4_fits_56 rfl rfl rfl ?_
  refine j_ci (q := 60) (rn_N (R := rm_X4_fits) (As := [.ref (za z 43 0), .int x2]) (rest := [.int s0]) (c_X6_at _ z gm g 43 0 (Or.inl ⟨isX_43, (Nat.le_of_ble_eq_true rfl)⟩) x2) cv_X6_at wO_X4_45 ⟨rfl, rfl⟩ ⟨(Nat.le_of_ble_eq_true rfl), (Nat.le_of_ble_eq_true rfl)⟩ rfl (Nat.le_of_ble_eq_true rfl) dX4_fits_57) rfl (fun r3 => ?_)
  refine j_iconst (q := 61) (v := (nI 1)) dX4_fits_60 rfl rfl ?_
  refine j_icmp_ne (tgt := 68) (q := 64) dX4_fits_61 rfl rfl ?_ ?_
  · refine j_iconst (q := 69) (v := (nI 0)) dX4_fits_68 rfl rfl ?_
    refine j_lv [1, 2, 3] (lv' := [(0, .ref (za z 74 0)), (1, .ref (za z 71 j0)), (2, .int x2)]) rfl ?_
    exact t_X4_fits_B69 z gm j0 hj0 g K2 hK2 x2 (nI 0) s0
  · refine j_iconst (q := 65) (v := (nI 1)) dX4_fits_64 rfl rfl ?_
    refine j_goto (tgt := 69) dX4_fits_65 rfl ?_
    refine j_lv [1, 2, 3] (lv' := [(0, .ref (za z 74 0)), (1, .ref (za z 71 j0)), (2, .int x2)]) rfl ?_
    exact t_X4_fits_B69 z gm j0 hj0 g K2 hK2 x2 (nI 1) s0
def m_X4_fits_B47 (j0 : Nat) (g : zG) (K2 : Int32 → Option (Int32)) (x2 : Int32) : Option (Int32) := m_X4_fits_B48 j0 g K2 x2 (nI 0)
set_option maxRecDepth 100000 in
set_option maxHeartbeats 4000000 in
theorem t_X4_fits_B47 {p : Program} {l : Launch} {e : Env} {s : State} {m : MethodId} {args : Array Value} {below : List Frame} {meth : Method} {c : Code} {cells slots : Nat} {Q : Int32 → State → Prop} (z : zE) (gm : zG) (j0 : Nat) (hj0 : j0 < dm 71) (g : zG) (K2 : Int32 → Option (Int32)) (hK2 : ∀ (x2 : Int32), zJ dm p l e rm_X4_fits s m args below meth c cX4_fits 5 yX4_fits.cls z cells slots (wx z gm) (fn (fun x => isb x = true) (fun _ => g) oi) .ireturn Q 2 [(0, .ref (za z 74 0)), (1, .ref (za z 71 j0)), (2, .int x2)] [] g (K2 x2)) (x2 : Int32) : zJ dm p l e rm_X4_fits s m args below meth c cX4_fits 5 yX4_fits.cls z cells slots (wx z gm) (fn (fun x => isb x = true) (fun _ => g) oi) .ireturn Q 47 [(0, .ref (za z 74 0)), (1, .ref (za z 71 j0)), (2, .int x2)] [] g (m_X4_fits_B47 j0 g K2 x2) := by
  refine j_eq (M2 := m_X4_fits_B48 j0 g K2 x2 (nI 0)) rfl ?_
  refine j_iconst (q := 48) (v := (nI 0)) dX4_fits_47 rfl rfl ?_
  exact t_X4_fits_B48 z gm j0 hj0 g K2 hK2 x2 (nI 0)
def m_X4_fits_L2 (j0 : Nat) (g : zG) : Nat → Int32 → Option (Int32)
  | 0, _ => none
  | f + 1, x2 => if x2 < (gi g 40 0 0) then (m_X6_at g 41 0 x2).bind fun r1 => (m_X1_hasSheet g j0 r1).bind fun r2 => if r2 = (nI 0) then m_X4_fits_B47 j0 g (m_X4_fits_L2 j0 g f) x2 else (m_X1_frontOf g j0 r1).bind fun r4 => (m_X6_at g 42 0 x2).bind fun r5 => if r4 = r5 then m_X4_fits_B48 j0 g (m_X4_fits_L2 j0 g f) x2 (nI 1) else m_X4_fits_B47 j0 g (m_X4_fits_L2 j0 g f) x2 else some (nI 1)
set_option maxRecDepth 100000 in
set_option maxHeartbeats 4000000 in
theorem t_X4_fits_L2 {p : Program} {l : Launch} {e : Env} {s : State} {m : MethodId} {args : Array Value} {below : List Frame} {meth : Method} {c : Code} {cells slots : Nat} {Q : Int32 → State → Prop} (z : zE) (gm : zG) (j0 : Nat) (hj0 : j0 < dm 71) (g : zG) : ∀ (f : Nat) (x2 : Int32), zJ dm p l e rm_X4_fits s m args below meth c cX4_fits 5 yX4_fits.cls z cells slots (wx z gm) (fn (fun x => isb x = true) (fun _ => g) oi) .ireturn Q 2 [(0, .ref (za z 74 0)), (1, .ref (za z 71 j0)), (2, .int x2)] [] g (m_X4_fits_L2 j0 g f x2) := by
  intro f
  induction f with
  | zero => intro x2; exact j_none
  | succ f ih =>
    intro x2
    refine j_eq (M2 := if x2 < (gi g 40 0 0) then (m_X6_at g 41 0 x2).bind fun r1 => (m_X1_hasSheet g j0 r1).bind fun r2 => if r2 = (nI 0) then m_X4_fits_B47 j0 g (m_X4_fits_L2 j0 g f) x2 else (m_X1_frontOf g j0 r1).bind fun r4 => (m_X6_at g 42 0 x2).bind fun r5 => if r4 = r5 then m_X4_fits_B48 j0 g (m_X4_fits_L2 j0 g f) x2 (nI 1) else m_X4_fits_B47 j0 g (m_X4_fits_L2 j0 g f) x2 else some (nI 1)) rfl ?_
    refine j_iload_n (q := 3) (i := 2) (n := 2) dX4_fits_2 rfl rfl rfl ?_
    refine j_aload_n (q := 4) (i := 0) (n := 0) dX4_fits_3 rfl rfl rfl ?_
    refine g_X4_size (q := 7) wF_X4_24 (Nat.le_of_ble_eq_true rfl) dX4_fits_4 rfl ?_
    refine j_icmp_ge (tgt := 80) (q := 10) dX4_fits_7 rfl rfl ?_ ?_
    · refine j_iconst (q := 81) (v := (nI 1)) dX4_fits_80 rfl rfl ?_
      exact j_ret (x := (nI 1)) dX4_fits_81 ⟨rfl, rfl, rfl⟩
    · refine j_aload_n (q := 11) (i := 0) (n := 0) dX4_fits_10 rfl rfl rfl ?_
      refine g_X4_sheets (q := 14) wF_X4_9 (Nat.le_of_ble_eq_true rfl) dX4_fits_11 rfl ?_
      refine j_iload_n (q := 15) (i := 2) (n := 2) dX4_fits_14 rfl rfl rfl ?_
      refine j_ci (q := 18) (rn_N (R := rm_X4_fits) (As := [.ref (za z 41 0), .int x2]) (rest := []) (c_X6_at _ z gm g 41 0 (Or.inl ⟨isX_41, (Nat.le_of_ble_eq_true rfl)⟩) x2) cv_X6_at wO_X4_45 ⟨rfl, rfl⟩ ⟨(Nat.le_of_ble_eq_true rfl), (Nat.le_of_ble_eq_true rfl)⟩ rfl (Nat.le_of_ble_eq_true rfl) dX4_fits_15) rfl (fun r1 => ?_)
      refine j_istore_n (q := 19) (n := 3) (lv' := [(3, .int r1), (0, .ref (za z 74 0)), (1, .ref (za z 71 j0)), (2, .int x2)]) dX4_fits_18 rfl (Nat.le_of_ble_eq_true rfl) rfl rfl ?_
      refine j_aload_n (q := 20) (i := 2) (n := 1) dX4_fits_19 rfl rfl rfl ?_
      refine j_iload_n (q := 21) (i := 0) (n := 3) dX4_fits_20 rfl rfl rfl ?_
      refine j_ci (q := 24) (rn_V (R := rm_X4_fits) (As := [.int r1]) (rest := []) (c_X1_hasSheet _ z gm g j0 hj0 r1) cv_X1_hasSheet wM_X4_49 ⟨rfl, rfl⟩ ⟨(Nat.le_of_ble_eq_true rfl), (Nat.le_of_ble_eq_true rfl)⟩ hj0 rfl rfl rfl (Nat.le_of_ble_eq_true rfl) dX4_fits_21) rfl (fun r2 => ?_)
      refine j_if_eq (tgt := 47) (q := 27) dX4_fits_24 rfl rfl ?_ ?_
      · refine j_lv [1, 2, 3] (lv' := [(0, .ref (za z 74 0)), (1, .ref (za z 71 j0)), (2, .int x2)]) rfl ?_
        exact t_X4_fits_B47 z gm j0 hj0 g (m_X4_fits_L2 j0 g f) ih x2
      · refine j_aload_n (q := 28) (i := 2) (n := 1) dX4_fits_27 rfl rfl rfl ?_
        refine j_iload_n (q := 29) (i := 0) (n := 3) dX4_fits_28 rfl rfl rfl ?_
        refine j_ci (q := 32) (rn_V (R := rm_X4_fits) (As := [.int r1]) (rest := []) (c_X1_frontOf _ z gm g j0 hj0 r1) cv_X1_frontOf wM_X4_55 ⟨rfl, rfl⟩ ⟨(Nat.le_of_ble_eq_true rfl), (Nat.le_of_ble_eq_true rfl)⟩ hj0 rfl rfl rfl (Nat.le_of_ble_eq_true rfl) dX4_fits_29) rfl (fun r4 => ?_)
        refine j_aload_n (q := 33) (i := 1) (n := 0) dX4_fits_32 rfl rfl rfl ?_
        refine g_X4_pages (q := 36) wF_X4_15 (Nat.le_of_ble_eq_true rfl) dX4_fits_33 rfl ?_
        refine j_iload_n (q := 37) (i := 3) (n := 2) dX4_fits_36 rfl rfl rfl ?_
        refine j_ci (q := 40) (rn_N (R := rm_X4_fits) (As := [.ref (za z 42 0), .int x2]) (rest := [.int r4]) (c_X6_at _ z gm g 42 0 (Or.inl ⟨isX_42, (Nat.le_of_ble_eq_true rfl)⟩) x2) cv_X6_at wO_X4_45 ⟨rfl, rfl⟩ ⟨(Nat.le_of_ble_eq_true rfl), (Nat.le_of_ble_eq_true rfl)⟩ rfl (Nat.le_of_ble_eq_true rfl) dX4_fits_37) rfl (fun r5 => ?_)
        refine j_icmp_ne (tgt := 47) (q := 43) dX4_fits_40 rfl rfl ?_ ?_
        · refine j_lv [1, 2, 3] (lv' := [(0, .ref (za z 74 0)), (1, .ref (za z 71 j0)), (2, .int x2)]) rfl ?_
          exact t_X4_fits_B47 z gm j0 hj0 g (m_X4_fits_L2 j0 g f) ih x2
        · refine j_iconst (q := 44) (v := (nI 1)) dX4_fits_43 rfl rfl ?_
          refine j_goto (tgt := 48) dX4_fits_44 rfl ?_
          refine j_lv [1, 2, 3] (lv' := [(0, .ref (za z 74 0)), (1, .ref (za z 71 j0)), (2, .int x2)]) rfl ?_
          exact t_X4_fits_B48 z gm j0 hj0 g (m_X4_fits_L2 j0 g f) ih x2 (nI 1)
def m_X4_fits (g : zG) (j0 : Nat) : Option (Int32) := m_X4_fits_L2 j0 g FU (nI 0)
set_option maxRecDepth 100000 in
set_option maxHeartbeats 4000000 in
theorem c_X4_fits (l : Launch) (z : zE) (gm : zG) (g : zG) (j0 : Nat) (hj0 : j0 < dm 71) : ∀ x, m_X4_fits g j0 = some x → Ms dm l yX4_fits cX4_fits 5 (some .boolean) rm_X4_fits z [.ref (za z 74 0), .ref (za z 71 j0)] ((wx z gm) g) (oi x) ((wx z gm) ((fun _ => g) x)) := by
  refine ms_of (Wf := (wx z gm)) (ri := .ireturn) (out := oi) (nxt := (fun _ => g)) (ok := (fun x => isb x = true)) (lv := [(0, .ref (za z 74 0)), (1, .ref (za z 71 j0))]) (by decide) ⟨rfl, rfl⟩ (Nat.le_of_ble_eq_true rfl) rfl (en_z (out := fun x => x)) (fun p e s m below meth c => ?_)
  refine j_eq (M2 := m_X4_fits_L2 j0 g FU (nI 0)) rfl ?_
  refine j_iconst (q := 1) (v := (nI 0)) dX4_fits_0 rfl rfl ?_
  refine j_istore_n (q := 2) (n := 2) (lv' := [(2, .int (nI 0)), (0, .ref (za z 74 0)), (1, .ref (za z 71 j0))]) dX4_fits_1 rfl (Nat.le_of_ble_eq_true rfl) rfl rfl ?_
  refine j_lv [1, 2, 0] (lv' := [(0, .ref (za z 74 0)), (1, .ref (za z 71 j0)), (2, .int (nI 0))]) rfl ?_
  exact t_X4_fits_L2 z gm j0 hj0 g FU (nI 0)
-- CopierJobs$Seen.fittingOf(LCopierJobs$Plan;)I
abbrev rm_X4_fittingOf : Room := { frames := 3, cells := 0, slots := 0, locals := 66 }
theorem cv_X4_fittingOf : CV yX4_fittingOf cX4_fittingOf 5 (some .int) 1 := ⟨wC_X4_fittingOf, wI_X4_fittingOf, wS_X4_fittingOf, wZ_X4, by decide +kernel⟩
def m_X4_fittingOf_B39 (p0 : Nat) (g : zG) (K4 : Int32 → Int32 → Option (Int32)) (x2 : Int32) (x3 : Int32) : Option (Int32) := K4 x2 (x3 + (nI 1))
set_option maxRecDepth 100000 in
set_option maxHeartbeats 4000000 in
theorem t_X4_fittingOf_B39 {p : Program} {l : Launch} {e : Env} {s : State} {m : MethodId} {args : Array Value} {below : List Frame} {meth : Method} {c : Code} {cells slots : Nat} {Q : Int32 → State → Prop} (z : zE) (gm : zG) (p0 : Nat) (hp0 : p0 < dm 73) (g : zG) (K4 : Int32 → Int32 → Option (Int32)) (hK4 : ∀ (x2 : Int32) (x3 : Int32), zJ dm p l e rm_X4_fittingOf s m args below meth c cX4_fittingOf 5 yX4_fittingOf.cls z cells slots (wx z gm) (fn (fun _ => True) (fun _ => g) oi) .ireturn Q 4 [(0, .ref (za z 74 0)), (1, .ref (za z 73 p0)), (2, .int x2), (3, .int x3)] [] g (K4 x2 x3)) (x2 : Int32) (x3 : Int32) : zJ dm p l e rm_X4_fittingOf s m args below meth c cX4_fittingOf 5 yX4_fittingOf.cls z cells slots (wx z gm) (fn (fun _ => True) (fun _ => g) oi) .ireturn Q 39 [(0, .ref (za z 74 0)), (1, .ref (za z 73 p0)), (2, .int x2), (3, .int x3)] [] g (m_X4_fittingOf_B39 p0 g K4 x2 x3) := by
  refine j_eq (M2 := K4 x2 (x3 + (nI 1))) rfl ?_
  refine j_iinc (q := 42) (n := 3) (i := 3) (v := x3 + (nI 1)) (lv' := [(3, .int (x3 + (nI 1))), (0, .ref (za z 74 0)), (1, .ref (za z 73 p0)), (2, .int x2)]) dX4_fittingOf_39 rfl rfl (Nat.le_of_ble_eq_true rfl) rfl rfl ?_
  refine j_goto (tgt := 4) dX4_fittingOf_42 rfl ?_
  refine j_lv [1, 2, 3, 0] (lv' := [(0, .ref (za z 74 0)), (1, .ref (za z 73 p0)), (2, .int x2), (3, .int (x3 + (nI 1)))]) rfl ?_
  exact hK4 x2 (x3 + (nI 1))
def m_X4_fittingOf_L4 (p0 : Nat) (g : zG) : Nat → Int32 → Int32 → Option (Int32)
  | 0, _, _ => none
  | f + 1, x2, x3 => if x3 < (gi g 12 p0 0) then (m_X3_jobAt g p0 x3).bind fun x => oc x (m_X4_fittingOf_B39 p0 g (m_X4_fittingOf_L4 p0 g f) x2 x3) (fun n1 => gd (n1 < dm 71) ((m_X4_fits g n1).bind fun r3 => if r3 = (nI 0) then m_X4_fittingOf_B39 p0 g (m_X4_fittingOf_L4 p0 g f) x2 x3 else bd (x2 ||| ((nI 1) <<< (x3 &&& 31))) fun v4 => m_X4_fittingOf_B39 p0 g (m_X4_fittingOf_L4 p0 g f) v4 x3)) else some x2
set_option maxRecDepth 100000 in
set_option maxHeartbeats 4000000 in
theorem t_X4_fittingOf_L4 {p : Program} {l : Launch} {e : Env} {s : State} {m : MethodId} {args : Array Value} {below : List Frame} {meth : Method} {c : Code} {cells slots : Nat} {Q : Int32 → State → Prop} (z : zE) (gm : zG) (p0 : Nat) (hp0 : p0 < dm 73) (g : zG) : ∀ (f : Nat) (x2 : Int32) (x3 : Int32), zJ dm p l e rm_X4_fittingOf s m args below meth c cX4_fittingOf 5 yX4_fittingOf.cls z cells slots (wx z gm) (fn (fun _ => True) (fun _ => g) oi) .ireturn Q 4 [(0, .ref (za z 74 0)), (1, .ref (za z 73 p0)), (2, .int x2), (3, .int x3)] [] g (m_X4_fittingOf_L4 p0 g f x2 x3) := by
  intro f
  induction f with
  | zero => intro x2 x3; exact j_none
  | succ f ih =>
    intro x2 x3
    refine j_eq (M2 := if x3 < (gi g 12 p0 0) then (m_X3_jobAt g p0 x3).bind fun x => oc x (m_X4_fittingOf_B39 p0 g (m_X4_fittingOf_L4 p0 g f) x2 x3) (fun n1 => gd (n1 < dm 71) ((m_X4_fits g n1).bind fun r3 => if r3 = (nI 0) then m_X4_fittingOf_B39 p0 g (m_X4_fittingOf_L4 p0 g f) x2 x3 else bd (x2 ||| ((nI 1) <<< (x3 &&& 31))) fun v4 => m_X4_fittingOf_B39 p0 g (m_X4_fittingOf_L4 p0 g f) v4 x3)) else some x2) rfl ?_
    refine j_iload_n (q := 5) (i := 3) (n := 3) dX4_fittingOf_4 rfl rfl rfl ?_
    refine j_aload_n (q := 6) (i := 1) (n := 1) dX4_fittingOf_5 rfl rfl rfl ?_
    refine gN_X3_jobCount (q := 9) wG_X4_32 hp0 dX4_fittingOf_6 rfl ?_
    refine j_icmp_ge (tgt := 45) (q := 12) dX4_fittingOf_9 rfl rfl ?_ ?_
    · refine j_iload_n (q := 46) (i := 2) (n := 2) dX4_fittingOf_45 rfl rfl rfl ?_
      exact j_ret (x := x2) dX4_fittingOf_46 ⟨trivial, rfl, rfl⟩
    · refine j_aload_n (q := 13) (i := 1) (n := 1) dX4_fittingOf_12 rfl rfl rfl ?_
      refine j_iload_n (q := 14) (i := 3) (n := 3) dX4_fittingOf_13 rfl rfl rfl ?_
      refine j_crs (k0 := 71) (q := 17) (rn_V (R := rm_X4_fittingOf) (As := [.int x3]) (rest := []) (c_X3_jobAt _ z gm g p0 hp0 x3) cv_X3_jobAt wM_X4_37 ⟨rfl, rfl⟩ ⟨(Nat.le_of_ble_eq_true rfl), (Nat.le_of_ble_eq_true rfl)⟩ hp0 rfl rfl rfl (Nat.le_of_ble_eq_true rfl) dX4_fittingOf_14) rfl ?_ (fun n1 => ?_)
      · refine j_astoreN (q := 19) (n := 4) (lv' := [(4, .null), (0, .ref (za z 74 0)), (1, .ref (za z 73 p0)), (2, .int x2), (3, .int x3)]) dX4_fittingOf_17 (Nat.le_of_ble_eq_true rfl) rfl rfl ?_
        refine j_aloadN (q := 21) (i := 0) (n := 4) dX4_fittingOf_19 rfl rfl ?_
        refine j_nul0 (tgt := 39) dX4_fittingOf_21 rfl ?_
        refine j_lv [1, 2, 3, 4] (lv' := [(0, .ref (za z 74 0)), (1, .ref (za z 73 p0)), (2, .int x2), (3, .int x3)]) rfl ?_
        exact t_X4_fittingOf_B39 z gm p0 hp0 g (m_X4_fittingOf_L4 p0 g f) ih x2 x3
      · refine j_gd (fun hn2 => ?_)
        refine j_astore (q := 19) (n := 4) (lv' := [(4, .ref (za z 71 n1)), (0, .ref (za z 74 0)), (1, .ref (za z 73 p0)), (2, .int x2), (3, .int x3)]) dX4_fittingOf_17 (Nat.le_of_ble_eq_true rfl) rfl rfl ?_
        refine j_aload (q := 21) (i := 0) (n := 4) dX4_fittingOf_19 rfl rfl ?_
        refine j_nul1 (q := 24) dX4_fittingOf_21 rfl ?_
        refine j_aload_n (q := 25) (i := 1) (n := 0) dX4_fittingOf_24 rfl rfl rfl ?_
        refine j_aload (q := 27) (i := 0) (n := 4) dX4_fittingOf_25 rfl rfl ?_
        refine j_ci (q := 30) (rn_V (R := rm_X4_fittingOf) (As := [.ref (za z 71 n1)]) (rest := []) (c_X4_fits _ z gm g n1 hn2) cv_X4_fits wM_X4_41 ⟨rfl, rfl⟩ ⟨(Nat.le_of_ble_eq_true rfl), (Nat.le_of_ble_eq_true rfl)⟩ (Nat.le_of_ble_eq_true rfl) rfl rfl rfl (Nat.le_of_ble_eq_true rfl) dX4_fittingOf_27) rfl (fun r3 => ?_)
        refine j_if_eq (tgt := 39) (q := 33) dX4_fittingOf_30 rfl rfl ?_ ?_
        · refine j_lv [1, 2, 3, 4] (lv' := [(0, .ref (za z 74 0)), (1, .ref (za z 73 p0)), (2, .int x2), (3, .int x3)]) rfl ?_
          exact t_X4_fittingOf_B39 z gm p0 hp0 g (m_X4_fittingOf_L4 p0 g f) ih x2 x3
        · refine j_iload_n (q := 34) (i := 3) (n := 2) dX4_fittingOf_33 rfl rfl rfl ?_
          refine j_iconst (q := 35) (v := (nI 1)) dX4_fittingOf_34 rfl rfl ?_
          refine j_iload_n (q := 36) (i := 4) (n := 3) dX4_fittingOf_35 rfl rfl rfl ?_
          refine j_ishl (q := 37) dX4_fittingOf_36 rfl ?_
          refine j_ior (q := 38) dX4_fittingOf_37 rfl ?_
          refine j_top (fun v4 => ?_)
          refine j_istore_n (q := 39) (n := 2) (lv' := [(2, .int v4), (4, .ref (za z 71 n1)), (0, .ref (za z 74 0)), (1, .ref (za z 73 p0)), (3, .int x3)]) dX4_fittingOf_38 rfl (Nat.le_of_ble_eq_true rfl) rfl rfl ?_
          refine j_lv [2, 3, 0, 4] (lv' := [(0, .ref (za z 74 0)), (1, .ref (za z 73 p0)), (2, .int v4), (3, .int x3)]) rfl ?_
          exact t_X4_fittingOf_B39 z gm p0 hp0 g (m_X4_fittingOf_L4 p0 g f) ih v4 x3
def m_X4_fittingOf (g : zG) (p0 : Nat) : Option (Int32) := m_X4_fittingOf_L4 p0 g FU (nI 0) (nI 0)
set_option maxRecDepth 100000 in
set_option maxHeartbeats 4000000 in
theorem c_X4_fittingOf (l : Launch) (z : zE) (gm : zG) (g : zG) (p0 : Nat) (hp0 : p0 < dm 73) : ∀ x, m_X4_fittingOf g p0 = some x → Ms dm l yX4_fittingOf cX4_fittingOf 5 (some .int) rm_X4_fittingOf z [.ref (za z 74 0), .ref (za z 73 p0)] ((wx z gm) g) (oi x) ((wx z gm) ((fun _ => g) x)) := by
  refine ms_of (Wf := (wx z gm)) (ri := .ireturn) (out := oi) (nxt := (fun _ => g)) (ok := (fun _ => True)) (lv := [(0, .ref (za z 74 0)), (1, .ref (za z 73 p0))]) (by decide) ⟨rfl, rfl⟩ (Nat.le_of_ble_eq_true rfl) rfl (en_i (out := fun x => x)) (fun p e s m below meth c => ?_)
  refine j_eq (M2 := m_X4_fittingOf_L4 p0 g FU (nI 0) (nI 0)) rfl ?_
  refine j_iconst (q := 1) (v := (nI 0)) dX4_fittingOf_0 rfl rfl ?_
  refine j_istore_n (q := 2) (n := 2) (lv' := [(2, .int (nI 0)), (0, .ref (za z 74 0)), (1, .ref (za z 73 p0))]) dX4_fittingOf_1 rfl (Nat.le_of_ble_eq_true rfl) rfl rfl ?_
  refine j_iconst (q := 3) (v := (nI 0)) dX4_fittingOf_2 rfl rfl ?_
  refine j_istore_n (q := 4) (n := 3) (lv' := [(3, .int (nI 0)), (2, .int (nI 0)), (0, .ref (za z 74 0)), (1, .ref (za z 73 p0))]) dX4_fittingOf_3 rfl (Nat.le_of_ble_eq_true rfl) rfl rfl ?_
  refine j_lv [2, 3, 1, 0] (lv' := [(0, .ref (za z 74 0)), (1, .ref (za z 73 p0)), (2, .int (nI 0)), (3, .int (nI 0))]) rfl ?_
  exact t_X4_fittingOf_L4 z gm p0 hp0 g FU (nI 0) (nI 0)
-- CopierJobs$Seen.countFronts(LCopierJobs$Plan;II)V
abbrev rm_X4_countFronts : Room := { frames := 2, cells := 0, slots := 0, locals := 42 }
theorem cv_X4_countFronts : CV yX4_countFronts cX4_countFronts 7 (none) 3 := ⟨wC_X4_countFronts, wI_X4_countFronts, wS_X4_countFronts, wZ_X4, by decide +kernel⟩
def m_X4_countFronts_B77 (p0 : Nat) (a1 : Int32) (a2 : Int32) (K11 : zG → Int32 → Option (zG)) (g : zG) (x4 : Int32) : Option (zG) := K11 g (x4 + (nI 1))
set_option maxRecDepth 100000 in
set_option maxHeartbeats 4000000 in
theorem t_X4_countFronts_B77 {p : Program} {l : Launch} {e : Env} {s : State} {m : MethodId} {args : Array Value} {below : List Frame} {meth : Method} {c : Code} {cells slots : Nat} {Q : zG → State → Prop} (z : zE) (gm : zG) (p0 : Nat) (a1 : Int32) (a2 : Int32) (hp0 : p0 < dm 73) (K11 : zG → Int32 → Option (zG)) (hK11 : ∀ (g : zG) (x4 : Int32), zJ dm p l e rm_X4_countFronts s m args below meth c cX4_countFronts 7 yX4_countFronts.cls z cells slots (wx z gm) (fn (fun _ => True) (fun x => x) osv) .return_ Q 11 [(0, .ref (za z 74 0)), (1, .ref (za z 73 p0)), (2, .int a1), (3, .int a2), (4, .int x4)] [] g (K11 g x4)) (g : zG) (x4 : Int32) : zJ dm p l e rm_X4_countFronts s m args below meth c cX4_countFronts 7 yX4_countFronts.cls z cells slots (wx z gm) (fn (fun _ => True) (fun x => x) osv) .return_ Q 77 [(0, .ref (za z 74 0)), (1, .ref (za z 73 p0)), (2, .int a1), (3, .int a2), (4, .int x4)] [] g (m_X4_countFronts_B77 p0 a1 a2 K11 g x4) := by
  refine j_eq (M2 := K11 g (x4 + (nI 1))) rfl ?_
  refine j_iinc (q := 80) (n := 4) (i := 4) (v := x4 + (nI 1)) (lv' := [(4, .int (x4 + (nI 1))), (0, .ref (za z 74 0)), (1, .ref (za z 73 p0)), (2, .int a1), (3, .int a2)]) dX4_countFronts_77 rfl rfl (Nat.le_of_ble_eq_true rfl) rfl rfl ?_
  refine j_goto (tgt := 11) dX4_countFronts_80 rfl ?_
  refine j_lv [1, 2, 3, 4, 0] (lv' := [(0, .ref (za z 74 0)), (1, .ref (za z 73 p0)), (2, .int a1), (3, .int a2), (4, .int (x4 + (nI 1)))]) rfl ?_
  exact hK11 g (x4 + (nI 1))
def m_X4_countFronts_L11 (p0 : Nat) (a1 : Int32) (a2 : Int32) : Nat → zG → Int32 → Option (zG)
  | 0, _, _ => none
  | f + 1, g, x4 => if x4 < (nI 6) then (m_X3_jobAt g p0 x4).bind fun x => oc x (if ((a1 >>> (x4 &&& 31)) &&& (nI 1)) = (nI 0) then m_X4_countFronts_B77 p0 a1 a2 (m_X4_countFronts_L11 p0 a1 a2 f) g x4 else m_X4_countFronts_B77 p0 a1 a2 (m_X4_countFronts_L11 p0 a1 a2 f) g x4) (fun n2 => gd (n2 < dm 71) (if ((a1 >>> (x4 &&& 31)) &&& (nI 1)) = (nI 0) then m_X4_countFronts_B77 p0 a1 a2 (m_X4_countFronts_L11 p0 a1 a2 f) g x4 else (m_X1_hasSheet g n2 a2).bind fun r4 => if r4 = (nI 0) then m_X4_countFronts_B77 p0 a1 a2 (m_X4_countFronts_L11 p0 a1 a2 f) g x4 else (m_X1_frontOf g n2 a2).bind fun r5 => (m_X6_at g 44 0 r5).bind fun r6 => (m_X6_put g 44 0 r5 (r6 + (nI 1))).bind fun g7 => m_X4_countFronts_B77 p0 a1 a2 (m_X4_countFronts_L11 p0 a1 a2 f) g7 x4)) else some g
set_option maxRecDepth 100000 in
set_option maxHeartbeats 4000000 in
theorem t_X4_countFronts_L11 {p : Program} {l : Launch} {e : Env} {s : State} {m : MethodId} {args : Array Value} {below : List Frame} {meth : Method} {c : Code} {cells slots : Nat} {Q : zG → State → Prop} (z : zE) (gm : zG) (p0 : Nat) (a1 : Int32) (a2 : Int32) (hp0 : p0 < dm 73) : ∀ (f : Nat) (g : zG) (x4 : Int32), zJ dm p l e rm_X4_countFronts s m args below meth c cX4_countFronts 7 yX4_countFronts.cls z cells slots (wx z gm) (fn (fun _ => True) (fun x => x) osv) .return_ Q 11 [(0, .ref (za z 74 0)), (1, .ref (za z 73 p0)), (2, .int a1), (3, .int a2), (4, .int x4)] [] g (m_X4_countFronts_L11 p0 a1 a2 f g x4) := by
  intro f
  induction f with
  | zero => intro g x4; exact j_none
  | succ f ih =>
    intro g x4
    refine j_eq (M2 := if x4 < (nI 6) then (m_X3_jobAt g p0 x4).bind fun x => oc x (if ((a1 >>> (x4 &&& 31)) &&& (nI 1)) = (nI 0) then m_X4_countFronts_B77 p0 a1 a2 (m_X4_countFronts_L11 p0 a1 a2 f) g x4 else m_X4_countFronts_B77 p0 a1 a2 (m_X4_countFronts_L11 p0 a1 a2 f) g x4) (fun n2 => gd (n2 < dm 71) (if ((a1 >>> (x4 &&& 31)) &&& (nI 1)) = (nI 0) then m_X4_countFronts_B77 p0 a1 a2 (m_X4_countFronts_L11 p0 a1 a2 f) g x4 else (m_X1_hasSheet g n2 a2).bind fun r4 => if r4 = (nI 0) then m_X4_countFronts_B77 p0 a1 a2 (m_X4_countFronts_L11 p0 a1 a2 f) g x4 else (m_X1_frontOf g n2 a2).bind fun r5 => (m_X6_at g 44 0 r5).bind fun r6 => (m_X6_put g 44 0 r5 (r6 + (nI 1))).bind fun g7 => m_X4_countFronts_B77 p0 a1 a2 (m_X4_countFronts_L11 p0 a1 a2 f) g7 x4)) else some g) rfl ?_
    refine j_iload (q := 13) (i := 4) (n := 4) dX4_countFronts_11 rfl rfl ?_
    refine j_bipush (q := 15) (v := (nI 6)) dX4_countFronts_13 rfl rfl ?_
    refine j_icmp_ge (tgt := 83) (q := 18) dX4_countFronts_15 rfl rfl ?_ ?_
    · exact j_ret (x := g) dX4_countFronts_83 ⟨trivial, rfl, rfl⟩
    · refine j_aload_n (q := 19) (i := 1) (n := 1) dX4_countFronts_18 rfl rfl rfl ?_
      refine j_iload (q := 21) (i := 4) (n := 4) dX4_countFronts_19 rfl rfl ?_
      refine j_crs (k0 := 71) (q := 24) (rn_V (R := rm_X4_countFronts) (As := [.int x4]) (rest := []) (c_X3_jobAt _ z gm g p0 hp0 x4) cv_X3_jobAt wM_X4_37 ⟨rfl, rfl⟩ ⟨(Nat.le_of_ble_eq_true rfl), (Nat.le_of_ble_eq_true rfl)⟩ hp0 rfl rfl rfl (Nat.le_of_ble_eq_true rfl) dX4_countFronts_21) rfl ?_ (fun n2 => ?_)
      · refine j_astoreN (q := 26) (n := 5) (lv' := [(5, .null), (0, .ref (za z 74 0)), (1, .ref (za z 73 p0)), (2, .int a1), (3, .int a2), (4, .int x4)]) dX4_countFronts_24 (Nat.le_of_ble_eq_true rfl) rfl rfl ?_
        refine j_iload_n (q := 27) (i := 3) (n := 2) dX4_countFronts_26 rfl rfl rfl ?_
        refine j_iload (q := 29) (i := 5) (n := 4) dX4_countFronts_27 rfl rfl ?_
        refine j_ishr (q := 30) dX4_countFronts_29 rfl ?_
        refine j_iconst (q := 31) (v := (nI 1)) dX4_countFronts_30 rfl rfl ?_
        refine j_iand (q := 32) dX4_countFronts_31 rfl ?_
        refine j_if_eq (tgt := 77) (q := 35) dX4_countFronts_32 rfl rfl ?_ ?_
        · refine j_lv [1, 2, 3, 4, 5] (lv' := [(0, .ref (za z 74 0)), (1, .ref (za z 73 p0)), (2, .int a1), (3, .int a2), (4, .int x4)]) rfl ?_
          exact t_X4_countFronts_B77 z gm p0 a1 a2 hp0 (m_X4_countFronts_L11 p0 a1 a2 f) ih g x4
        · refine j_aloadN (q := 37) (i := 0) (n := 5) dX4_countFronts_35 rfl rfl ?_
          refine j_nul0 (tgt := 77) dX4_countFronts_37 rfl ?_
          refine j_lv [1, 2, 3, 4, 5] (lv' := [(0, .ref (za z 74 0)), (1, .ref (za z 73 p0)), (2, .int a1), (3, .int a2), (4, .int x4)]) rfl ?_
          exact t_X4_countFronts_B77 z gm p0 a1 a2 hp0 (m_X4_countFronts_L11 p0 a1 a2 f) ih g x4
      · refine j_gd (fun hn3 => ?_)
        refine j_astore (q := 26) (n := 5) (lv' := [(5, .ref (za z 71 n2)), (0, .ref (za z 74 0)), (1, .ref (za z 73 p0)), (2, .int a1), (3, .int a2), (4, .int x4)]) dX4_countFronts_24 (Nat.le_of_ble_eq_true rfl) rfl rfl ?_
        refine j_iload_n (q := 27) (i := 3) (n := 2) dX4_countFronts_26 rfl rfl rfl ?_
        refine j_iload (q := 29) (i := 5) (n := 4) dX4_countFronts_27 rfl rfl ?_
        refine j_ishr (q := 30) dX4_countFronts_29 rfl ?_
        refine j_iconst (q := 31) (v := (nI 1)) dX4_countFronts_30 rfl rfl ?_
        refine j_iand (q := 32) dX4_countFronts_31 rfl ?_
        refine j_if_eq (tgt := 77) (q := 35) dX4_countFronts_32 rfl rfl ?_ ?_
        · refine j_lv [1, 2, 3, 4, 5] (lv' := [(0, .ref (za z 74 0)), (1, .ref (za z 73 p0)), (2, .int a1), (3, .int a2), (4, .int x4)]) rfl ?_
          exact t_X4_countFronts_B77 z gm p0 a1 a2 hp0 (m_X4_countFronts_L11 p0 a1 a2 f) ih g x4
        · refine j_aload (q := 37) (i := 0) (n := 5) dX4_countFronts_35 rfl rfl ?_
          refine j_nul1 (q := 40) dX4_countFronts_37 rfl ?_
          refine j_aload (q := 42) (i := 0) (n := 5) dX4_countFronts_40 rfl rfl ?_
          refine j_iload_n (q := 43) (i := 4) (n := 3) dX4_countFronts_42 rfl rfl rfl ?_
          refine j_ci (q := 46) (rn_V (R := rm_X4_countFronts) (As := [.int a2]) (rest := []) (c_X1_hasSheet _ z gm g n2 hn3 a2) cv_X1_hasSheet wM_X4_49 ⟨rfl, rfl⟩ ⟨(Nat.le_of_ble_eq_true rfl), (Nat.le_of_ble_eq_true rfl)⟩ hn3 rfl rfl rfl (Nat.le_of_ble_eq_true rfl) dX4_countFronts_43) rfl (fun r4 => ?_)
          refine j_if_eq (tgt := 77) (q := 49) dX4_countFronts_46 rfl rfl ?_ ?_
          · refine j_lv [1, 2, 3, 4, 5] (lv' := [(0, .ref (za z 74 0)), (1, .ref (za z 73 p0)), (2, .int a1), (3, .int a2), (4, .int x4)]) rfl ?_
            exact t_X4_countFronts_B77 z gm p0 a1 a2 hp0 (m_X4_countFronts_L11 p0 a1 a2 f) ih g x4
          · refine j_aload (q := 51) (i := 0) (n := 5) dX4_countFronts_49 rfl rfl ?_
            refine j_iload_n (q := 52) (i := 4) (n := 3) dX4_countFronts_51 rfl rfl rfl ?_
            refine j_ci (q := 55) (rn_V (R := rm_X4_countFronts) (As := [.int a2]) (rest := []) (c_X1_frontOf _ z gm g n2 hn3 a2) cv_X1_frontOf wM_X4_55 ⟨rfl, rfl⟩ ⟨(Nat.le_of_ble_eq_true rfl), (Nat.le_of_ble_eq_true rfl)⟩ hn3 rfl rfl rfl (Nat.le_of_ble_eq_true rfl) dX4_countFronts_52) rfl (fun r5 => ?_)
            refine j_istore (q := 57) (n := 6) (lv' := [(6, .int r5), (5, .ref (za z 71 n2)), (0, .ref (za z 74 0)), (1, .ref (za z 73 p0)), (2, .int a1), (3, .int a2), (4, .int x4)]) dX4_countFronts_55 (Nat.le_of_ble_eq_true rfl) rfl rfl ?_
            refine j_aload_n (q := 58) (i := 2) (n := 0) dX4_countFronts_57 rfl rfl rfl ?_
            refine g_X4_withFront (q := 61) wF_X4_21 (Nat.le_of_ble_eq_true rfl) dX4_countFronts_58 rfl ?_
            refine j_iload (q := 63) (i := 0) (n := 6) dX4_countFronts_61 rfl rfl ?_
            refine j_aload_n (q := 64) (i := 2) (n := 0) dX4_countFronts_63 rfl rfl rfl ?_
            refine g_X4_withFront (q := 67) wF_X4_21 (Nat.le_of_ble_eq_true rfl) dX4_countFronts_64 rfl ?_
            refine j_iload (q := 69) (i := 0) (n := 6) dX4_countFronts_67 rfl rfl ?_
            refine j_ci (q := 72) (rn_N (R := rm_X4_countFronts) (As := [.ref (za z 44 0), .int r5]) (rest := [.int r5, .ref (za z 44 0)]) (c_X6_at _ z gm g 44 0 (Or.inl ⟨isX_44, (Nat.le_of_ble_eq_true rfl)⟩) r5) cv_X6_at wO_X4_45 ⟨rfl, rfl⟩ ⟨(Nat.le_of_ble_eq_true rfl), (Nat.le_of_ble_eq_true rfl)⟩ rfl (Nat.le_of_ble_eq_true rfl) dX4_countFronts_69) rfl (fun r6 => ?_)
            refine j_iconst (q := 73) (v := (nI 1)) dX4_countFronts_72 rfl rfl ?_
            refine j_iadd (q := 74) dX4_countFronts_73 rfl ?_
            refine j_sv (q := 77) (rn_N (R := rm_X4_countFronts) (As := [.ref (za z 44 0), .int r5, .int (r6 + (nI 1))]) (rest := []) (c_X6_put _ z gm g 44 0 isX_44 (Nat.le_of_ble_eq_true rfl) r5 (r6 + (nI 1))) cv_X6_put wO_X4_28 ⟨rfl, rfl⟩ ⟨(Nat.le_of_ble_eq_true rfl), (Nat.le_of_ble_eq_true rfl)⟩ rfl (Nat.le_of_ble_eq_true rfl) dX4_countFronts_74) rfl (fun g7 => ?_)
            refine j_lv [2, 3, 4, 5, 6] (lv' := [(0, .ref (za z 74 0)), (1, .ref (za z 73 p0)), (2, .int a1), (3, .int a2), (4, .int x4)]) rfl ?_
            exact t_X4_countFronts_B77 z gm p0 a1 a2 hp0 (m_X4_countFronts_L11 p0 a1 a2 f) ih g7 x4
def m_X4_countFronts (g : zG) (p0 : Nat) (a1 : Int32) (a2 : Int32) : Option (zG) := (m_J7_fill_53178 g 44 0 (nI 0)).bind fun g1 => m_X4_countFronts_L11 p0 a1 a2 FU g1 (nI 0)
set_option maxRecDepth 100000 in
set_option maxHeartbeats 4000000 in
theorem c_X4_countFronts (l : Launch) (z : zE) (gm : zG) (g : zG) (p0 : Nat) (hp0 : p0 < dm 73) (a1 : Int32) (a2 : Int32) : ∀ x, m_X4_countFronts g p0 a1 a2 = some x → Ms dm l yX4_countFronts cX4_countFronts 7 (none) rm_X4_countFronts z [.ref (za z 74 0), .ref (za z 73 p0), .int a1, .int a2] ((wx z gm) g) (osv x) ((wx z gm) ((fun x => x) x)) := by
  refine ms_of (Wf := (wx z gm)) (ri := .return_) (out := osv) (nxt := (fun x => x)) (ok := (fun _ => True)) (lv := [(0, .ref (za z 74 0)), (1, .ref (za z 73 p0)), (2, .int a1), (3, .int a2)]) (by decide) ⟨rfl, rfl⟩ (Nat.le_of_ble_eq_true rfl) rfl (en_v ) (fun p e s m below meth c => ?_)
  refine j_eq (M2 := (m_J7_fill_53178 g 44 0 (nI 0)).bind fun g1 => m_X4_countFronts_L11 p0 a1 a2 FU g1 (nI 0)) rfl ?_
  refine j_aload_n (q := 1) (i := 0) (n := 0) dX4_countFronts_0 rfl rfl rfl ?_
  refine g_X4_withFront (q := 4) wF_X4_21 (Nat.le_of_ble_eq_true rfl) dX4_countFronts_1 rfl ?_
  refine j_iconst (q := 5) (v := (nI 0)) dX4_countFronts_4 rfl rfl ?_
  refine j_sv (q := 8) (rn_S (R := rm_X4_countFronts) (As := [.ref (za z 44 0), .int (nI 0)]) (rest := []) (c_J7_fill_53178 _ z gm g 44 0 isX_44 (Nat.le_of_ble_eq_true rfl) (nI 0)) cv_J7_fill_53178 wM_X4_59 ⟨rfl, rfl⟩ ⟨(Nat.le_of_ble_eq_true rfl), (Nat.le_of_ble_eq_true rfl)⟩ rfl (Nat.le_of_ble_eq_true rfl) dX4_countFronts_5) rfl (fun g1 => ?_)
  refine j_iconst (q := 9) (v := (nI 0)) dX4_countFronts_8 rfl rfl ?_
  refine j_istore (q := 11) (n := 4) (lv' := [(4, .int (nI 0)), (0, .ref (za z 74 0)), (1, .ref (za z 73 p0)), (2, .int a1), (3, .int a2)]) dX4_countFronts_9 (Nat.le_of_ble_eq_true rfl) rfl rfl ?_
  refine j_lv [1, 2, 3, 4, 0] (lv' := [(0, .ref (za z 74 0)), (1, .ref (za z 73 p0)), (2, .int a1), (3, .int a2), (4, .int (nI 0))]) rfl ?_
  exact t_X4_countFronts_L11 z gm p0 a1 a2 hp0 FU g1 (nI 0)
