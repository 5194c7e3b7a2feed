-- CopierJobsModel.placeOf(I)I
abbrev rm_X7_placeOf : Room := { frames := 0, cells := 0, slots := 0, locals := 0 }
theorem cv_X7_placeOf : CV yX7_placeOf cX7_placeOf 3 (some .int) 1 := ⟨wC_X7_placeOf, wI_X7_placeOf, wS_X7_placeOf, wZ_X7, by decide +kernel⟩
def m_X7_placeOf_L2 (a0 : Int32) (g : zG) : Nat → Int32 → Option (Int32)
  | 0, _ => none
  | f + 1, x2 => gd (inb (nI 3) 31 = true) (if x2 < (gi g 105 0 (nI 3).toNatClampNeg) then gd (inb ((nI 13) + x2) 31 = true) (if (gi g 105 0 ((nI 13) + x2).toNatClampNeg) = a0 then some x2 else m_X7_placeOf_L2 a0 g f (x2 + (nI 1))) else some (-9))
set_option maxRecDepth 100000 in
set_option maxHeartbeats 4000000 in
theorem t_X7_placeOf_L2 {p : Program} {l : Launch} {e : Env} {s : State} {m : MethodId} {args : Array Value} {below : List Frame} {meth : Method} {c : Code} {cells slots : Nat} {Q : Int32 → State → Prop} (z : zE) (gx : zG) (a0 : Int32) (g : zG) : ∀ (f : Nat) (x2 : Int32), zJ dm p l e rm_X7_placeOf s m args below meth c cX7_placeOf 3 yX7_placeOf.cls z cells slots (wm z gx) (fn (fun _ => True) (fun _ => g) oi) .ireturn Q 2 [(0, .ref (za z 77 0)), (1, .int a0), (2, .int x2)] [] g (m_X7_placeOf_L2 a0 g f x2) := by
  intro f
  induction f with
  | zero => intro x2; exact j_none
  | succ f ih =>
    intro x2
    refine j_eq (M2 := gd (inb (nI 3) 31 = true) (if x2 < (gi g 105 0 (nI 3).toNatClampNeg) then gd (inb ((nI 13) + x2) 31 = true) (if (gi g 105 0 ((nI 13) + x2).toNatClampNeg) = a0 then some x2 else m_X7_placeOf_L2 a0 g f (x2 + (nI 1))) else some (-9))) rfl ?_
    refine j_iload_n (q := 3) (i := 2) (n := 2) dX7_placeOf_2 rfl rfl rfl ?_
    refine j_aload_n (q := 4) (i := 0) (n := 0) dX7_placeOf_3 rfl rfl rfl ?_
    refine g_X7_st (q := 7) wF_X7_29 (Nat.le_of_ble_eq_true rfl) dX7_placeOf_4 rfl ?_
    refine j_iconst (q := 8) (v := (nI 3)) dX7_placeOf_7 rfl rfl ?_
    refine am_ld (k := 105) (n := 31) (q := 9) isM_105 rfl (Nat.le_of_ble_eq_true rfl) dX7_placeOf_8 rfl ?_
    refine j_icmp_ge (tgt := 33) (q := 12) dX7_placeOf_9 rfl rfl ?_ ?_
    · refine j_bipush (q := 35) (v := (-9)) dX7_placeOf_33 rfl rfl ?_
      exact j_ret (x := (-9)) dX7_placeOf_35 ⟨trivial, rfl, rfl⟩
    · refine j_aload_n (q := 13) (i := 0) (n := 0) dX7_placeOf_12 rfl rfl rfl ?_
      refine g_X7_st (q := 16) wF_X7_29 (Nat.le_of_ble_eq_true rfl) dX7_placeOf_13 rfl ?_
      refine j_bipush (q := 18) (v := (nI 13)) dX7_placeOf_16 rfl rfl ?_
      refine j_iload_n (q := 19) (i := 2) (n := 2) dX7_placeOf_18 rfl rfl rfl ?_
      refine j_iadd (q := 20) dX7_placeOf_19 rfl ?_
      refine am_ld (k := 105) (n := 31) (q := 21) isM_105 rfl (Nat.le_of_ble_eq_true rfl) dX7_placeOf_20 rfl ?_
      refine j_iload_n (q := 22) (i := 1) (n := 1) dX7_placeOf_21 rfl rfl rfl ?_
      refine j_icmp_ne (tgt := 27) (q := 25) dX7_placeOf_22 rfl rfl ?_ ?_
      · refine j_iinc (q := 30) (n := 2) (i := 2) (v := x2 + (nI 1)) (lv' := [(2, .int (x2 + (nI 1))), (0, .ref (za z 77 0)), (1, .int a0)]) dX7_placeOf_27 rfl rfl (Nat.le_of_ble_eq_true rfl) rfl rfl ?_
        refine j_goto (tgt := 2) dX7_placeOf_30 rfl ?_
        refine j_lv [1, 2, 0] (lv' := [(0, .ref (za z 77 0)), (1, .int a0), (2, .int (x2 + (nI 1)))]) rfl ?_
        exact ih (x2 + (nI 1))
      · refine j_iload_n (q := 26) (i := 2) (n := 2) dX7_placeOf_25 rfl rfl rfl ?_
        exact j_ret (x := x2) dX7_placeOf_26 ⟨trivial, rfl, rfl⟩
def m_X7_placeOf (g : zG) (a0 : Int32) : Option (Int32) := m_X7_placeOf_L2 a0 g FU (nI 0)
set_option maxRecDepth 100000 in
set_option maxHeartbeats 4000000 in
theorem c_X7_placeOf (l : Launch) (z : zE) (gx : zG) (g : zG) (a0 : Int32) : ∀ x, m_X7_placeOf g a0 = some x → Ms dm l yX7_placeOf cX7_placeOf 3 (some .int) rm_X7_placeOf z [.ref (za z 77 0), .int a0] ((wm z gx) g) (oi x) ((wm z gx) ((fun _ => g) x)) := by
  refine ms_of (Wf := (wm z gx)) (ri := .ireturn) (out := oi) (nxt := (fun _ => g)) (ok := (fun _ => True)) (lv := [(0, .ref (za z 77 0)), (1, .int a0)]) (by decide) ⟨rfl, rfl⟩ (Nat.le_of_ble_eq_true rfl) rfl (en_i (out := fun x => x)) (fun p e s m below meth c => ?_)
  refine j_eq (M2 := m_X7_placeOf_L2 a0 g FU (nI 0)) rfl ?_
  refine j_iconst (q := 1) (v := (nI 0)) dX7_placeOf_0 rfl rfl ?_
  refine j_istore_n (q := 2) (n := 2) (lv' := [(2, .int (nI 0)), (0, .ref (za z 77 0)), (1, .int a0)]) dX7_placeOf_1 rfl (Nat.le_of_ble_eq_true rfl) rfl rfl ?_
  refine j_lv [1, 2, 0] (lv' := [(0, .ref (za z 77 0)), (1, .int a0), (2, .int (nI 0))]) rfl ?_
  exact t_X7_placeOf_L2 z gx a0 g FU (nI 0)
-- CopierJobsModel.stands()I
abbrev rm_X7_stands : Room := { frames := 5, cells := 0, slots := 0, locals := 110 }
theorem cv_X7_stands : CV yX7_stands cX7_stands 3 (some .int) 0 := ⟨wC_X7_stands, wI_X7_stands, wS_X7_stands, wZ_X7, by decide +kernel⟩
def m_X7_stands (g : zG) : Option (Int32) := gd (inb (nI 3) 31 = true) (if (gi g 105 0 (nI 3).toNatClampNeg) = (nI 0) then some (nI 0) else gd (inb (nI 13) 31 = true) (bd (gi g 105 0 (nI 13).toNatClampNeg) fun v1 => gd (inb ((nI 19) + v1) 31 = true) (bd (gi g 105 0 ((nI 19) + v1).toNatClampNeg) fun v2 => gd (inb v1 6 = true) (gd (inb ((nI 4) + (gi g 104 0 v1.toNatClampNeg)) 31 = true) (if (gi g 105 0 ((nI 4) + (gi g 104 0 v1.toNatClampNeg)).toNatClampNeg) = (nI 0) then some (nI 1) else gd (inb (nI 1) 31 = true) ((m_X7_sidesOf g v1 v2).bind fun r3 => if (gi g 105 0 (nI 1).toNatClampNeg) < r3 then some (nI 2) else (m_X7_binOf g v1 v2).bind fun r4 => gd (inb ((nI 7) + r4) 31 = true) (if (gi g 105 0 ((nI 7) + r4).toNatClampNeg) = (nI 20) then some (nI 3) else some (nI 0))))))))
set_option maxRecDepth 100000 in
set_option maxHeartbeats 4000000 in
theorem c_X7_stands (l : Launch) (z : zE) (gx : zG) (g : zG) : ∀ x, m_X7_stands g = some x → Ms dm l yX7_stands cX7_stands 3 (some .int) rm_X7_stands z [.ref (za z 77 0)] ((wm z gx) g) (oi x) ((wm z gx) ((fun _ => g) x)) := by
  refine ms_of (Wf := (wm z gx)) (ri := .ireturn) (out := oi) (nxt := (fun _ => g)) (ok := (fun _ => True)) (lv := [(0, .ref (za z 77 0))]) (by decide) ⟨rfl, rfl⟩ (Nat.le_of_ble_eq_true rfl) rfl (en_i (out := fun x => x)) (fun p e s m below meth c => ?_)
  refine j_eq (M2 := gd (inb (nI 3) 31 = true) (if (gi g 105 0 (nI 3).toNatClampNeg) = (nI 0) then some (nI 0) else gd (inb (nI 13) 31 = true) (bd (gi g 105 0 (nI 13).toNatClampNeg) fun v1 => gd (inb ((nI 19) + v1) 31 = true) (bd (gi g 105 0 ((nI 19) + v1).toNatClampNeg) fun v2 => gd (inb v1 6 = true) (gd (inb ((nI 4) + (gi g 104 0 v1.toNatClampNeg)) 31 = true) (if (gi g 105 0 ((nI 4) + (gi g 104 0 v1.toNatClampNeg)).toNatClampNeg) = (nI 0) then some (nI 1) else gd (inb (nI 1) 31 = true) ((m_X7_sidesOf g v1 v2).bind fun r3 => if (gi g 105 0 (nI 1).toNatClampNeg) < r3 then some (nI 2) else (m_X7_binOf g v1 v2).bind fun r4 => gd (inb ((nI 7) + r4) 31 = true) (if (gi g 105 0 ((nI 7) + r4).toNatClampNeg) = (nI 20) then some (nI 3) else some (nI 0))))))))) rfl ?_
  refine j_aload_n (q := 1) (i := 0) (n := 0) dX7_stands_0 rfl rfl rfl ?_
  refine g_X7_st (q := 4) wF_X7_29 (Nat.le_of_ble_eq_true rfl) dX7_stands_1 rfl ?_
  refine j_iconst (q := 5) (v := (nI 3)) dX7_stands_4 rfl rfl ?_
  refine am_ld (k := 105) (n := 31) (q := 6) isM_105 rfl (Nat.le_of_ble_eq_true rfl) dX7_stands_5 rfl ?_
  refine j_if_ne (tgt := 11) (q := 9) dX7_stands_6 rfl rfl ?_ ?_
  · refine j_aload_n (q := 12) (i := 0) (n := 0) dX7_stands_11 rfl rfl rfl ?_
    refine g_X7_st (q := 15) wF_X7_29 (Nat.le_of_ble_eq_true rfl) dX7_stands_12 rfl ?_
    refine j_bipush (q := 17) (v := (nI 13)) dX7_stands_15 rfl rfl ?_
    refine am_ld (k := 105) (n := 31) (q := 18) isM_105 rfl (Nat.le_of_ble_eq_true rfl) dX7_stands_17 rfl ?_
    refine j_top (fun v1 => ?_)
    refine j_istore_n (q := 19) (n := 1) (lv' := [(1, .int v1), (0, .ref (za z 77 0))]) dX7_stands_18 rfl (Nat.le_of_ble_eq_true rfl) rfl rfl ?_
    refine j_aload_n (q := 20) (i := 1) (n := 0) dX7_stands_19 rfl rfl rfl ?_
    refine g_X7_st (q := 23) wF_X7_29 (Nat.le_of_ble_eq_true rfl) dX7_stands_20 rfl ?_
    refine j_bipush (q := 25) (v := (nI 19)) dX7_stands_23 rfl rfl ?_
    refine j_iload_n (q := 26) (i := 0) (n := 1) dX7_stands_25 rfl rfl rfl ?_
    refine j_iadd (q := 27) dX7_stands_26 rfl ?_
    refine am_ld (k := 105) (n := 31) (q := 28) isM_105 rfl (Nat.le_of_ble_eq_true rfl) dX7_stands_27 rfl ?_
    refine j_top (fun v2 => ?_)
    refine j_istore_n (q := 29) (n := 2) (lv' := [(2, .int v2), (1, .int v1), (0, .ref (za z 77 0))]) dX7_stands_28 rfl (Nat.le_of_ble_eq_true rfl) rfl rfl ?_
    refine j_aload_n (q := 30) (i := 2) (n := 0) dX7_stands_29 rfl rfl rfl ?_
    refine g_X7_st (q := 33) wF_X7_29 (Nat.le_of_ble_eq_true rfl) dX7_stands_30 rfl ?_
    refine j_iconst (q := 34) (v := (nI 4)) dX7_stands_33 rfl rfl ?_
    refine j_aload_n (q := 35) (i := 2) (n := 0) dX7_stands_34 rfl rfl rfl ?_
    refine g_X7_trays (q := 38) wF_X7_22 (Nat.le_of_ble_eq_true rfl) dX7_stands_35 rfl ?_
    refine j_iload_n (q := 39) (i := 1) (n := 1) dX7_stands_38 rfl rfl rfl ?_
    refine am_ld (k := 104) (n := 6) (q := 40) isM_104 rfl (Nat.le_of_ble_eq_true rfl) dX7_stands_39 rfl ?_
    refine j_iadd (q := 41) dX7_stands_40 rfl ?_
    refine am_ld (k := 105) (n := 31) (q := 42) isM_105 rfl (Nat.le_of_ble_eq_true rfl) dX7_stands_41 rfl ?_
    refine j_if_ne (tgt := 49) (q := 45) dX7_stands_42 rfl rfl ?_ ?_
    · refine j_aload_n (q := 50) (i := 2) (n := 0) dX7_stands_49 rfl rfl rfl ?_
      refine g_X7_st (q := 53) wF_X7_29 (Nat.le_of_ble_eq_true rfl) dX7_stands_50 rfl ?_
      refine j_iconst (q := 54) (v := (nI 1)) dX7_stands_53 rfl rfl ?_
      refine am_ld (k := 105) (n := 31) (q := 55) isM_105 rfl (Nat.le_of_ble_eq_true rfl) dX7_stands_54 rfl ?_
      refine j_aload_n (q := 56) (i := 2) (n := 0) dX7_stands_55 rfl rfl rfl ?_
      refine j_iload_n (q := 57) (i := 1) (n := 1) dX7_stands_56 rfl rfl rfl ?_
      refine j_iload_n (q := 58) (i := 0) (n := 2) dX7_stands_57 rfl rfl rfl ?_
      refine j_ci (q := 61) (rn_V (R := rm_X7_stands) (As := [.int v1, .int v2]) (rest := [.int (gi g 105 0 (nI 1).toNatClampNeg)]) (c_X7_sidesOf _ z gx g v1 v2) cv_X7_sidesOf wM_X7_169 ⟨rfl, rfl⟩ ⟨(Nat.le_of_ble_eq_true rfl), (Nat.le_of_ble_eq_true rfl)⟩ (Nat.le_of_ble_eq_true rfl) rfl rfl rfl (Nat.le_of_ble_eq_true rfl) dX7_stands_58) rfl (fun r3 => ?_)
      refine j_icmp_ge (tgt := 68) (q := 64) dX7_stands_61 rfl rfl ?_ ?_
      · refine j_aload_n (q := 69) (i := 2) (n := 0) dX7_stands_68 rfl rfl rfl ?_
        refine g_X7_st (q := 72) wF_X7_29 (Nat.le_of_ble_eq_true rfl) dX7_stands_69 rfl ?_
        refine j_bipush (q := 74) (v := (nI 7)) dX7_stands_72 rfl rfl ?_
        refine j_aload_n (q := 75) (i := 2) (n := 0) dX7_stands_74 rfl rfl rfl ?_
        refine j_iload_n (q := 76) (i := 1) (n := 1) dX7_stands_75 rfl rfl rfl ?_
        refine j_iload_n (q := 77) (i := 0) (n := 2) dX7_stands_76 rfl rfl rfl ?_
        refine j_ci (q := 80) (rn_V (R := rm_X7_stands) (As := [.int v1, .int v2]) (rest := [.int (nI 7), .ref (za z 105 0)]) (c_X7_binOf _ z gx g v1 v2) cv_X7_binOf wM_X7_163 ⟨rfl, rfl⟩ ⟨(Nat.le_of_ble_eq_true rfl), (Nat.le_of_ble_eq_true rfl)⟩ (Nat.le_of_ble_eq_true rfl) rfl rfl rfl (Nat.le_of_ble_eq_true rfl) dX7_stands_77) rfl (fun r4 => ?_)
        refine j_iadd (q := 81) dX7_stands_80 rfl ?_
        refine am_ld (k := 105) (n := 31) (q := 82) isM_105 rfl (Nat.le_of_ble_eq_true rfl) dX7_stands_81 rfl ?_
        refine j_bipush (q := 84) (v := (nI 20)) dX7_stands_82 rfl rfl ?_
        refine j_icmp_ne (tgt := 91) (q := 87) dX7_stands_84 rfl rfl ?_ ?_
        · refine j_iconst (q := 92) (v := (nI 0)) dX7_stands_91 rfl rfl ?_
          exact j_ret (x := (nI 0)) dX7_stands_92 ⟨trivial, rfl, rfl⟩
        · refine j_iconst (q := 88) (v := (nI 3)) dX7_stands_87 rfl rfl ?_
          refine j_goto (tgt := 92) dX7_stands_88 rfl ?_
          exact j_ret (x := (nI 3)) dX7_stands_92 ⟨trivial, rfl, rfl⟩
      · refine j_iconst (q := 65) (v := (nI 2)) dX7_stands_64 rfl rfl ?_
        refine j_goto (tgt := 92) dX7_stands_65 rfl ?_
        exact j_ret (x := (nI 2)) dX7_stands_92 ⟨trivial, rfl, rfl⟩
    · refine j_iconst (q := 46) (v := (nI 1)) dX7_stands_45 rfl rfl ?_
      refine j_goto (tgt := 92) dX7_stands_46 rfl ?_
      exact j_ret (x := (nI 1)) dX7_stands_92 ⟨trivial, rfl, rfl⟩
  · refine j_iconst (q := 10) (v := (nI 0)) dX7_stands_9 rfl rfl ?_
    exact j_ret (x := (nI 0)) dX7_stands_10 ⟨trivial, rfl, rfl⟩
-- CopierJobsModel.leaveAt(I)V
abbrev rm_X7_leaveAt : Room := { frames := 0, cells := 0, slots := 0, locals := 0 }
theorem cv_X7_leaveAt : CV yX7_leaveAt cX7_leaveAt 3 (none) 1 := ⟨wC_X7_leaveAt, wI_X7_leaveAt, wS_X7_leaveAt, wZ_X7, by decide +kernel⟩
def m_X7_leaveAt_B48 (a0 : Int32) (g : zG) : Option (zG) := gd (inb (nI 3) 31 = true) (gd (inb ((nI 13) + (gi g 105 0 (nI 3).toNatClampNeg)) 31 = true) (bd (ui g 105 0 ((nI 13) + (gi g 105 0 (nI 3).toNatClampNeg)).toNatClampNeg (nI 0)) fun g2 => some g2))
set_option maxRecDepth 100000 in
set_option maxHeartbeats 4000000 in
theorem t_X7_leaveAt_B48 {p : Program} {l : Launch} {e : Env} {s : State} {m : MethodId} {args : Array Value} {below : List Frame} {meth : Method} {c : Code} {cells slots : Nat} {Q : zG → State → Prop} (z : zE) (gx : zG) (a0 : Int32) (g : zG) : zJ dm p l e rm_X7_leaveAt s m args below meth c cX7_leaveAt 3 yX7_leaveAt.cls z cells slots (wm z gx) (fn (fun _ => True) (fun x => x) osv) .return_ Q 48 [(0, .ref (za z 77 0))] [] g (m_X7_leaveAt_B48 a0 g) := by
  refine j_eq (M2 := gd (inb (nI 3) 31 = true) (gd (inb ((nI 13) + (gi g 105 0 (nI 3).toNatClampNeg)) 31 = true) (bd (ui g 105 0 ((nI 13) + (gi g 105 0 (nI 3).toNatClampNeg)).toNatClampNeg (nI 0)) fun g2 => some g2))) rfl ?_
  refine j_aload_n (q := 49) (i := 0) (n := 0) dX7_leaveAt_48 rfl rfl rfl ?_
  refine g_X7_st (q := 52) wF_X7_29 (Nat.le_of_ble_eq_true rfl) dX7_leaveAt_49 rfl ?_
  refine j_bipush (q := 54) (v := (nI 13)) dX7_leaveAt_52 rfl rfl ?_
  refine j_aload_n (q := 55) (i := 0) (n := 0) dX7_leaveAt_54 rfl rfl rfl ?_
  refine g_X7_st (q := 58) wF_X7_29 (Nat.le_of_ble_eq_true rfl) dX7_leaveAt_55 rfl ?_
  refine j_iconst (q := 59) (v := (nI 3)) dX7_leaveAt_58 rfl rfl ?_
  refine am_ld (k := 105) (n := 31) (q := 60) isM_105 rfl (Nat.le_of_ble_eq_true rfl) dX7_leaveAt_59 rfl ?_
  refine j_iadd (q := 61) dX7_leaveAt_60 rfl ?_
  refine j_iconst (q := 62) (v := (nI 0)) dX7_leaveAt_61 rfl rfl ?_
  refine am_st (k := 105) (n := 31) (q := 63) dm_le isM_105 rfl (Nat.le_of_ble_eq_true rfl) dX7_leaveAt_62 rfl (fun g2 => ?_)
  exact j_ret (x := g2) dX7_leaveAt_63 ⟨trivial, rfl, rfl⟩
def m_X7_leaveAt_L12 (a0 : Int32) : Nat → zG → Int32 → Option (zG)
  | 0, _, _ => none
  | f + 1, g, x2 => gd (inb (nI 3) 31 = true) (if x2 < (gi g 105 0 (nI 3).toNatClampNeg) then gd (inb (((nI 13) + x2) + (nI 1)) 31 = true) (gd (inb ((nI 13) + x2) 31 = true) (bd (ui g 105 0 ((nI 13) + x2).toNatClampNeg (gi g 105 0 (((nI 13) + x2) + (nI 1)).toNatClampNeg)) fun g3 => m_X7_leaveAt_L12 a0 f g3 (x2 + (nI 1)))) else m_X7_leaveAt_B48 a0 g)
set_option maxRecDepth 100000 in
set_option maxHeartbeats 4000000 in
theorem t_X7_leaveAt_L12 {p : Program} {l : Launch} {e : Env} {s : State} {m : MethodId} {args : Array Value} {below : List Frame} {meth : Method} {c : Code} {cells slots : Nat} {Q : zG → State → Prop} (z : zE) (gx : zG) (a0 : Int32) : ∀ (f : Nat) (g : zG) (x2 : Int32), zJ dm p l e rm_X7_leaveAt s m args below meth c cX7_leaveAt 3 yX7_leaveAt.cls z cells slots (wm z gx) (fn (fun _ => True) (fun x => x) osv) .return_ Q 12 [(0, .ref (za z 77 0)), (2, .int x2)] [] g (m_X7_leaveAt_L12 a0 f g x2) := by
  intro f
  induction f with
  | zero => intro g x2; exact j_none
  | succ f ih =>
    intro g x2
    refine j_eq (M2 := gd (inb (nI 3) 31 = true) (if x2 < (gi g 105 0 (nI 3).toNatClampNeg) then gd (inb (((nI 13) + x2) + (nI 1)) 31 = true) (gd (inb ((nI 13) + x2) 31 = true) (bd (ui g 105 0 ((nI 13) + x2).toNatClampNeg (gi g 105 0 (((nI 13) + x2) + (nI 1)).toNatClampNeg)) fun g3 => m_X7_leaveAt_L12 a0 f g3 (x2 + (nI 1)))) else m_X7_leaveAt_B48 a0 g)) rfl ?_
    refine j_iload_n (q := 13) (i := 1) (n := 2) dX7_leaveAt_12 rfl rfl rfl ?_
    refine j_aload_n (q := 14) (i := 0) (n := 0) dX7_leaveAt_13 rfl rfl rfl ?_
    refine g_X7_st (q := 17) wF_X7_29 (Nat.le_of_ble_eq_true rfl) dX7_leaveAt_14 rfl ?_
    refine j_iconst (q := 18) (v := (nI 3)) dX7_leaveAt_17 rfl rfl ?_
    refine am_ld (k := 105) (n := 31) (q := 19) isM_105 rfl (Nat.le_of_ble_eq_true rfl) dX7_leaveAt_18 rfl ?_
    refine j_icmp_ge (tgt := 48) (q := 22) dX7_leaveAt_19 rfl rfl ?_ ?_
    · refine j_lv [0] (lv' := [(0, .ref (za z 77 0))]) rfl ?_
      exact t_X7_leaveAt_B48 z gx a0 g
    · refine j_aload_n (q := 23) (i := 0) (n := 0) dX7_leaveAt_22 rfl rfl rfl ?_
      refine g_X7_st (q := 26) wF_X7_29 (Nat.le_of_ble_eq_true rfl) dX7_leaveAt_23 rfl ?_
      refine j_bipush (q := 28) (v := (nI 13)) dX7_leaveAt_26 rfl rfl ?_
      refine j_iload_n (q := 29) (i := 1) (n := 2) dX7_leaveAt_28 rfl rfl rfl ?_
      refine j_iadd (q := 30) dX7_leaveAt_29 rfl ?_
      refine j_aload_n (q := 31) (i := 0) (n := 0) dX7_leaveAt_30 rfl rfl rfl ?_
      refine g_X7_st (q := 34) wF_X7_29 (Nat.le_of_ble_eq_true rfl) dX7_leaveAt_31 rfl ?_
      refine j_bipush (q := 36) (v := (nI 13)) dX7_leaveAt_34 rfl rfl ?_
      refine j_iload_n (q := 37) (i := 1) (n := 2) dX7_leaveAt_36 rfl rfl rfl ?_
      refine j_iadd (q := 38) dX7_leaveAt_37 rfl ?_
      refine j_iconst (q := 39) (v := (nI 1)) dX7_leaveAt_38 rfl rfl ?_
      refine j_iadd (q := 40) dX7_leaveAt_39 rfl ?_
      refine am_ld (k := 105) (n := 31) (q := 41) isM_105 rfl (Nat.le_of_ble_eq_true rfl) dX7_leaveAt_40 rfl ?_
      refine am_st (k := 105) (n := 31) (q := 42) dm_le isM_105 rfl (Nat.le_of_ble_eq_true rfl) dX7_leaveAt_41 rfl (fun g3 => ?_)
      refine j_iinc (q := 45) (n := 2) (i := 1) (v := x2 + (nI 1)) (lv' := [(2, .int (x2 + (nI 1))), (0, .ref (za z 77 0))]) dX7_leaveAt_42 rfl rfl (Nat.le_of_ble_eq_true rfl) rfl rfl ?_
      refine j_goto (tgt := 12) dX7_leaveAt_45 rfl ?_
      refine j_lv [1, 0] (lv' := [(0, .ref (za z 77 0)), (2, .int (x2 + (nI 1)))]) rfl ?_
      exact ih g3 (x2 + (nI 1))
def m_X7_leaveAt (g : zG) (a0 : Int32) : Option (zG) := gd (inb (nI 3) 31 = true) (gd (inb (nI 3) 31 = true) (bd (ui g 105 0 (nI 3).toNatClampNeg ((gi g 105 0 (nI 3).toNatClampNeg) - (nI 1))) fun g1 => m_X7_leaveAt_L12 a0 FU g1 a0))
set_option maxRecDepth 100000 in
set_option maxHeartbeats 4000000 in
theorem c_X7_leaveAt (l : Launch) (z : zE) (gx : zG) (g : zG) (a0 : Int32) : ∀ x, m_X7_leaveAt g a0 = some x → Ms dm l yX7_leaveAt cX7_leaveAt 3 (none) rm_X7_leaveAt z [.ref (za z 77 0), .int a0] ((wm z gx) g) (osv x) ((wm z gx) ((fun x => x) x)) := by
  refine ms_of (Wf := (wm z gx)) (ri := .return_) (out := osv) (nxt := (fun x => x)) (ok := (fun _ => True)) (lv := [(0, .ref (za z 77 0)), (1, .int a0)]) (by decide) ⟨rfl, rfl⟩ (Nat.le_of_ble_eq_true rfl) rfl (en_v ) (fun p e s m below meth c => ?_)
  refine j_eq (M2 := gd (inb (nI 3) 31 = true) (gd (inb (nI 3) 31 = true) (bd (ui g 105 0 (nI 3).toNatClampNeg ((gi g 105 0 (nI 3).toNatClampNeg) - (nI 1))) fun g1 => m_X7_leaveAt_L12 a0 FU g1 a0))) rfl ?_
  refine j_aload_n (q := 1) (i := 0) (n := 0) dX7_leaveAt_0 rfl rfl rfl ?_
  refine g_X7_st (q := 4) wF_X7_29 (Nat.le_of_ble_eq_true rfl) dX7_leaveAt_1 rfl ?_
  refine j_iconst (q := 5) (v := (nI 3)) dX7_leaveAt_4 rfl rfl ?_
  refine j_dup2 (q := 6) dX7_leaveAt_5 rfl rfl rfl ?_
  refine am_ld (k := 105) (n := 31) (q := 7) isM_105 rfl (Nat.le_of_ble_eq_true rfl) dX7_leaveAt_6 rfl ?_
  refine j_iconst (q := 8) (v := (nI 1)) dX7_leaveAt_7 rfl rfl ?_
  refine j_isub (q := 9) dX7_leaveAt_8 rfl ?_
  refine am_st (k := 105) (n := 31) (q := 10) dm_le isM_105 rfl (Nat.le_of_ble_eq_true rfl) dX7_leaveAt_9 rfl (fun g1 => ?_)
  refine j_iload_n (q := 11) (i := 1) (n := 1) dX7_leaveAt_10 rfl rfl rfl ?_
  refine j_istore_n (q := 12) (n := 2) (lv' := [(2, .int a0), (0, .ref (za z 77 0)), (1, .int a0)]) dX7_leaveAt_11 rfl (Nat.le_of_ble_eq_true rfl) rfl rfl ?_
  refine j_lv [1, 0] (lv' := [(0, .ref (za z 77 0)), (2, .int a0)]) rfl ?_
  exact t_X7_leaveAt_L12 z gx a0 FU g1 a0
-- CopierJobsModel.oneTick()I
abbrev rm_X7_oneTick : Room := { frames := 6, cells := 0, slots := 0, locals := 132 }
theorem cv_X7_oneTick : CV yX7_oneTick cX7_oneTick 4 (some .int) 0 := ⟨wC_X7_oneTick, wI_X7_oneTick, wS_X7_oneTick, wZ_X7, by decide +kernel⟩
def m_X7_oneTick_B76 (g : zG) (x1 : Int32) (x2 : Int32) (x3 : Int32) : Option (Int32 × zG) := gd (inb (nI 2) 31 = true) (bd (ui g 105 0 (nI 2).toNatClampNeg (nI 0)) fun g6 => gd (inb x1 6 = true) (gd (inb ((nI 4) + (gi g6 104 0 x1.toNatClampNeg)) 31 = true) (gd (inb ((nI 4) + (gi g6 104 0 x1.toNatClampNeg)) 31 = true) (bd (ui g6 105 0 ((nI 4) + (gi g6 104 0 x1.toNatClampNeg)).toNatClampNeg ((gi g6 105 0 ((nI 4) + (gi g6 104 0 x1.toNatClampNeg)).toNatClampNeg) - (nI 1))) fun g7 => gd (inb (nI 1) 31 = true) (gd (inb (nI 1) 31 = true) (bd (ui g7 105 0 (nI 1).toNatClampNeg ((gi g7 105 0 (nI 1).toNatClampNeg) - x3)) fun g8 => (m_X7_binOf g8 x1 x2).bind fun r9 => gd (inb ((nI 7) + r9) 31 = true) (gd (inb ((nI 7) + r9) 31 = true) (bd (ui g8 105 0 ((nI 7) + r9).toNatClampNeg ((gi g8 105 0 ((nI 7) + r9).toNatClampNeg) + (nI 1))) fun g10 => gd (inb ((nI 19) + x1) 31 = true) (gd (inb ((nI 19) + x1) 31 = true) (bd (ui g10 105 0 ((nI 19) + x1).toNatClampNeg ((gi g10 105 0 ((nI 19) + x1).toNatClampNeg) + (nI 1))) fun g11 => gd (inb ((nI 19) + x1) 31 = true) ((m_X7_allOf g11 x1).bind fun r12 => if (gi g11 105 0 ((nI 19) + x1).toNatClampNeg) = r12 then gd (inb (nI 0) 31 = true) (gd (inb ((nI 25) + x1) 31 = true) (bd (ui g11 105 0 ((nI 25) + x1).toNatClampNeg (gi g11 105 0 (nI 0).toNatClampNeg)) fun g13 => (m_X7_leaveAt g13 (nI 0)).bind fun g14 => some ((nI 1), g14))) else some ((nI 1), g11))))))))))))
set_option maxRecDepth 100000 in
set_option maxHeartbeats 4000000 in
theorem t_X7_oneTick_B76 {p : Program} {l : Launch} {e : Env} {s : State} {m : MethodId} {args : Array Value} {below : List Frame} {meth : Method} {c : Code} {cells slots : Nat} {Q : (Int32 × zG) → State → Prop} (z : zE) (gx : zG) (g : zG) (x1 : Int32) (x2 : Int32) (x3 : Int32) : zJ dm p l e rm_X7_oneTick s m args below meth c cX7_oneTick 4 yX7_oneTick.cls z cells slots (wm z gx) (fn (fun _ => True) (fun x => x.2) osi) .ireturn Q 76 [(0, .ref (za z 77 0)), (1, .int x1), (2, .int x2), (3, .int x3)] [] g (m_X7_oneTick_B76 g x1 x2 x3) := by
  refine j_eq (M2 := gd (inb (nI 2) 31 = true) (bd (ui g 105 0 (nI 2).toNatClampNeg (nI 0)) fun g6 => gd (inb x1 6 = true) (gd (inb ((nI 4) + (gi g6 104 0 x1.toNatClampNeg)) 31 = true) (gd (inb ((nI 4) + (gi g6 104 0 x1.toNatClampNeg)) 31 = true) (bd (ui g6 105 0 ((nI 4) + (gi g6 104 0 x1.toNatClampNeg)).toNatClampNeg ((gi g6 105 0 ((nI 4) + (gi g6 104 0 x1.toNatClampNeg)).toNatClampNeg) - (nI 1))) fun g7 => gd (inb (nI 1) 31 = true) (gd (inb (nI 1) 31 = true) (bd (ui g7 105 0 (nI 1).toNatClampNeg ((gi g7 105 0 (nI 1).toNatClampNeg) - x3)) fun g8 => (m_X7_binOf g8 x1 x2).bind fun r9 => gd (inb ((nI 7) + r9) 31 = true) (gd (inb ((nI 7) + r9) 31 = true) (bd (ui g8 105 0 ((nI 7) + r9).toNatClampNeg ((gi g8 105 0 ((nI 7) + r9).toNatClampNeg) + (nI 1))) fun g10 => gd (inb ((nI 19) + x1) 31 = true) (gd (inb ((nI 19) + x1) 31 = true) (bd (ui g10 105 0 ((nI 19) + x1).toNatClampNeg ((gi g10 105 0 ((nI 19) + x1).toNatClampNeg) + (nI 1))) fun g11 => gd (inb ((nI 19) + x1) 31 = true) ((m_X7_allOf g11 x1).bind fun r12 => if (gi g11 105 0 ((nI 19) + x1).toNatClampNeg) = r12 then gd (inb (nI 0) 31 = true) (gd (inb ((nI 25) + x1) 31 = true) (bd (ui g11 105 0 ((nI 25) + x1).toNatClampNeg (gi g11 105 0 (nI 0).toNatClampNeg)) fun g13 => (m_X7_leaveAt g13 (nI 0)).bind fun g14 => some ((nI 1), g14))) else some ((nI 1), g11))))))))))))) rfl ?_
  refine j_aload_n (q := 77) (i := 0) (n := 0) dX7_oneTick_76 rfl rfl rfl ?_
  refine g_X7_st (q := 80) wF_X7_29 (Nat.le_of_ble_eq_true rfl) dX7_oneTick_77 rfl ?_
  refine j_iconst (q := 81) (v := (nI 2)) dX7_oneTick_80 rfl rfl ?_
  refine j_iconst (q := 82) (v := (nI 0)) dX7_oneTick_81 rfl rfl ?_
  refine am_st (k := 105) (n := 31) (q := 83) dm_le isM_105 rfl (Nat.le_of_ble_eq_true rfl) dX7_oneTick_82 rfl (fun g6 => ?_)
  refine j_aload_n (q := 84) (i := 0) (n := 0) dX7_oneTick_83 rfl rfl rfl ?_
  refine g_X7_st (q := 87) wF_X7_29 (Nat.le_of_ble_eq_true rfl) dX7_oneTick_84 rfl ?_
  refine j_iconst (q := 88) (v := (nI 4)) dX7_oneTick_87 rfl rfl ?_
  refine j_aload_n (q := 89) (i := 0) (n := 0) dX7_oneTick_88 rfl rfl rfl ?_
  refine g_X7_trays (q := 92) wF_X7_22 (Nat.le_of_ble_eq_true rfl) dX7_oneTick_89 rfl ?_
  refine j_iload_n (q := 93) (i := 1) (n := 1) dX7_oneTick_92 rfl rfl rfl ?_
  refine am_ld (k := 104) (n := 6) (q := 94) isM_104 rfl (Nat.le_of_ble_eq_true rfl) dX7_oneTick_93 rfl ?_
  refine j_iadd (q := 95) dX7_oneTick_94 rfl ?_
  refine j_dup2 (q := 96) dX7_oneTick_95 rfl rfl rfl ?_
  refine am_ld (k := 105) (n := 31) (q := 97) isM_105 rfl (Nat.le_of_ble_eq_true rfl) dX7_oneTick_96 rfl ?_
  refine j_iconst (q := 98) (v := (nI 1)) dX7_oneTick_97 rfl rfl ?_
  refine j_isub (q := 99) dX7_oneTick_98 rfl ?_
  refine am_st (k := 105) (n := 31) (q := 100) dm_le isM_105 rfl (Nat.le_of_ble_eq_true rfl) dX7_oneTick_99 rfl (fun g7 => ?_)
  refine j_aload_n (q := 101) (i := 0) (n := 0) dX7_oneTick_100 rfl rfl rfl ?_
  refine g_X7_st (q := 104) wF_X7_29 (Nat.le_of_ble_eq_true rfl) dX7_oneTick_101 rfl ?_
  refine j_iconst (q := 105) (v := (nI 1)) dX7_oneTick_104 rfl rfl ?_
  refine j_dup2 (q := 106) dX7_oneTick_105 rfl rfl rfl ?_
  refine am_ld (k := 105) (n := 31) (q := 107) isM_105 rfl (Nat.le_of_ble_eq_true rfl) dX7_oneTick_106 rfl ?_
  refine j_iload_n (q := 108) (i := 3) (n := 3) dX7_oneTick_107 rfl rfl rfl ?_
  refine j_isub (q := 109) dX7_oneTick_108 rfl ?_
  refine am_st (k := 105) (n := 31) (q := 110) dm_le isM_105 rfl (Nat.le_of_ble_eq_true rfl) dX7_oneTick_109 rfl (fun g8 => ?_)
  refine j_aload_n (q := 111) (i := 0) (n := 0) dX7_oneTick_110 rfl rfl rfl ?_
  refine g_X7_st (q := 114) wF_X7_29 (Nat.le_of_ble_eq_true rfl) dX7_oneTick_111 rfl ?_
  refine j_bipush (q := 116) (v := (nI 7)) dX7_oneTick_114 rfl rfl ?_
  refine j_aload_n (q := 117) (i := 0) (n := 0) dX7_oneTick_116 rfl rfl rfl ?_
  refine j_iload_n (q := 118) (i := 1) (n := 1) dX7_oneTick_117 rfl rfl rfl ?_
  refine j_iload_n (q := 119) (i := 2) (n := 2) dX7_oneTick_118 rfl rfl rfl ?_
  refine j_ci (q := 122) (rn_V (R := rm_X7_oneTick) (As := [.int x1, .int x2]) (rest := [.int (nI 7), .ref (za z 105 0)]) (c_X7_binOf _ z gx g8 x1 x2) cv_X7_binOf wM_X7_163 ⟨rfl, rfl⟩ ⟨(Nat.le_of_ble_eq_true rfl), (Nat.le_of_ble_eq_true rfl)⟩ (Nat.le_of_ble_eq_true rfl) rfl rfl rfl (Nat.le_of_ble_eq_true rfl) dX7_oneTick_119) rfl (fun r9 => ?_)
  refine j_iadd (q := 123) dX7_oneTick_122 rfl ?_
  refine j_dup2 (q := 124) dX7_oneTick_123 rfl rfl rfl ?_
  refine am_ld (k := 105) (n := 31) (q := 125) isM_105 rfl (Nat.le_of_ble_eq_true rfl) dX7_oneTick_124 rfl ?_
  refine j_iconst (q := 126) (v := (nI 1)) dX7_oneTick_125 rfl rfl ?_
  refine j_iadd (q := 127) dX7_oneTick_126 rfl ?_
  refine am_st (k := 105) (n := 31) (q := 128) dm_le isM_105 rfl (Nat.le_of_ble_eq_true rfl) dX7_oneTick_127 rfl (fun g10 => ?_)
  refine j_aload_n (q := 129) (i := 0) (n := 0) dX7_oneTick_128 rfl rfl rfl ?_
  refine g_X7_st (q := 132) wF_X7_29 (Nat.le_of_ble_eq_true rfl) dX7_oneTick_129 rfl ?_
  refine j_bipush (q := 134) (v := (nI 19)) dX7_oneTick_132 rfl rfl ?_
  refine j_iload_n (q := 135) (i := 1) (n := 1) dX7_oneTick_134 rfl rfl rfl ?_
  refine j_iadd (q := 136) dX7_oneTick_135 rfl ?_
  refine j_dup2 (q := 137) dX7_oneTick_136 rfl rfl rfl ?_
  refine am_ld (k := 105) (n := 31) (q := 138) isM_105 rfl (Nat.le_of_ble_eq_true rfl) dX7_oneTick_137 rfl ?_
  refine j_iconst (q := 139) (v := (nI 1)) dX7_oneTick_138 rfl rfl ?_
  refine j_iadd (q := 140) dX7_oneTick_139 rfl ?_
  refine am_st (k := 105) (n := 31) (q := 141) dm_le isM_105 rfl (Nat.le_of_ble_eq_true rfl) dX7_oneTick_140 rfl (fun g11 => ?_)
  refine j_aload_n (q := 142) (i := 0) (n := 0) dX7_oneTick_141 rfl rfl rfl ?_
  refine g_X7_st (q := 145) wF_X7_29 (Nat.le_of_ble_eq_true rfl) dX7_oneTick_142 rfl ?_
  refine j_bipush (q := 147) (v := (nI 19)) dX7_oneTick_145 rfl rfl ?_
  refine j_iload_n (q := 148) (i := 1) (n := 1) dX7_oneTick_147 rfl rfl rfl ?_
  refine j_iadd (q := 149) dX7_oneTick_148 rfl ?_
  refine am_ld (k := 105) (n := 31) (q := 150) isM_105 rfl (Nat.le_of_ble_eq_true rfl) dX7_oneTick_149 rfl ?_
  refine j_aload_n (q := 151) (i := 0) (n := 0) dX7_oneTick_150 rfl rfl rfl ?_
  refine j_iload_n (q := 152) (i := 1) (n := 1) dX7_oneTick_151 rfl rfl rfl ?_
  refine j_ci (q := 155) (rn_V (R := rm_X7_oneTick) (As := [.int x1]) (rest := [.int (gi g11 105 0 ((nI 19) + x1).toNatClampNeg)]) (c_X7_allOf _ z gx g11 x1) cv_X7_allOf wM_X7_160 ⟨rfl, rfl⟩ ⟨(Nat.le_of_ble_eq_true rfl), (Nat.le_of_ble_eq_true rfl)⟩ (Nat.le_of_ble_eq_true rfl) rfl rfl rfl (Nat.le_of_ble_eq_true rfl) dX7_oneTick_152) rfl (fun r12 => ?_)
  refine j_icmp_ne (tgt := 178) (q := 158) dX7_oneTick_155 rfl rfl ?_ ?_
  · refine j_iconst (q := 179) (v := (nI 1)) dX7_oneTick_178 rfl rfl ?_
    exact j_ret (x := ((nI 1), g11)) dX7_oneTick_179 ⟨trivial, rfl, rfl⟩
  · refine j_aload_n (q := 159) (i := 0) (n := 0) dX7_oneTick_158 rfl rfl rfl ?_
    refine g_X7_st (q := 162) wF_X7_29 (Nat.le_of_ble_eq_true rfl) dX7_oneTick_159 rfl ?_
    refine j_bipush (q := 164) (v := (nI 25)) dX7_oneTick_162 rfl rfl ?_
    refine j_iload_n (q := 165) (i := 1) (n := 1) dX7_oneTick_164 rfl rfl rfl ?_
    refine j_iadd (q := 166) dX7_oneTick_165 rfl ?_
    refine j_aload_n (q := 167) (i := 0) (n := 0) dX7_oneTick_166 rfl rfl rfl ?_
    refine g_X7_st (q := 170) wF_X7_29 (Nat.le_of_ble_eq_true rfl) dX7_oneTick_167 rfl ?_
    refine j_iconst (q := 171) (v := (nI 0)) dX7_oneTick_170 rfl rfl ?_
    refine am_ld (k := 105) (n := 31) (q := 172) isM_105 rfl (Nat.le_of_ble_eq_true rfl) dX7_oneTick_171 rfl ?_
    refine am_st (k := 105) (n := 31) (q := 173) dm_le isM_105 rfl (Nat.le_of_ble_eq_true rfl) dX7_oneTick_172 rfl (fun g13 => ?_)
    refine j_aload_n (q := 174) (i := 0) (n := 0) dX7_oneTick_173 rfl rfl rfl ?_
    refine j_iconst (q := 175) (v := (nI 0)) dX7_oneTick_174 rfl rfl ?_
    refine j_sv (q := 178) (rn_V (R := rm_X7_oneTick) (As := [.int (nI 0)]) (rest := []) (c_X7_leaveAt _ z gx g13 (nI 0)) cv_X7_leaveAt wM_X7_175 ⟨rfl, rfl⟩ ⟨(Nat.le_of_ble_eq_true rfl), (Nat.le_of_ble_eq_true rfl)⟩ (Nat.le_of_ble_eq_true rfl) rfl rfl rfl (Nat.le_of_ble_eq_true rfl) dX7_oneTick_175) rfl (fun g14 => ?_)
    refine j_iconst (q := 179) (v := (nI 1)) dX7_oneTick_178 rfl rfl ?_
    exact j_ret (x := ((nI 1), g14)) dX7_oneTick_179 ⟨trivial, rfl, rfl⟩
def m_X7_oneTick (g : zG) : Option (Int32 × zG) := gd (inb (nI 0) 31 = true) (gd (inb (nI 0) 31 = true) (bd (ui g 105 0 (nI 0).toNatClampNeg ((gi g 105 0 (nI 0).toNatClampNeg) + (nI 1))) fun g1 => gd (inb (nI 3) 31 = true) (if (gi g1 105 0 (nI 3).toNatClampNeg) = (nI 0) then some ((nI 0), g1) else (m_X7_stands g1).bind fun r2 => if (nI 0) < r2 then some ((nI 0), g1) else gd (inb (nI 13) 31 = true) (bd (gi g1 105 0 (nI 13).toNatClampNeg) fun v3 => gd (inb ((nI 19) + v3) 31 = true) (bd (gi g1 105 0 ((nI 19) + v3).toNatClampNeg) fun v4 => (m_X7_sidesOf g1 v3 v4).bind fun r5 => if r5 = (nI 2) then gd (inb (nI 2) 31 = true) (if (gi g1 105 0 (nI 2).toNatClampNeg) = (nI 0) then gd (inb (nI 2) 31 = true) (bd (ui g1 105 0 (nI 2).toNatClampNeg (nI 1)) fun g15 => some ((nI 0), g15)) else m_X7_oneTick_B76 g1 v3 v4 r5) else m_X7_oneTick_B76 g1 v3 v4 r5)))))
set_option maxRecDepth 100000 in
set_option maxHeartbeats 4000000 in
theorem c_X7_oneTick (l : Launch) (z : zE) (gx : zG) (g : zG) : ∀ x, m_X7_oneTick g = some x → Ms dm l yX7_oneTick cX7_oneTick 4 (some .int) rm_X7_oneTick z [.ref (za z 77 0)] ((wm z gx) g) (osi x) ((wm z gx) ((fun x => x.2) x)) := by
  refine ms_of (Wf := (wm z gx)) (ri := .ireturn) (out := osi) (nxt := (fun x => x.2)) (ok := (fun _ => True)) (lv := [(0, .ref (za z 77 0))]) (by decide) ⟨rfl, rfl⟩ (Nat.le_of_ble_eq_true rfl) rfl (en_i (out := fun x : Int32 × zG => x.1)) (fun p e s m below meth c => ?_)
  refine j_eq (M2 := gd (inb (nI 0) 31 = true) (gd (inb (nI 0) 31 = true) (bd (ui g 105 0 (nI 0).toNatClampNeg ((gi g 105 0 (nI 0).toNatClampNeg) + (nI 1))) fun g1 => gd (inb (nI 3) 31 = true) (if (gi g1 105 0 (nI 3).toNatClampNeg) = (nI 0) then some ((nI 0), g1) else (m_X7_stands g1).bind fun r2 => if (nI 0) < r2 then some ((nI 0), g1) else gd (inb (nI 13) 31 = true) (bd (gi g1 105 0 (nI 13).toNatClampNeg) fun v3 => gd (inb ((nI 19) + v3) 31 = true) (bd (gi g1 105 0 ((nI 19) + v3).toNatClampNeg) fun v4 => (m_X7_sidesOf g1 v3 v4).bind fun r5 => if r5 = (nI 2) then gd (inb (nI 2) 31 = true) (if (gi g1 105 0 (nI 2).toNatClampNeg) = (nI 0) then gd (inb (nI 2) 31 = true) (bd (ui g1 105 0 (nI 2).toNatClampNeg (nI 1)) fun g15 => some ((nI 0), g15)) else m_X7_oneTick_B76 g1 v3 v4 r5) else m_X7_oneTick_B76 g1 v3 v4 r5)))))) rfl ?_
  refine j_aload_n (q := 1) (i := 0) (n := 0) dX7_oneTick_0 rfl rfl rfl ?_
  refine g_X7_st (q := 4) wF_X7_29 (Nat.le_of_ble_eq_true rfl) dX7_oneTick_1 rfl ?_
  refine j_iconst (q := 5) (v := (nI 0)) dX7_oneTick_4 rfl rfl ?_
  refine j_dup2 (q := 6) dX7_oneTick_5 rfl rfl rfl ?_
  refine am_ld (k := 105) (n := 31) (q := 7) isM_105 rfl (Nat.le_of_ble_eq_true rfl) dX7_oneTick_6 rfl ?_
  refine j_iconst (q := 8) (v := (nI 1)) dX7_oneTick_7 rfl rfl ?_
  refine j_iadd (q := 9) dX7_oneTick_8 rfl ?_
  refine am_st (k := 105) (n := 31) (q := 10) dm_le isM_105 rfl (Nat.le_of_ble_eq_true rfl) dX7_oneTick_9 rfl (fun g1 => ?_)
  refine j_aload_n (q := 11) (i := 0) (n := 0) dX7_oneTick_10 rfl rfl rfl ?_
  refine g_X7_st (q := 14) wF_X7_29 (Nat.le_of_ble_eq_true rfl) dX7_oneTick_11 rfl ?_
  refine j_iconst (q := 15) (v := (nI 3)) dX7_oneTick_14 rfl rfl ?_
  refine am_ld (k := 105) (n := 31) (q := 16) isM_105 rfl (Nat.le_of_ble_eq_true rfl) dX7_oneTick_15 rfl ?_
  refine j_if_eq (tgt := 26) (q := 19) dX7_oneTick_16 rfl rfl ?_ ?_
  · refine j_iconst (q := 27) (v := (nI 0)) dX7_oneTick_26 rfl rfl ?_
    exact j_ret (x := ((nI 0), g1)) dX7_oneTick_27 ⟨trivial, rfl, rfl⟩
  · refine j_aload_n (q := 20) (i := 0) (n := 0) dX7_oneTick_19 rfl rfl rfl ?_
    refine j_ci (q := 23) (rn_V (R := rm_X7_oneTick) (As := []) (rest := []) (c_X7_stands _ z gx g1) cv_X7_stands wM_X7_172 ⟨rfl, rfl⟩ ⟨(Nat.le_of_ble_eq_true rfl), (Nat.le_of_ble_eq_true rfl)⟩ (Nat.le_of_ble_eq_true rfl) rfl rfl rfl (Nat.le_of_ble_eq_true rfl) dX7_oneTick_20) rfl (fun r2 => ?_)
    refine j_if_le (tgt := 28) (q := 26) dX7_oneTick_23 rfl rfl ?_ ?_
    · refine j_aload_n (q := 29) (i := 0) (n := 0) dX7_oneTick_28 rfl rfl rfl ?_
      refine g_X7_st (q := 32) wF_X7_29 (Nat.le_of_ble_eq_true rfl) dX7_oneTick_29 rfl ?_
      refine j_bipush (q := 34) (v := (nI 13)) dX7_oneTick_32 rfl rfl ?_
      refine am_ld (k := 105) (n := 31) (q := 35) isM_105 rfl (Nat.le_of_ble_eq_true rfl) dX7_oneTick_34 rfl ?_
      refine j_top (fun v3 => ?_)
      refine j_istore_n (q := 36) (n := 1) (lv' := [(1, .int v3), (0, .ref (za z 77 0))]) dX7_oneTick_35 rfl (Nat.le_of_ble_eq_true rfl) rfl rfl ?_
      refine j_aload_n (q := 37) (i := 1) (n := 0) dX7_oneTick_36 rfl rfl rfl ?_
      refine g_X7_st (q := 40) wF_X7_29 (Nat.le_of_ble_eq_true rfl) dX7_oneTick_37 rfl ?_
      refine j_bipush (q := 42) (v := (nI 19)) dX7_oneTick_40 rfl rfl ?_
      refine j_iload_n (q := 43) (i := 0) (n := 1) dX7_oneTick_42 rfl rfl rfl ?_
      refine j_iadd (q := 44) dX7_oneTick_43 rfl ?_
      refine am_ld (k := 105) (n := 31) (q := 45) isM_105 rfl (Nat.le_of_ble_eq_true rfl) dX7_oneTick_44 rfl ?_
      refine j_top (fun v4 => ?_)
      refine j_istore_n (q := 46) (n := 2) (lv' := [(2, .int v4), (1, .int v3), (0, .ref (za z 77 0))]) dX7_oneTick_45 rfl (Nat.le_of_ble_eq_true rfl) rfl rfl ?_
      refine j_aload_n (q := 47) (i := 2) (n := 0) dX7_oneTick_46 rfl rfl rfl ?_
      refine j_iload_n (q := 48) (i := 1) (n := 1) dX7_oneTick_47 rfl rfl rfl ?_
      refine j_iload_n (q := 49) (i := 0) (n := 2) dX7_oneTick_48 rfl rfl rfl ?_
      refine j_ci (q := 52) (rn_V (R := rm_X7_oneTick) (As := [.int v3, .int v4]) (rest := []) (c_X7_sidesOf _ z gx g1 v3 v4) cv_X7_sidesOf wM_X7_169 ⟨rfl, rfl⟩ ⟨(Nat.le_of_ble_eq_true rfl), (Nat.le_of_ble_eq_true rfl)⟩ (Nat.le_of_ble_eq_true rfl) rfl rfl rfl (Nat.le_of_ble_eq_true rfl) dX7_oneTick_49) rfl (fun r5 => ?_)
      refine j_istore_n (q := 53) (n := 3) (lv' := [(3, .int r5), (2, .int v4), (1, .int v3), (0, .ref (za z 77 0))]) dX7_oneTick_52 rfl (Nat.le_of_ble_eq_true rfl) rfl rfl ?_
      refine j_iload_n (q := 54) (i := 0) (n := 3) dX7_oneTick_53 rfl rfl rfl ?_
      refine j_iconst (q := 55) (v := (nI 2)) dX7_oneTick_54 rfl rfl ?_
      refine j_icmp_ne (tgt := 76) (q := 58) dX7_oneTick_55 rfl rfl ?_ ?_
      · refine j_lv [3, 2, 1, 0] (lv' := [(0, .ref (za z 77 0)), (1, .int v3), (2, .int v4), (3, .int r5)]) rfl ?_
        exact t_X7_oneTick_B76 z gx g1 v3 v4 r5
      · refine j_aload_n (q := 59) (i := 3) (n := 0) dX7_oneTick_58 rfl rfl rfl ?_
        refine g_X7_st (q := 62) wF_X7_29 (Nat.le_of_ble_eq_true rfl) dX7_oneTick_59 rfl ?_
        refine j_iconst (q := 63) (v := (nI 2)) dX7_oneTick_62 rfl rfl ?_
        refine am_ld (k := 105) (n := 31) (q := 64) isM_105 rfl (Nat.le_of_ble_eq_true rfl) dX7_oneTick_63 rfl ?_
        refine j_if_ne (tgt := 76) (q := 67) dX7_oneTick_64 rfl rfl ?_ ?_
        · refine j_lv [3, 2, 1, 0] (lv' := [(0, .ref (za z 77 0)), (1, .int v3), (2, .int v4), (3, .int r5)]) rfl ?_
          exact t_X7_oneTick_B76 z gx g1 v3 v4 r5
        · refine j_aload_n (q := 68) (i := 3) (n := 0) dX7_oneTick_67 rfl rfl rfl ?_
          refine g_X7_st (q := 71) wF_X7_29 (Nat.le_of_ble_eq_true rfl) dX7_oneTick_68 rfl ?_
          refine j_iconst (q := 72) (v := (nI 2)) dX7_oneTick_71 rfl rfl ?_
          refine j_iconst (q := 73) (v := (nI 1)) dX7_oneTick_72 rfl rfl ?_
          refine am_st (k := 105) (n := 31) (q := 74) dm_le isM_105 rfl (Nat.le_of_ble_eq_true rfl) dX7_oneTick_73 rfl (fun g15 => ?_)
          refine j_iconst (q := 75) (v := (nI 0)) dX7_oneTick_74 rfl rfl ?_
          exact j_ret (x := ((nI 0), g15)) dX7_oneTick_75 ⟨trivial, rfl, rfl⟩
    · refine j_iconst (q := 27) (v := (nI 0)) dX7_oneTick_26 rfl rfl ?_
      exact j_ret (x := ((nI 0), g1)) dX7_oneTick_27 ⟨trivial, rfl, rfl⟩
-- CopierJobsModel.note()V
abbrev rm_X7_note : Room := { frames := 0, cells := 0, slots := 0, locals := 0 }
theorem cv_X7_note : CV yX7_note cX7_note 2 (none) 0 := ⟨wC_X7_note, wI_X7_note, wS_X7_note, wZ_X7, by decide +kernel⟩
def m_X7_note_B83 (g : zG) : Option (zG) := bd (ui g 122 0 0 ((gi g 122 0 0) + (nI 1))) fun g1 => some g1
set_option maxRecDepth 100000 in
set_option maxHeartbeats 4000000 in
theorem t_X7_note_B83 {p : Program} {l : Launch} {e : Env} {s : State} {m : MethodId} {args : Array Value} {below : List Frame} {meth : Method} {c : Code} {cells slots : Nat} {Q : zG → State → Prop} (z : zE) (gx : zG) (g : zG) : zJ dm p l e rm_X7_note s m args below meth c cX7_note 2 yX7_note.cls z cells slots (wm z gx) (fn (fun _ => True) (fun x => x) osv) .return_ Q 83 [(0, .ref (za z 77 0))] [] g (m_X7_note_B83 g) := by
  refine j_eq (M2 := bd (ui g 122 0 0 ((gi g 122 0 0) + (nI 1))) fun g1 => some g1) rfl ?_
  refine j_aload_n (q := 84) (i := 0) (n := 0) dX7_note_83 rfl rfl rfl ?_
  refine j_dup (q := 85) dX7_note_84 rfl rfl ?_
  refine g_X7_undoMany (q := 88) wF_X7_133 (Nat.le_of_ble_eq_true rfl) dX7_note_85 rfl ?_
  refine j_iconst (q := 89) (v := (nI 1)) dX7_note_88 rfl rfl ?_
  refine j_iadd (q := 90) dX7_note_89 rfl ?_
  refine p_X7_undoMany (q := 93) dm_le wF_X7_133 (Nat.le_of_ble_eq_true rfl) dX7_note_90 rfl (fun g1 => ?_)
  exact j_ret (x := g1) dX7_note_93 ⟨trivial, rfl, rfl⟩
def m_X7_note_L51 : Nat → zG → Int32 → Option (zG)
  | 0, _, _ => none
  | f + 1, g, x1 => if x1 < (nI 31) then gd (inb x1 31 = true) (gd (inb (((nI 31) * (gi g 122 0 0)) + x1) 310 = true) (bd (ui g 106 0 (((nI 31) * (gi g 122 0 0)) + x1).toNatClampNeg (gi g 105 0 x1.toNatClampNeg)) fun g2 => m_X7_note_L51 f g2 (x1 + (nI 1)))) else m_X7_note_B83 g
set_option maxRecDepth 100000 in
set_option maxHeartbeats 4000000 in
theorem t_X7_note_L51 {p : Program} {l : Launch} {e : Env} {s : State} {m : MethodId} {args : Array Value} {below : List Frame} {meth : Method} {c : Code} {cells slots : Nat} {Q : zG → State → Prop} (z : zE) (gx : zG) : ∀ (f : Nat) (g : zG) (x1 : Int32), zJ dm p l e rm_X7_note s m args below meth c cX7_note 2 yX7_note.cls z cells slots (wm z gx) (fn (fun _ => True) (fun x => x) osv) .return_ Q 51 [(0, .ref (za z 77 0)), (1, .int x1)] [] g (m_X7_note_L51 f g x1) := by
  intro f
  induction f with
  | zero => intro g x1; exact j_none
  | succ f ih =>
    intro g x1
    refine j_eq (M2 := if x1 < (nI 31) then gd (inb x1 31 = true) (gd (inb (((nI 31) * (gi g 122 0 0)) + x1) 310 = true) (bd (ui g 106 0 (((nI 31) * (gi g 122 0 0)) + x1).toNatClampNeg (gi g 105 0 x1.toNatClampNeg)) fun g2 => m_X7_note_L51 f g2 (x1 + (nI 1)))) else m_X7_note_B83 g) rfl ?_
    refine j_iload_n (q := 52) (i := 1) (n := 1) dX7_note_51 rfl rfl rfl ?_
    refine j_bipush (q := 54) (v := (nI 31)) dX7_note_52 rfl rfl ?_
    refine j_icmp_ge (tgt := 83) (q := 57) dX7_note_54 rfl rfl ?_ ?_
    · refine j_lv [0] (lv' := [(0, .ref (za z 77 0))]) rfl ?_
      exact t_X7_note_B83 z gx g
    · refine j_aload_n (q := 58) (i := 0) (n := 0) dX7_note_57 rfl rfl rfl ?_
      refine g_X7_past (q := 61) wF_X7_32 (Nat.le_of_ble_eq_true rfl) dX7_note_58 rfl ?_
      refine j_bipush (q := 63) (v := (nI 31)) dX7_note_61 rfl rfl ?_
      refine j_aload_n (q := 64) (i := 0) (n := 0) dX7_note_63 rfl rfl rfl ?_
      refine g_X7_undoMany (q := 67) wF_X7_133 (Nat.le_of_ble_eq_true rfl) dX7_note_64 rfl ?_
      refine j_imul (q := 68) dX7_note_67 rfl ?_
      refine j_iload_n (q := 69) (i := 1) (n := 1) dX7_note_68 rfl rfl rfl ?_
      refine j_iadd (q := 70) dX7_note_69 rfl ?_
      refine j_aload_n (q := 71) (i := 0) (n := 0) dX7_note_70 rfl rfl rfl ?_
      refine g_X7_st (q := 74) wF_X7_29 (Nat.le_of_ble_eq_true rfl) dX7_note_71 rfl ?_
      refine j_iload_n (q := 75) (i := 1) (n := 1) dX7_note_74 rfl rfl rfl ?_
      refine am_ld (k := 105) (n := 31) (q := 76) isM_105 rfl (Nat.le_of_ble_eq_true rfl) dX7_note_75 rfl ?_
      refine am_st (k := 106) (n := 310) (q := 77) dm_le isM_106 rfl (Nat.le_of_ble_eq_true rfl) dX7_note_76 rfl (fun g2 => ?_)
      refine j_iinc (q := 80) (n := 1) (i := 1) (v := x1 + (nI 1)) (lv' := [(1, .int (x1 + (nI 1))), (0, .ref (za z 77 0))]) dX7_note_77 rfl rfl (Nat.le_of_ble_eq_true rfl) rfl rfl ?_
      refine j_goto (tgt := 51) dX7_note_80 rfl ?_
      refine j_lv [1, 0] (lv' := [(0, .ref (za z 77 0)), (1, .int (x1 + (nI 1)))]) rfl ?_
      exact ih g2 (x1 + (nI 1))
def m_X7_note_B49 (g : zG) : Option (zG) := m_X7_note_L51 FU g (nI 0)
set_option maxRecDepth 100000 in
set_option maxHeartbeats 4000000 in
theorem t_X7_note_B49 {p : Program} {l : Launch} {e : Env} {s : State} {m : MethodId} {args : Array Value} {below : List Frame} {meth : Method} {c : Code} {cells slots : Nat} {Q : zG → State → Prop} (z : zE) (gx : zG) (g : zG) : zJ dm p l e rm_X7_note s m args below meth c cX7_note 2 yX7_note.cls z cells slots (wm z gx) (fn (fun _ => True) (fun x => x) osv) .return_ Q 49 [(0, .ref (za z 77 0))] [] g (m_X7_note_B49 g) := by
  refine j_eq (M2 := m_X7_note_L51 FU g (nI 0)) rfl ?_
  refine j_iconst (q := 50) (v := (nI 0)) dX7_note_49 rfl rfl ?_
  refine j_istore_n (q := 51) (n := 1) (lv' := [(1, .int (nI 0)), (0, .ref (za z 77 0))]) dX7_note_50 rfl (Nat.le_of_ble_eq_true rfl) rfl rfl ?_
  refine j_lv [1, 0] (lv' := [(0, .ref (za z 77 0)), (1, .int (nI 0))]) rfl ?_
  exact t_X7_note_L51 z gx FU g (nI 0)
def m_X7_note_B39 (g : zG) : Option (zG) := bd (ui g 122 0 0 ((gi g 122 0 0) - (nI 1))) fun g3 => m_X7_note_B49 g3
set_option maxRecDepth 100000 in
set_option maxHeartbeats 4000000 in
theorem t_X7_note_B39 {p : Program} {l : Launch} {e : Env} {s : State} {m : MethodId} {args : Array Value} {below : List Frame} {meth : Method} {c : Code} {cells slots : Nat} {Q : zG → State → Prop} (z : zE) (gx : zG) (g : zG) : zJ dm p l e rm_X7_note s m args below meth c cX7_note 2 yX7_note.cls z cells slots (wm z gx) (fn (fun _ => True) (fun x => x) osv) .return_ Q 39 [(0, .ref (za z 77 0))] [] g (m_X7_note_B39 g) := by
  refine j_eq (M2 := bd (ui g 122 0 0 ((gi g 122 0 0) - (nI 1))) fun g3 => m_X7_note_B49 g3) rfl ?_
  refine j_aload_n (q := 40) (i := 0) (n := 0) dX7_note_39 rfl rfl rfl ?_
  refine j_dup (q := 41) dX7_note_40 rfl rfl ?_
  refine g_X7_undoMany (q := 44) wF_X7_133 (Nat.le_of_ble_eq_true rfl) dX7_note_41 rfl ?_
  refine j_iconst (q := 45) (v := (nI 1)) dX7_note_44 rfl rfl ?_
  refine j_isub (q := 46) dX7_note_45 rfl ?_
  refine p_X7_undoMany (q := 49) dm_le wF_X7_133 (Nat.le_of_ble_eq_true rfl) dX7_note_46 rfl (fun g3 => ?_)
  exact t_X7_note_B49 z gx g3
def m_X7_note_L11 : Nat → zG → Int32 → Option (zG)
  | 0, _, _ => none
  | f + 1, g, x1 => if x1 < (nI 279) then gd (inb (x1 + (nI 31)) 310 = true) (gd (inb x1 310 = true) (bd (ui g 106 0 x1.toNatClampNeg (gi g 106 0 (x1 + (nI 31)).toNatClampNeg)) fun g4 => m_X7_note_L11 f g4 (x1 + (nI 1)))) else m_X7_note_B39 g
set_option maxRecDepth 100000 in
set_option maxHeartbeats 4000000 in
theorem t_X7_note_L11 {p : Program} {l : Launch} {e : Env} {s : State} {m : MethodId} {args : Array Value} {below : List Frame} {meth : Method} {c : Code} {cells slots : Nat} {Q : zG → State → Prop} (z : zE) (gx : zG) : ∀ (f : Nat) (g : zG) (x1 : Int32), zJ dm p l e rm_X7_note s m args below meth c cX7_note 2 yX7_note.cls z cells slots (wm z gx) (fn (fun _ => True) (fun x => x) osv) .return_ Q 11 [(0, .ref (za z 77 0)), (1, .int x1)] [] g (m_X7_note_L11 f g x1) := by
  intro f
  induction f with
  | zero => intro g x1; exact j_none
  | succ f ih =>
    intro g x1
    refine j_eq (M2 := if x1 < (nI 279) then gd (inb (x1 + (nI 31)) 310 = true) (gd (inb x1 310 = true) (bd (ui g 106 0 x1.toNatClampNeg (gi g 106 0 (x1 + (nI 31)).toNatClampNeg)) fun g4 => m_X7_note_L11 f g4 (x1 + (nI 1)))) else m_X7_note_B39 g) rfl ?_
    refine j_iload_n (q := 12) (i := 1) (n := 1) dX7_note_11 rfl rfl rfl ?_
    refine j_sipush (q := 15) (v := (nI 279)) dX7_note_12 rfl rfl ?_
    refine j_icmp_ge (tgt := 39) (q := 18) dX7_note_15 rfl rfl ?_ ?_
    · refine j_lv [0] (lv' := [(0, .ref (za z 77 0))]) rfl ?_
      exact t_X7_note_B39 z gx g
    · refine j_aload_n (q := 19) (i := 0) (n := 0) dX7_note_18 rfl rfl rfl ?_
      refine g_X7_past (q := 22) wF_X7_32 (Nat.le_of_ble_eq_true rfl) dX7_note_19 rfl ?_
      refine j_iload_n (q := 23) (i := 1) (n := 1) dX7_note_22 rfl rfl rfl ?_
      refine j_aload_n (q := 24) (i := 0) (n := 0) dX7_note_23 rfl rfl rfl ?_
      refine g_X7_past (q := 27) wF_X7_32 (Nat.le_of_ble_eq_true rfl) dX7_note_24 rfl ?_
      refine j_iload_n (q := 28) (i := 1) (n := 1) dX7_note_27 rfl rfl rfl ?_
      refine j_bipush (q := 30) (v := (nI 31)) dX7_note_28 rfl rfl ?_
      refine j_iadd (q := 31) dX7_note_30 rfl ?_
      refine am_ld (k := 106) (n := 310) (q := 32) isM_106 rfl (Nat.le_of_ble_eq_true rfl) dX7_note_31 rfl ?_
      refine am_st (k := 106) (n := 310) (q := 33) dm_le isM_106 rfl (Nat.le_of_ble_eq_true rfl) dX7_note_32 rfl (fun g4 => ?_)
      refine j_iinc (q := 36) (n := 1) (i := 1) (v := x1 + (nI 1)) (lv' := [(1, .int (x1 + (nI 1))), (0, .ref (za z 77 0))]) dX7_note_33 rfl rfl (Nat.le_of_ble_eq_true rfl) rfl rfl ?_
      refine j_goto (tgt := 11) dX7_note_36 rfl ?_
      refine j_lv [1, 0] (lv' := [(0, .ref (za z 77 0)), (1, .int (x1 + (nI 1)))]) rfl ?_
      exact ih g4 (x1 + (nI 1))
def m_X7_note (g : zG) : Option (zG) := if (gi g 122 0 0) = (nI 10) then m_X7_note_L11 FU g (nI 0) else m_X7_note_B49 g
set_option maxRecDepth 100000 in
set_option maxHeartbeats 4000000 in
theorem c_X7_note (l : Launch) (z : zE) (gx : zG) (g : zG) : ∀ x, m_X7_note g = some x → Ms dm l yX7_note cX7_note 2 (none) rm_X7_note z [.ref (za z 77 0)] ((wm z gx) g) (osv x) ((wm z gx) ((fun x => x) x)) := by
  refine ms_of (Wf := (wm z gx)) (ri := .return_) (out := osv) (nxt := (fun x => x)) (ok := (fun _ => True)) (lv := [(0, .ref (za z 77 0))]) (by decide) ⟨rfl, rfl⟩ (Nat.le_of_ble_eq_true rfl) rfl (en_v ) (fun p e s m below meth c => ?_)
  refine j_eq (M2 := if (gi g 122 0 0) = (nI 10) then m_X7_note_L11 FU g (nI 0) else m_X7_note_B49 g) rfl ?_
  refine j_aload_n (q := 1) (i := 0) (n := 0) dX7_note_0 rfl rfl rfl ?_
  refine g_X7_undoMany (q := 4) wF_X7_133 (Nat.le_of_ble_eq_true rfl) dX7_note_1 rfl ?_
  refine j_bipush (q := 6) (v := (nI 10)) dX7_note_4 rfl rfl ?_
  refine j_icmp_ne (tgt := 49) (q := 9) dX7_note_6 rfl rfl ?_ ?_
  · exact t_X7_note_B49 z gx g
  · refine j_iconst (q := 10) (v := (nI 0)) dX7_note_9 rfl rfl ?_
    refine j_istore_n (q := 11) (n := 1) (lv' := [(1, .int (nI 0)), (0, .ref (za z 77 0))]) dX7_note_10 rfl (Nat.le_of_ble_eq_true rfl) rfl rfl ?_
    refine j_lv [1, 0] (lv' := [(0, .ref (za z 77 0)), (1, .int (nI 0))]) rfl ?_
    exact t_X7_note_L11 z gx FU g (nI 0)
-- CopierJobsModel.ticks(I)I
abbrev rm_X7_ticks : Room := { frames := 7, cells := 0, slots := 0, locals := 155 }
theorem cv_X7_ticks : CV yX7_ticks cX7_ticks 4 (some .int) 1 := ⟨wC_X7_ticks, wI_X7_ticks, wS_X7_ticks, wZ_X7, by decide +kernel⟩
def m_X7_ticks_L39 (a0 : Int32) : Nat → zG → Int32 → Int32 → Option (Int32 × zG)
  | 0, _, _, _ => none
  | f + 1, g, x2, x3 => if x3 < a0 then sb (m_X7_oneTick g) fun r3 g4 => m_X7_ticks_L39 a0 f g4 (x2 + r3) (x3 + (nI 1)) else some (x2, g)
set_option maxRecDepth 100000 in
set_option maxHeartbeats 4000000 in
theorem t_X7_ticks_L39 {p : Program} {l : Launch} {e : Env} {s : State} {m : MethodId} {args : Array Value} {below : List Frame} {meth : Method} {c : Code} {cells slots : Nat} {Q : (Int32 × zG) → State → Prop} (z : zE) (gx : zG) (a0 : Int32) : ∀ (f : Nat) (g : zG) (x2 : Int32) (x3 : Int32), zJ dm p l e rm_X7_ticks s m args below meth c cX7_ticks 4 yX7_ticks.cls z cells slots (wm z gx) (fn (fun _ => True) (fun x => x.2) osi) .ireturn Q 39 [(0, .ref (za z 77 0)), (1, .int a0), (2, .int x2), (3, .int x3)] [] g (m_X7_ticks_L39 a0 f g x2 x3) := by
  intro f
  induction f with
  | zero => intro g x2 x3; exact j_none
  | succ f ih =>
    intro g x2 x3
    refine j_eq (M2 := if x3 < a0 then sb (m_X7_oneTick g) fun r3 g4 => m_X7_ticks_L39 a0 f g4 (x2 + r3) (x3 + (nI 1)) else some (x2, g)) rfl ?_
    refine j_iload_n (q := 40) (i := 3) (n := 3) dX7_ticks_39 rfl rfl rfl ?_
    refine j_iload_n (q := 41) (i := 1) (n := 1) dX7_ticks_40 rfl rfl rfl ?_
    refine j_icmp_ge (tgt := 57) (q := 44) dX7_ticks_41 rfl rfl ?_ ?_
    · refine j_iload_n (q := 58) (i := 2) (n := 2) dX7_ticks_57 rfl rfl rfl ?_
      exact j_ret (x := (x2, g)) dX7_ticks_58 ⟨trivial, rfl, rfl⟩
    · refine j_iload_n (q := 45) (i := 2) (n := 2) dX7_ticks_44 rfl rfl rfl ?_
      refine j_aload_n (q := 46) (i := 0) (n := 0) dX7_ticks_45 rfl rfl rfl ?_
      refine j_ss (q := 49) (rn_V (R := rm_X7_ticks) (As := []) (rest := [.int x2]) (c_X7_oneTick _ z gx g) cv_X7_oneTick wM_X7_184 ⟨rfl, rfl⟩ ⟨(Nat.le_of_ble_eq_true rfl), (Nat.le_of_ble_eq_true rfl)⟩ (Nat.le_of_ble_eq_true rfl) rfl rfl rfl (Nat.le_of_ble_eq_true rfl) dX7_ticks_46) rfl (fun r3 g4 => ?_)
      refine j_iadd (q := 50) dX7_ticks_49 rfl ?_
      refine j_istore_n (q := 51) (n := 2) (lv' := [(2, .int (x2 + r3)), (0, .ref (za z 77 0)), (1, .int a0), (3, .int x3)]) dX7_ticks_50 rfl (Nat.le_of_ble_eq_true rfl) rfl rfl ?_
      refine j_iinc (q := 54) (n := 3) (i := 3) (v := x3 + (nI 1)) (lv' := [(3, .int (x3 + (nI 1))), (2, .int (x2 + r3)), (0, .ref (za z 77 0)), (1, .int a0)]) dX7_ticks_51 rfl rfl (Nat.le_of_ble_eq_true rfl) rfl rfl ?_
      refine j_goto (tgt := 39) dX7_ticks_54 rfl ?_
      refine j_lv [2, 3, 1, 0] (lv' := [(0, .ref (za z 77 0)), (1, .int a0), (2, .int (x2 + r3)), (3, .int (x3 + (nI 1)))]) rfl ?_
      exact ih g4 (x2 + r3) (x3 + (nI 1))
def m_X7_ticks (g : zG) (a0 : Int32) : Option (Int32 × zG) := (m_X7_in (Int32.toInt64 a0) 1 20).bind fun r1 => if r1 = (nI 0) then some ((-1), g) else gd (inb (nI 0) 31 = true) (if (nI 9999) < ((gi g 105 0 (nI 0).toNatClampNeg) + a0) then some ((-2), g) else (m_X7_note g).bind fun g2 => m_X7_ticks_L39 a0 FU g2 (nI 0) (nI 0))
set_option maxRecDepth 100000 in
set_option maxHeartbeats 4000000 in
theorem c_X7_ticks (l : Launch) (z : zE) (gx : zG) (g : zG) (a0 : Int32) : ∀ x, m_X7_ticks g a0 = some x → Ms dm l yX7_ticks cX7_ticks 4 (some .int) rm_X7_ticks z [.ref (za z 77 0), .int a0] ((wm z gx) g) (osi x) ((wm z gx) ((fun x => x.2) x)) := by
  refine ms_of (Wf := (wm z gx)) (ri := .ireturn) (out := osi) (nxt := (fun x => x.2)) (ok := (fun _ => True)) (lv := [(0, .ref (za z 77 0)), (1, .int a0)]) (by decide) ⟨rfl, rfl⟩ (Nat.le_of_ble_eq_true rfl) rfl (en_i (out := fun x : Int32 × zG => x.1)) (fun p e s m below meth c => ?_)
  refine j_eq (M2 := (m_X7_in (Int32.toInt64 a0) 1 20).bind fun r1 => if r1 = (nI 0) then some ((-1), g) else gd (inb (nI 0) 31 = true) (if (nI 9999) < ((gi g 105 0 (nI 0).toNatClampNeg) + a0) then some ((-2), g) else (m_X7_note g).bind fun g2 => m_X7_ticks_L39 a0 FU g2 (nI 0) (nI 0))) rfl ?_
  refine j_iload_n (q := 1) (i := 1) (n := 1) dX7_ticks_0 rfl rfl rfl ?_
  refine j_i2l (q := 2) dX7_ticks_1 rfl ?_
  refine j_lconst (q := 3) (v := 1) dX7_ticks_2 rfl rfl ?_
  refine j_ldc2 (q := 6) (v := 20) dX7_ticks_3 wW_X7_179 rfl ?_
  refine j_ci (q := 9) (rn_S (R := rm_X7_ticks) (As := [.long (Int32.toInt64 a0), .long 1, .long 20]) (rest := []) (c_X7_in _ z gx g (Int32.toInt64 a0) 1 20) cv_X7_in wM_X7_62 ⟨rfl, rfl⟩ ⟨(Nat.le_of_ble_eq_true rfl), (Nat.le_of_ble_eq_true rfl)⟩ rfl (Nat.le_of_ble_eq_true rfl) dX7_ticks_6) rfl (fun r1 => ?_)
  refine j_if_ne (tgt := 14) (q := 12) dX7_ticks_9 rfl rfl ?_ ?_
  · refine j_aload_n (q := 15) (i := 0) (n := 0) dX7_ticks_14 rfl rfl rfl ?_
    refine g_X7_st (q := 18) wF_X7_29 (Nat.le_of_ble_eq_true rfl) dX7_ticks_15 rfl ?_
    refine j_iconst (q := 19) (v := (nI 0)) dX7_ticks_18 rfl rfl ?_
    refine am_ld (k := 105) (n := 31) (q := 20) isM_105 rfl (Nat.le_of_ble_eq_true rfl) dX7_ticks_19 rfl ?_
    refine j_iload_n (q := 21) (i := 1) (n := 1) dX7_ticks_20 rfl rfl rfl ?_
    refine j_iadd (q := 22) dX7_ticks_21 rfl ?_
    refine j_sipush (q := 25) (v := (nI 9999)) dX7_ticks_22 rfl rfl ?_
    refine j_icmp_le (tgt := 31) (q := 28) dX7_ticks_25 rfl rfl ?_ ?_
    · refine j_aload_n (q := 32) (i := 0) (n := 0) dX7_ticks_31 rfl rfl rfl ?_
      refine j_sv (q := 35) (rn_V (R := rm_X7_ticks) (As := []) (rest := []) (c_X7_note _ z gx g) cv_X7_note wM_X7_181 ⟨rfl, rfl⟩ ⟨(Nat.le_of_ble_eq_true rfl), (Nat.le_of_ble_eq_true rfl)⟩ (Nat.le_of_ble_eq_true rfl) rfl rfl rfl (Nat.le_of_ble_eq_true rfl) dX7_ticks_32) rfl (fun g2 => ?_)
      refine j_iconst (q := 36) (v := (nI 0)) dX7_ticks_35 rfl rfl ?_
      refine j_istore_n (q := 37) (n := 2) (lv' := [(2, .int (nI 0)), (0, .ref (za z 77 0)), (1, .int a0)]) dX7_ticks_36 rfl (Nat.le_of_ble_eq_true rfl) rfl rfl ?_
      refine j_iconst (q := 38) (v := (nI 0)) dX7_ticks_37 rfl rfl ?_
      refine j_istore_n (q := 39) (n := 3) (lv' := [(3, .int (nI 0)), (2, .int (nI 0)), (0, .ref (za z 77 0)), (1, .int a0)]) dX7_ticks_38 rfl (Nat.le_of_ble_eq_true rfl) rfl rfl ?_
      refine j_lv [2, 3, 1, 0] (lv' := [(0, .ref (za z 77 0)), (1, .int a0), (2, .int (nI 0)), (3, .int (nI 0))]) rfl ?_
      exact t_X7_ticks_L39 z gx a0 FU g2 (nI 0) (nI 0)
    · refine j_bipush (q := 30) (v := (-2)) dX7_ticks_28 rfl rfl ?_
      exact j_ret (x := ((-2), g)) dX7_ticks_30 ⟨trivial, rfl, rfl⟩
  · refine j_iconst (q := 13) (v := (-1)) dX7_ticks_12 rfl rfl ?_
    exact j_ret (x := ((-1), g)) dX7_ticks_13 ⟨trivial, rfl, rfl⟩
-- CopierJobsModel.ahead(I)I
abbrev rm_X7_ahead : Room := { frames := 2, cells := 0, slots := 0, locals := 46 }
theorem cv_X7_ahead : CV yX7_ahead cX7_ahead 5 (some .int) 1 := ⟨wC_X7_ahead, wI_X7_ahead, wS_X7_ahead, wZ_X7, by decide +kernel⟩
def m_X7_ahead_B71 (a0 : Int32) (g : zG) (x3 : Int32) : Option (Int32 × zG) := gd (inb (nI 13) 31 = true) (bd (ui g 105 0 (nI 13).toNatClampNeg a0) fun g5 => gd (inb (nI 2) 31 = true) (bd (ui g5 105 0 (nI 2).toNatClampNeg (nI 0)) fun g6 => some (x3, g6)))
set_option maxRecDepth 100000 in
set_option maxHeartbeats 4000000 in
theorem t_X7_ahead_B71 {p : Program} {l : Launch} {e : Env} {s : State} {m : MethodId} {args : Array Value} {below : List Frame} {meth : Method} {c : Code} {cells slots : Nat} {Q : (Int32 × zG) → State → Prop} (z : zE) (gx : zG) (a0 : Int32) (g : zG) (x3 : Int32) : zJ dm p l e rm_X7_ahead s m args below meth c cX7_ahead 5 yX7_ahead.cls z cells slots (wm z gx) (fn (fun _ => True) (fun x => x.2) osi) .ireturn Q 71 [(0, .ref (za z 77 0)), (1, .int a0), (3, .int x3)] [] g (m_X7_ahead_B71 a0 g x3) := by
  refine j_eq (M2 := gd (inb (nI 13) 31 = true) (bd (ui g 105 0 (nI 13).toNatClampNeg a0) fun g5 => gd (inb (nI 2) 31 = true) (bd (ui g5 105 0 (nI 2).toNatClampNeg (nI 0)) fun g6 => some (x3, g6)))) rfl ?_
  refine j_aload_n (q := 72) (i := 0) (n := 0) dX7_ahead_71 rfl rfl rfl ?_
  refine g_X7_st (q := 75) wF_X7_29 (Nat.le_of_ble_eq_true rfl) dX7_ahead_72 rfl ?_
  refine j_bipush (q := 77) (v := (nI 13)) dX7_ahead_75 rfl rfl ?_
  refine j_iload_n (q := 78) (i := 1) (n := 1) dX7_ahead_77 rfl rfl rfl ?_
  refine am_st (k := 105) (n := 31) (q := 79) dm_le isM_105 rfl (Nat.le_of_ble_eq_true rfl) dX7_ahead_78 rfl (fun g5 => ?_)
  refine j_aload_n (q := 80) (i := 0) (n := 0) dX7_ahead_79 rfl rfl rfl ?_
  refine g_X7_st (q := 83) wF_X7_29 (Nat.le_of_ble_eq_true rfl) dX7_ahead_80 rfl ?_
  refine j_iconst (q := 84) (v := (nI 2)) dX7_ahead_83 rfl rfl ?_
  refine j_iconst (q := 85) (v := (nI 0)) dX7_ahead_84 rfl rfl ?_
  refine am_st (k := 105) (n := 31) (q := 86) dm_le isM_105 rfl (Nat.le_of_ble_eq_true rfl) dX7_ahead_85 rfl (fun g6 => ?_)
  refine j_iload_n (q := 87) (i := 2) (n := 3) dX7_ahead_86 rfl rfl rfl ?_
  exact j_ret (x := (x3, g6)) dX7_ahead_87 ⟨trivial, rfl, rfl⟩
def m_X7_ahead_L38 (a0 : Int32) : Nat → zG → Int32 → Int32 → Option (Int32 × zG)
  | 0, _, _, _ => none
  | f + 1, g, x3, x4 => if (nI 0) < x4 then gd (inb (((nI 13) + x4) - (nI 1)) 31 = true) (gd (inb ((nI 13) + x4) 31 = true) (bd (ui g 105 0 ((nI 13) + x4).toNatClampNeg (gi g 105 0 (((nI 13) + x4) - (nI 1)).toNatClampNeg)) fun g7 => m_X7_ahead_L38 a0 f g7 x3 (x4 + (-1)))) else m_X7_ahead_B71 a0 g x3
set_option maxRecDepth 100000 in
set_option maxHeartbeats 4000000 in
theorem t_X7_ahead_L38 {p : Program} {l : Launch} {e : Env} {s : State} {m : MethodId} {args : Array Value} {below : List Frame} {meth : Method} {c : Code} {cells slots : Nat} {Q : (Int32 × zG) → State → Prop} (z : zE) (gx : zG) (a0 : Int32) : ∀ (f : Nat) (g : zG) (x3 : Int32) (x4 : Int32), zJ dm p l e rm_X7_ahead s m args below meth c cX7_ahead 5 yX7_ahead.cls z cells slots (wm z gx) (fn (fun _ => True) (fun x => x.2) osi) .ireturn Q 38 [(0, .ref (za z 77 0)), (1, .int a0), (3, .int x3), (4, .int x4)] [] g (m_X7_ahead_L38 a0 f g x3 x4) := by
  intro f
  induction f with
  | zero => intro g x3 x4; exact j_none
  | succ f ih =>
    intro g x3 x4
    refine j_eq (M2 := if (nI 0) < x4 then gd (inb (((nI 13) + x4) - (nI 1)) 31 = true) (gd (inb ((nI 13) + x4) 31 = true) (bd (ui g 105 0 ((nI 13) + x4).toNatClampNeg (gi g 105 0 (((nI 13) + x4) - (nI 1)).toNatClampNeg)) fun g7 => m_X7_ahead_L38 a0 f g7 x3 (x4 + (-1)))) else m_X7_ahead_B71 a0 g x3) rfl ?_
    refine j_iload (q := 40) (i := 3) (n := 4) dX7_ahead_38 rfl rfl ?_
    refine j_if_le (tgt := 71) (q := 43) dX7_ahead_40 rfl rfl ?_ ?_
    · refine j_lv [0, 1, 2] (lv' := [(0, .ref (za z 77 0)), (1, .int a0), (3, .int x3)]) rfl ?_
      exact t_X7_ahead_B71 z gx a0 g x3
    · refine j_aload_n (q := 44) (i := 0) (n := 0) dX7_ahead_43 rfl rfl rfl ?_
      refine g_X7_st (q := 47) wF_X7_29 (Nat.le_of_ble_eq_true rfl) dX7_ahead_44 rfl ?_
      refine j_bipush (q := 49) (v := (nI 13)) dX7_ahead_47 rfl rfl ?_
      refine j_iload (q := 51) (i := 3) (n := 4) dX7_ahead_49 rfl rfl ?_
      refine j_iadd (q := 52) dX7_ahead_51 rfl ?_
      refine j_aload_n (q := 53) (i := 0) (n := 0) dX7_ahead_52 rfl rfl rfl ?_
      refine g_X7_st (q := 56) wF_X7_29 (Nat.le_of_ble_eq_true rfl) dX7_ahead_53 rfl ?_
      refine j_bipush (q := 58) (v := (nI 13)) dX7_ahead_56 rfl rfl ?_
      refine j_iload (q := 60) (i := 3) (n := 4) dX7_ahead_58 rfl rfl ?_
      refine j_iadd (q := 61) dX7_ahead_60 rfl ?_
      refine j_iconst (q := 62) (v := (nI 1)) dX7_ahead_61 rfl rfl ?_
      refine j_isub (q := 63) dX7_ahead_62 rfl ?_
      refine am_ld (k := 105) (n := 31) (q := 64) isM_105 rfl (Nat.le_of_ble_eq_true rfl) dX7_ahead_63 rfl ?_
      refine am_st (k := 105) (n := 31) (q := 65) dm_le isM_105 rfl (Nat.le_of_ble_eq_true rfl) dX7_ahead_64 rfl (fun g7 => ?_)
      refine j_iinc (q := 68) (n := 4) (i := 3) (v := x4 + (-1)) (lv' := [(4, .int (x4 + (-1))), (0, .ref (za z 77 0)), (1, .int a0), (3, .int x3)]) dX7_ahead_65 rfl rfl (Nat.le_of_ble_eq_true rfl) rfl rfl ?_
      refine j_goto (tgt := 38) dX7_ahead_68 rfl ?_
      refine j_lv [1, 2, 3, 0] (lv' := [(0, .ref (za z 77 0)), (1, .int a0), (3, .int x3), (4, .int (x4 + (-1)))]) rfl ?_
      exact ih g7 x3 (x4 + (-1))
def m_X7_ahead (g : zG) (a0 : Int32) : Option (Int32 × zG) := (m_X7_isJob g a0).bind fun r1 => if r1 = (nI 0) then some ((-1), g) else (m_X7_placeOf g a0).bind fun r2 => if (nI 0) < r2 then (m_X7_note g).bind fun g3 => gd (inb (nI 13) 31 = true) (bd (gi g3 105 0 (nI 13).toNatClampNeg) fun v4 => m_X7_ahead_L38 a0 FU g3 v4 r2) else some ((-2), g)
set_option maxRecDepth 100000 in
set_option maxHeartbeats 4000000 in
theorem c_X7_ahead (l : Launch) (z : zE) (gx : zG) (g : zG) (a0 : Int32) : ∀ x, m_X7_ahead g a0 = some x → Ms dm l yX7_ahead cX7_ahead 5 (some .int) rm_X7_ahead z [.ref (za z 77 0), .int a0] ((wm z gx) g) (osi x) ((wm z gx) ((fun x => x.2) x)) := by
  refine ms_of (Wf := (wm z gx)) (ri := .ireturn) (out := osi) (nxt := (fun x => x.2)) (ok := (fun _ => True)) (lv := [(0, .ref (za z 77 0)), (1, .int a0)]) (by decide) ⟨rfl, rfl⟩ (Nat.le_of_ble_eq_true rfl) rfl (en_i (out := fun x : Int32 × zG => x.1)) (fun p e s m below meth c => ?_)
  refine j_eq (M2 := (m_X7_isJob g a0).bind fun r1 => if r1 = (nI 0) then some ((-1), g) else (m_X7_placeOf g a0).bind fun r2 => if (nI 0) < r2 then (m_X7_note g).bind fun g3 => gd (inb (nI 13) 31 = true) (bd (gi g3 105 0 (nI 13).toNatClampNeg) fun v4 => m_X7_ahead_L38 a0 FU g3 v4 r2) else some ((-2), g)) rfl ?_
  refine j_aload_n (q := 1) (i := 0) (n := 0) dX7_ahead_0 rfl rfl rfl ?_
  refine j_iload_n (q := 2) (i := 1) (n := 1) dX7_ahead_1 rfl rfl rfl ?_
  refine j_ci (q := 5) (rn_V (R := rm_X7_ahead) (As := [.int a0]) (rest := []) (c_X7_isJob _ z gx g a0) cv_X7_isJob wM_X7_156 ⟨rfl, rfl⟩ ⟨(Nat.le_of_ble_eq_true rfl), (Nat.le_of_ble_eq_true rfl)⟩ (Nat.le_of_ble_eq_true rfl) rfl rfl rfl (Nat.le_of_ble_eq_true rfl) dX7_ahead_2) rfl (fun r1 => ?_)
  refine j_if_ne (tgt := 10) (q := 8) dX7_ahead_5 rfl rfl ?_ ?_
  · refine j_aload_n (q := 11) (i := 0) (n := 0) dX7_ahead_10 rfl rfl rfl ?_
    refine j_iload_n (q := 12) (i := 1) (n := 1) dX7_ahead_11 rfl rfl rfl ?_
    refine j_ci (q := 15) (rn_V (R := rm_X7_ahead) (As := [.int a0]) (rest := []) (c_X7_placeOf _ z gx g a0) cv_X7_placeOf wM_X7_187 ⟨rfl, rfl⟩ ⟨(Nat.le_of_ble_eq_true rfl), (Nat.le_of_ble_eq_true rfl)⟩ (Nat.le_of_ble_eq_true rfl) rfl rfl rfl (Nat.le_of_ble_eq_true rfl) dX7_ahead_12) rfl (fun r2 => ?_)
    refine j_istore_n (q := 16) (n := 2) (lv' := [(2, .int r2), (0, .ref (za z 77 0)), (1, .int a0)]) dX7_ahead_15 rfl (Nat.le_of_ble_eq_true rfl) rfl rfl ?_
    refine j_iload_n (q := 17) (i := 0) (n := 2) dX7_ahead_16 rfl rfl rfl ?_
    refine j_if_gt (tgt := 23) (q := 20) dX7_ahead_17 rfl rfl ?_ ?_
    · refine j_aload_n (q := 24) (i := 1) (n := 0) dX7_ahead_23 rfl rfl rfl ?_
      refine j_sv (q := 27) (rn_V (R := rm_X7_ahead) (As := []) (rest := []) (c_X7_note _ z gx g) cv_X7_note wM_X7_181 ⟨rfl, rfl⟩ ⟨(Nat.le_of_ble_eq_true rfl), (Nat.le_of_ble_eq_true rfl)⟩ (Nat.le_of_ble_eq_true rfl) rfl rfl rfl (Nat.le_of_ble_eq_true rfl) dX7_ahead_24) rfl (fun g3 => ?_)
      refine j_aload_n (q := 28) (i := 1) (n := 0) dX7_ahead_27 rfl rfl rfl ?_
      refine g_X7_st (q := 31) wF_X7_29 (Nat.le_of_ble_eq_true rfl) dX7_ahead_28 rfl ?_
      refine j_bipush (q := 33) (v := (nI 13)) dX7_ahead_31 rfl rfl ?_
      refine am_ld (k := 105) (n := 31) (q := 34) isM_105 rfl (Nat.le_of_ble_eq_true rfl) dX7_ahead_33 rfl ?_
      refine j_top (fun v4 => ?_)
      refine j_istore_n (q := 35) (n := 3) (lv' := [(3, .int v4), (2, .int r2), (0, .ref (za z 77 0)), (1, .int a0)]) dX7_ahead_34 rfl (Nat.le_of_ble_eq_true rfl) rfl rfl ?_
      refine j_iload_n (q := 36) (i := 1) (n := 2) dX7_ahead_35 rfl rfl rfl ?_
      refine j_istore (q := 38) (n := 4) (lv' := [(4, .int r2), (3, .int v4), (2, .int r2), (0, .ref (za z 77 0)), (1, .int a0)]) dX7_ahead_36 (Nat.le_of_ble_eq_true rfl) rfl rfl ?_
      refine j_lv [3, 4, 1, 0] (lv' := [(0, .ref (za z 77 0)), (1, .int a0), (3, .int v4), (4, .int r2)]) rfl ?_
      exact t_X7_ahead_L38 z gx a0 FU g3 v4 r2
    · refine j_bipush (q := 22) (v := (-2)) dX7_ahead_20 rfl rfl ?_
      exact j_ret (x := ((-2), g)) dX7_ahead_22 ⟨trivial, rfl, rfl⟩
  · refine j_iconst (q := 9) (v := (-1)) dX7_ahead_8 rfl rfl ?_
    exact j_ret (x := ((-1), g)) dX7_ahead_9 ⟨trivial, rfl, rfl⟩
-- CopierJobsModel.breaks(I)I
abbrev rm_X7_breaks : Room := { frames := 2, cells := 0, slots := 0, locals := 46 }
theorem cv_X7_breaks : CV yX7_breaks cX7_breaks 3 (some .int) 1 := ⟨wC_X7_breaks, wI_X7_breaks, wS_X7_breaks, wZ_X7, by decide +kernel⟩
def m_X7_breaks (g : zG) (a0 : Int32) : Option (Int32 × zG) := (m_X7_isJob g a0).bind fun r1 => if r1 = (nI 0) then some ((-1), g) else (m_X7_placeOf g a0).bind fun r2 => if r2 < (nI 0) then some ((-2), g) else (m_X7_note g).bind fun g3 => (m_X7_leaveAt g3 r2).bind fun g4 => if r2 = (nI 0) then gd (inb (nI 2) 31 = true) (bd (ui g4 105 0 (nI 2).toNatClampNeg (nI 0)) fun g6 => gd (inb (nI 3) 31 = true) (some (gi g6 105 0 (nI 3).toNatClampNeg, g6))) else gd (inb (nI 2) 31 = true) (gd (inb (nI 2) 31 = true) (bd (ui g4 105 0 (nI 2).toNatClampNeg (gi g4 105 0 (nI 2).toNatClampNeg)) fun g5 => gd (inb (nI 3) 31 = true) (some (gi g5 105 0 (nI 3).toNatClampNeg, g5))))
set_option maxRecDepth 100000 in
set_option maxHeartbeats 4000000 in
theorem c_X7_breaks (l : Launch) (z : zE) (gx : zG) (g : zG) (a0 : Int32) : ∀ x, m_X7_breaks g a0 = some x → Ms dm l yX7_breaks cX7_breaks 3 (some .int) rm_X7_breaks z [.ref (za z 77 0), .int a0] ((wm z gx) g) (osi x) ((wm z gx) ((fun x => x.2) x)) := by
  refine ms_of (Wf := (wm z gx)) (ri := .ireturn) (out := osi) (nxt := (fun x => x.2)) (ok := (fun _ => True)) (lv := [(0, .ref (za z 77 0)), (1, .int a0)]) (by decide) ⟨rfl, rfl⟩ (Nat.le_of_ble_eq_true rfl) rfl (en_i (out := fun x : Int32 × zG => x.1)) (fun p e s m below meth c => ?_)
  refine j_eq (M2 := (m_X7_isJob g a0).bind fun r1 => if r1 = (nI 0) then some ((-1), g) else (m_X7_placeOf g a0).bind fun r2 => if r2 < (nI 0) then some ((-2), g) else (m_X7_note g).bind fun g3 => (m_X7_leaveAt g3 r2).bind fun g4 => if r2 = (nI 0) then gd (inb (nI 2) 31 = true) (bd (ui g4 105 0 (nI 2).toNatClampNeg (nI 0)) fun g6 => gd (inb (nI 3) 31 = true) (some (gi g6 105 0 (nI 3).toNatClampNeg, g6))) else gd (inb (nI 2) 31 = true) (gd (inb (nI 2) 31 = true) (bd (ui g4 105 0 (nI 2).toNatClampNeg (gi g4 105 0 (nI 2).toNatClampNeg)) fun g5 => gd (inb (nI 3) 31 = true) (some (gi g5 105 0 (nI 3).toNatClampNeg, g5))))) rfl ?_
  refine j_aload_n (q := 1) (i := 0) (n := 0) dX7_breaks_0 rfl rfl rfl ?_
  refine j_iload_n (q := 2) (i := 1) (n := 1) dX7_breaks_1 rfl rfl rfl ?_
  refine j_ci (q := 5) (rn_V (R := rm_X7_breaks) (As := [.int a0]) (rest := []) (c_X7_isJob _ z gx g a0) cv_X7_isJob wM_X7_156 ⟨rfl, rfl⟩ ⟨(Nat.le_of_ble_eq_true rfl), (Nat.le_of_ble_eq_true rfl)⟩ (Nat.le_of_ble_eq_true rfl) rfl rfl rfl (Nat.le_of_ble_eq_true rfl) dX7_breaks_2) rfl (fun r1 => ?_)
  refine j_if_ne (tgt := 10) (q := 8) dX7_breaks_5 rfl rfl ?_ ?_
  · refine j_aload_n (q := 11) (i := 0) (n := 0) dX7_breaks_10 rfl rfl rfl ?_
    refine j_iload_n (q := 12) (i := 1) (n := 1) dX7_breaks_11 rfl rfl rfl ?_
    refine j_ci (q := 15) (rn_V (R := rm_X7_breaks) (As := [.int a0]) (rest := []) (c_X7_placeOf _ z gx g a0) cv_X7_placeOf wM_X7_187 ⟨rfl, rfl⟩ ⟨(Nat.le_of_ble_eq_true rfl), (Nat.le_of_ble_eq_true rfl)⟩ (Nat.le_of_ble_eq_true rfl) rfl rfl rfl (Nat.le_of_ble_eq_true rfl) dX7_breaks_12) rfl (fun r2 => ?_)
    refine j_istore_n (q := 16) (n := 2) (lv' := [(2, .int r2), (0, .ref (za z 77 0)), (1, .int a0)]) dX7_breaks_15 rfl (Nat.le_of_ble_eq_true rfl) rfl rfl ?_
    refine j_iload_n (q := 17) (i := 0) (n := 2) dX7_breaks_16 rfl rfl rfl ?_
    refine j_if_ge (tgt := 23) (q := 20) dX7_breaks_17 rfl rfl ?_ ?_
    · refine j_aload_n (q := 24) (i := 1) (n := 0) dX7_breaks_23 rfl rfl rfl ?_
      refine j_sv (q := 27) (rn_V (R := rm_X7_breaks) (As := []) (rest := []) (c_X7_note _ z gx g) cv_X7_note wM_X7_181 ⟨rfl, rfl⟩ ⟨(Nat.le_of_ble_eq_true rfl), (Nat.le_of_ble_eq_true rfl)⟩ (Nat.le_of_ble_eq_true rfl) rfl rfl rfl (Nat.le_of_ble_eq_true rfl) dX7_breaks_24) rfl (fun g3 => ?_)
      refine j_aload_n (q := 28) (i := 1) (n := 0) dX7_breaks_27 rfl rfl rfl ?_
      refine j_iload_n (q := 29) (i := 0) (n := 2) dX7_breaks_28 rfl rfl rfl ?_
      refine j_sv (q := 32) (rn_V (R := rm_X7_breaks) (As := [.int r2]) (rest := []) (c_X7_leaveAt _ z gx g3 r2) cv_X7_leaveAt wM_X7_175 ⟨rfl, rfl⟩ ⟨(Nat.le_of_ble_eq_true rfl), (Nat.le_of_ble_eq_true rfl)⟩ (Nat.le_of_ble_eq_true rfl) rfl rfl rfl (Nat.le_of_ble_eq_true rfl) dX7_breaks_29) rfl (fun g4 => ?_)
      refine j_aload_n (q := 33) (i := 1) (n := 0) dX7_breaks_32 rfl rfl rfl ?_
      refine g_X7_st (q := 36) wF_X7_29 (Nat.le_of_ble_eq_true rfl) dX7_breaks_33 rfl ?_
      refine j_iconst (q := 37) (v := (nI 2)) dX7_breaks_36 rfl rfl ?_
      refine j_iload_n (q := 38) (i := 0) (n := 2) dX7_breaks_37 rfl rfl rfl ?_
      refine j_if_ne (tgt := 45) (q := 41) dX7_breaks_38 rfl rfl ?_ ?_
      · refine j_aload_n (q := 46) (i := 1) (n := 0) dX7_breaks_45 rfl rfl rfl ?_
        refine g_X7_st (q := 49) wF_X7_29 (Nat.le_of_ble_eq_true rfl) dX7_breaks_46 rfl ?_
        refine j_iconst (q := 50) (v := (nI 2)) dX7_breaks_49 rfl rfl ?_
        refine am_ld (k := 105) (n := 31) (q := 51) isM_105 rfl (Nat.le_of_ble_eq_true rfl) dX7_breaks_50 rfl ?_
        refine am_st (k := 105) (n := 31) (q := 52) dm_le isM_105 rfl (Nat.le_of_ble_eq_true rfl) dX7_breaks_51 rfl (fun g5 => ?_)
        refine j_aload_n (q := 53) (i := 1) (n := 0) dX7_breaks_52 rfl rfl rfl ?_
        refine g_X7_st (q := 56) wF_X7_29 (Nat.le_of_ble_eq_true rfl) dX7_breaks_53 rfl ?_
        refine j_iconst (q := 57) (v := (nI 3)) dX7_breaks_56 rfl rfl ?_
        refine am_ld (k := 105) (n := 31) (q := 58) isM_105 rfl (Nat.le_of_ble_eq_true rfl) dX7_breaks_57 rfl ?_
        exact j_ret (x := (gi g5 105 0 (nI 3).toNatClampNeg, g5)) dX7_breaks_58 ⟨trivial, rfl, rfl⟩
      · refine j_iconst (q := 42) (v := (nI 0)) dX7_breaks_41 rfl rfl ?_
        refine j_goto (tgt := 51) dX7_breaks_42 rfl ?_
        refine am_st (k := 105) (n := 31) (q := 52) dm_le isM_105 rfl (Nat.le_of_ble_eq_true rfl) dX7_breaks_51 rfl (fun g6 => ?_)
        refine j_aload_n (q := 53) (i := 1) (n := 0) dX7_breaks_52 rfl rfl rfl ?_
        refine g_X7_st (q := 56) wF_X7_29 (Nat.le_of_ble_eq_true rfl) dX7_breaks_53 rfl ?_
        refine j_iconst (q := 57) (v := (nI 3)) dX7_breaks_56 rfl rfl ?_
        refine am_ld (k := 105) (n := 31) (q := 58) isM_105 rfl (Nat.le_of_ble_eq_true rfl) dX7_breaks_57 rfl ?_
        exact j_ret (x := (gi g6 105 0 (nI 3).toNatClampNeg, g6)) dX7_breaks_58 ⟨trivial, rfl, rfl⟩
    · refine j_bipush (q := 22) (v := (-2)) dX7_breaks_20 rfl rfl ?_
      exact j_ret (x := ((-2), g)) dX7_breaks_22 ⟨trivial, rfl, rfl⟩
  · refine j_iconst (q := 9) (v := (-1)) dX7_breaks_8 rfl rfl ?_
    exact j_ret (x := ((-1), g)) dX7_breaks_9 ⟨trivial, rfl, rfl⟩
-- CopierJobsModel.fills(II)I
abbrev rm_X7_fills : Room := { frames := 1, cells := 0, slots := 0, locals := 25 }
theorem cv_X7_fills : CV yX7_fills cX7_fills 4 (some .int) 2 := ⟨wC_X7_fills, wI_X7_fills, wS_X7_fills, wZ_X7, by decide +kernel⟩
def m_X7_fills (g : zG) (a0 : Int32) (a1 : Int32) : Option (Int32 × zG) := (m_X7_in (Int32.toInt64 a0) 0 2).bind fun r1 => if r1 = (nI 0) then some ((-1), g) else (m_X7_in (Int32.toInt64 a1) 1 99).bind fun r2 => if r2 = (nI 0) then some ((-1), g) else gd (inb ((nI 4) + a0) 31 = true) (if (gi g 105 0 ((nI 4) + a0).toNatClampNeg) = (nI 99) then some ((-2), g) else (m_X7_note g).bind fun g3 => gd (inb ((nI 4) + a0) 31 = true) (bd ((gi g3 105 0 ((nI 4) + a0).toNatClampNeg) + a1) fun v4 => if (nI 99) < v4 then gd (inb ((nI 4) + a0) 31 = true) (bd (ui g3 105 0 ((nI 4) + a0).toNatClampNeg (nI 99)) fun g6 => gd (inb ((nI 4) + a0) 31 = true) (some (gi g6 105 0 ((nI 4) + a0).toNatClampNeg, g6))) else gd (inb ((nI 4) + a0) 31 = true) (bd (ui g3 105 0 ((nI 4) + a0).toNatClampNeg v4) fun g5 => gd (inb ((nI 4) + a0) 31 = true) (some (gi g5 105 0 ((nI 4) + a0).toNatClampNeg, g5)))))
set_option maxRecDepth 100000 in
set_option maxHeartbeats 4000000 in
theorem c_X7_fills (l : Launch) (z : zE) (gx : zG) (g : zG) (a0 : Int32) (a1 : Int32) : ∀ x, m_X7_fills g a0 a1 = some x → Ms dm l yX7_fills cX7_fills 4 (some .int) rm_X7_fills z [.ref (za z 77 0), .int a0, .int a1] ((wm z gx) g) (osi x) ((wm z gx) ((fun x => x.2) x)) := by
  refine ms_of (Wf := (wm z gx)) (ri := .ireturn) (out := osi) (nxt := (fun x => x.2)) (ok := (fun _ => True)) (lv := [(0, .ref (za z 77 0)), (1, .int a0), (2, .int a1)]) (by decide) ⟨rfl, rfl⟩ (Nat.le_of_ble_eq_true rfl) rfl (en_i (out := fun x : Int32 × zG => x.1)) (fun p e s m below meth c => ?_)
  refine j_eq (M2 := (m_X7_in (Int32.toInt64 a0) 0 2).bind fun r1 => if r1 = (nI 0) then some ((-1), g) else (m_X7_in (Int32.toInt64 a1) 1 99).bind fun r2 => if r2 = (nI 0) then some ((-1), g) else gd (inb ((nI 4) + a0) 31 = true) (if (gi g 105 0 ((nI 4) + a0).toNatClampNeg) = (nI 99) then some ((-2), g) else (m_X7_note g).bind fun g3 => gd (inb ((nI 4) + a0) 31 = true) (bd ((gi g3 105 0 ((nI 4) + a0).toNatClampNeg) + a1) fun v4 => if (nI 99) < v4 then gd (inb ((nI 4) + a0) 31 = true) (bd (ui g3 105 0 ((nI 4) + a0).toNatClampNeg (nI 99)) fun g6 => gd (inb ((nI 4) + a0) 31 = true) (some (gi g6 105 0 ((nI 4) + a0).toNatClampNeg, g6))) else gd (inb ((nI 4) + a0) 31 = true) (bd (ui g3 105 0 ((nI 4) + a0).toNatClampNeg v4) fun g5 => gd (inb ((nI 4) + a0) 31 = true) (some (gi g5 105 0 ((nI 4) + a0).toNatClampNeg, g5)))))) rfl ?_
  refine j_iload_n (q := 1) (i := 1) (n := 1) dX7_fills_0 rfl rfl rfl ?_
  refine j_i2l (q := 2) dX7_fills_1 rfl ?_
  refine j_lconst (q := 3) (v := 0) dX7_fills_2 rfl rfl ?_
  refine j_ldc2 (q := 6) (v := 2) dX7_fills_3 wW_X7_190 rfl ?_
  refine j_ci (q := 9) (rn_S (R := rm_X7_fills) (As := [.long (Int32.toInt64 a0), .long 0, .long 2]) (rest := []) (c_X7_in _ z gx g (Int32.toInt64 a0) 0 2) cv_X7_in wM_X7_62 ⟨rfl, rfl⟩ ⟨(Nat.le_of_ble_eq_true rfl), (Nat.le_of_ble_eq_true rfl)⟩ rfl (Nat.le_of_ble_eq_true rfl) dX7_fills_6) rfl (fun r1 => ?_)
  refine j_if_eq (tgt := 24) (q := 12) dX7_fills_9 rfl rfl ?_ ?_
  · refine j_iconst (q := 25) (v := (-1)) dX7_fills_24 rfl rfl ?_
    exact j_ret (x := ((-1), g)) dX7_fills_25 ⟨trivial, rfl, rfl⟩
  · refine j_iload_n (q := 13) (i := 2) (n := 2) dX7_fills_12 rfl rfl rfl ?_
    refine j_i2l (q := 14) dX7_fills_13 rfl ?_
    refine j_lconst (q := 15) (v := 1) dX7_fills_14 rfl rfl ?_
    refine j_ldc2 (q := 18) (v := 99) dX7_fills_15 wW_X7_192 rfl ?_
    refine j_ci (q := 21) (rn_S (R := rm_X7_fills) (As := [.long (Int32.toInt64 a1), .long 1, .long 99]) (rest := []) (c_X7_in _ z gx g (Int32.toInt64 a1) 1 99) cv_X7_in wM_X7_62 ⟨rfl, rfl⟩ ⟨(Nat.le_of_ble_eq_true rfl), (Nat.le_of_ble_eq_true rfl)⟩ rfl (Nat.le_of_ble_eq_true rfl) dX7_fills_18) rfl (fun r2 => ?_)
    refine j_if_ne (tgt := 26) (q := 24) dX7_fills_21 rfl rfl ?_ ?_
    · refine j_aload_n (q := 27) (i := 0) (n := 0) dX7_fills_26 rfl rfl rfl ?_
      refine g_X7_st (q := 30) wF_X7_29 (Nat.le_of_ble_eq_true rfl) dX7_fills_27 rfl ?_
      refine j_iconst (q := 31) (v := (nI 4)) dX7_fills_30 rfl rfl ?_
      refine j_iload_n (q := 32) (i := 1) (n := 1) dX7_fills_31 rfl rfl rfl ?_
      refine j_iadd (q := 33) dX7_fills_32 rfl ?_
      refine am_ld (k := 105) (n := 31) (q := 34) isM_105 rfl (Nat.le_of_ble_eq_true rfl) dX7_fills_33 rfl ?_
      refine j_bipush (q := 36) (v := (nI 99)) dX7_fills_34 rfl rfl ?_
      refine j_icmp_ne (tgt := 42) (q := 39) dX7_fills_36 rfl rfl ?_ ?_
      · refine j_aload_n (q := 43) (i := 0) (n := 0) dX7_fills_42 rfl rfl rfl ?_
        refine j_sv (q := 46) (rn_V (R := rm_X7_fills) (As := []) (rest := []) (c_X7_note _ z gx g) cv_X7_note wM_X7_181 ⟨rfl, rfl⟩ ⟨(Nat.le_of_ble_eq_true rfl), (Nat.le_of_ble_eq_true rfl)⟩ (Nat.le_of_ble_eq_true rfl) rfl rfl rfl (Nat.le_of_ble_eq_true rfl) dX7_fills_43) rfl (fun g3 => ?_)
        refine j_aload_n (q := 47) (i := 0) (n := 0) dX7_fills_46 rfl rfl rfl ?_
        refine g_X7_st (q := 50) wF_X7_29 (Nat.le_of_ble_eq_true rfl) dX7_fills_47 rfl ?_
        refine j_iconst (q := 51) (v := (nI 4)) dX7_fills_50 rfl rfl ?_
        refine j_iload_n (q := 52) (i := 1) (n := 1) dX7_fills_51 rfl rfl rfl ?_
        refine j_iadd (q := 53) dX7_fills_52 rfl ?_
        refine am_ld (k := 105) (n := 31) (q := 54) isM_105 rfl (Nat.le_of_ble_eq_true rfl) dX7_fills_53 rfl ?_
        refine j_iload_n (q := 55) (i := 2) (n := 2) dX7_fills_54 rfl rfl rfl ?_
        refine j_iadd (q := 56) dX7_fills_55 rfl ?_
        refine j_top (fun v4 => ?_)
        refine j_istore_n (q := 57) (n := 3) (lv' := [(3, .int v4), (0, .ref (za z 77 0)), (1, .int a0), (2, .int a1)]) dX7_fills_56 rfl (Nat.le_of_ble_eq_true rfl) rfl rfl ?_
        refine j_aload_n (q := 58) (i := 1) (n := 0) dX7_fills_57 rfl rfl rfl ?_
        refine g_X7_st (q := 61) wF_X7_29 (Nat.le_of_ble_eq_true rfl) dX7_fills_58 rfl ?_
        refine j_iconst (q := 62) (v := (nI 4)) dX7_fills_61 rfl rfl ?_
        refine j_iload_n (q := 63) (i := 2) (n := 1) dX7_fills_62 rfl rfl rfl ?_
        refine j_iadd (q := 64) dX7_fills_63 rfl ?_
        refine j_iload_n (q := 65) (i := 0) (n := 3) dX7_fills_64 rfl rfl rfl ?_
        refine j_bipush (q := 67) (v := (nI 99)) dX7_fills_65 rfl rfl ?_
        refine j_icmp_le (tgt := 75) (q := 70) dX7_fills_67 rfl rfl ?_ ?_
        · refine j_iload_n (q := 76) (i := 0) (n := 3) dX7_fills_75 rfl rfl rfl ?_
          refine am_st (k := 105) (n := 31) (q := 77) dm_le isM_105 rfl (Nat.le_of_ble_eq_true rfl) dX7_fills_76 rfl (fun g5 => ?_)
          refine j_aload_n (q := 78) (i := 1) (n := 0) dX7_fills_77 rfl rfl rfl ?_
          refine g_X7_st (q := 81) wF_X7_29 (Nat.le_of_ble_eq_true rfl) dX7_fills_78 rfl ?_
          refine j_iconst (q := 82) (v := (nI 4)) dX7_fills_81 rfl rfl ?_
          refine j_iload_n (q := 83) (i := 2) (n := 1) dX7_fills_82 rfl rfl rfl ?_
          refine j_iadd (q := 84) dX7_fills_83 rfl ?_
          refine am_ld (k := 105) (n := 31) (q := 85) isM_105 rfl (Nat.le_of_ble_eq_true rfl) dX7_fills_84 rfl ?_
          exact j_ret (x := (gi g5 105 0 ((nI 4) + a0).toNatClampNeg, g5)) dX7_fills_85 ⟨trivial, rfl, rfl⟩
        · refine j_bipush (q := 72) (v := (nI 99)) dX7_fills_70 rfl rfl ?_
          refine j_goto (tgt := 76) dX7_fills_72 rfl ?_
          refine am_st (k := 105) (n := 31) (q := 77) dm_le isM_105 rfl (Nat.le_of_ble_eq_true rfl) dX7_fills_76 rfl (fun g6 => ?_)
          refine j_aload_n (q := 78) (i := 1) (n := 0) dX7_fills_77 rfl rfl rfl ?_
          refine g_X7_st (q := 81) wF_X7_29 (Nat.le_of_ble_eq_true rfl) dX7_fills_78 rfl ?_
          refine j_iconst (q := 82) (v := (nI 4)) dX7_fills_81 rfl rfl ?_
          refine j_iload_n (q := 83) (i := 2) (n := 1) dX7_fills_82 rfl rfl rfl ?_
          refine j_iadd (q := 84) dX7_fills_83 rfl ?_
          refine am_ld (k := 105) (n := 31) (q := 85) isM_105 rfl (Nat.le_of_ble_eq_true rfl) dX7_fills_84 rfl ?_
          exact j_ret (x := (gi g6 105 0 ((nI 4) + a0).toNatClampNeg, g6)) dX7_fills_85 ⟨trivial, rfl, rfl⟩
      · refine j_bipush (q := 41) (v := (-2)) dX7_fills_39 rfl rfl ?_
        exact j_ret (x := ((-2), g)) dX7_fills_41 ⟨trivial, rfl, rfl⟩
    · refine j_iconst (q := 25) (v := (-1)) dX7_fills_24 rfl rfl ?_
      exact j_ret (x := ((-1), g)) dX7_fills_25 ⟨trivial, rfl, rfl⟩
-- CopierJobsModel.toner(I)I
abbrev rm_X7_toner : Room := { frames := 1, cells := 0, slots := 0, locals := 25 }
theorem cv_X7_toner : CV yX7_toner cX7_toner 3 (some .int) 1 := ⟨wC_X7_toner, wI_X7_toner, wS_X7_toner, wZ_X7, by decide +kernel⟩
def m_X7_toner (g : zG) (a0 : Int32) : Option (Int32 × zG) := (m_X7_in (Int32.toInt64 a0) 1 999).bind fun r1 => if r1 = (nI 0) then some ((-1), g) else gd (inb (nI 1) 31 = true) (if (gi g 105 0 (nI 1).toNatClampNeg) = (nI 999) then some ((-2), g) else (m_X7_note g).bind fun g2 => gd (inb (nI 1) 31 = true) (bd ((gi g2 105 0 (nI 1).toNatClampNeg) + a0) fun v3 => if (nI 999) < v3 then gd (inb (nI 1) 31 = true) (bd (ui g2 105 0 (nI 1).toNatClampNeg (nI 999)) fun g5 => gd (inb (nI 1) 31 = true) (some (gi g5 105 0 (nI 1).toNatClampNeg, g5))) else gd (inb (nI 1) 31 = true) (bd (ui g2 105 0 (nI 1).toNatClampNeg v3) fun g4 => gd (inb (nI 1) 31 = true) (some (gi g4 105 0 (nI 1).toNatClampNeg, g4)))))
set_option maxRecDepth 100000 in
set_option maxHeartbeats 4000000 in
theorem c_X7_toner (l : Launch) (z : zE) (gx : zG) (g : zG) (a0 : Int32) : ∀ x, m_X7_toner g a0 = some x → Ms dm l yX7_toner cX7_toner 3 (some .int) rm_X7_toner z [.ref (za z 77 0), .int a0] ((wm z gx) g) (osi x) ((wm z gx) ((fun x => x.2) x)) := by
  refine ms_of (Wf := (wm z gx)) (ri := .ireturn) (out := osi) (nxt := (fun x => x.2)) (ok := (fun _ => True)) (lv := [(0, .ref (za z 77 0)), (1, .int a0)]) (by decide) ⟨rfl, rfl⟩ (Nat.le_of_ble_eq_true rfl) rfl (en_i (out := fun x : Int32 × zG => x.1)) (fun p e s m below meth c => ?_)
  refine j_eq (M2 := (m_X7_in (Int32.toInt64 a0) 1 999).bind fun r1 => if r1 = (nI 0) then some ((-1), g) else gd (inb (nI 1) 31 = true) (if (gi g 105 0 (nI 1).toNatClampNeg) = (nI 999) then some ((-2), g) else (m_X7_note g).bind fun g2 => gd (inb (nI 1) 31 = true) (bd ((gi g2 105 0 (nI 1).toNatClampNeg) + a0) fun v3 => if (nI 999) < v3 then gd (inb (nI 1) 31 = true) (bd (ui g2 105 0 (nI 1).toNatClampNeg (nI 999)) fun g5 => gd (inb (nI 1) 31 = true) (some (gi g5 105 0 (nI 1).toNatClampNeg, g5))) else gd (inb (nI 1) 31 = true) (bd (ui g2 105 0 (nI 1).toNatClampNeg v3) fun g4 => gd (inb (nI 1) 31 = true) (some (gi g4 105 0 (nI 1).toNatClampNeg, g4)))))) rfl ?_
  refine j_iload_n (q := 1) (i := 1) (n := 1) dX7_toner_0 rfl rfl rfl ?_
  refine j_i2l (q := 2) dX7_toner_1 rfl ?_
  refine j_lconst (q := 3) (v := 1) dX7_toner_2 rfl rfl ?_
  refine j_ldc2 (q := 6) (v := 999) dX7_toner_3 wW_X7_194 rfl ?_
  refine j_ci (q := 9) (rn_S (R := rm_X7_toner) (As := [.long (Int32.toInt64 a0), .long 1, .long 999]) (rest := []) (c_X7_in _ z gx g (Int32.toInt64 a0) 1 999) cv_X7_in wM_X7_62 ⟨rfl, rfl⟩ ⟨(Nat.le_of_ble_eq_true rfl), (Nat.le_of_ble_eq_true rfl)⟩ rfl (Nat.le_of_ble_eq_true rfl) dX7_toner_6) rfl (fun r1 => ?_)
  refine j_if_ne (tgt := 14) (q := 12) dX7_toner_9 rfl rfl ?_ ?_
  · refine j_aload_n (q := 15) (i := 0) (n := 0) dX7_toner_14 rfl rfl rfl ?_
    refine g_X7_st (q := 18) wF_X7_29 (Nat.le_of_ble_eq_true rfl) dX7_toner_15 rfl ?_
    refine j_iconst (q := 19) (v := (nI 1)) dX7_toner_18 rfl rfl ?_
    refine am_ld (k := 105) (n := 31) (q := 20) isM_105 rfl (Nat.le_of_ble_eq_true rfl) dX7_toner_19 rfl ?_
    refine j_sipush (q := 23) (v := (nI 999)) dX7_toner_20 rfl rfl ?_
    refine j_icmp_ne (tgt := 29) (q := 26) dX7_toner_23 rfl rfl ?_ ?_
    · refine j_aload_n (q := 30) (i := 0) (n := 0) dX7_toner_29 rfl rfl rfl ?_
      refine j_sv (q := 33) (rn_V (R := rm_X7_toner) (As := []) (rest := []) (c_X7_note _ z gx g) cv_X7_note wM_X7_181 ⟨rfl, rfl⟩ ⟨(Nat.le_of_ble_eq_true rfl), (Nat.le_of_ble_eq_true rfl)⟩ (Nat.le_of_ble_eq_true rfl) rfl rfl rfl (Nat.le_of_ble_eq_true rfl) dX7_toner_30) rfl (fun g2 => ?_)
      refine j_aload_n (q := 34) (i := 0) (n := 0) dX7_toner_33 rfl rfl rfl ?_
      refine g_X7_st (q := 37) wF_X7_29 (Nat.le_of_ble_eq_true rfl) dX7_toner_34 rfl ?_
      refine j_iconst (q := 38) (v := (nI 1)) dX7_toner_37 rfl rfl ?_
      refine am_ld (k := 105) (n := 31) (q := 39) isM_105 rfl (Nat.le_of_ble_eq_true rfl) dX7_toner_38 rfl ?_
      refine j_iload_n (q := 40) (i := 1) (n := 1) dX7_toner_39 rfl rfl rfl ?_
      refine j_iadd (q := 41) dX7_toner_40 rfl ?_
      refine j_top (fun v3 => ?_)
      refine j_istore_n (q := 42) (n := 2) (lv' := [(2, .int v3), (0, .ref (za z 77 0)), (1, .int a0)]) dX7_toner_41 rfl (Nat.le_of_ble_eq_true rfl) rfl rfl ?_
      refine j_aload_n (q := 43) (i := 1) (n := 0) dX7_toner_42 rfl rfl rfl ?_
      refine g_X7_st (q := 46) wF_X7_29 (Nat.le_of_ble_eq_true rfl) dX7_toner_43 rfl ?_
      refine j_iconst (q := 47) (v := (nI 1)) dX7_toner_46 rfl rfl ?_
      refine j_iload_n (q := 48) (i := 0) (n := 2) dX7_toner_47 rfl rfl rfl ?_
      refine j_sipush (q := 51) (v := (nI 999)) dX7_toner_48 rfl rfl ?_
      refine j_icmp_le (tgt := 60) (q := 54) dX7_toner_51 rfl rfl ?_ ?_
      · refine j_iload_n (q := 61) (i := 0) (n := 2) dX7_toner_60 rfl rfl rfl ?_
        refine am_st (k := 105) (n := 31) (q := 62) dm_le isM_105 rfl (Nat.le_of_ble_eq_true rfl) dX7_toner_61 rfl (fun g4 => ?_)
        refine j_aload_n (q := 63) (i := 1) (n := 0) dX7_toner_62 rfl rfl rfl ?_
        refine g_X7_st (q := 66) wF_X7_29 (Nat.le_of_ble_eq_true rfl) dX7_toner_63 rfl ?_
        refine j_iconst (q := 67) (v := (nI 1)) dX7_toner_66 rfl rfl ?_
        refine am_ld (k := 105) (n := 31) (q := 68) isM_105 rfl (Nat.le_of_ble_eq_true rfl) dX7_toner_67 rfl ?_
        exact j_ret (x := (gi g4 105 0 (nI 1).toNatClampNeg, g4)) dX7_toner_68 ⟨trivial, rfl, rfl⟩
      · refine j_sipush (q := 57) (v := (nI 999)) dX7_toner_54 rfl rfl ?_
        refine j_goto (tgt := 61) dX7_toner_57 rfl ?_
        refine am_st (k := 105) (n := 31) (q := 62) dm_le isM_105 rfl (Nat.le_of_ble_eq_true rfl) dX7_toner_61 rfl (fun g5 => ?_)
        refine j_aload_n (q := 63) (i := 1) (n := 0) dX7_toner_62 rfl rfl rfl ?_
        refine g_X7_st (q := 66) wF_X7_29 (Nat.le_of_ble_eq_true rfl) dX7_toner_63 rfl ?_
        refine j_iconst (q := 67) (v := (nI 1)) dX7_toner_66 rfl rfl ?_
        refine am_ld (k := 105) (n := 31) (q := 68) isM_105 rfl (Nat.le_of_ble_eq_true rfl) dX7_toner_67 rfl ?_
        exact j_ret (x := (gi g5 105 0 (nI 1).toNatClampNeg, g5)) dX7_toner_68 ⟨trivial, rfl, rfl⟩
    · refine j_bipush (q := 28) (v := (-2)) dX7_toner_26 rfl rfl ?_
      exact j_ret (x := ((-2), g)) dX7_toner_28 ⟨trivial, rfl, rfl⟩
  · refine j_iconst (q := 13) (v := (-1)) dX7_toner_12 rfl rfl ?_
    exact j_ret (x := ((-1), g)) dX7_toner_13 ⟨trivial, rfl, rfl⟩
-- CopierJobsModel.empties(I)I
abbrev rm_X7_empties : Room := { frames := 1, cells := 0, slots := 0, locals := 25 }
theorem cv_X7_empties : CV yX7_empties cX7_empties 3 (some .int) 1 := ⟨wC_X7_empties, wI_X7_empties, wS_X7_empties, wZ_X7, by decide +kernel⟩
def m_X7_empties (g : zG) (a0 : Int32) : Option (Int32 × zG) := (m_X7_in (Int32.toInt64 a0) 0 (Int32.toInt64 ((gi g 121 0 0) - (nI 1)))).bind fun r1 => if r1 = (nI 0) then some ((-1), g) else gd (inb ((nI 7) + a0) 31 = true) (bd (gi g 105 0 ((nI 7) + a0).toNatClampNeg) fun v2 => if v2 = (nI 0) then some ((-2), g) else (m_X7_note g).bind fun g3 => gd (inb ((nI 7) + a0) 31 = true) (bd (ui g3 105 0 ((nI 7) + a0).toNatClampNeg (nI 0)) fun g4 => some (v2, g4)))
set_option maxRecDepth 100000 in
set_option maxHeartbeats 4000000 in
theorem c_X7_empties (l : Launch) (z : zE) (gx : zG) (g : zG) (a0 : Int32) : ∀ x, m_X7_empties g a0 = some x → Ms dm l yX7_empties cX7_empties 3 (some .int) rm_X7_empties z [.ref (za z 77 0), .int a0] ((wm z gx) g) (osi x) ((wm z gx) ((fun x => x.2) x)) := by
  refine ms_of (Wf := (wm z gx)) (ri := .ireturn) (out := osi) (nxt := (fun x => x.2)) (ok := (fun _ => True)) (lv := [(0, .ref (za z 77 0)), (1, .int a0)]) (by decide) ⟨rfl, rfl⟩ (Nat.le_of_ble_eq_true rfl) rfl (en_i (out := fun x : Int32 × zG => x.1)) (fun p e s m below meth c => ?_)
  refine j_eq (M2 := (m_X7_in (Int32.toInt64 a0) 0 (Int32.toInt64 ((gi g 121 0 0) - (nI 1)))).bind fun r1 => if r1 = (nI 0) then some ((-1), g) else gd (inb ((nI 7) + a0) 31 = true) (bd (gi g 105 0 ((nI 7) + a0).toNatClampNeg) fun v2 => if v2 = (nI 0) then some ((-2), g) else (m_X7_note g).bind fun g3 => gd (inb ((nI 7) + a0) 31 = true) (bd (ui g3 105 0 ((nI 7) + a0).toNatClampNeg (nI 0)) fun g4 => some (v2, g4)))) rfl ?_
  refine j_iload_n (q := 1) (i := 1) (n := 1) dX7_empties_0 rfl rfl rfl ?_
  refine j_i2l (q := 2) dX7_empties_1 rfl ?_
  refine j_lconst (q := 3) (v := 0) dX7_empties_2 rfl rfl ?_
  refine j_aload_n (q := 4) (i := 0) (n := 0) dX7_empties_3 rfl rfl rfl ?_
  refine g_X7_bins (q := 7) wF_X7_25 (Nat.le_of_ble_eq_true rfl) dX7_empties_4 rfl ?_
  refine j_iconst (q := 8) (v := (nI 1)) dX7_empties_7 rfl rfl ?_
  refine j_isub (q := 9) dX7_empties_8 rfl ?_
  refine j_i2l (q := 10) dX7_empties_9 rfl ?_
  refine j_ci (q := 13) (rn_S (R := rm_X7_empties) (As := [.long (Int32.toInt64 a0), .long 0, .long (Int32.toInt64 ((gi g 121 0 0) - (nI 1)))]) (rest := []) (c_X7_in _ z gx g (Int32.toInt64 a0) 0 (Int32.toInt64 ((gi g 121 0 0) - (nI 1)))) cv_X7_in wM_X7_62 ⟨rfl, rfl⟩ ⟨(Nat.le_of_ble_eq_true rfl), (Nat.le_of_ble_eq_true rfl)⟩ rfl (Nat.le_of_ble_eq_true rfl) dX7_empties_10) rfl (fun r1 => ?_)
  refine j_if_ne (tgt := 18) (q := 16) dX7_empties_13 rfl rfl ?_ ?_
  · refine j_aload_n (q := 19) (i := 0) (n := 0) dX7_empties_18 rfl rfl rfl ?_
    refine g_X7_st (q := 22) wF_X7_29 (Nat.le_of_ble_eq_true rfl) dX7_empties_19 rfl ?_
    refine j_bipush (q := 24) (v := (nI 7)) dX7_empties_22 rfl rfl ?_
    refine j_iload_n (q := 25) (i := 1) (n := 1) dX7_empties_24 rfl rfl rfl ?_
    refine j_iadd (q := 26) dX7_empties_25 rfl ?_
    refine am_ld (k := 105) (n := 31) (q := 27) isM_105 rfl (Nat.le_of_ble_eq_true rfl) dX7_empties_26 rfl ?_
    refine j_top (fun v2 => ?_)
    refine j_istore_n (q := 28) (n := 2) (lv' := [(2, .int v2), (0, .ref (za z 77 0)), (1, .int a0)]) dX7_empties_27 rfl (Nat.le_of_ble_eq_true rfl) rfl rfl ?_
    refine j_iload_n (q := 29) (i := 0) (n := 2) dX7_empties_28 rfl rfl rfl ?_
    refine j_if_ne (tgt := 35) (q := 32) dX7_empties_29 rfl rfl ?_ ?_
    · refine j_aload_n (q := 36) (i := 1) (n := 0) dX7_empties_35 rfl rfl rfl ?_
      refine j_sv (q := 39) (rn_V (R := rm_X7_empties) (As := []) (rest := []) (c_X7_note _ z gx g) cv_X7_note wM_X7_181 ⟨rfl, rfl⟩ ⟨(Nat.le_of_ble_eq_true rfl), (Nat.le_of_ble_eq_true rfl)⟩ (Nat.le_of_ble_eq_true rfl) rfl rfl rfl (Nat.le_of_ble_eq_true rfl) dX7_empties_36) rfl (fun g3 => ?_)
      refine j_aload_n (q := 40) (i := 1) (n := 0) dX7_empties_39 rfl rfl rfl ?_
      refine g_X7_st (q := 43) wF_X7_29 (Nat.le_of_ble_eq_true rfl) dX7_empties_40 rfl ?_
      refine j_bipush (q := 45) (v := (nI 7)) dX7_empties_43 rfl rfl ?_
      refine j_iload_n (q := 46) (i := 2) (n := 1) dX7_empties_45 rfl rfl rfl ?_
      refine j_iadd (q := 47) dX7_empties_46 rfl ?_
      refine j_iconst (q := 48) (v := (nI 0)) dX7_empties_47 rfl rfl ?_
      refine am_st (k := 105) (n := 31) (q := 49) dm_le isM_105 rfl (Nat.le_of_ble_eq_true rfl) dX7_empties_48 rfl (fun g4 => ?_)
      refine j_iload_n (q := 50) (i := 0) (n := 2) dX7_empties_49 rfl rfl rfl ?_
      exact j_ret (x := (v2, g4)) dX7_empties_50 ⟨trivial, rfl, rfl⟩
    · refine j_bipush (q := 34) (v := (-2)) dX7_empties_32 rfl rfl ?_
      exact j_ret (x := ((-2), g)) dX7_empties_34 ⟨trivial, rfl, rfl⟩
  · refine j_iconst (q := 17) (v := (-1)) dX7_empties_16 rfl rfl ?_
    exact j_ret (x := ((-1), g)) dX7_empties_17 ⟨trivial, rfl, rfl⟩
-- CopierJobsModel.undo()I
abbrev rm_X7_undo : Room := { frames := 0, cells := 0, slots := 0, locals := 0 }
theorem cv_X7_undo : CV yX7_undo cX7_undo 2 (some .int) 0 := ⟨wC_X7_undo, wI_X7_undo, wS_X7_undo, wZ_X7, by decide +kernel⟩
def m_X7_undo_L22 : Nat → zG → Int32 → Option (Int32 × zG)
  | 0, _, _ => none
  | f + 1, g, x1 => if x1 < (nI 31) then gd (inb (((nI 31) * (gi g 122 0 0)) + x1) 310 = true) (gd (inb x1 31 = true) (bd (ui g 105 0 x1.toNatClampNeg (gi g 106 0 (((nI 31) * (gi g 122 0 0)) + x1).toNatClampNeg)) fun g2 => m_X7_undo_L22 f g2 (x1 + (nI 1)))) else some (gi g 122 0 0, g)
set_option maxRecDepth 100000 in
set_option maxHeartbeats 4000000 in
theorem t_X7_undo_L22 {p : Program} {l : Launch} {e : Env} {s : State} {m : MethodId} {args : Array Value} {below : List Frame} {meth : Method} {c : Code} {cells slots : Nat} {Q : (Int32 × zG) → State → Prop} (z : zE) (gx : zG) : ∀ (f : Nat) (g : zG) (x1 : Int32), zJ dm p l e rm_X7_undo s m args below meth c cX7_undo 2 yX7_undo.cls z cells slots (wm z gx) (fn (fun _ => True) (fun x => x.2) osi) .ireturn Q 22 [(0, .ref (za z 77 0)), (1, .int x1)] [] g (m_X7_undo_L22 f g x1) := by
  intro f
  induction f with
  | zero => intro g x1; exact j_none
  | succ f ih =>
    intro g x1
    refine j_eq (M2 := if x1 < (nI 31) then gd (inb (((nI 31) * (gi g 122 0 0)) + x1) 310 = true) (gd (inb x1 31 = true) (bd (ui g 105 0 x1.toNatClampNeg (gi g 106 0 (((nI 31) * (gi g 122 0 0)) + x1).toNatClampNeg)) fun g2 => m_X7_undo_L22 f g2 (x1 + (nI 1)))) else some (gi g 122 0 0, g)) rfl ?_
    refine j_iload_n (q := 23) (i := 1) (n := 1) dX7_undo_22 rfl rfl rfl ?_
    refine j_bipush (q := 25) (v := (nI 31)) dX7_undo_23 rfl rfl ?_
    refine j_icmp_ge (tgt := 54) (q := 28) dX7_undo_25 rfl rfl ?_ ?_
    · refine j_aload_n (q := 55) (i := 0) (n := 0) dX7_undo_54 rfl rfl rfl ?_
      refine g_X7_undoMany (q := 58) wF_X7_133 (Nat.le_of_ble_eq_true rfl) dX7_undo_55 rfl ?_
      exact j_ret (x := (gi g 122 0 0, g)) dX7_undo_58 ⟨trivial, rfl, rfl⟩
    · refine j_aload_n (q := 29) (i := 0) (n := 0) dX7_undo_28 rfl rfl rfl ?_
      refine g_X7_st (q := 32) wF_X7_29 (Nat.le_of_ble_eq_true rfl) dX7_undo_29 rfl ?_
      refine j_iload_n (q := 33) (i := 1) (n := 1) dX7_undo_32 rfl rfl rfl ?_
      refine j_aload_n (q := 34) (i := 0) (n := 0) dX7_undo_33 rfl rfl rfl ?_
      refine g_X7_past (q := 37) wF_X7_32 (Nat.le_of_ble_eq_true rfl) dX7_undo_34 rfl ?_
      refine j_bipush (q := 39) (v := (nI 31)) dX7_undo_37 rfl rfl ?_
      refine j_aload_n (q := 40) (i := 0) (n := 0) dX7_undo_39 rfl rfl rfl ?_
      refine g_X7_undoMany (q := 43) wF_X7_133 (Nat.le_of_ble_eq_true rfl) dX7_undo_40 rfl ?_
      refine j_imul (q := 44) dX7_undo_43 rfl ?_
      refine j_iload_n (q := 45) (i := 1) (n := 1) dX7_undo_44 rfl rfl rfl ?_
      refine j_iadd (q := 46) dX7_undo_45 rfl ?_
      refine am_ld (k := 106) (n := 310) (q := 47) isM_106 rfl (Nat.le_of_ble_eq_true rfl) dX7_undo_46 rfl ?_
      refine am_st (k := 105) (n := 31) (q := 48) dm_le isM_105 rfl (Nat.le_of_ble_eq_true rfl) dX7_undo_47 rfl (fun g2 => ?_)
      refine j_iinc (q := 51) (n := 1) (i := 1) (v := x1 + (nI 1)) (lv' := [(1, .int (x1 + (nI 1))), (0, .ref (za z 77 0))]) dX7_undo_48 rfl rfl (Nat.le_of_ble_eq_true rfl) rfl rfl ?_
      refine j_goto (tgt := 22) dX7_undo_51 rfl ?_
      refine j_lv [1, 0] (lv' := [(0, .ref (za z 77 0)), (1, .int (x1 + (nI 1)))]) rfl ?_
      exact ih g2 (x1 + (nI 1))
def m_X7_undo (g : zG) : Option (Int32 × zG) := if (gi g 122 0 0) = (nI 0) then some ((-2), g) else bd (ui g 122 0 0 ((gi g 122 0 0) - (nI 1))) fun g1 => m_X7_undo_L22 FU g1 (nI 0)
set_option maxRecDepth 100000 in
set_option maxHeartbeats 4000000 in
theorem c_X7_undo (l : Launch) (z : zE) (gx : zG) (g : zG) : ∀ x, m_X7_undo g = some x → Ms dm l yX7_undo cX7_undo 2 (some .int) rm_X7_undo z [.ref (za z 77 0)] ((wm z gx) g) (osi x) ((wm z gx) ((fun x => x.2) x)) := by
  refine ms_of (Wf := (wm z gx)) (ri := .ireturn) (out := osi) (nxt := (fun x => x.2)) (ok := (fun _ => True)) (lv := [(0, .ref (za z 77 0))]) (by decide) ⟨rfl, rfl⟩ (Nat.le_of_ble_eq_true rfl) rfl (en_i (out := fun x : Int32 × zG => x.1)) (fun p e s m below meth c => ?_)
  refine j_eq (M2 := if (gi g 122 0 0) = (nI 0) then some ((-2), g) else bd (ui g 122 0 0 ((gi g 122 0 0) - (nI 1))) fun g1 => m_X7_undo_L22 FU g1 (nI 0)) rfl ?_
  refine j_aload_n (q := 1) (i := 0) (n := 0) dX7_undo_0 rfl rfl rfl ?_
  refine g_X7_undoMany (q := 4) wF_X7_133 (Nat.le_of_ble_eq_true rfl) dX7_undo_1 rfl ?_
  refine j_if_ne (tgt := 10) (q := 7) dX7_undo_4 rfl rfl ?_ ?_
  · refine j_aload_n (q := 11) (i := 0) (n := 0) dX7_undo_10 rfl rfl rfl ?_
    refine j_dup (q := 12) dX7_undo_11 rfl rfl ?_
    refine g_X7_undoMany (q := 15) wF_X7_133 (Nat.le_of_ble_eq_true rfl) dX7_undo_12 rfl ?_
    refine j_iconst (q := 16) (v := (nI 1)) dX7_undo_15 rfl rfl ?_
    refine j_isub (q := 17) dX7_undo_16 rfl ?_
    refine p_X7_undoMany (q := 20) dm_le wF_X7_133 (Nat.le_of_ble_eq_true rfl) dX7_undo_17 rfl (fun g1 => ?_)
    refine j_iconst (q := 21) (v := (nI 0)) dX7_undo_20 rfl rfl ?_
    refine j_istore_n (q := 22) (n := 1) (lv' := [(1, .int (nI 0)), (0, .ref (za z 77 0))]) dX7_undo_21 rfl (Nat.le_of_ble_eq_true rfl) rfl rfl ?_
    refine j_lv [1, 0] (lv' := [(0, .ref (za z 77 0)), (1, .int (nI 0))]) rfl ?_
    exact t_X7_undo_L22 z gx FU g1 (nI 0)
  · refine j_bipush (q := 9) (v := (-2)) dX7_undo_7 rfl rfl ?_
    exact j_ret (x := ((-2), g)) dX7_undo_9 ⟨trivial, rfl, rfl⟩
-- CopierJobsModel.inTicks(I)I
abbrev rm_X7_inTicks : Room := { frames := 7, cells := 0, slots := 0, locals := 155 }
theorem cv_X7_inTicks : CV yX7_inTicks cX7_inTicks 5 (some .int) 1 := ⟨wC_X7_inTicks, wI_X7_inTicks, wS_X7_inTicks, wZ_X7, by decide +kernel⟩
def m_X7_inTicks_B109 (a0 : Int32) (g : zG) (x2 : Int32) (x3 : Int32) : Option (Int32 × zG) := if x3 = (nI 0) then some ((-9), g) else some (x2, g)
set_option maxRecDepth 100000 in
set_option maxHeartbeats 4000000 in
theorem t_X7_inTicks_B109 {p : Program} {l : Launch} {e : Env} {s : State} {m : MethodId} {args : Array Value} {below : List Frame} {meth : Method} {c : Code} {cells slots : Nat} {Q : (Int32 × zG) → State → Prop} (z : zE) (gx : zG) (a0 : Int32) (g : zG) (x2 : Int32) (x3 : Int32) : zJ dm p l e rm_X7_inTicks s m args below meth c cX7_inTicks 5 yX7_inTicks.cls z cells slots (wm z gx) (fn (fun _ => True) (fun x => x.2) osi) .ireturn Q 109 [(2, .int x2), (3, .int x3)] [] g (m_X7_inTicks_B109 a0 g x2 x3) := by
  refine j_eq (M2 := if x3 = (nI 0) then some ((-9), g) else some (x2, g)) rfl ?_
  refine j_iload_n (q := 110) (i := 1) (n := 3) dX7_inTicks_109 rfl rfl rfl ?_
  refine j_if_eq (tgt := 117) (q := 113) dX7_inTicks_110 rfl rfl ?_ ?_
  · refine j_bipush (q := 119) (v := (-9)) dX7_inTicks_117 rfl rfl ?_
    exact j_ret (x := ((-9), g)) dX7_inTicks_119 ⟨trivial, rfl, rfl⟩
  · refine j_iload_n (q := 114) (i := 0) (n := 2) dX7_inTicks_113 rfl rfl rfl ?_
    refine j_goto (tgt := 119) dX7_inTicks_114 rfl ?_
    exact j_ret (x := (x2, g)) dX7_inTicks_119 ⟨trivial, rfl, rfl⟩
def m_X7_inTicks_L82 (a0 : Int32) : Nat → zG → Int32 → Int32 → Int32 → Option (Int32 × zG)
  | 0, _, _, _, _ => none
  | f + 1, g, x2, x3, x4 => if x4 < (nI 31) then gd (inb x4 31 = true) (gd (inb x4 31 = true) (bd (ui g 105 0 x4.toNatClampNeg (gi g 111 0 x4.toNatClampNeg)) fun g4 => m_X7_inTicks_L82 a0 f g4 x2 x3 (x4 + (nI 1)))) else m_X7_inTicks_B109 a0 g x2 x3
set_option maxRecDepth 100000 in
set_option maxHeartbeats 4000000 in
theorem t_X7_inTicks_L82 {p : Program} {l : Launch} {e : Env} {s : State} {m : MethodId} {args : Array Value} {below : List Frame} {meth : Method} {c : Code} {cells slots : Nat} {Q : (Int32 × zG) → State → Prop} (z : zE) (gx : zG) (a0 : Int32) : ∀ (f : Nat) (g : zG) (x2 : Int32) (x3 : Int32) (x4 : Int32), zJ dm p l e rm_X7_inTicks s m args below meth c cX7_inTicks 5 yX7_inTicks.cls z cells slots (wm z gx) (fn (fun _ => True) (fun x => x.2) osi) .ireturn Q 82 [(0, .ref (za z 77 0)), (2, .int x2), (3, .int x3), (4, .int x4)] [] g (m_X7_inTicks_L82 a0 f g x2 x3 x4) := by
  intro f
  induction f with
  | zero => intro g x2 x3 x4; exact j_none
  | succ f ih =>
    intro g x2 x3 x4
    refine j_eq (M2 := if x4 < (nI 31) then gd (inb x4 31 = true) (gd (inb x4 31 = true) (bd (ui g 105 0 x4.toNatClampNeg (gi g 111 0 x4.toNatClampNeg)) fun g4 => m_X7_inTicks_L82 a0 f g4 x2 x3 (x4 + (nI 1)))) else m_X7_inTicks_B109 a0 g x2 x3) rfl ?_
    refine j_iload (q := 84) (i := 3) (n := 4) dX7_inTicks_82 rfl rfl ?_
    refine j_bipush (q := 86) (v := (nI 31)) dX7_inTicks_84 rfl rfl ?_
    refine j_icmp_ge (tgt := 109) (q := 89) dX7_inTicks_86 rfl rfl ?_ ?_
    · refine j_lv [1, 2] (lv' := [(2, .int x2), (3, .int x3)]) rfl ?_
      exact t_X7_inTicks_B109 z gx a0 g x2 x3
    · refine j_aload_n (q := 90) (i := 0) (n := 0) dX7_inTicks_89 rfl rfl rfl ?_
      refine g_X7_st (q := 93) wF_X7_29 (Nat.le_of_ble_eq_true rfl) dX7_inTicks_90 rfl ?_
      refine j_iload (q := 95) (i := 3) (n := 4) dX7_inTicks_93 rfl rfl ?_
      refine j_aload_n (q := 96) (i := 0) (n := 0) dX7_inTicks_95 rfl rfl rfl ?_
      refine g_X7_aside (q := 99) wF_X7_47 (Nat.le_of_ble_eq_true rfl) dX7_inTicks_96 rfl ?_
      refine j_iload (q := 101) (i := 3) (n := 4) dX7_inTicks_99 rfl rfl ?_
      refine am_ld (k := 111) (n := 31) (q := 102) isM_111 rfl (Nat.le_of_ble_eq_true rfl) dX7_inTicks_101 rfl ?_
      refine am_st (k := 105) (n := 31) (q := 103) dm_le isM_105 rfl (Nat.le_of_ble_eq_true rfl) dX7_inTicks_102 rfl (fun g4 => ?_)
      refine j_iinc (q := 106) (n := 4) (i := 3) (v := x4 + (nI 1)) (lv' := [(4, .int (x4 + (nI 1))), (0, .ref (za z 77 0)), (2, .int x2), (3, .int x3)]) dX7_inTicks_103 rfl rfl (Nat.le_of_ble_eq_true rfl) rfl rfl ?_
      refine j_goto (tgt := 82) dX7_inTicks_106 rfl ?_
      refine j_lv [1, 2, 3, 0] (lv' := [(0, .ref (za z 77 0)), (2, .int x2), (3, .int x3), (4, .int (x4 + (nI 1)))]) rfl ?_
      exact ih g4 x2 x3 (x4 + (nI 1))
def m_X7_inTicks_B78 (a0 : Int32) (g : zG) (x2 : Int32) (s0 : Int32) : Option (Int32 × zG) := m_X7_inTicks_L82 a0 FU g x2 s0 (nI 0)
set_option maxRecDepth 100000 in
set_option maxHeartbeats 4000000 in
theorem t_X7_inTicks_B78 {p : Program} {l : Launch} {e : Env} {s : State} {m : MethodId} {args : Array Value} {below : List Frame} {meth : Method} {c : Code} {cells slots : Nat} {Q : (Int32 × zG) → State → Prop} (z : zE) (gx : zG) (a0 : Int32) (g : zG) (x2 : Int32) (s0 : Int32) : zJ dm p l e rm_X7_inTicks s m args below meth c cX7_inTicks 5 yX7_inTicks.cls z cells slots (wm z gx) (fn (fun _ => True) (fun x => x.2) osi) .ireturn Q 78 [(0, .ref (za z 77 0)), (2, .int x2)] [.int s0] g (m_X7_inTicks_B78 a0 g x2 s0) := by
  refine j_eq (M2 := m_X7_inTicks_L82 a0 FU g x2 s0 (nI 0)) rfl ?_
  refine j_istore_n (q := 79) (n := 3) (lv' := [(3, .int s0), (0, .ref (za z 77 0)), (2, .int x2)]) dX7_inTicks_78 rfl (Nat.le_of_ble_eq_true rfl) rfl rfl ?_
  refine j_iconst (q := 80) (v := (nI 0)) dX7_inTicks_79 rfl rfl ?_
  refine j_istore (q := 82) (n := 4) (lv' := [(4, .int (nI 0)), (3, .int s0), (0, .ref (za z 77 0)), (2, .int x2)]) dX7_inTicks_80 (Nat.le_of_ble_eq_true rfl) rfl rfl ?_
  refine j_lv [2, 3, 1, 0] (lv' := [(0, .ref (za z 77 0)), (2, .int x2), (3, .int s0), (4, .int (nI 0))]) rfl ?_
  exact t_X7_inTicks_L82 z gx a0 FU g x2 s0 (nI 0)
def m_X7_inTicks_B65 (a0 : Int32) (g : zG) (x2 : Int32) : Option (Int32 × zG) := (m_X7_placeOf g a0).bind fun r3 => if r3 < (nI 0) then m_X7_inTicks_B78 a0 g x2 (nI 1) else m_X7_inTicks_B78 a0 g x2 (nI 0)
set_option maxRecDepth 100000 in
set_option maxHeartbeats 4000000 in
theorem t_X7_inTicks_B65 {p : Program} {l : Launch} {e : Env} {s : State} {m : MethodId} {args : Array Value} {below : List Frame} {meth : Method} {c : Code} {cells slots : Nat} {Q : (Int32 × zG) → State → Prop} (z : zE) (gx : zG) (a0 : Int32) (g : zG) (x2 : Int32) : zJ dm p l e rm_X7_inTicks s m args below meth c cX7_inTicks 5 yX7_inTicks.cls z cells slots (wm z gx) (fn (fun _ => True) (fun x => x.2) osi) .ireturn Q 65 [(0, .ref (za z 77 0)), (1, .int a0), (2, .int x2)] [] g (m_X7_inTicks_B65 a0 g x2) := by
  refine j_eq (M2 := (m_X7_placeOf g a0).bind fun r3 => if r3 < (nI 0) then m_X7_inTicks_B78 a0 g x2 (nI 1) else m_X7_inTicks_B78 a0 g x2 (nI 0)) rfl ?_
  refine j_aload_n (q := 66) (i := 0) (n := 0) dX7_inTicks_65 rfl rfl rfl ?_
  refine j_iload_n (q := 67) (i := 1) (n := 1) dX7_inTicks_66 rfl rfl rfl ?_
  refine j_ci (q := 70) (rn_V (R := rm_X7_inTicks) (As := [.int a0]) (rest := []) (c_X7_placeOf _ z gx g a0) cv_X7_placeOf wM_X7_187 ⟨rfl, rfl⟩ ⟨(Nat.le_of_ble_eq_true rfl), (Nat.le_of_ble_eq_true rfl)⟩ (Nat.le_of_ble_eq_true rfl) rfl rfl rfl (Nat.le_of_ble_eq_true rfl) dX7_inTicks_67) rfl (fun r3 => ?_)
  refine j_if_ge (tgt := 77) (q := 73) dX7_inTicks_70 rfl rfl ?_ ?_
  · refine j_iconst (q := 78) (v := (nI 0)) dX7_inTicks_77 rfl rfl ?_
    refine j_lv [0, 2] (lv' := [(0, .ref (za z 77 0)), (2, .int x2)]) rfl ?_
    exact t_X7_inTicks_B78 z gx a0 g x2 (nI 0)
  · refine j_iconst (q := 74) (v := (nI 1)) dX7_inTicks_73 rfl rfl ?_
    refine j_goto (tgt := 78) dX7_inTicks_74 rfl ?_
    refine j_lv [0, 2] (lv' := [(0, .ref (za z 77 0)), (2, .int x2)]) rfl ?_
    exact t_X7_inTicks_B78 z gx a0 g x2 (nI 1)
def m_X7_inTicks_L39 (a0 : Int32) : Nat → zG → Int32 → Option (Int32 × zG)
  | 0, _, _ => none
  | f + 1, g, x2 => (m_X7_placeOf g a0).bind fun r2 => if r2 < (nI 0) then m_X7_inTicks_B65 a0 g x2 else if x2 < (nI 400) then sb (m_X7_oneTick g) fun r5 g6 => m_X7_inTicks_L39 a0 f g6 (x2 + (nI 1)) else m_X7_inTicks_B65 a0 g x2
set_option maxRecDepth 100000 in
set_option maxHeartbeats 4000000 in
theorem t_X7_inTicks_L39 {p : Program} {l : Launch} {e : Env} {s : State} {m : MethodId} {args : Array Value} {below : List Frame} {meth : Method} {c : Code} {cells slots : Nat} {Q : (Int32 × zG) → State → Prop} (z : zE) (gx : zG) (a0 : Int32) : ∀ (f : Nat) (g : zG) (x2 : Int32), zJ dm p l e rm_X7_inTicks s m args below meth c cX7_inTicks 5 yX7_inTicks.cls z cells slots (wm z gx) (fn (fun _ => True) (fun x => x.2) osi) .ireturn Q 39 [(0, .ref (za z 77 0)), (1, .int a0), (2, .int x2)] [] g (m_X7_inTicks_L39 a0 f g x2) := by
  intro f
  induction f with
  | zero => intro g x2; exact j_none
  | succ f ih =>
    intro g x2
    refine j_eq (M2 := (m_X7_placeOf g a0).bind fun r2 => if r2 < (nI 0) then m_X7_inTicks_B65 a0 g x2 else if x2 < (nI 400) then sb (m_X7_oneTick g) fun r5 g6 => m_X7_inTicks_L39 a0 f g6 (x2 + (nI 1)) else m_X7_inTicks_B65 a0 g x2) rfl ?_
    refine j_aload_n (q := 40) (i := 0) (n := 0) dX7_inTicks_39 rfl rfl rfl ?_
    refine j_iload_n (q := 41) (i := 1) (n := 1) dX7_inTicks_40 rfl rfl rfl ?_
    refine j_ci (q := 44) (rn_V (R := rm_X7_inTicks) (As := [.int a0]) (rest := []) (c_X7_placeOf _ z gx g a0) cv_X7_placeOf wM_X7_187 ⟨rfl, rfl⟩ ⟨(Nat.le_of_ble_eq_true rfl), (Nat.le_of_ble_eq_true rfl)⟩ (Nat.le_of_ble_eq_true rfl) rfl rfl rfl (Nat.le_of_ble_eq_true rfl) dX7_inTicks_41) rfl (fun r2 => ?_)
    refine j_if_lt (tgt := 65) (q := 47) dX7_inTicks_44 rfl rfl ?_ ?_
    · exact t_X7_inTicks_B65 z gx a0 g x2
    · refine j_iload_n (q := 48) (i := 2) (n := 2) dX7_inTicks_47 rfl rfl rfl ?_
      refine j_sipush (q := 51) (v := (nI 400)) dX7_inTicks_48 rfl rfl ?_
      refine j_icmp_ge (tgt := 65) (q := 54) dX7_inTicks_51 rfl rfl ?_ ?_
      · exact t_X7_inTicks_B65 z gx a0 g x2
      · refine j_aload_n (q := 55) (i := 0) (n := 0) dX7_inTicks_54 rfl rfl rfl ?_
        refine j_ss (q := 58) (rn_V (R := rm_X7_inTicks) (As := []) (rest := []) (c_X7_oneTick _ z gx g) cv_X7_oneTick wM_X7_184 ⟨rfl, rfl⟩ ⟨(Nat.le_of_ble_eq_true rfl), (Nat.le_of_ble_eq_true rfl)⟩ (Nat.le_of_ble_eq_true rfl) rfl rfl rfl (Nat.le_of_ble_eq_true rfl) dX7_inTicks_55) rfl (fun r5 g6 => ?_)
        refine j_pop (q := 59) dX7_inTicks_58 rfl rfl ?_
        refine j_iinc (q := 62) (n := 2) (i := 2) (v := x2 + (nI 1)) (lv' := [(2, .int (x2 + (nI 1))), (0, .ref (za z 77 0)), (1, .int a0)]) dX7_inTicks_59 rfl rfl (Nat.le_of_ble_eq_true rfl) rfl rfl ?_
        refine j_goto (tgt := 39) dX7_inTicks_62 rfl ?_
        refine j_lv [1, 2, 0] (lv' := [(0, .ref (za z 77 0)), (1, .int a0), (2, .int (x2 + (nI 1)))]) rfl ?_
        exact ih g6 (x2 + (nI 1))
def m_X7_inTicks_L13 (a0 : Int32) : Nat → zG → Int32 → Option (Int32 × zG)
  | 0, _, _ => none
  | f + 1, g, x2 => if x2 < (nI 31) then gd (inb x2 31 = true) (gd (inb x2 31 = true) (bd (ui g 111 0 x2.toNatClampNeg (gi g 105 0 x2.toNatClampNeg)) fun g8 => m_X7_inTicks_L13 a0 f g8 (x2 + (nI 1)))) else m_X7_inTicks_L39 a0 FU g (nI 0)
set_option maxRecDepth 100000 in
set_option maxHeartbeats 4000000 in
theorem t_X7_inTicks_L13 {p : Program} {l : Launch} {e : Env} {s : State} {m : MethodId} {args : Array Value} {below : List Frame} {meth : Method} {c : Code} {cells slots : Nat} {Q : (Int32 × zG) → State → Prop} (z : zE) (gx : zG) (a0 : Int32) : ∀ (f : Nat) (g : zG) (x2 : Int32), zJ dm p l e rm_X7_inTicks s m args below meth c cX7_inTicks 5 yX7_inTicks.cls z cells slots (wm z gx) (fn (fun _ => True) (fun x => x.2) osi) .ireturn Q 13 [(0, .ref (za z 77 0)), (1, .int a0), (2, .int x2)] [] g (m_X7_inTicks_L13 a0 f g x2) := by
  intro f
  induction f with
  | zero => intro g x2; exact j_none
  | succ f ih =>
    intro g x2
    refine j_eq (M2 := if x2 < (nI 31) then gd (inb x2 31 = true) (gd (inb x2 31 = true) (bd (ui g 111 0 x2.toNatClampNeg (gi g 105 0 x2.toNatClampNeg)) fun g8 => m_X7_inTicks_L13 a0 f g8 (x2 + (nI 1)))) else m_X7_inTicks_L39 a0 FU g (nI 0)) rfl ?_
    refine j_iload_n (q := 14) (i := 2) (n := 2) dX7_inTicks_13 rfl rfl rfl ?_
    refine j_bipush (q := 16) (v := (nI 31)) dX7_inTicks_14 rfl rfl ?_
    refine j_icmp_ge (tgt := 37) (q := 19) dX7_inTicks_16 rfl rfl ?_ ?_
    · refine j_iconst (q := 38) (v := (nI 0)) dX7_inTicks_37 rfl rfl ?_
      refine j_istore_n (q := 39) (n := 2) (lv' := [(2, .int (nI 0)), (0, .ref (za z 77 0)), (1, .int a0)]) dX7_inTicks_38 rfl (Nat.le_of_ble_eq_true rfl) rfl rfl ?_
      refine j_lv [1, 2, 0] (lv' := [(0, .ref (za z 77 0)), (1, .int a0), (2, .int (nI 0))]) rfl ?_
      exact t_X7_inTicks_L39 z gx a0 FU g (nI 0)
    · refine j_aload_n (q := 20) (i := 0) (n := 0) dX7_inTicks_19 rfl rfl rfl ?_
      refine g_X7_aside (q := 23) wF_X7_47 (Nat.le_of_ble_eq_true rfl) dX7_inTicks_20 rfl ?_
      refine j_iload_n (q := 24) (i := 2) (n := 2) dX7_inTicks_23 rfl rfl rfl ?_
      refine j_aload_n (q := 25) (i := 0) (n := 0) dX7_inTicks_24 rfl rfl rfl ?_
      refine g_X7_st (q := 28) wF_X7_29 (Nat.le_of_ble_eq_true rfl) dX7_inTicks_25 rfl ?_
      refine j_iload_n (q := 29) (i := 2) (n := 2) dX7_inTicks_28 rfl rfl rfl ?_
      refine am_ld (k := 105) (n := 31) (q := 30) isM_105 rfl (Nat.le_of_ble_eq_true rfl) dX7_inTicks_29 rfl ?_
      refine am_st (k := 111) (n := 31) (q := 31) dm_le isM_111 rfl (Nat.le_of_ble_eq_true rfl) dX7_inTicks_30 rfl (fun g8 => ?_)
      refine j_iinc (q := 34) (n := 2) (i := 2) (v := x2 + (nI 1)) (lv' := [(2, .int (x2 + (nI 1))), (0, .ref (za z 77 0)), (1, .int a0)]) dX7_inTicks_31 rfl rfl (Nat.le_of_ble_eq_true rfl) rfl rfl ?_
      refine j_goto (tgt := 13) dX7_inTicks_34 rfl ?_
      refine j_lv [1, 2, 0] (lv' := [(0, .ref (za z 77 0)), (1, .int a0), (2, .int (x2 + (nI 1)))]) rfl ?_
      exact ih g8 (x2 + (nI 1))
def m_X7_inTicks (g : zG) (a0 : Int32) : Option (Int32 × zG) := (m_X7_placeOf g a0).bind fun r1 => if r1 < (nI 0) then some ((-9), g) else m_X7_inTicks_L13 a0 FU g (nI 0)
set_option maxRecDepth 100000 in
set_option maxHeartbeats 4000000 in
theorem c_X7_inTicks (l : Launch) (z : zE) (gx : zG) (g : zG) (a0 : Int32) : ∀ x, m_X7_inTicks g a0 = some x → Ms dm l yX7_inTicks cX7_inTicks 5 (some .int) rm_X7_inTicks z [.ref (za z 77 0), .int a0] ((wm z gx) g) (osi x) ((wm z gx) ((fun x => x.2) x)) := by
  refine ms_of (Wf := (wm z gx)) (ri := .ireturn) (out := osi) (nxt := (fun x => x.2)) (ok := (fun _ => True)) (lv := [(0, .ref (za z 77 0)), (1, .int a0)]) (by decide) ⟨rfl, rfl⟩ (Nat.le_of_ble_eq_true rfl) rfl (en_i (out := fun x : Int32 × zG => x.1)) (fun p e s m below meth c => ?_)
  refine j_eq (M2 := (m_X7_placeOf g a0).bind fun r1 => if r1 < (nI 0) then some ((-9), g) else m_X7_inTicks_L13 a0 FU g (nI 0)) rfl ?_
  refine j_aload_n (q := 1) (i := 0) (n := 0) dX7_inTicks_0 rfl rfl rfl ?_
  refine j_iload_n (q := 2) (i := 1) (n := 1) dX7_inTicks_1 rfl rfl rfl ?_
  refine j_ci (q := 5) (rn_V (R := rm_X7_inTicks) (As := [.int a0]) (rest := []) (c_X7_placeOf _ z gx g a0) cv_X7_placeOf wM_X7_187 ⟨rfl, rfl⟩ ⟨(Nat.le_of_ble_eq_true rfl), (Nat.le_of_ble_eq_true rfl)⟩ (Nat.le_of_ble_eq_true rfl) rfl rfl rfl (Nat.le_of_ble_eq_true rfl) dX7_inTicks_2) rfl (fun r1 => ?_)
  refine j_if_ge (tgt := 11) (q := 8) dX7_inTicks_5 rfl rfl ?_ ?_
  · refine j_iconst (q := 12) (v := (nI 0)) dX7_inTicks_11 rfl rfl ?_
    refine j_istore_n (q := 13) (n := 2) (lv' := [(2, .int (nI 0)), (0, .ref (za z 77 0)), (1, .int a0)]) dX7_inTicks_12 rfl (Nat.le_of_ble_eq_true rfl) rfl rfl ?_
    refine j_lv [1, 2, 0] (lv' := [(0, .ref (za z 77 0)), (1, .int a0), (2, .int (nI 0))]) rfl ?_
    exact t_X7_inTicks_L13 z gx a0 FU g (nI 0)
  · refine j_bipush (q := 10) (v := (-9)) dX7_inTicks_8 rfl rfl ?_
    exact j_ret (x := ((-9), g)) dX7_inTicks_10 ⟨trivial, rfl, rfl⟩
-- CopierJobsModel.leftOf(I)I
abbrev rm_X7_leftOf : Room := { frames := 5, cells := 0, slots := 0, locals := 110 }
theorem cv_X7_leftOf : CV yX7_leftOf cX7_leftOf 4 (some .int) 1 := ⟨wC_X7_leftOf, wI_X7_leftOf, wS_X7_leftOf, wZ_X7, by decide +kernel⟩
def m_X7_leftOf_L12 (a0 : Int32) (g : zG) : Nat → Int32 → Int32 → Option (Int32)
  | 0, _, _ => none
  | f + 1, x2, x3 => (m_X7_allOf g a0).bind fun r2 => if x3 < r2 then (m_X7_placeOf g a0).bind fun r3 => if r3 < (nI 0) then some x2 else (m_X7_sidesOf g a0 x3).bind fun r4 => m_X7_leftOf_L12 a0 g f (x2 + r4) (x3 + (nI 1)) else some x2
set_option maxRecDepth 100000 in
set_option maxHeartbeats 4000000 in
theorem t_X7_leftOf_L12 {p : Program} {l : Launch} {e : Env} {s : State} {m : MethodId} {args : Array Value} {below : List Frame} {meth : Method} {c : Code} {cells slots : Nat} {Q : Int32 → State → Prop} (z : zE) (gx : zG) (a0 : Int32) (g : zG) : ∀ (f : Nat) (x2 : Int32) (x3 : Int32), zJ dm p l e rm_X7_leftOf s m args below meth c cX7_leftOf 4 yX7_leftOf.cls z cells slots (wm z gx) (fn (fun _ => True) (fun _ => g) oi) .ireturn Q 12 [(0, .ref (za z 77 0)), (1, .int a0), (2, .int x2), (3, .int x3)] [] g (m_X7_leftOf_L12 a0 g f x2 x3) := by
  intro f
  induction f with
  | zero => intro x2 x3; exact j_none
  | succ f ih =>
    intro x2 x3
    refine j_eq (M2 := (m_X7_allOf g a0).bind fun r2 => if x3 < r2 then (m_X7_placeOf g a0).bind fun r3 => if r3 < (nI 0) then some x2 else (m_X7_sidesOf g a0 x3).bind fun r4 => m_X7_leftOf_L12 a0 g f (x2 + r4) (x3 + (nI 1)) else some x2) rfl ?_
    refine j_iload_n (q := 13) (i := 3) (n := 3) dX7_leftOf_12 rfl rfl rfl ?_
    refine j_aload_n (q := 14) (i := 0) (n := 0) dX7_leftOf_13 rfl rfl rfl ?_
    refine j_iload_n (q := 15) (i := 1) (n := 1) dX7_leftOf_14 rfl rfl rfl ?_
    refine j_ci (q := 18) (rn_V (R := rm_X7_leftOf) (As := [.int a0]) (rest := [.int x3]) (c_X7_allOf _ z gx g a0) cv_X7_allOf wM_X7_160 ⟨rfl, rfl⟩ ⟨(Nat.le_of_ble_eq_true rfl), (Nat.le_of_ble_eq_true rfl)⟩ (Nat.le_of_ble_eq_true rfl) rfl rfl rfl (Nat.le_of_ble_eq_true rfl) dX7_leftOf_15) rfl (fun r2 => ?_)
    refine j_icmp_ge (tgt := 44) (q := 21) dX7_leftOf_18 rfl rfl ?_ ?_
    · refine j_iload_n (q := 45) (i := 2) (n := 2) dX7_leftOf_44 rfl rfl rfl ?_
      exact j_ret (x := x2) dX7_leftOf_45 ⟨trivial, rfl, rfl⟩
    · refine j_aload_n (q := 22) (i := 0) (n := 0) dX7_leftOf_21 rfl rfl rfl ?_
      refine j_iload_n (q := 23) (i := 1) (n := 1) dX7_leftOf_22 rfl rfl rfl ?_
      refine j_ci (q := 26) (rn_V (R := rm_X7_leftOf) (As := [.int a0]) (rest := []) (c_X7_placeOf _ z gx g a0) cv_X7_placeOf wM_X7_187 ⟨rfl, rfl⟩ ⟨(Nat.le_of_ble_eq_true rfl), (Nat.le_of_ble_eq_true rfl)⟩ (Nat.le_of_ble_eq_true rfl) rfl rfl rfl (Nat.le_of_ble_eq_true rfl) dX7_leftOf_23) rfl (fun r3 => ?_)
      refine j_if_lt (tgt := 44) (q := 29) dX7_leftOf_26 rfl rfl ?_ ?_
      · refine j_iload_n (q := 45) (i := 2) (n := 2) dX7_leftOf_44 rfl rfl rfl ?_
        exact j_ret (x := x2) dX7_leftOf_45 ⟨trivial, rfl, rfl⟩
      · refine j_iload_n (q := 30) (i := 2) (n := 2) dX7_leftOf_29 rfl rfl rfl ?_
        refine j_aload_n (q := 31) (i := 0) (n := 0) dX7_leftOf_30 rfl rfl rfl ?_
        refine j_iload_n (q := 32) (i := 1) (n := 1) dX7_leftOf_31 rfl rfl rfl ?_
        refine j_iload_n (q := 33) (i := 3) (n := 3) dX7_leftOf_32 rfl rfl rfl ?_
        refine j_ci (q := 36) (rn_V (R := rm_X7_leftOf) (As := [.int a0, .int x3]) (rest := [.int x2]) (c_X7_sidesOf _ z gx g a0 x3) cv_X7_sidesOf wM_X7_169 ⟨rfl, rfl⟩ ⟨(Nat.le_of_ble_eq_true rfl), (Nat.le_of_ble_eq_true rfl)⟩ (Nat.le_of_ble_eq_true rfl) rfl rfl rfl (Nat.le_of_ble_eq_true rfl) dX7_leftOf_33) rfl (fun r4 => ?_)
        refine j_iadd (q := 37) dX7_leftOf_36 rfl ?_
        refine j_istore_n (q := 38) (n := 2) (lv' := [(2, .int (x2 + r4)), (0, .ref (za z 77 0)), (1, .int a0), (3, .int x3)]) dX7_leftOf_37 rfl (Nat.le_of_ble_eq_true rfl) rfl rfl ?_
        refine j_iinc (q := 41) (n := 3) (i := 3) (v := x3 + (nI 1)) (lv' := [(3, .int (x3 + (nI 1))), (2, .int (x2 + r4)), (0, .ref (za z 77 0)), (1, .int a0)]) dX7_leftOf_38 rfl rfl (Nat.le_of_ble_eq_true rfl) rfl rfl ?_
        refine j_goto (tgt := 12) dX7_leftOf_41 rfl ?_
        refine j_lv [2, 3, 1, 0] (lv' := [(0, .ref (za z 77 0)), (1, .int a0), (2, .int (x2 + r4)), (3, .int (x3 + (nI 1)))]) rfl ?_
        exact ih (x2 + r4) (x3 + (nI 1))
def m_X7_leftOf (g : zG) (a0 : Int32) : Option (Int32) := gd (inb ((nI 19) + a0) 31 = true) (bd (gi g 105 0 ((nI 19) + a0).toNatClampNeg) fun v1 => m_X7_leftOf_L12 a0 g FU (nI 0) v1)
set_option maxRecDepth 100000 in
set_option maxHeartbeats 4000000 in
theorem c_X7_leftOf (l : Launch) (z : zE) (gx : zG) (g : zG) (a0 : Int32) : ∀ x, m_X7_leftOf g a0 = some x → Ms dm l yX7_leftOf cX7_leftOf 4 (some .int) rm_X7_leftOf z [.ref (za z 77 0), .int a0] ((wm z gx) g) (oi x) ((wm z gx) ((fun _ => g) x)) := by
  refine ms_of (Wf := (wm z gx)) (ri := .ireturn) (out := oi) (nxt := (fun _ => g)) (ok := (fun _ => True)) (lv := [(0, .ref (za z 77 0)), (1, .int a0)]) (by decide) ⟨rfl, rfl⟩ (Nat.le_of_ble_eq_true rfl) rfl (en_i (out := fun x => x)) (fun p e s m below meth c => ?_)
  refine j_eq (M2 := gd (inb ((nI 19) + a0) 31 = true) (bd (gi g 105 0 ((nI 19) + a0).toNatClampNeg) fun v1 => m_X7_leftOf_L12 a0 g FU (nI 0) v1)) rfl ?_
  refine j_iconst (q := 1) (v := (nI 0)) dX7_leftOf_0 rfl rfl ?_
  refine j_istore_n (q := 2) (n := 2) (lv' := [(2, .int (nI 0)), (0, .ref (za z 77 0)), (1, .int a0)]) dX7_leftOf_1 rfl (Nat.le_of_ble_eq_true rfl) rfl rfl ?_
  refine j_aload_n (q := 3) (i := 1) (n := 0) dX7_leftOf_2 rfl rfl rfl ?_
  refine g_X7_st (q := 6) wF_X7_29 (Nat.le_of_ble_eq_true rfl) dX7_leftOf_3 rfl ?_
  refine j_bipush (q := 8) (v := (nI 19)) dX7_leftOf_6 rfl rfl ?_
  refine j_iload_n (q := 9) (i := 2) (n := 1) dX7_leftOf_8 rfl rfl rfl ?_
  refine j_iadd (q := 10) dX7_leftOf_9 rfl ?_
  refine am_ld (k := 105) (n := 31) (q := 11) isM_105 rfl (Nat.le_of_ble_eq_true rfl) dX7_leftOf_10 rfl ?_
  refine j_top (fun v1 => ?_)
  refine j_istore_n (q := 12) (n := 3) (lv' := [(3, .int v1), (2, .int (nI 0)), (0, .ref (za z 77 0)), (1, .int a0)]) dX7_leftOf_11 rfl (Nat.le_of_ble_eq_true rfl) rfl rfl ?_
  refine j_lv [2, 3, 1, 0] (lv' := [(0, .ref (za z 77 0)), (1, .int a0), (2, .int (nI 0)), (3, .int v1)]) rfl ?_
  exact t_X7_leftOf_L12 z gx a0 g FU (nI 0) v1
-- CopierJobsModel.job(II)I
abbrev rm_X7_job : Room := { frames := 8, cells := 0, slots := 0, locals := 179 }
theorem cv_X7_job : CV yX7_job cX7_job 3 (some .int) 2 := ⟨wC_X7_job, wI_X7_job, wS_X7_job, wZ_X7, by decide +kernel⟩
def m_X7_job (g : zG) (a0 : Int32) (a1 : Int32) : Option (Int32 × zG) := (m_X7_isJob g a0).bind fun r1 => if r1 = (nI 0) then some ((-1), g) else if a1 = (nI 0) then (gd (inb a0 6 = true) (some (gi g 100 0 a0.toNatClampNeg, g))) else if a1 = (nI 1) then (gd (inb a0 6 = true) (some (gi g 101 0 a0.toNatClampNeg, g))) else if a1 = (nI 2) then (gd (inb a0 6 = true) (some (gi g 102 0 a0.toNatClampNeg, g))) else if a1 = (nI 3) then (gd (inb a0 6 = true) (some (gi g 103 0 a0.toNatClampNeg, g))) else if a1 = (nI 4) then (gd (inb a0 6 = true) (some (gi g 104 0 a0.toNatClampNeg, g))) else if a1 = (nI 5) then ((m_X7_allOf g a0).bind fun r7 => some (r7, g)) else if a1 = (nI 6) then (gd (inb ((nI 19) + a0) 31 = true) (some (gi g 105 0 ((nI 19) + a0).toNatClampNeg, g))) else if a1 = (nI 7) then ((m_X7_placeOf g a0).bind fun r10 => some (r10, g)) else if a1 = (nI 8) then (gd (inb ((nI 25) + a0) 31 = true) (if (gi g 105 0 ((nI 25) + a0).toNatClampNeg) = (nI 0) then some ((-9), g) else gd (inb ((nI 25) + a0) 31 = true) (some (gi g 105 0 ((nI 25) + a0).toNatClampNeg, g)))) else if a1 = (nI 9) then (sb (m_X7_inTicks g a0) fun r13 g14 => some (r13, g14)) else if a1 = (nI 10) then ((m_X7_leftOf g a0).bind fun r17 => some (r17, g)) else (some ((-1), g))
set_option maxRecDepth 100000 in
set_option maxHeartbeats 4000000 in
theorem c_X7_job (l : Launch) (z : zE) (gx : zG) (g : zG) (a0 : Int32) (a1 : Int32) : ∀ x, m_X7_job g a0 a1 = some x → Ms dm l yX7_job cX7_job 3 (some .int) rm_X7_job z [.ref (za z 77 0), .int a0, .int a1] ((wm z gx) g) (osi x) ((wm z gx) ((fun x => x.2) x)) := by
  refine ms_of (Wf := (wm z gx)) (ri := .ireturn) (out := osi) (nxt := (fun x => x.2)) (ok := (fun _ => True)) (lv := [(0, .ref (za z 77 0)), (1, .int a0), (2, .int a1)]) (by decide) ⟨rfl, rfl⟩ (Nat.le_of_ble_eq_true rfl) rfl (en_i (out := fun x : Int32 × zG => x.1)) (fun p e s m below meth c => ?_)
  refine j_eq (M2 := (m_X7_isJob g a0).bind fun r1 => if r1 = (nI 0) then some ((-1), g) else if a1 = (nI 0) then (gd (inb a0 6 = true) (some (gi g 100 0 a0.toNatClampNeg, g))) else if a1 = (nI 1) then (gd (inb a0 6 = true) (some (gi g 101 0 a0.toNatClampNeg, g))) else if a1 = (nI 2) then (gd (inb a0 6 = true) (some (gi g 102 0 a0.toNatClampNeg, g))) else if a1 = (nI 3) then (gd (inb a0 6 = true) (some (gi g 103 0 a0.toNatClampNeg, g))) else if a1 = (nI 4) then (gd (inb a0 6 = true) (some (gi g 104 0 a0.toNatClampNeg, g))) else if a1 = (nI 5) then ((m_X7_allOf g a0).bind fun r7 => some (r7, g)) else if a1 = (nI 6) then (gd (inb ((nI 19) + a0) 31 = true) (some (gi g 105 0 ((nI 19) + a0).toNatClampNeg, g))) else if a1 = (nI 7) then ((m_X7_placeOf g a0).bind fun r10 => some (r10, g)) else if a1 = (nI 8) then (gd (inb ((nI 25) + a0) 31 = true) (if (gi g 105 0 ((nI 25) + a0).toNatClampNeg) = (nI 0) then some ((-9), g) else gd (inb ((nI 25) + a0) 31 = true) (some (gi g 105 0 ((nI 25) + a0).toNatClampNeg, g)))) else if a1 = (nI 9) then (sb (m_X7_inTicks g a0) fun r13 g14 => some (r13, g14)) else if a1 = (nI 10) then ((m_X7_leftOf g a0).bind fun r17 => some (r17, g)) else (some ((-1), g))) rfl ?_
  refine j_aload_n (q := 1) (i := 0) (n := 0) dX7_job_0 rfl rfl rfl ?_
  refine j_iload_n (q := 2) (i := 1) (n := 1) dX7_job_1 rfl rfl rfl ?_
  refine j_ci (q := 5) (rn_V (R := rm_X7_job) (As := [.int a0]) (rest := []) (c_X7_isJob _ z gx g a0) cv_X7_isJob wM_X7_156 ⟨rfl, rfl⟩ ⟨(Nat.le_of_ble_eq_true rfl), (Nat.le_of_ble_eq_true rfl)⟩ (Nat.le_of_ble_eq_true rfl) rfl rfl rfl (Nat.le_of_ble_eq_true rfl) dX7_job_2) rfl (fun r1 => ?_)
  refine j_if_ne (tgt := 10) (q := 8) dX7_job_5 rfl rfl ?_ ?_
  · refine j_iload_n (q := 11) (i := 2) (n := 2) dX7_job_10 rfl rfl rfl ?_
    refine j_case (v := (nI 0)) ?_ (fun h2 => ?_)
    · refine j_tableIn (tgt := 68) dX7_job_11 (by decide) (by decide) rfl rfl ?_
      refine j_aload_n (q := 69) (i := 0) (n := 0) dX7_job_68 rfl rfl rfl ?_
      refine g_X7_pages (q := 72) wF_X7_7 (Nat.le_of_ble_eq_true rfl) dX7_job_69 rfl ?_
      refine j_iload_n (q := 73) (i := 1) (n := 1) dX7_job_72 rfl rfl rfl ?_
      refine am_ld (k := 100) (n := 6) (q := 74) isM_100 rfl (Nat.le_of_ble_eq_true rfl) dX7_job_73 rfl ?_
      exact j_ret (x := (gi g 100 0 a0.toNatClampNeg, g)) dX7_job_74 ⟨trivial, rfl, rfl⟩
    refine j_case (v := (nI 1)) ?_ (fun h3 => ?_)
    · refine j_tableIn (tgt := 75) dX7_job_11 (by decide) (by decide) rfl rfl ?_
      refine j_aload_n (q := 76) (i := 0) (n := 0) dX7_job_75 rfl rfl rfl ?_
      refine g_X7_copies (q := 79) wF_X7_13 (Nat.le_of_ble_eq_true rfl) dX7_job_76 rfl ?_
      refine j_iload_n (q := 80) (i := 1) (n := 1) dX7_job_79 rfl rfl rfl ?_
      refine am_ld (k := 101) (n := 6) (q := 81) isM_101 rfl (Nat.le_of_ble_eq_true rfl) dX7_job_80 rfl ?_
      exact j_ret (x := (gi g 101 0 a0.toNatClampNeg, g)) dX7_job_81 ⟨trivial, rfl, rfl⟩
    refine j_case (v := (nI 2)) ?_ (fun h4 => ?_)
    · refine j_tableIn (tgt := 82) dX7_job_11 (by decide) (by decide) rfl rfl ?_
      refine j_aload_n (q := 83) (i := 0) (n := 0) dX7_job_82 rfl rfl rfl ?_
      refine g_X7_both (q := 86) wF_X7_16 (Nat.le_of_ble_eq_true rfl) dX7_job_83 rfl ?_
      refine j_iload_n (q := 87) (i := 1) (n := 1) dX7_job_86 rfl rfl rfl ?_
      refine am_ld (k := 102) (n := 6) (q := 88) isM_102 rfl (Nat.le_of_ble_eq_true rfl) dX7_job_87 rfl ?_
      exact j_ret (x := (gi g 102 0 a0.toNatClampNeg, g)) dX7_job_88 ⟨trivial, rfl, rfl⟩
    refine j_case (v := (nI 3)) ?_ (fun h5 => ?_)
    · refine j_tableIn (tgt := 89) dX7_job_11 (by decide) (by decide) rfl rfl ?_
      refine j_aload_n (q := 90) (i := 0) (n := 0) dX7_job_89 rfl rfl rfl ?_
      refine g_X7_sorted (q := 93) wF_X7_19 (Nat.le_of_ble_eq_true rfl) dX7_job_90 rfl ?_
      refine j_iload_n (q := 94) (i := 1) (n := 1) dX7_job_93 rfl rfl rfl ?_
      refine am_ld (k := 103) (n := 6) (q := 95) isM_103 rfl (Nat.le_of_ble_eq_true rfl) dX7_job_94 rfl ?_
      exact j_ret (x := (gi g 103 0 a0.toNatClampNeg, g)) dX7_job_95 ⟨trivial, rfl, rfl⟩
    refine j_case (v := (nI 4)) ?_ (fun h6 => ?_)
    · refine j_tableIn (tgt := 96) dX7_job_11 (by decide) (by decide) rfl rfl ?_
      refine j_aload_n (q := 97) (i := 0) (n := 0) dX7_job_96 rfl rfl rfl ?_
      refine g_X7_trays (q := 100) wF_X7_22 (Nat.le_of_ble_eq_true rfl) dX7_job_97 rfl ?_
      refine j_iload_n (q := 101) (i := 1) (n := 1) dX7_job_100 rfl rfl rfl ?_
      refine am_ld (k := 104) (n := 6) (q := 102) isM_104 rfl (Nat.le_of_ble_eq_true rfl) dX7_job_101 rfl ?_
      exact j_ret (x := (gi g 104 0 a0.toNatClampNeg, g)) dX7_job_102 ⟨trivial, rfl, rfl⟩
    refine j_case (v := (nI 5)) ?_ (fun h8 => ?_)
    · refine j_tableIn (tgt := 103) dX7_job_11 (by decide) (by decide) rfl rfl ?_
      refine j_aload_n (q := 104) (i := 0) (n := 0) dX7_job_103 rfl rfl rfl ?_
      refine j_iload_n (q := 105) (i := 1) (n := 1) dX7_job_104 rfl rfl rfl ?_
      refine j_ci (q := 108) (rn_V (R := rm_X7_job) (As := [.int a0]) (rest := []) (c_X7_allOf _ z gx g a0) cv_X7_allOf wM_X7_160 ⟨rfl, rfl⟩ ⟨(Nat.le_of_ble_eq_true rfl), (Nat.le_of_ble_eq_true rfl)⟩ (Nat.le_of_ble_eq_true rfl) rfl rfl rfl (Nat.le_of_ble_eq_true rfl) dX7_job_105) rfl (fun r7 => ?_)
      exact j_ret (x := (r7, g)) dX7_job_108 ⟨trivial, rfl, rfl⟩
    refine j_case (v := (nI 6)) ?_ (fun h9 => ?_)
    · refine j_tableIn (tgt := 109) dX7_job_11 (by decide) (by decide) rfl rfl ?_
      refine j_aload_n (q := 110) (i := 0) (n := 0) dX7_job_109 rfl rfl rfl ?_
      refine g_X7_st (q := 113) wF_X7_29 (Nat.le_of_ble_eq_true rfl) dX7_job_110 rfl ?_
      refine j_bipush (q := 115) (v := (nI 19)) dX7_job_113 rfl rfl ?_
      refine j_iload_n (q := 116) (i := 1) (n := 1) dX7_job_115 rfl rfl rfl ?_
      refine j_iadd (q := 117) dX7_job_116 rfl ?_
      refine am_ld (k := 105) (n := 31) (q := 118) isM_105 rfl (Nat.le_of_ble_eq_true rfl) dX7_job_117 rfl ?_
      exact j_ret (x := (gi g 105 0 ((nI 19) + a0).toNatClampNeg, g)) dX7_job_118 ⟨trivial, rfl, rfl⟩
    refine j_case (v := (nI 7)) ?_ (fun h11 => ?_)
    · refine j_tableIn (tgt := 119) dX7_job_11 (by decide) (by decide) rfl rfl ?_
      refine j_aload_n (q := 120) (i := 0) (n := 0) dX7_job_119 rfl rfl rfl ?_
      refine j_iload_n (q := 121) (i := 1) (n := 1) dX7_job_120 rfl rfl rfl ?_
      refine j_ci (q := 124) (rn_V (R := rm_X7_job) (As := [.int a0]) (rest := []) (c_X7_placeOf _ z gx g a0) cv_X7_placeOf wM_X7_187 ⟨rfl, rfl⟩ ⟨(Nat.le_of_ble_eq_true rfl), (Nat.le_of_ble_eq_true rfl)⟩ (Nat.le_of_ble_eq_true rfl) rfl rfl rfl (Nat.le_of_ble_eq_true rfl) dX7_job_121) rfl (fun r10 => ?_)
      exact j_ret (x := (r10, g)) dX7_job_124 ⟨trivial, rfl, rfl⟩
    refine j_case (v := (nI 8)) ?_ (fun h12 => ?_)
    · refine j_tableIn (tgt := 125) dX7_job_11 (by decide) (by decide) rfl rfl ?_
      refine j_aload_n (q := 126) (i := 0) (n := 0) dX7_job_125 rfl rfl rfl ?_
      refine g_X7_st (q := 129) wF_X7_29 (Nat.le_of_ble_eq_true rfl) dX7_job_126 rfl ?_
      refine j_bipush (q := 131) (v := (nI 25)) dX7_job_129 rfl rfl ?_
      refine j_iload_n (q := 132) (i := 1) (n := 1) dX7_job_131 rfl rfl rfl ?_
      refine j_iadd (q := 133) dX7_job_132 rfl ?_
      refine am_ld (k := 105) (n := 31) (q := 134) isM_105 rfl (Nat.le_of_ble_eq_true rfl) dX7_job_133 rfl ?_
      refine j_if_ne (tgt := 142) (q := 137) dX7_job_134 rfl rfl ?_ ?_
      · refine j_aload_n (q := 143) (i := 0) (n := 0) dX7_job_142 rfl rfl rfl ?_
        refine g_X7_st (q := 146) wF_X7_29 (Nat.le_of_ble_eq_true rfl) dX7_job_143 rfl ?_
        refine j_bipush (q := 148) (v := (nI 25)) dX7_job_146 rfl rfl ?_
        refine j_iload_n (q := 149) (i := 1) (n := 1) dX7_job_148 rfl rfl rfl ?_
        refine j_iadd (q := 150) dX7_job_149 rfl ?_
        refine am_ld (k := 105) (n := 31) (q := 151) isM_105 rfl (Nat.le_of_ble_eq_true rfl) dX7_job_150 rfl ?_
        exact j_ret (x := (gi g 105 0 ((nI 25) + a0).toNatClampNeg, g)) dX7_job_151 ⟨trivial, rfl, rfl⟩
      · refine j_bipush (q := 139) (v := (-9)) dX7_job_137 rfl rfl ?_
        refine j_goto (tgt := 151) dX7_job_139 rfl ?_
        exact j_ret (x := ((-9), g)) dX7_job_151 ⟨trivial, rfl, rfl⟩
    refine j_case (v := (nI 9)) ?_ (fun h16 => ?_)
    · refine j_tableIn (tgt := 152) dX7_job_11 (by decide) (by decide) rfl rfl ?_
      refine j_aload_n (q := 153) (i := 0) (n := 0) dX7_job_152 rfl rfl rfl ?_
      refine j_iload_n (q := 154) (i := 1) (n := 1) dX7_job_153 rfl rfl rfl ?_
      refine j_ss (q := 157) (rn_V (R := rm_X7_job) (As := [.int a0]) (rest := []) (c_X7_inTicks _ z gx g a0) cv_X7_inTicks wM_X7_196 ⟨rfl, rfl⟩ ⟨(Nat.le_of_ble_eq_true rfl), (Nat.le_of_ble_eq_true rfl)⟩ (Nat.le_of_ble_eq_true rfl) rfl rfl rfl (Nat.le_of_ble_eq_true rfl) dX7_job_154) rfl (fun r13 g14 => ?_)
      exact j_ret (x := (r13, g14)) dX7_job_157 ⟨trivial, rfl, rfl⟩
    refine j_case (v := (nI 10)) ?_ (fun h18 => ?_)
    · refine j_tableIn (tgt := 158) dX7_job_11 (by decide) (by decide) rfl rfl ?_
      refine j_aload_n (q := 159) (i := 0) (n := 0) dX7_job_158 rfl rfl rfl ?_
      refine j_iload_n (q := 160) (i := 1) (n := 1) dX7_job_159 rfl rfl rfl ?_
      refine j_ci (q := 163) (rn_V (R := rm_X7_job) (As := [.int a0]) (rest := []) (c_X7_leftOf _ z gx g a0) cv_X7_leftOf wM_X7_199 ⟨rfl, rfl⟩ ⟨(Nat.le_of_ble_eq_true rfl), (Nat.le_of_ble_eq_true rfl)⟩ (Nat.le_of_ble_eq_true rfl) rfl rfl rfl (Nat.le_of_ble_eq_true rfl) dX7_job_160) rfl (fun r17 => ?_)
      exact j_ret (x := (r17, g)) dX7_job_163 ⟨trivial, rfl, rfl⟩
    refine j_tableOut (tgt := 164) dX7_job_11 (by have e0 := q_ne (n := 0) h2 rfl; have e1 := q_ne (n := 1) h3 rfl; have e2 := q_ne (n := 2) h4 rfl; have e3 := q_ne (n := 3) h5 rfl; have e4 := q_ne (n := 4) h6 rfl; have e5 := q_ne (n := 5) h8 rfl; have e6 := q_ne (n := 6) h9 rfl; have e7 := q_ne (n := 7) h11 rfl; have e8 := q_ne (n := 8) h12 rfl; have e9 := q_ne (n := 9) h16 rfl; have e10 := q_ne (n := 10) h18 rfl; omega) rfl ?_
    refine j_iconst (q := 165) (v := (-1)) dX7_job_164 rfl rfl ?_
    exact j_ret (x := ((-1), g)) dX7_job_165 ⟨trivial, rfl, rfl⟩
  · refine j_iconst (q := 9) (v := (-1)) dX7_job_8 rfl rfl ?_
    exact j_ret (x := ((-1), g)) dX7_job_9 ⟨trivial, rfl, rfl⟩
-- CopierJobsModel.wantsOf(I)I
abbrev rm_X7_wantsOf : Room := { frames := 2, cells := 0, slots := 0, locals := 42 }
theorem cv_X7_wantsOf : CV yX7_wantsOf cX7_wantsOf 4 (some .int) 1 := ⟨wC_X7_wantsOf, wI_X7_wantsOf, wS_X7_wantsOf, wZ_X7, by decide +kernel⟩
def m_X7_wantsOf_B66 (a0 : Int32) (g : zG) (x2 : Int32) : Option (Int32) := if x2 < (nI 0) then some (nI 0) else some x2
set_option maxRecDepth 100000 in
set_option maxHeartbeats 4000000 in
theorem t_X7_wantsOf_B66 {p : Program} {l : Launch} {e : Env} {s : State} {m : MethodId} {args : Array Value} {below : List Frame} {meth : Method} {c : Code} {cells slots : Nat} {Q : Int32 → State → Prop} (z : zE) (gx : zG) (a0 : Int32) (g : zG) (x2 : Int32) : zJ dm p l e rm_X7_wantsOf s m args below meth c cX7_wantsOf 4 yX7_wantsOf.cls z cells slots (wm z gx) (fn (fun _ => True) (fun _ => g) oi) .ireturn Q 66 [(2, .int x2)] [] g (m_X7_wantsOf_B66 a0 g x2) := by
  refine j_eq (M2 := if x2 < (nI 0) then some (nI 0) else some x2) rfl ?_
  refine j_iload_n (q := 67) (i := 0) (n := 2) dX7_wantsOf_66 rfl rfl rfl ?_
  refine j_if_ge (tgt := 74) (q := 70) dX7_wantsOf_67 rfl rfl ?_ ?_
  · refine j_iload_n (q := 75) (i := 0) (n := 2) dX7_wantsOf_74 rfl rfl rfl ?_
    exact j_ret (x := x2) dX7_wantsOf_75 ⟨trivial, rfl, rfl⟩
  · refine j_iconst (q := 71) (v := (nI 0)) dX7_wantsOf_70 rfl rfl ?_
    refine j_goto (tgt := 75) dX7_wantsOf_71 rfl ?_
    exact j_ret (x := (nI 0)) dX7_wantsOf_75 ⟨trivial, rfl, rfl⟩
def m_X7_wantsOf_B58 (a0 : Int32) (g : zG) (K12 : Int32 → Int32 → Option (Int32)) (x3 : Int32) (s0 : Int32) (s1 : Int32) : Option (Int32) := K12 (s1 + s0) (x3 + (nI 1))
set_option maxRecDepth 100000 in
set_option maxHeartbeats 4000000 in
theorem t_X7_wantsOf_B58 {p : Program} {l : Launch} {e : Env} {s : State} {m : MethodId} {args : Array Value} {below : List Frame} {meth : Method} {c : Code} {cells slots : Nat} {Q : Int32 → State → Prop} (z : zE) (gx : zG) (a0 : Int32) (g : zG) (K12 : Int32 → Int32 → Option (Int32)) (hK12 : ∀ (x2 : Int32) (x3 : Int32), zJ dm p l e rm_X7_wantsOf s m args below meth c cX7_wantsOf 4 yX7_wantsOf.cls z cells slots (wm z gx) (fn (fun _ => True) (fun _ => g) oi) .ireturn Q 12 [(0, .ref (za z 77 0)), (1, .int a0), (2, .int x2), (3, .int x3)] [] g (K12 x2 x3)) (x3 : Int32) (s0 : Int32) (s1 : Int32) : zJ dm p l e rm_X7_wantsOf s m args below meth c cX7_wantsOf 4 yX7_wantsOf.cls z cells slots (wm z gx) (fn (fun _ => True) (fun _ => g) oi) .ireturn Q 58 [(0, .ref (za z 77 0)), (1, .int a0), (3, .int x3)] [.int s0, .int s1] g (m_X7_wantsOf_B58 a0 g K12 x3 s0 s1) := by
  refine j_eq (M2 := K12 (s1 + s0) (x3 + (nI 1))) rfl ?_
  refine j_iadd (q := 59) dX7_wantsOf_58 rfl ?_
  refine j_istore_n (q := 60) (n := 2) (lv' := [(2, .int (s1 + s0)), (0, .ref (za z 77 0)), (1, .int a0), (3, .int x3)]) dX7_wantsOf_59 rfl (Nat.le_of_ble_eq_true rfl) rfl rfl ?_
  refine j_iinc (q := 63) (n := 3) (i := 3) (v := x3 + (nI 1)) (lv' := [(3, .int (x3 + (nI 1))), (2, .int (s1 + s0)), (0, .ref (za z 77 0)), (1, .int a0)]) dX7_wantsOf_60 rfl rfl (Nat.le_of_ble_eq_true rfl) rfl rfl ?_
  refine j_goto (tgt := 12) dX7_wantsOf_63 rfl ?_
  refine j_lv [2, 3, 1, 0] (lv' := [(0, .ref (za z 77 0)), (1, .int a0), (2, .int (s1 + s0)), (3, .int (x3 + (nI 1)))]) rfl ?_
  exact hK12 (s1 + s0) (x3 + (nI 1))
def m_X7_wantsOf_B57 (a0 : Int32) (g : zG) (K12 : Int32 → Int32 → Option (Int32)) (x3 : Int32) (s0 : Int32) : Option (Int32) := m_X7_wantsOf_B58 a0 g K12 x3 (nI 0) s0
set_option maxRecDepth 100000 in
set_option maxHeartbeats 4000000 in
theorem t_X7_wantsOf_B57 {p : Program} {l : Launch} {e : Env} {s : State} {m : MethodId} {args : Array Value} {below : List Frame} {meth : Method} {c : Code} {cells slots : Nat} {Q : Int32 → State → Prop} (z : zE) (gx : zG) (a0 : Int32) (g : zG) (K12 : Int32 → Int32 → Option (Int32)) (hK12 : ∀ (x2 : Int32) (x3 : Int32), zJ dm p l e rm_X7_wantsOf s m args below meth c cX7_wantsOf 4 yX7_wantsOf.cls z cells slots (wm z gx) (fn (fun _ => True) (fun _ => g) oi) .ireturn Q 12 [(0, .ref (za z 77 0)), (1, .int a0), (2, .int x2), (3, .int x3)] [] g (K12 x2 x3)) (x3 : Int32) (s0 : Int32) : zJ dm p l e rm_X7_wantsOf s m args below meth c cX7_wantsOf 4 yX7_wantsOf.cls z cells slots (wm z gx) (fn (fun _ => True) (fun _ => g) oi) .ireturn Q 57 [(0, .ref (za z 77 0)), (1, .int a0), (3, .int x3)] [.int s0] g (m_X7_wantsOf_B57 a0 g K12 x3 s0) := by
  refine j_eq (M2 := m_X7_wantsOf_B58 a0 g K12 x3 (nI 0) s0) rfl ?_
  refine j_iconst (q := 58) (v := (nI 0)) dX7_wantsOf_57 rfl rfl ?_
  exact t_X7_wantsOf_B58 z gx a0 g K12 hK12 x3 (nI 0) s0
def m_X7_wantsOf_L12 (a0 : Int32) (g : zG) : Nat → Int32 → Int32 → Option (Int32)
  | 0, _, _ => none
  | f + 1, x2, x3 => if x3 < (gi g 120 0 0) then (m_X7_placeOf g x3).bind fun r2 => if r2 < (nI 0) then m_X7_wantsOf_B57 a0 g (m_X7_wantsOf_L12 a0 g f) x3 x2 else gd (inb x3 6 = true) (if (gi g 104 0 x3.toNatClampNeg) = a0 then (m_X7_allOf g x3).bind fun r3 => gd (inb ((nI 19) + x3) 31 = true) (m_X7_wantsOf_B58 a0 g (m_X7_wantsOf_L12 a0 g f) x3 (r3 - (gi g 105 0 ((nI 19) + x3).toNatClampNeg)) x2) else m_X7_wantsOf_B57 a0 g (m_X7_wantsOf_L12 a0 g f) x3 x2) else m_X7_wantsOf_B66 a0 g x2
set_option maxRecDepth 100000 in
set_option maxHeartbeats 4000000 in
theorem t_X7_wantsOf_L12 {p : Program} {l : Launch} {e : Env} {s : State} {m : MethodId} {args : Array Value} {below : List Frame} {meth : Method} {c : Code} {cells slots : Nat} {Q : Int32 → State → Prop} (z : zE) (gx : zG) (a0 : Int32) (g : zG) : ∀ (f : Nat) (x2 : Int32) (x3 : Int32), zJ dm p l e rm_X7_wantsOf s m args below meth c cX7_wantsOf 4 yX7_wantsOf.cls z cells slots (wm z gx) (fn (fun _ => True) (fun _ => g) oi) .ireturn Q 12 [(0, .ref (za z 77 0)), (1, .int a0), (2, .int x2), (3, .int x3)] [] g (m_X7_wantsOf_L12 a0 g f x2 x3) := by
  intro f
  induction f with
  | zero => intro x2 x3; exact j_none
  | succ f ih =>
    intro x2 x3
    refine j_eq (M2 := if x3 < (gi g 120 0 0) then (m_X7_placeOf g x3).bind fun r2 => if r2 < (nI 0) then m_X7_wantsOf_B57 a0 g (m_X7_wantsOf_L12 a0 g f) x3 x2 else gd (inb x3 6 = true) (if (gi g 104 0 x3.toNatClampNeg) = a0 then (m_X7_allOf g x3).bind fun r3 => gd (inb ((nI 19) + x3) 31 = true) (m_X7_wantsOf_B58 a0 g (m_X7_wantsOf_L12 a0 g f) x3 (r3 - (gi g 105 0 ((nI 19) + x3).toNatClampNeg)) x2) else m_X7_wantsOf_B57 a0 g (m_X7_wantsOf_L12 a0 g f) x3 x2) else m_X7_wantsOf_B66 a0 g x2) rfl ?_
    refine j_iload_n (q := 13) (i := 3) (n := 3) dX7_wantsOf_12 rfl rfl rfl ?_
    refine j_aload_n (q := 14) (i := 0) (n := 0) dX7_wantsOf_13 rfl rfl rfl ?_
    refine g_X7_jobs (q := 17) wF_X7_66 (Nat.le_of_ble_eq_true rfl) dX7_wantsOf_14 rfl ?_
    refine j_icmp_ge (tgt := 66) (q := 20) dX7_wantsOf_17 rfl rfl ?_ ?_
    · refine j_lv [2] (lv' := [(2, .int x2)]) rfl ?_
      exact t_X7_wantsOf_B66 z gx a0 g x2
    · refine j_iload_n (q := 21) (i := 2) (n := 2) dX7_wantsOf_20 rfl rfl rfl ?_
      refine j_aload_n (q := 22) (i := 0) (n := 0) dX7_wantsOf_21 rfl rfl rfl ?_
      refine j_iload_n (q := 23) (i := 3) (n := 3) dX7_wantsOf_22 rfl rfl rfl ?_
      refine j_ci (q := 26) (rn_V (R := rm_X7_wantsOf) (As := [.int x3]) (rest := [.int x2]) (c_X7_placeOf _ z gx g x3) cv_X7_placeOf wM_X7_187 ⟨rfl, rfl⟩ ⟨(Nat.le_of_ble_eq_true rfl), (Nat.le_of_ble_eq_true rfl)⟩ (Nat.le_of_ble_eq_true rfl) rfl rfl rfl (Nat.le_of_ble_eq_true rfl) dX7_wantsOf_23) rfl (fun r2 => ?_)
      refine j_if_lt (tgt := 57) (q := 29) dX7_wantsOf_26 rfl rfl ?_ ?_
      · refine j_lv [0, 1, 3] (lv' := [(0, .ref (za z 77 0)), (1, .int a0), (3, .int x3)]) rfl ?_
        exact t_X7_wantsOf_B57 z gx a0 g (m_X7_wantsOf_L12 a0 g f) ih x3 x2
      · refine j_aload_n (q := 30) (i := 0) (n := 0) dX7_wantsOf_29 rfl rfl rfl ?_
        refine g_X7_trays (q := 33) wF_X7_22 (Nat.le_of_ble_eq_true rfl) dX7_wantsOf_30 rfl ?_
        refine j_iload_n (q := 34) (i := 3) (n := 3) dX7_wantsOf_33 rfl rfl rfl ?_
        refine am_ld (k := 104) (n := 6) (q := 35) isM_104 rfl (Nat.le_of_ble_eq_true rfl) dX7_wantsOf_34 rfl ?_
        refine j_iload_n (q := 36) (i := 1) (n := 1) dX7_wantsOf_35 rfl rfl rfl ?_
        refine j_icmp_ne (tgt := 57) (q := 39) dX7_wantsOf_36 rfl rfl ?_ ?_
        · refine j_lv [0, 1, 3] (lv' := [(0, .ref (za z 77 0)), (1, .int a0), (3, .int x3)]) rfl ?_
          exact t_X7_wantsOf_B57 z gx a0 g (m_X7_wantsOf_L12 a0 g f) ih x3 x2
        · refine j_aload_n (q := 40) (i := 0) (n := 0) dX7_wantsOf_39 rfl rfl rfl ?_
          refine j_iload_n (q := 41) (i := 3) (n := 3) dX7_wantsOf_40 rfl rfl rfl ?_
          refine j_ci (q := 44) (rn_V (R := rm_X7_wantsOf) (As := [.int x3]) (rest := [.int x2]) (c_X7_allOf _ z gx g x3) cv_X7_allOf wM_X7_160 ⟨rfl, rfl⟩ ⟨(Nat.le_of_ble_eq_true rfl), (Nat.le_of_ble_eq_true rfl)⟩ (Nat.le_of_ble_eq_true rfl) rfl rfl rfl (Nat.le_of_ble_eq_true rfl) dX7_wantsOf_41) rfl (fun r3 => ?_)
          refine j_aload_n (q := 45) (i := 0) (n := 0) dX7_wantsOf_44 rfl rfl rfl ?_
          refine g_X7_st (q := 48) wF_X7_29 (Nat.le_of_ble_eq_true rfl) dX7_wantsOf_45 rfl ?_
          refine j_bipush (q := 50) (v := (nI 19)) dX7_wantsOf_48 rfl rfl ?_
          refine j_iload_n (q := 51) (i := 3) (n := 3) dX7_wantsOf_50 rfl rfl rfl ?_
          refine j_iadd (q := 52) dX7_wantsOf_51 rfl ?_
          refine am_ld (k := 105) (n := 31) (q := 53) isM_105 rfl (Nat.le_of_ble_eq_true rfl) dX7_wantsOf_52 rfl ?_
          refine j_isub (q := 54) dX7_wantsOf_53 rfl ?_
          refine j_goto (tgt := 58) dX7_wantsOf_54 rfl ?_
          refine j_lv [0, 1, 3] (lv' := [(0, .ref (za z 77 0)), (1, .int a0), (3, .int x3)]) rfl ?_
          exact t_X7_wantsOf_B58 z gx a0 g (m_X7_wantsOf_L12 a0 g f) ih x3 (r3 - (gi g 105 0 ((nI 19) + x3).toNatClampNeg)) x2
def m_X7_wantsOf (g : zG) (a0 : Int32) : Option (Int32) := gd (inb ((nI 4) + a0) 31 = true) (bd (-(gi g 105 0 ((nI 4) + a0).toNatClampNeg)) fun v1 => m_X7_wantsOf_L12 a0 g FU v1 (nI 0))
set_option maxRecDepth 100000 in
set_option maxHeartbeats 4000000 in
theorem c_X7_wantsOf (l : Launch) (z : zE) (gx : zG) (g : zG) (a0 : Int32) : ∀ x, m_X7_wantsOf g a0 = some x → Ms dm l yX7_wantsOf cX7_wantsOf 4 (some .int) rm_X7_wantsOf z [.ref (za z 77 0), .int a0] ((wm z gx) g) (oi x) ((wm z gx) ((fun _ => g) x)) := by
  refine ms_of (Wf := (wm z gx)) (ri := .ireturn) (out := oi) (nxt := (fun _ => g)) (ok := (fun _ => True)) (lv := [(0, .ref (za z 77 0)), (1, .int a0)]) (by decide) ⟨rfl, rfl⟩ (Nat.le_of_ble_eq_true rfl) rfl (en_i (out := fun x => x)) (fun p e s m below meth c => ?_)
  refine j_eq (M2 := gd (inb ((nI 4) + a0) 31 = true) (bd (-(gi g 105 0 ((nI 4) + a0).toNatClampNeg)) fun v1 => m_X7_wantsOf_L12 a0 g FU v1 (nI 0))) rfl ?_
  refine j_aload_n (q := 1) (i := 0) (n := 0) dX7_wantsOf_0 rfl rfl rfl ?_
  refine g_X7_st (q := 4) wF_X7_29 (Nat.le_of_ble_eq_true rfl) dX7_wantsOf_1 rfl ?_
  refine j_iconst (q := 5) (v := (nI 4)) dX7_wantsOf_4 rfl rfl ?_
  refine j_iload_n (q := 6) (i := 1) (n := 1) dX7_wantsOf_5 rfl rfl rfl ?_
  refine j_iadd (q := 7) dX7_wantsOf_6 rfl ?_
  refine am_ld (k := 105) (n := 31) (q := 8) isM_105 rfl (Nat.le_of_ble_eq_true rfl) dX7_wantsOf_7 rfl ?_
  refine j_ineg (q := 9) dX7_wantsOf_8 rfl ?_
  refine j_top (fun v1 => ?_)
  refine j_istore_n (q := 10) (n := 2) (lv' := [(2, .int v1), (0, .ref (za z 77 0)), (1, .int a0)]) dX7_wantsOf_9 rfl (Nat.le_of_ble_eq_true rfl) rfl rfl ?_
  refine j_iconst (q := 11) (v := (nI 0)) dX7_wantsOf_10 rfl rfl ?_
  refine j_istore_n (q := 12) (n := 3) (lv' := [(3, .int (nI 0)), (2, .int v1), (0, .ref (za z 77 0)), (1, .int a0)]) dX7_wantsOf_11 rfl (Nat.le_of_ble_eq_true rfl) rfl rfl ?_
  refine j_lv [2, 3, 1, 0] (lv' := [(0, .ref (za z 77 0)), (1, .int a0), (2, .int v1), (3, .int (nI 0))]) rfl ?_
  exact t_X7_wantsOf_L12 z gx a0 g FU v1 (nI 0)
-- CopierJobsModel.wantsInk()I
abbrev rm_X7_wantsInk : Room := { frames := 6, cells := 0, slots := 0, locals := 133 }
theorem cv_X7_wantsInk : CV yX7_wantsInk cX7_wantsInk 3 (some .int) 0 := ⟨wC_X7_wantsInk, wI_X7_wantsInk, wS_X7_wantsInk, wZ_X7, by decide +kernel⟩
def m_X7_wantsInk_B32 (g : zG) (x1 : Int32) : Option (Int32) := if x1 < (nI 0) then some (nI 0) else some x1
set_option maxRecDepth 100000 in
set_option maxHeartbeats 4000000 in
theorem t_X7_wantsInk_B32 {p : Program} {l : Launch} {e : Env} {s : State} {m : MethodId} {args : Array Value} {below : List Frame} {meth : Method} {c : Code} {cells slots : Nat} {Q : Int32 → State → Prop} (z : zE) (gx : zG) (g : zG) (x1 : Int32) : zJ dm p l e rm_X7_wantsInk s m args below meth c cX7_wantsInk 3 yX7_wantsInk.cls z cells slots (wm z gx) (fn (fun _ => True) (fun _ => g) oi) .ireturn Q 32 [(1, .int x1)] [] g (m_X7_wantsInk_B32 g x1) := by
  refine j_eq (M2 := if x1 < (nI 0) then some (nI 0) else some x1) rfl ?_
  refine j_iload_n (q := 33) (i := 0) (n := 1) dX7_wantsInk_32 rfl rfl rfl ?_
  refine j_if_ge (tgt := 40) (q := 36) dX7_wantsInk_33 rfl rfl ?_ ?_
  · refine j_iload_n (q := 41) (i := 0) (n := 1) dX7_wantsInk_40 rfl rfl rfl ?_
    exact j_ret (x := x1) dX7_wantsInk_41 ⟨trivial, rfl, rfl⟩
  · refine j_iconst (q := 37) (v := (nI 0)) dX7_wantsInk_36 rfl rfl ?_
    refine j_goto (tgt := 41) dX7_wantsInk_37 rfl ?_
    exact j_ret (x := (nI 0)) dX7_wantsInk_41 ⟨trivial, rfl, rfl⟩
def m_X7_wantsInk_L10 (g : zG) : Nat → Int32 → Int32 → Option (Int32)
  | 0, _, _ => none
  | f + 1, x1, x2 => if x2 < (gi g 120 0 0) then (m_X7_leftOf g x2).bind fun r2 => m_X7_wantsInk_L10 g f (x1 + r2) (x2 + (nI 1)) else m_X7_wantsInk_B32 g x1
set_option maxRecDepth 100000 in
set_option maxHeartbeats 4000000 in
theorem t_X7_wantsInk_L10 {p : Program} {l : Launch} {e : Env} {s : State} {m : MethodId} {args : Array Value} {below : List Frame} {meth : Method} {c : Code} {cells slots : Nat} {Q : Int32 → State → Prop} (z : zE) (gx : zG) (g : zG) : ∀ (f : Nat) (x1 : Int32) (x2 : Int32), zJ dm p l e rm_X7_wantsInk s m args below meth c cX7_wantsInk 3 yX7_wantsInk.cls z cells slots (wm z gx) (fn (fun _ => True) (fun _ => g) oi) .ireturn Q 10 [(0, .ref (za z 77 0)), (1, .int x1), (2, .int x2)] [] g (m_X7_wantsInk_L10 g f x1 x2) := by
  intro f
  induction f with
  | zero => intro x1 x2; exact j_none
  | succ f ih =>
    intro x1 x2
    refine j_eq (M2 := if x2 < (gi g 120 0 0) then (m_X7_leftOf g x2).bind fun r2 => m_X7_wantsInk_L10 g f (x1 + r2) (x2 + (nI 1)) else m_X7_wantsInk_B32 g x1) rfl ?_
    refine j_iload_n (q := 11) (i := 2) (n := 2) dX7_wantsInk_10 rfl rfl rfl ?_
    refine j_aload_n (q := 12) (i := 0) (n := 0) dX7_wantsInk_11 rfl rfl rfl ?_
    refine g_X7_jobs (q := 15) wF_X7_66 (Nat.le_of_ble_eq_true rfl) dX7_wantsInk_12 rfl ?_
    refine j_icmp_ge (tgt := 32) (q := 18) dX7_wantsInk_15 rfl rfl ?_ ?_
    · refine j_lv [1] (lv' := [(1, .int x1)]) rfl ?_
      exact t_X7_wantsInk_B32 z gx g x1
    · refine j_iload_n (q := 19) (i := 1) (n := 1) dX7_wantsInk_18 rfl rfl rfl ?_
      refine j_aload_n (q := 20) (i := 0) (n := 0) dX7_wantsInk_19 rfl rfl rfl ?_
      refine j_iload_n (q := 21) (i := 2) (n := 2) dX7_wantsInk_20 rfl rfl rfl ?_
      refine j_ci (q := 24) (rn_V (R := rm_X7_wantsInk) (As := [.int x2]) (rest := [.int x1]) (c_X7_leftOf _ z gx g x2) cv_X7_leftOf wM_X7_199 ⟨rfl, rfl⟩ ⟨(Nat.le_of_ble_eq_true rfl), (Nat.le_of_ble_eq_true rfl)⟩ (Nat.le_of_ble_eq_true rfl) rfl rfl rfl (Nat.le_of_ble_eq_true rfl) dX7_wantsInk_21) rfl (fun r2 => ?_)
      refine j_iadd (q := 25) dX7_wantsInk_24 rfl ?_
      refine j_istore_n (q := 26) (n := 1) (lv' := [(1, .int (x1 + r2)), (0, .ref (za z 77 0)), (2, .int x2)]) dX7_wantsInk_25 rfl (Nat.le_of_ble_eq_true rfl) rfl rfl ?_
      refine j_iinc (q := 29) (n := 2) (i := 2) (v := x2 + (nI 1)) (lv' := [(2, .int (x2 + (nI 1))), (1, .int (x1 + r2)), (0, .ref (za z 77 0))]) dX7_wantsInk_26 rfl rfl (Nat.le_of_ble_eq_true rfl) rfl rfl ?_
      refine j_goto (tgt := 10) dX7_wantsInk_29 rfl ?_
      refine j_lv [2, 1, 0] (lv' := [(0, .ref (za z 77 0)), (1, .int (x1 + r2)), (2, .int (x2 + (nI 1)))]) rfl ?_
      exact ih (x1 + r2) (x2 + (nI 1))
def m_X7_wantsInk (g : zG) : Option (Int32) := gd (inb (nI 1) 31 = true) (bd (-(gi g 105 0 (nI 1).toNatClampNeg)) fun v1 => m_X7_wantsInk_L10 g FU v1 (nI 0))
set_option maxRecDepth 100000 in
set_option maxHeartbeats 4000000 in
theorem c_X7_wantsInk (l : Launch) (z : zE) (gx : zG) (g : zG) : ∀ x, m_X7_wantsInk g = some x → Ms dm l yX7_wantsInk cX7_wantsInk 3 (some .int) rm_X7_wantsInk z [.ref (za z 77 0)] ((wm z gx) g) (oi x) ((wm z gx) ((fun _ => g) x)) := by
  refine ms_of (Wf := (wm z gx)) (ri := .ireturn) (out := oi) (nxt := (fun _ => g)) (ok := (fun _ => True)) (lv := [(0, .ref (za z 77 0))]) (by decide) ⟨rfl, rfl⟩ (Nat.le_of_ble_eq_true rfl) rfl (en_i (out := fun x => x)) (fun p e s m below meth c => ?_)
  refine j_eq (M2 := gd (inb (nI 1) 31 = true) (bd (-(gi g 105 0 (nI 1).toNatClampNeg)) fun v1 => m_X7_wantsInk_L10 g FU v1 (nI 0))) rfl ?_
  refine j_aload_n (q := 1) (i := 0) (n := 0) dX7_wantsInk_0 rfl rfl rfl ?_
  refine g_X7_st (q := 4) wF_X7_29 (Nat.le_of_ble_eq_true rfl) dX7_wantsInk_1 rfl ?_
  refine j_iconst (q := 5) (v := (nI 1)) dX7_wantsInk_4 rfl rfl ?_
  refine am_ld (k := 105) (n := 31) (q := 6) isM_105 rfl (Nat.le_of_ble_eq_true rfl) dX7_wantsInk_5 rfl ?_
  refine j_ineg (q := 7) dX7_wantsInk_6 rfl ?_
  refine j_top (fun v1 => ?_)
  refine j_istore_n (q := 8) (n := 1) (lv' := [(1, .int v1), (0, .ref (za z 77 0))]) dX7_wantsInk_7 rfl (Nat.le_of_ble_eq_true rfl) rfl rfl ?_
  refine j_iconst (q := 9) (v := (nI 0)) dX7_wantsInk_8 rfl rfl ?_
  refine j_istore_n (q := 10) (n := 2) (lv' := [(2, .int (nI 0)), (1, .int v1), (0, .ref (za z 77 0))]) dX7_wantsInk_9 rfl (Nat.le_of_ble_eq_true rfl) rfl rfl ?_
  refine j_lv [2, 1, 0] (lv' := [(0, .ref (za z 77 0)), (1, .int v1), (2, .int (nI 0))]) rfl ?_
  exact t_X7_wantsInk_L10 z gx g FU v1 (nI 0)
-- CopierJobsModel.tray(II)I
abbrev rm_X7_tray : Room := { frames := 3, cells := 0, slots := 0, locals := 65 }
theorem cv_X7_tray : CV yX7_tray cX7_tray 3 (some .int) 2 := ⟨wC_X7_tray, wI_X7_tray, wS_X7_tray, wZ_X7, by decide +kernel⟩
def m_X7_tray (g : zG) (a0 : Int32) (a1 : Int32) : Option (Int32) := (m_X7_in (Int32.toInt64 a0) 0 2).bind fun r1 => if r1 = (nI 0) then some (-1) else (m_X7_isPart a1).bind fun r2 => if r2 = (nI 0) then some (-1) else if a1 = (nI 0) then gd (inb ((nI 4) + a0) 31 = true) (some (gi g 105 0 ((nI 4) + a0).toNatClampNeg)) else (m_X7_wantsOf g a0).bind fun r3 => some r3
set_option maxRecDepth 100000 in
set_option maxHeartbeats 4000000 in
theorem c_X7_tray (l : Launch) (z : zE) (gx : zG) (g : zG) (a0 : Int32) (a1 : Int32) : ∀ x, m_X7_tray g a0 a1 = some x → Ms dm l yX7_tray cX7_tray 3 (some .int) rm_X7_tray z [.ref (za z 77 0), .int a0, .int a1] ((wm z gx) g) (oi x) ((wm z gx) ((fun _ => g) x)) := by
  refine ms_of (Wf := (wm z gx)) (ri := .ireturn) (out := oi) (nxt := (fun _ => g)) (ok := (fun _ => True)) (lv := [(0, .ref (za z 77 0)), (1, .int a0), (2, .int a1)]) (by decide) ⟨rfl, rfl⟩ (Nat.le_of_ble_eq_true rfl) rfl (en_i (out := fun x => x)) (fun p e s m below meth c => ?_)
  refine j_eq (M2 := (m_X7_in (Int32.toInt64 a0) 0 2).bind fun r1 => if r1 = (nI 0) then some (-1) else (m_X7_isPart a1).bind fun r2 => if r2 = (nI 0) then some (-1) else if a1 = (nI 0) then gd (inb ((nI 4) + a0) 31 = true) (some (gi g 105 0 ((nI 4) + a0).toNatClampNeg)) else (m_X7_wantsOf g a0).bind fun r3 => some r3) rfl ?_
  refine j_iload_n (q := 1) (i := 1) (n := 1) dX7_tray_0 rfl rfl rfl ?_
  refine j_i2l (q := 2) dX7_tray_1 rfl ?_
  refine j_lconst (q := 3) (v := 0) dX7_tray_2 rfl rfl ?_
  refine j_ldc2 (q := 6) (v := 2) dX7_tray_3 wW_X7_190 rfl ?_
  refine j_ci (q := 9) (rn_S (R := rm_X7_tray) (As := [.long (Int32.toInt64 a0), .long 0, .long 2]) (rest := []) (c_X7_in _ z gx g (Int32.toInt64 a0) 0 2) cv_X7_in wM_X7_62 ⟨rfl, rfl⟩ ⟨(Nat.le_of_ble_eq_true rfl), (Nat.le_of_ble_eq_true rfl)⟩ rfl (Nat.le_of_ble_eq_true rfl) dX7_tray_6) rfl (fun r1 => ?_)
  refine j_if_eq (tgt := 19) (q := 12) dX7_tray_9 rfl rfl ?_ ?_
  · refine j_iconst (q := 20) (v := (-1)) dX7_tray_19 rfl rfl ?_
    exact j_ret (x := (-1)) dX7_tray_20 ⟨trivial, rfl, rfl⟩
  · refine j_iload_n (q := 13) (i := 2) (n := 2) dX7_tray_12 rfl rfl rfl ?_
    refine j_ci (q := 16) (rn_S (R := rm_X7_tray) (As := [.int a1]) (rest := []) (c_X7_isPart _ z gx g a1) cv_X7_isPart wM_X7_202 ⟨rfl, rfl⟩ ⟨(Nat.le_of_ble_eq_true rfl), (Nat.le_of_ble_eq_true rfl)⟩ rfl (Nat.le_of_ble_eq_true rfl) dX7_tray_13) rfl (fun r2 => ?_)
    refine j_if_ne (tgt := 21) (q := 19) dX7_tray_16 rfl rfl ?_ ?_
    · refine j_iload_n (q := 22) (i := 2) (n := 2) dX7_tray_21 rfl rfl rfl ?_
      refine j_if_ne (tgt := 36) (q := 25) dX7_tray_22 rfl rfl ?_ ?_
      · refine j_aload_n (q := 37) (i := 0) (n := 0) dX7_tray_36 rfl rfl rfl ?_
        refine j_iload_n (q := 38) (i := 1) (n := 1) dX7_tray_37 rfl rfl rfl ?_
        refine j_ci (q := 41) (rn_V (R := rm_X7_tray) (As := [.int a0]) (rest := []) (c_X7_wantsOf _ z gx g a0) cv_X7_wantsOf wM_X7_205 ⟨rfl, rfl⟩ ⟨(Nat.le_of_ble_eq_true rfl), (Nat.le_of_ble_eq_true rfl)⟩ (Nat.le_of_ble_eq_true rfl) rfl rfl rfl (Nat.le_of_ble_eq_true rfl) dX7_tray_38) rfl (fun r3 => ?_)
        exact j_ret (x := r3) dX7_tray_41 ⟨trivial, rfl, rfl⟩
      · refine j_aload_n (q := 26) (i := 0) (n := 0) dX7_tray_25 rfl rfl rfl ?_
        refine g_X7_st (q := 29) wF_X7_29 (Nat.le_of_ble_eq_true rfl) dX7_tray_26 rfl ?_
        refine j_iconst (q := 30) (v := (nI 4)) dX7_tray_29 rfl rfl ?_
        refine j_iload_n (q := 31) (i := 1) (n := 1) dX7_tray_30 rfl rfl rfl ?_
        refine j_iadd (q := 32) dX7_tray_31 rfl ?_
        refine am_ld (k := 105) (n := 31) (q := 33) isM_105 rfl (Nat.le_of_ble_eq_true rfl) dX7_tray_32 rfl ?_
        refine j_goto (tgt := 41) dX7_tray_33 rfl ?_
        exact j_ret (x := gi g 105 0 ((nI 4) + a0).toNatClampNeg) dX7_tray_41 ⟨trivial, rfl, rfl⟩
    · refine j_iconst (q := 20) (v := (-1)) dX7_tray_19 rfl rfl ?_
      exact j_ret (x := (-1)) dX7_tray_20 ⟨trivial, rfl, rfl⟩
-- CopierJobsModel.bin(I)I
abbrev rm_X7_bin : Room := { frames := 1, cells := 0, slots := 0, locals := 25 }
theorem cv_X7_bin : CV yX7_bin cX7_bin 2 (some .int) 1 := ⟨wC_X7_bin, wI_X7_bin, wS_X7_bin, wZ_X7, by decide +kernel⟩
def m_X7_bin (g : zG) (a0 : Int32) : Option (Int32) := (m_X7_in (Int32.toInt64 a0) 0 (Int32.toInt64 ((gi g 121 0 0) - (nI 1)))).bind fun r1 => if r1 = (nI 0) then some (-1) else gd (inb ((nI 7) + a0) 31 = true) (some (gi g 105 0 ((nI 7) + a0).toNatClampNeg))
set_option maxRecDepth 100000 in
set_option maxHeartbeats 4000000 in
theorem c_X7_bin (l : Launch) (z : zE) (gx : zG) (g : zG) (a0 : Int32) : ∀ x, m_X7_bin g a0 = some x → Ms dm l yX7_bin cX7_bin 2 (some .int) rm_X7_bin z [.ref (za z 77 0), .int a0] ((wm z gx) g) (oi x) ((wm z gx) ((fun _ => g) x)) := by
  refine ms_of (Wf := (wm z gx)) (ri := .ireturn) (out := oi) (nxt := (fun _ => g)) (ok := (fun _ => True)) (lv := [(0, .ref (za z 77 0)), (1, .int a0)]) (by decide) ⟨rfl, rfl⟩ (Nat.le_of_ble_eq_true rfl) rfl (en_i (out := fun x => x)) (fun p e s m below meth c => ?_)
  refine j_eq (M2 := (m_X7_in (Int32.toInt64 a0) 0 (Int32.toInt64 ((gi g 121 0 0) - (nI 1)))).bind fun r1 => if r1 = (nI 0) then some (-1) else gd (inb ((nI 7) + a0) 31 = true) (some (gi g 105 0 ((nI 7) + a0).toNatClampNeg))) rfl ?_
  refine j_iload_n (q := 1) (i := 1) (n := 1) dX7_bin_0 rfl rfl rfl ?_
  refine j_i2l (q := 2) dX7_bin_1 rfl ?_
  refine j_lconst (q := 3) (v := 0) dX7_bin_2 rfl rfl ?_
  refine j_aload_n (q := 4) (i := 0) (n := 0) dX7_bin_3 rfl rfl rfl ?_
  refine g_X7_bins (q := 7) wF_X7_25 (Nat.le_of_ble_eq_true rfl) dX7_bin_4 rfl ?_
  refine j_iconst (q := 8) (v := (nI 1)) dX7_bin_7 rfl rfl ?_
  refine j_isub (q := 9) dX7_bin_8 rfl ?_
  refine j_i2l (q := 10) dX7_bin_9 rfl ?_
  refine j_ci (q := 13) (rn_S (R := rm_X7_bin) (As := [.long (Int32.toInt64 a0), .long 0, .long (Int32.toInt64 ((gi g 121 0 0) - (nI 1)))]) (rest := []) (c_X7_in _ z gx g (Int32.toInt64 a0) 0 (Int32.toInt64 ((gi g 121 0 0) - (nI 1)))) cv_X7_in wM_X7_62 ⟨rfl, rfl⟩ ⟨(Nat.le_of_ble_eq_true rfl), (Nat.le_of_ble_eq_true rfl)⟩ rfl (Nat.le_of_ble_eq_true rfl) dX7_bin_10) rfl (fun r1 => ?_)
  refine j_if_eq (tgt := 28) (q := 16) dX7_bin_13 rfl rfl ?_ ?_
  · refine j_iconst (q := 29) (v := (-1)) dX7_bin_28 rfl rfl ?_
    exact j_ret (x := (-1)) dX7_bin_29 ⟨trivial, rfl, rfl⟩
  · refine j_aload_n (q := 17) (i := 0) (n := 0) dX7_bin_16 rfl rfl rfl ?_
    refine g_X7_st (q := 20) wF_X7_29 (Nat.le_of_ble_eq_true rfl) dX7_bin_17 rfl ?_
    refine j_bipush (q := 22) (v := (nI 7)) dX7_bin_20 rfl rfl ?_
    refine j_iload_n (q := 23) (i := 1) (n := 1) dX7_bin_22 rfl rfl rfl ?_
    refine j_iadd (q := 24) dX7_bin_23 rfl ?_
    refine am_ld (k := 105) (n := 31) (q := 25) isM_105 rfl (Nat.le_of_ble_eq_true rfl) dX7_bin_24 rfl ?_
    refine j_goto (tgt := 29) dX7_bin_25 rfl ?_
    exact j_ret (x := gi g 105 0 ((nI 7) + a0).toNatClampNeg) dX7_bin_29 ⟨trivial, rfl, rfl⟩
-- CopierJobsModel.inBins()I
abbrev rm_X7_inBins : Room := { frames := 0, cells := 0, slots := 0, locals := 0 }
theorem cv_X7_inBins : CV yX7_inBins cX7_inBins 3 (some .int) 0 := ⟨wC_X7_inBins, wI_X7_inBins, wS_X7_inBins, wZ_X7, by decide +kernel⟩
def m_X7_inBins_L4 (g : zG) : Nat → Int32 → Int32 → Option (Int32)
  | 0, _, _ => none
  | f + 1, x1, x2 => if x2 < (nI 6) then gd (inb ((nI 7) + x2) 31 = true) (bd (x1 + (gi g 105 0 ((nI 7) + x2).toNatClampNeg)) fun v1 => m_X7_inBins_L4 g f v1 (x2 + (nI 1))) else some x1
set_option maxRecDepth 100000 in
set_option maxHeartbeats 4000000 in
theorem t_X7_inBins_L4 {p : Program} {l : Launch} {e : Env} {s : State} {m : MethodId} {args : Array Value} {below : List Frame} {meth : Method} {c : Code} {cells slots : Nat} {Q : Int32 → State → Prop} (z : zE) (gx : zG) (g : zG) : ∀ (f : Nat) (x1 : Int32) (x2 : Int32), zJ dm p l e rm_X7_inBins s m args below meth c cX7_inBins 3 yX7_inBins.cls z cells slots (wm z gx) (fn (fun _ => True) (fun _ => g) oi) .ireturn Q 4 [(0, .ref (za z 77 0)), (1, .int x1), (2, .int x2)] [] g (m_X7_inBins_L4 g f x1 x2) := by
  intro f
  induction f with
  | zero => intro x1 x2; exact j_none
  | succ f ih =>
    intro x1 x2
    refine j_eq (M2 := if x2 < (nI 6) then gd (inb ((nI 7) + x2) 31 = true) (bd (x1 + (gi g 105 0 ((nI 7) + x2).toNatClampNeg)) fun v1 => m_X7_inBins_L4 g f v1 (x2 + (nI 1))) else some x1) rfl ?_
    refine j_iload_n (q := 5) (i := 2) (n := 2) dX7_inBins_4 rfl rfl rfl ?_
    refine j_bipush (q := 7) (v := (nI 6)) dX7_inBins_5 rfl rfl ?_
    refine j_icmp_ge (tgt := 28) (q := 10) dX7_inBins_7 rfl rfl ?_ ?_
    · refine j_iload_n (q := 29) (i := 1) (n := 1) dX7_inBins_28 rfl rfl rfl ?_
      exact j_ret (x := x1) dX7_inBins_29 ⟨trivial, rfl, rfl⟩
    · refine j_iload_n (q := 11) (i := 1) (n := 1) dX7_inBins_10 rfl rfl rfl ?_
      refine j_aload_n (q := 12) (i := 0) (n := 0) dX7_inBins_11 rfl rfl rfl ?_
      refine g_X7_st (q := 15) wF_X7_29 (Nat.le_of_ble_eq_true rfl) dX7_inBins_12 rfl ?_
      refine j_bipush (q := 17) (v := (nI 7)) dX7_inBins_15 rfl rfl ?_
      refine j_iload_n (q := 18) (i := 2) (n := 2) dX7_inBins_17 rfl rfl rfl ?_
      refine j_iadd (q := 19) dX7_inBins_18 rfl ?_
      refine am_ld (k := 105) (n := 31) (q := 20) isM_105 rfl (Nat.le_of_ble_eq_true rfl) dX7_inBins_19 rfl ?_
      refine j_iadd (q := 21) dX7_inBins_20 rfl ?_
      refine j_top (fun v1 => ?_)
      refine j_istore_n (q := 22) (n := 1) (lv' := [(1, .int v1), (0, .ref (za z 77 0)), (2, .int x2)]) dX7_inBins_21 rfl (Nat.le_of_ble_eq_true rfl) rfl rfl ?_
      refine j_iinc (q := 25) (n := 2) (i := 2) (v := x2 + (nI 1)) (lv' := [(2, .int (x2 + (nI 1))), (1, .int v1), (0, .ref (za z 77 0))]) dX7_inBins_22 rfl rfl (Nat.le_of_ble_eq_true rfl) rfl rfl ?_
      refine j_goto (tgt := 4) dX7_inBins_25 rfl ?_
      refine j_lv [2, 1, 0] (lv' := [(0, .ref (za z 77 0)), (1, .int v1), (2, .int (x2 + (nI 1)))]) rfl ?_
      exact ih v1 (x2 + (nI 1))
def m_X7_inBins (g : zG) : Option (Int32) := m_X7_inBins_L4 g FU (nI 0) (nI 0)
set_option maxRecDepth 100000 in
set_option maxHeartbeats 4000000 in
theorem c_X7_inBins (l : Launch) (z : zE) (gx : zG) (g : zG) : ∀ x, m_X7_inBins g = some x → Ms dm l yX7_inBins cX7_inBins 3 (some .int) rm_X7_inBins z [.ref (za z 77 0)] ((wm z gx) g) (oi x) ((wm z gx) ((fun _ => g) x)) := by
  refine ms_of (Wf := (wm z gx)) (ri := .ireturn) (out := oi) (nxt := (fun _ => g)) (ok := (fun _ => True)) (lv := [(0, .ref (za z 77 0))]) (by decide) ⟨rfl, rfl⟩ (Nat.le_of_ble_eq_true rfl) rfl (en_i (out := fun x => x)) (fun p e s m below meth c => ?_)
  refine j_eq (M2 := m_X7_inBins_L4 g FU (nI 0) (nI 0)) rfl ?_
  refine j_iconst (q := 1) (v := (nI 0)) dX7_inBins_0 rfl rfl ?_
  refine j_istore_n (q := 2) (n := 1) (lv' := [(1, .int (nI 0)), (0, .ref (za z 77 0))]) dX7_inBins_1 rfl (Nat.le_of_ble_eq_true rfl) rfl rfl ?_
  refine j_iconst (q := 3) (v := (nI 0)) dX7_inBins_2 rfl rfl ?_
  refine j_istore_n (q := 4) (n := 2) (lv' := [(2, .int (nI 0)), (1, .int (nI 0)), (0, .ref (za z 77 0))]) dX7_inBins_3 rfl (Nat.le_of_ble_eq_true rfl) rfl rfl ?_
  refine j_lv [2, 1, 0] (lv' := [(0, .ref (za z 77 0)), (1, .int (nI 0)), (2, .int (nI 0))]) rfl ?_
  exact t_X7_inBins_L4 z gx g FU (nI 0) (nI 0)
-- CopierJobsModel.now(I)I
abbrev rm_X7_now : Room := { frames := 7, cells := 0, slots := 0, locals := 155 }
theorem cv_X7_now : CV yX7_now cX7_now 2 (some .int) 1 := ⟨wC_X7_now, wI_X7_now, wS_X7_now, wZ_X7, by decide +kernel⟩
def m_X7_now (g : zG) (a0 : Int32) : Option (Int32) := if a0 = (nI 0) then (gd (inb (nI 0) 31 = true) (some (gi g 105 0 (nI 0).toNatClampNeg))) else if a0 = (nI 1) then (gd (inb (nI 1) 31 = true) (some (gi g 105 0 (nI 1).toNatClampNeg))) else if a0 = (nI 2) then (gd (inb (nI 3) 31 = true) (if (gi g 105 0 (nI 3).toNatClampNeg) = (nI 0) then some (-9) else gd (inb (nI 13) 31 = true) (some (gi g 105 0 (nI 13).toNatClampNeg)))) else if a0 = (nI 3) then ((m_X7_stands g).bind fun r4 => some r4) else if a0 = (nI 4) then (gd (inb (nI 2) 31 = true) (some (gi g 105 0 (nI 2).toNatClampNeg))) else if a0 = (nI 5) then (gd (inb (nI 3) 31 = true) (some (gi g 105 0 (nI 3).toNatClampNeg))) else if a0 = (nI 6) then ((m_X7_inBins g).bind fun r8 => some r8) else if a0 = (nI 7) then ((m_X7_wantsInk g).bind fun r10 => some r10) else (some (-1))
set_option maxRecDepth 100000 in
set_option maxHeartbeats 4000000 in
theorem c_X7_now (l : Launch) (z : zE) (gx : zG) (g : zG) (a0 : Int32) : ∀ x, m_X7_now g a0 = some x → Ms dm l yX7_now cX7_now 2 (some .int) rm_X7_now z [.ref (za z 77 0), .int a0] ((wm z gx) g) (oi x) ((wm z gx) ((fun _ => g) x)) := by
  refine ms_of (Wf := (wm z gx)) (ri := .ireturn) (out := oi) (nxt := (fun _ => g)) (ok := (fun _ => True)) (lv := [(0, .ref (za z 77 0)), (1, .int a0)]) (by decide) ⟨rfl, rfl⟩ (Nat.le_of_ble_eq_true rfl) rfl (en_i (out := fun x => x)) (fun p e s m below meth c => ?_)
  refine j_eq (M2 := if a0 = (nI 0) then (gd (inb (nI 0) 31 = true) (some (gi g 105 0 (nI 0).toNatClampNeg))) else if a0 = (nI 1) then (gd (inb (nI 1) 31 = true) (some (gi g 105 0 (nI 1).toNatClampNeg))) else if a0 = (nI 2) then (gd (inb (nI 3) 31 = true) (if (gi g 105 0 (nI 3).toNatClampNeg) = (nI 0) then some (-9) else gd (inb (nI 13) 31 = true) (some (gi g 105 0 (nI 13).toNatClampNeg)))) else if a0 = (nI 3) then ((m_X7_stands g).bind fun r4 => some r4) else if a0 = (nI 4) then (gd (inb (nI 2) 31 = true) (some (gi g 105 0 (nI 2).toNatClampNeg))) else if a0 = (nI 5) then (gd (inb (nI 3) 31 = true) (some (gi g 105 0 (nI 3).toNatClampNeg))) else if a0 = (nI 6) then ((m_X7_inBins g).bind fun r8 => some r8) else if a0 = (nI 7) then ((m_X7_wantsInk g).bind fun r10 => some r10) else (some (-1))) rfl ?_
  refine j_iload_n (q := 1) (i := 1) (n := 1) dX7_now_0 rfl rfl rfl ?_
  refine j_case (v := (nI 0)) ?_ (fun h1 => ?_)
  · refine j_tableIn (tgt := 48) dX7_now_1 (by decide) (by decide) rfl rfl ?_
    refine j_aload_n (q := 49) (i := 0) (n := 0) dX7_now_48 rfl rfl rfl ?_
    refine g_X7_st (q := 52) wF_X7_29 (Nat.le_of_ble_eq_true rfl) dX7_now_49 rfl ?_
    refine j_iconst (q := 53) (v := (nI 0)) dX7_now_52 rfl rfl ?_
    refine am_ld (k := 105) (n := 31) (q := 54) isM_105 rfl (Nat.le_of_ble_eq_true rfl) dX7_now_53 rfl ?_
    exact j_ret (x := gi g 105 0 (nI 0).toNatClampNeg) dX7_now_54 ⟨trivial, rfl, rfl⟩
  refine j_case (v := (nI 1)) ?_ (fun h2 => ?_)
  · refine j_tableIn (tgt := 55) dX7_now_1 (by decide) (by decide) rfl rfl ?_
    refine j_aload_n (q := 56) (i := 0) (n := 0) dX7_now_55 rfl rfl rfl ?_
    refine g_X7_st (q := 59) wF_X7_29 (Nat.le_of_ble_eq_true rfl) dX7_now_56 rfl ?_
    refine j_iconst (q := 60) (v := (nI 1)) dX7_now_59 rfl rfl ?_
    refine am_ld (k := 105) (n := 31) (q := 61) isM_105 rfl (Nat.le_of_ble_eq_true rfl) dX7_now_60 rfl ?_
    exact j_ret (x := gi g 105 0 (nI 1).toNatClampNeg) dX7_now_61 ⟨trivial, rfl, rfl⟩
  refine j_case (v := (nI 2)) ?_ (fun h3 => ?_)
  · refine j_tableIn (tgt := 62) dX7_now_1 (by decide) (by decide) rfl rfl ?_
    refine j_aload_n (q := 63) (i := 0) (n := 0) dX7_now_62 rfl rfl rfl ?_
    refine g_X7_st (q := 66) wF_X7_29 (Nat.le_of_ble_eq_true rfl) dX7_now_63 rfl ?_
    refine j_iconst (q := 67) (v := (nI 3)) dX7_now_66 rfl rfl ?_
    refine am_ld (k := 105) (n := 31) (q := 68) isM_105 rfl (Nat.le_of_ble_eq_true rfl) dX7_now_67 rfl ?_
    refine j_if_ne (tgt := 76) (q := 71) dX7_now_68 rfl rfl ?_ ?_
    · refine j_aload_n (q := 77) (i := 0) (n := 0) dX7_now_76 rfl rfl rfl ?_
      refine g_X7_st (q := 80) wF_X7_29 (Nat.le_of_ble_eq_true rfl) dX7_now_77 rfl ?_
      refine j_bipush (q := 82) (v := (nI 13)) dX7_now_80 rfl rfl ?_
      refine am_ld (k := 105) (n := 31) (q := 83) isM_105 rfl (Nat.le_of_ble_eq_true rfl) dX7_now_82 rfl ?_
      exact j_ret (x := gi g 105 0 (nI 13).toNatClampNeg) dX7_now_83 ⟨trivial, rfl, rfl⟩
    · refine j_bipush (q := 73) (v := (-9)) dX7_now_71 rfl rfl ?_
      refine j_goto (tgt := 83) dX7_now_73 rfl ?_
      exact j_ret (x := (-9)) dX7_now_83 ⟨trivial, rfl, rfl⟩
  refine j_case (v := (nI 3)) ?_ (fun h5 => ?_)
  · refine j_tableIn (tgt := 84) dX7_now_1 (by decide) (by decide) rfl rfl ?_
    refine j_aload_n (q := 85) (i := 0) (n := 0) dX7_now_84 rfl rfl rfl ?_
    refine j_ci (q := 88) (rn_V (R := rm_X7_now) (As := []) (rest := []) (c_X7_stands _ z gx g) cv_X7_stands wM_X7_172 ⟨rfl, rfl⟩ ⟨(Nat.le_of_ble_eq_true rfl), (Nat.le_of_ble_eq_true rfl)⟩ (Nat.le_of_ble_eq_true rfl) rfl rfl rfl (Nat.le_of_ble_eq_true rfl) dX7_now_85) rfl (fun r4 => ?_)
    exact j_ret (x := r4) dX7_now_88 ⟨trivial, rfl, rfl⟩
  refine j_case (v := (nI 4)) ?_ (fun h6 => ?_)
  · refine j_tableIn (tgt := 89) dX7_now_1 (by decide) (by decide) rfl rfl ?_
    refine j_aload_n (q := 90) (i := 0) (n := 0) dX7_now_89 rfl rfl rfl ?_
    refine g_X7_st (q := 93) wF_X7_29 (Nat.le_of_ble_eq_true rfl) dX7_now_90 rfl ?_
    refine j_iconst (q := 94) (v := (nI 2)) dX7_now_93 rfl rfl ?_
    refine am_ld (k := 105) (n := 31) (q := 95) isM_105 rfl (Nat.le_of_ble_eq_true rfl) dX7_now_94 rfl ?_
    exact j_ret (x := gi g 105 0 (nI 2).toNatClampNeg) dX7_now_95 ⟨trivial, rfl, rfl⟩
  refine j_case (v := (nI 5)) ?_ (fun h7 => ?_)
  · refine j_tableIn (tgt := 96) dX7_now_1 (by decide) (by decide) rfl rfl ?_
    refine j_aload_n (q := 97) (i := 0) (n := 0) dX7_now_96 rfl rfl rfl ?_
    refine g_X7_st (q := 100) wF_X7_29 (Nat.le_of_ble_eq_true rfl) dX7_now_97 rfl ?_
    refine j_iconst (q := 101) (v := (nI 3)) dX7_now_100 rfl rfl ?_
    refine am_ld (k := 105) (n := 31) (q := 102) isM_105 rfl (Nat.le_of_ble_eq_true rfl) dX7_now_101 rfl ?_
    exact j_ret (x := gi g 105 0 (nI 3).toNatClampNeg) dX7_now_102 ⟨trivial, rfl, rfl⟩
  refine j_case (v := (nI 6)) ?_ (fun h9 => ?_)
  · refine j_tableIn (tgt := 103) dX7_now_1 (by decide) (by decide) rfl rfl ?_
    refine j_aload_n (q := 104) (i := 0) (n := 0) dX7_now_103 rfl rfl rfl ?_
    refine j_ci (q := 107) (rn_V (R := rm_X7_now) (As := []) (rest := []) (c_X7_inBins _ z gx g) cv_X7_inBins wM_X7_208 ⟨rfl, rfl⟩ ⟨(Nat.le_of_ble_eq_true rfl), (Nat.le_of_ble_eq_true rfl)⟩ (Nat.le_of_ble_eq_true rfl) rfl rfl rfl (Nat.le_of_ble_eq_true rfl) dX7_now_104) rfl (fun r8 => ?_)
    exact j_ret (x := r8) dX7_now_107 ⟨trivial, rfl, rfl⟩
  refine j_case (v := (nI 7)) ?_ (fun h11 => ?_)
  · refine j_tableIn (tgt := 108) dX7_now_1 (by decide) (by decide) rfl rfl ?_
    refine j_aload_n (q := 109) (i := 0) (n := 0) dX7_now_108 rfl rfl rfl ?_
    refine j_ci (q := 112) (rn_V (R := rm_X7_now) (As := []) (rest := []) (c_X7_wantsInk _ z gx g) cv_X7_wantsInk wM_X7_211 ⟨rfl, rfl⟩ ⟨(Nat.le_of_ble_eq_true rfl), (Nat.le_of_ble_eq_true rfl)⟩ (Nat.le_of_ble_eq_true rfl) rfl rfl rfl (Nat.le_of_ble_eq_true rfl) dX7_now_109) rfl (fun r10 => ?_)
    exact j_ret (x := r10) dX7_now_112 ⟨trivial, rfl, rfl⟩
  refine j_tableOut (tgt := 113) dX7_now_1 (by have e0 := q_ne (n := 0) h1 rfl; have e1 := q_ne (n := 1) h2 rfl; have e2 := q_ne (n := 2) h3 rfl; have e3 := q_ne (n := 3) h5 rfl; have e4 := q_ne (n := 4) h6 rfl; have e5 := q_ne (n := 5) h7 rfl; have e6 := q_ne (n := 6) h9 rfl; have e7 := q_ne (n := 7) h11 rfl; omega) rfl ?_
  refine j_iconst (q := 114) (v := (-1)) dX7_now_113 rfl rfl ?_
  exact j_ret (x := (-1)) dX7_now_114 ⟨trivial, rfl, rfl⟩
-- CopierJobsModel.shortest(I)I
abbrev rm_X7_shortest : Room := { frames := 6, cells := 0, slots := 0, locals := 133 }
theorem cv_X7_shortest : CV yX7_shortest cX7_shortest 4 (some .int) 1 := ⟨wC_X7_shortest, wI_X7_shortest, wS_X7_shortest, wZ_X7, by decide +kernel⟩
def m_X7_shortest_B44 (a0 : Int32) (g : zG) (K5 : Int32 → Int32 → Option (Int32)) (x3 : Int32) (s0 : Int32) : Option (Int32) := K5 s0 (x3 + (nI 1))
set_option maxRecDepth 100000 in
set_option maxHeartbeats 4000000 in
theorem t_X7_shortest_B44 {p : Program} {l : Launch} {e : Env} {s : State} {m : MethodId} {args : Array Value} {below : List Frame} {meth : Method} {c : Code} {cells slots : Nat} {Q : Int32 → State → Prop} (z : zE) (gx : zG) (a0 : Int32) (g : zG) (K5 : Int32 → Int32 → Option (Int32)) (hK5 : ∀ (x2 : Int32) (x3 : Int32), zJ dm p l e rm_X7_shortest s m args below meth c cX7_shortest 4 yX7_shortest.cls z cells slots (wm z gx) (fn (fun _ => True) (fun _ => g) oi) .ireturn Q 5 [(0, .ref (za z 77 0)), (1, .int a0), (2, .int x2), (3, .int x3)] [] g (K5 x2 x3)) (x3 : Int32) (s0 : Int32) : zJ dm p l e rm_X7_shortest s m args below meth c cX7_shortest 4 yX7_shortest.cls z cells slots (wm z gx) (fn (fun _ => True) (fun _ => g) oi) .ireturn Q 44 [(0, .ref (za z 77 0)), (1, .int a0), (3, .int x3)] [.int s0] g (m_X7_shortest_B44 a0 g K5 x3 s0) := by
  refine j_eq (M2 := K5 s0 (x3 + (nI 1))) rfl ?_
  refine j_istore_n (q := 45) (n := 2) (lv' := [(2, .int s0), (0, .ref (za z 77 0)), (1, .int a0), (3, .int x3)]) dX7_shortest_44 rfl (Nat.le_of_ble_eq_true rfl) rfl rfl ?_
  refine j_iinc (q := 48) (n := 3) (i := 3) (v := x3 + (nI 1)) (lv' := [(3, .int (x3 + (nI 1))), (2, .int s0), (0, .ref (za z 77 0)), (1, .int a0)]) dX7_shortest_45 rfl rfl (Nat.le_of_ble_eq_true rfl) rfl rfl ?_
  refine j_goto (tgt := 5) dX7_shortest_48 rfl ?_
  refine j_lv [2, 3, 1, 0] (lv' := [(0, .ref (za z 77 0)), (1, .int a0), (2, .int s0), (3, .int (x3 + (nI 1)))]) rfl ?_
  exact hK5 s0 (x3 + (nI 1))
def m_X7_shortest_B43 (a0 : Int32) (g : zG) (K5 : Int32 → Int32 → Option (Int32)) (x2 : Int32) (x3 : Int32) : Option (Int32) := m_X7_shortest_B44 a0 g K5 x3 x2
set_option maxRecDepth 100000 in
set_option maxHeartbeats 4000000 in
theorem t_X7_shortest_B43 {p : Program} {l : Launch} {e : Env} {s : State} {m : MethodId} {args : Array Value} {below : List Frame} {meth : Method} {c : Code} {cells slots : Nat} {Q : Int32 → State → Prop} (z : zE) (gx : zG) (a0 : Int32) (g : zG) (K5 : Int32 → Int32 → Option (Int32)) (hK5 : ∀ (x2 : Int32) (x3 : Int32), zJ dm p l e rm_X7_shortest s m args below meth c cX7_shortest 4 yX7_shortest.cls z cells slots (wm z gx) (fn (fun _ => True) (fun _ => g) oi) .ireturn Q 5 [(0, .ref (za z 77 0)), (1, .int a0), (2, .int x2), (3, .int x3)] [] g (K5 x2 x3)) (x2 : Int32) (x3 : Int32) : zJ dm p l e rm_X7_shortest s m args below meth c cX7_shortest 4 yX7_shortest.cls z cells slots (wm z gx) (fn (fun _ => True) (fun _ => g) oi) .ireturn Q 43 [(0, .ref (za z 77 0)), (1, .int a0), (2, .int x2), (3, .int x3)] [] g (m_X7_shortest_B43 a0 g K5 x2 x3) := by
  refine j_eq (M2 := m_X7_shortest_B44 a0 g K5 x3 x2) rfl ?_
  refine j_iload_n (q := 44) (i := 2) (n := 2) dX7_shortest_43 rfl rfl rfl ?_
  refine j_lv [0, 1, 3] (lv' := [(0, .ref (za z 77 0)), (1, .int a0), (3, .int x3)]) rfl ?_
  exact t_X7_shortest_B44 z gx a0 g K5 hK5 x3 x2
def m_X7_shortest_B39 (a0 : Int32) (g : zG) (K5 : Int32 → Int32 → Option (Int32)) (x3 : Int32) : Option (Int32) := m_X7_shortest_B44 a0 g K5 x3 x3
set_option maxRecDepth 100000 in
set_option maxHeartbeats 4000000 in
theorem t_X7_shortest_B39 {p : Program} {l : Launch} {e : Env} {s : State} {m : MethodId} {args : Array Value} {below : List Frame} {meth : Method} {c : Code} {cells slots : Nat} {Q : Int32 → State → Prop} (z : zE) (gx : zG) (a0 : Int32) (g : zG) (K5 : Int32 → Int32 → Option (Int32)) (hK5 : ∀ (x2 : Int32) (x3 : Int32), zJ dm p l e rm_X7_shortest s m args below meth c cX7_shortest 4 yX7_shortest.cls z cells slots (wm z gx) (fn (fun _ => True) (fun _ => g) oi) .ireturn Q 5 [(0, .ref (za z 77 0)), (1, .int a0), (2, .int x2), (3, .int x3)] [] g (K5 x2 x3)) (x3 : Int32) : zJ dm p l e rm_X7_shortest s m args below meth c cX7_shortest 4 yX7_shortest.cls z cells slots (wm z gx) (fn (fun _ => True) (fun _ => g) oi) .ireturn Q 39 [(0, .ref (za z 77 0)), (1, .int a0), (3, .int x3)] [] g (m_X7_shortest_B39 a0 g K5 x3) := by
  refine j_eq (M2 := m_X7_shortest_B44 a0 g K5 x3 x3) rfl ?_
  refine j_iload_n (q := 40) (i := 2) (n := 3) dX7_shortest_39 rfl rfl rfl ?_
  refine j_goto (tgt := 44) dX7_shortest_40 rfl ?_
  exact t_X7_shortest_B44 z gx a0 g K5 hK5 x3 x3
def m_X7_shortest_L5 (a0 : Int32) (g : zG) : Nat → Int32 → Int32 → Option (Int32)
  | 0, _, _ => none
  | f + 1, x2, x3 => if x3 < (gi g 120 0 0) then if ((a0 >>> (x3 &&& 31)) &&& (nI 1)) = (nI 1) then if x2 < (nI 0) then m_X7_shortest_B39 a0 g (m_X7_shortest_L5 a0 g f) x3 else (m_X7_leftOf g x3).bind fun r1 => (m_X7_leftOf g x2).bind fun r2 => if r1 < r2 then m_X7_shortest_B39 a0 g (m_X7_shortest_L5 a0 g f) x3 else m_X7_shortest_B43 a0 g (m_X7_shortest_L5 a0 g f) x2 x3 else m_X7_shortest_B43 a0 g (m_X7_shortest_L5 a0 g f) x2 x3 else some x2
set_option maxRecDepth 100000 in
set_option maxHeartbeats 4000000 in
theorem t_X7_shortest_L5 {p : Program} {l : Launch} {e : Env} {s : State} {m : MethodId} {args : Array Value} {below : List Frame} {meth : Method} {c : Code} {cells slots : Nat} {Q : Int32 → State → Prop} (z : zE) (gx : zG) (a0 : Int32) (g : zG) : ∀ (f : Nat) (x2 : Int32) (x3 : Int32), zJ dm p l e rm_X7_shortest s m args below meth c cX7_shortest 4 yX7_shortest.cls z cells slots (wm z gx) (fn (fun _ => True) (fun _ => g) oi) .ireturn Q 5 [(0, .ref (za z 77 0)), (1, .int a0), (2, .int x2), (3, .int x3)] [] g (m_X7_shortest_L5 a0 g f x2 x3) := by
  intro f
  induction f with
  | zero => intro x2 x3; exact j_none
  | succ f ih =>
    intro x2 x3
    refine j_eq (M2 := if x3 < (gi g 120 0 0) then if ((a0 >>> (x3 &&& 31)) &&& (nI 1)) = (nI 1) then if x2 < (nI 0) then m_X7_shortest_B39 a0 g (m_X7_shortest_L5 a0 g f) x3 else (m_X7_leftOf g x3).bind fun r1 => (m_X7_leftOf g x2).bind fun r2 => if r1 < r2 then m_X7_shortest_B39 a0 g (m_X7_shortest_L5 a0 g f) x3 else m_X7_shortest_B43 a0 g (m_X7_shortest_L5 a0 g f) x2 x3 else m_X7_shortest_B43 a0 g (m_X7_shortest_L5 a0 g f) x2 x3 else some x2) rfl ?_
    refine j_iload_n (q := 6) (i := 3) (n := 3) dX7_shortest_5 rfl rfl rfl ?_
    refine j_aload_n (q := 7) (i := 0) (n := 0) dX7_shortest_6 rfl rfl rfl ?_
    refine g_X7_jobs (q := 10) wF_X7_66 (Nat.le_of_ble_eq_true rfl) dX7_shortest_7 rfl ?_
    refine j_icmp_ge (tgt := 51) (q := 13) dX7_shortest_10 rfl rfl ?_ ?_
    · refine j_iload_n (q := 52) (i := 2) (n := 2) dX7_shortest_51 rfl rfl rfl ?_
      exact j_ret (x := x2) dX7_shortest_52 ⟨trivial, rfl, rfl⟩
    · refine j_iload_n (q := 14) (i := 1) (n := 1) dX7_shortest_13 rfl rfl rfl ?_
      refine j_iload_n (q := 15) (i := 3) (n := 3) dX7_shortest_14 rfl rfl rfl ?_
      refine j_ishr (q := 16) dX7_shortest_15 rfl ?_
      refine j_iconst (q := 17) (v := (nI 1)) dX7_shortest_16 rfl rfl ?_
      refine j_iand (q := 18) dX7_shortest_17 rfl ?_
      refine j_iconst (q := 19) (v := (nI 1)) dX7_shortest_18 rfl rfl ?_
      refine j_icmp_ne (tgt := 43) (q := 22) dX7_shortest_19 rfl rfl ?_ ?_
      · exact t_X7_shortest_B43 z gx a0 g (m_X7_shortest_L5 a0 g f) ih x2 x3
      · refine j_iload_n (q := 23) (i := 2) (n := 2) dX7_shortest_22 rfl rfl rfl ?_
        refine j_if_lt (tgt := 39) (q := 26) dX7_shortest_23 rfl rfl ?_ ?_
        · refine j_lv [0, 1, 3] (lv' := [(0, .ref (za z 77 0)), (1, .int a0), (3, .int x3)]) rfl ?_
          exact t_X7_shortest_B39 z gx a0 g (m_X7_shortest_L5 a0 g f) ih x3
        · refine j_aload_n (q := 27) (i := 0) (n := 0) dX7_shortest_26 rfl rfl rfl ?_
          refine j_iload_n (q := 28) (i := 3) (n := 3) dX7_shortest_27 rfl rfl rfl ?_
          refine j_ci (q := 31) (rn_V (R := rm_X7_shortest) (As := [.int x3]) (rest := []) (c_X7_leftOf _ z gx g x3) cv_X7_leftOf wM_X7_199 ⟨rfl, rfl⟩ ⟨(Nat.le_of_ble_eq_true rfl), (Nat.le_of_ble_eq_true rfl)⟩ (Nat.le_of_ble_eq_true rfl) rfl rfl rfl (Nat.le_of_ble_eq_true rfl) dX7_shortest_28) rfl (fun r1 => ?_)
          refine j_aload_n (q := 32) (i := 0) (n := 0) dX7_shortest_31 rfl rfl rfl ?_
          refine j_iload_n (q := 33) (i := 2) (n := 2) dX7_shortest_32 rfl rfl rfl ?_
          refine j_ci (q := 36) (rn_V (R := rm_X7_shortest) (As := [.int x2]) (rest := [.int r1]) (c_X7_leftOf _ z gx g x2) cv_X7_leftOf wM_X7_199 ⟨rfl, rfl⟩ ⟨(Nat.le_of_ble_eq_true rfl), (Nat.le_of_ble_eq_true rfl)⟩ (Nat.le_of_ble_eq_true rfl) rfl rfl rfl (Nat.le_of_ble_eq_true rfl) dX7_shortest_33) rfl (fun r2 => ?_)
          refine j_icmp_ge (tgt := 43) (q := 39) dX7_shortest_36 rfl rfl ?_ ?_
          · exact t_X7_shortest_B43 z gx a0 g (m_X7_shortest_L5 a0 g f) ih x2 x3
          · refine j_lv [0, 1, 3] (lv' := [(0, .ref (za z 77 0)), (1, .int a0), (3, .int x3)]) rfl ?_
            exact t_X7_shortest_B39 z gx a0 g (m_X7_shortest_L5 a0 g f) ih x3
def m_X7_shortest (g : zG) (a0 : Int32) : Option (Int32) := m_X7_shortest_L5 a0 g FU (-9) (nI 0)
set_option maxRecDepth 100000 in
set_option maxHeartbeats 4000000 in
theorem c_X7_shortest (l : Launch) (z : zE) (gx : zG) (g : zG) (a0 : Int32) : ∀ x, m_X7_shortest g a0 = some x → Ms dm l yX7_shortest cX7_shortest 4 (some .int) rm_X7_shortest z [.ref (za z 77 0), .int a0] ((wm z gx) g) (oi x) ((wm z gx) ((fun _ => g) x)) := by
  refine ms_of (Wf := (wm z gx)) (ri := .ireturn) (out := oi) (nxt := (fun _ => g)) (ok := (fun _ => True)) (lv := [(0, .ref (za z 77 0)), (1, .int a0)]) (by decide) ⟨rfl, rfl⟩ (Nat.le_of_ble_eq_true rfl) rfl (en_i (out := fun x => x)) (fun p e s m below meth c => ?_)
  refine j_eq (M2 := m_X7_shortest_L5 a0 g FU (-9) (nI 0)) rfl ?_
  refine j_bipush (q := 2) (v := (-9)) dX7_shortest_0 rfl rfl ?_
  refine j_istore_n (q := 3) (n := 2) (lv' := [(2, .int (-9)), (0, .ref (za z 77 0)), (1, .int a0)]) dX7_shortest_2 rfl (Nat.le_of_ble_eq_true rfl) rfl rfl ?_
  refine j_iconst (q := 4) (v := (nI 0)) dX7_shortest_3 rfl rfl ?_
  refine j_istore_n (q := 5) (n := 3) (lv' := [(3, .int (nI 0)), (2, .int (-9)), (0, .ref (za z 77 0)), (1, .int a0)]) dX7_shortest_4 rfl (Nat.le_of_ble_eq_true rfl) rfl rfl ?_
  refine j_lv [2, 3, 1, 0] (lv' := [(0, .ref (za z 77 0)), (1, .int a0), (2, .int (-9)), (3, .int (nI 0))]) rfl ?_
  exact t_X7_shortest_L5 z gx a0 g FU (-9) (nI 0)
-- CopierJobsModel.soon(I)I
abbrev rm_X7_soon : Room := { frames := 7, cells := 0, slots := 0, locals := 156 }
theorem cv_X7_soon : CV yX7_soon cX7_soon 7 (some .int) 1 := ⟨wC_X7_soon, wI_X7_soon, wS_X7_soon, wZ_X7, by decide +kernel⟩
def m_X7_soon_B102 (a0 : Int32) (g : zG) (x3 : Int32) (x4 : Int32) : Option (Int32) := if a0 = (nI 0) then some x3 else some x4
set_option maxRecDepth 100000 in
set_option maxHeartbeats 4000000 in
theorem t_X7_soon_B102 {p : Program} {l : Launch} {e : Env} {s : State} {m : MethodId} {args : Array Value} {below : List Frame} {meth : Method} {c : Code} {cells slots : Nat} {Q : Int32 → State → Prop} (z : zE) (gx : zG) (a0 : Int32) (g : zG) (x3 : Int32) (x4 : Int32) : zJ dm p l e rm_X7_soon s m args below meth c cX7_soon 7 yX7_soon.cls z cells slots (wm z gx) (fn (fun _ => True) (fun _ => g) oi) .ireturn Q 102 [(1, .int a0), (3, .int x3), (4, .int x4)] [] g (m_X7_soon_B102 a0 g x3 x4) := by
  refine j_eq (M2 := if a0 = (nI 0) then some x3 else some x4) rfl ?_
  refine j_iload_n (q := 103) (i := 0) (n := 1) dX7_soon_102 rfl rfl rfl ?_
  refine j_if_ne (tgt := 110) (q := 106) dX7_soon_103 rfl rfl ?_ ?_
  · refine j_iload (q := 112) (i := 2) (n := 4) dX7_soon_110 rfl rfl ?_
    exact j_ret (x := x4) dX7_soon_112 ⟨trivial, rfl, rfl⟩
  · refine j_iload_n (q := 107) (i := 1) (n := 3) dX7_soon_106 rfl rfl rfl ?_
    refine j_goto (tgt := 112) dX7_soon_107 rfl ?_
    exact j_ret (x := x3) dX7_soon_112 ⟨trivial, rfl, rfl⟩
def m_X7_soon_L51 (a0 : Int32) (g : zG) : Nat → Int32 → Int32 → Int32 → Int32 → Option (Int32)
  | 0, _, _, _, _ => none
  | f + 1, x2, x3, x4, x5 => if x2 = (nI 0) then m_X7_soon_B102 a0 g x3 x4 else (m_X7_shortest g x2).bind fun r2 => (m_X7_leftOf g r2).bind fun r3 => bd ((((nI 10) * x4) + r2) + (nI 1)) fun v4 => bd (x2 &&& (((nI 1) <<< (r2 &&& 31)) ^^^ (-1))) fun v5 => m_X7_soon_L51 a0 g f v5 (x3 + (x5 + r3)) v4 (x5 + r3)
set_option maxRecDepth 100000 in
set_option maxHeartbeats 4000000 in
theorem t_X7_soon_L51 {p : Program} {l : Launch} {e : Env} {s : State} {m : MethodId} {args : Array Value} {below : List Frame} {meth : Method} {c : Code} {cells slots : Nat} {Q : Int32 → State → Prop} (z : zE) (gx : zG) (a0 : Int32) (g : zG) : ∀ (f : Nat) (x2 : Int32) (x3 : Int32) (x4 : Int32) (x5 : Int32), zJ dm p l e rm_X7_soon s m args below meth c cX7_soon 7 yX7_soon.cls z cells slots (wm z gx) (fn (fun _ => True) (fun _ => g) oi) .ireturn Q 51 [(0, .ref (za z 77 0)), (1, .int a0), (2, .int x2), (3, .int x3), (4, .int x4), (5, .int x5)] [] g (m_X7_soon_L51 a0 g f x2 x3 x4 x5) := by
  intro f
  induction f with
  | zero => intro x2 x3 x4 x5; exact j_none
  | succ f ih =>
    intro x2 x3 x4 x5
    refine j_eq (M2 := if x2 = (nI 0) then m_X7_soon_B102 a0 g x3 x4 else (m_X7_shortest g x2).bind fun r2 => (m_X7_leftOf g r2).bind fun r3 => bd ((((nI 10) * x4) + r2) + (nI 1)) fun v4 => bd (x2 &&& (((nI 1) <<< (r2 &&& 31)) ^^^ (-1))) fun v5 => m_X7_soon_L51 a0 g f v5 (x3 + (x5 + r3)) v4 (x5 + r3)) rfl ?_
    refine j_iload_n (q := 52) (i := 2) (n := 2) dX7_soon_51 rfl rfl rfl ?_
    refine j_if_eq (tgt := 102) (q := 55) dX7_soon_52 rfl rfl ?_ ?_
    · refine j_lv [1, 3, 4] (lv' := [(1, .int a0), (3, .int x3), (4, .int x4)]) rfl ?_
      exact t_X7_soon_B102 z gx a0 g x3 x4
    · refine j_aload_n (q := 56) (i := 0) (n := 0) dX7_soon_55 rfl rfl rfl ?_
      refine j_iload_n (q := 57) (i := 2) (n := 2) dX7_soon_56 rfl rfl rfl ?_
      refine j_ci (q := 60) (rn_V (R := rm_X7_soon) (As := [.int x2]) (rest := []) (c_X7_shortest _ z gx g x2) cv_X7_shortest wM_X7_214 ⟨rfl, rfl⟩ ⟨(Nat.le_of_ble_eq_true rfl), (Nat.le_of_ble_eq_true rfl)⟩ (Nat.le_of_ble_eq_true rfl) rfl rfl rfl (Nat.le_of_ble_eq_true rfl) dX7_soon_57) rfl (fun r2 => ?_)
      refine j_istore (q := 62) (n := 6) (lv' := [(6, .int r2), (0, .ref (za z 77 0)), (1, .int a0), (2, .int x2), (3, .int x3), (4, .int x4), (5, .int x5)]) dX7_soon_60 (Nat.le_of_ble_eq_true rfl) rfl rfl ?_
      refine j_iload (q := 64) (i := 6) (n := 5) dX7_soon_62 rfl rfl ?_
      refine j_aload_n (q := 65) (i := 1) (n := 0) dX7_soon_64 rfl rfl rfl ?_
      refine j_iload (q := 67) (i := 0) (n := 6) dX7_soon_65 rfl rfl ?_
      refine j_ci (q := 70) (rn_V (R := rm_X7_soon) (As := [.int r2]) (rest := [.int x5]) (c_X7_leftOf _ z gx g r2) cv_X7_leftOf wM_X7_199 ⟨rfl, rfl⟩ ⟨(Nat.le_of_ble_eq_true rfl), (Nat.le_of_ble_eq_true rfl)⟩ (Nat.le_of_ble_eq_true rfl) rfl rfl rfl (Nat.le_of_ble_eq_true rfl) dX7_soon_67) rfl (fun r3 => ?_)
      refine j_iadd (q := 71) dX7_soon_70 rfl ?_
      refine j_istore (q := 73) (n := 5) (lv' := [(5, .int (x5 + r3)), (6, .int r2), (0, .ref (za z 77 0)), (1, .int a0), (2, .int x2), (3, .int x3), (4, .int x4)]) dX7_soon_71 (Nat.le_of_ble_eq_true rfl) rfl rfl ?_
      refine j_iload_n (q := 74) (i := 5) (n := 3) dX7_soon_73 rfl rfl rfl ?_
      refine j_iload (q := 76) (i := 0) (n := 5) dX7_soon_74 rfl rfl ?_
      refine j_iadd (q := 77) dX7_soon_76 rfl ?_
      refine j_istore_n (q := 78) (n := 3) (lv' := [(3, .int (x3 + (x5 + r3))), (5, .int (x5 + r3)), (6, .int r2), (0, .ref (za z 77 0)), (1, .int a0), (2, .int x2), (4, .int x4)]) dX7_soon_77 rfl (Nat.le_of_ble_eq_true rfl) rfl rfl ?_
      refine j_bipush (q := 80) (v := (nI 10)) dX7_soon_78 rfl rfl ?_
      refine j_iload (q := 82) (i := 6) (n := 4) dX7_soon_80 rfl rfl ?_
      refine j_imul (q := 83) dX7_soon_82 rfl ?_
      refine j_iload (q := 85) (i := 2) (n := 6) dX7_soon_83 rfl rfl ?_
      refine j_iadd (q := 86) dX7_soon_85 rfl ?_
      refine j_iconst (q := 87) (v := (nI 1)) dX7_soon_86 rfl rfl ?_
      refine j_iadd (q := 88) dX7_soon_87 rfl ?_
      refine j_top (fun v4 => ?_)
      refine j_istore (q := 90) (n := 4) (lv' := [(4, .int v4), (3, .int (x3 + (x5 + r3))), (5, .int (x5 + r3)), (6, .int r2), (0, .ref (za z 77 0)), (1, .int a0), (2, .int x2)]) dX7_soon_88 (Nat.le_of_ble_eq_true rfl) rfl rfl ?_
      refine j_iload_n (q := 91) (i := 6) (n := 2) dX7_soon_90 rfl rfl rfl ?_
      refine j_iconst (q := 92) (v := (nI 1)) dX7_soon_91 rfl rfl ?_
      refine j_iload (q := 94) (i := 3) (n := 6) dX7_soon_92 rfl rfl ?_
      refine j_ishl (q := 95) dX7_soon_94 rfl ?_
      refine j_iconst (q := 96) (v := (-1)) dX7_soon_95 rfl rfl ?_
      refine j_ixor (q := 97) dX7_soon_96 rfl ?_
      refine j_iand (q := 98) dX7_soon_97 rfl ?_
      refine j_top (fun v5 => ?_)
      refine j_istore_n (q := 99) (n := 2) (lv' := [(2, .int v5), (4, .int v4), (3, .int (x3 + (x5 + r3))), (5, .int (x5 + r3)), (6, .int r2), (0, .ref (za z 77 0)), (1, .int a0)]) dX7_soon_98 rfl (Nat.le_of_ble_eq_true rfl) rfl rfl ?_
      refine j_goto (tgt := 51) dX7_soon_99 rfl ?_
      refine j_lv [5, 6, 0, 2, 1, 3] (lv' := [(0, .ref (za z 77 0)), (1, .int a0), (2, .int v5), (3, .int (x3 + (x5 + r3))), (4, .int v4), (5, .int (x5 + r3))]) rfl ?_
      exact ih v5 (x3 + (x5 + r3)) v4 (x5 + r3)
def m_X7_soon_B43 (a0 : Int32) (g : zG) (x2 : Int32) : Option (Int32) := m_X7_soon_L51 a0 g FU x2 (nI 0) (nI 0) (nI 0)
set_option maxRecDepth 100000 in
set_option maxHeartbeats 4000000 in
theorem t_X7_soon_B43 {p : Program} {l : Launch} {e : Env} {s : State} {m : MethodId} {args : Array Value} {below : List Frame} {meth : Method} {c : Code} {cells slots : Nat} {Q : Int32 → State → Prop} (z : zE) (gx : zG) (a0 : Int32) (g : zG) (x2 : Int32) : zJ dm p l e rm_X7_soon s m args below meth c cX7_soon 7 yX7_soon.cls z cells slots (wm z gx) (fn (fun _ => True) (fun _ => g) oi) .ireturn Q 43 [(0, .ref (za z 77 0)), (1, .int a0), (2, .int x2)] [] g (m_X7_soon_B43 a0 g x2) := by
  refine j_eq (M2 := m_X7_soon_L51 a0 g FU x2 (nI 0) (nI 0) (nI 0)) rfl ?_
  refine j_iconst (q := 44) (v := (nI 0)) dX7_soon_43 rfl rfl ?_
  refine j_istore_n (q := 45) (n := 3) (lv' := [(3, .int (nI 0)), (0, .ref (za z 77 0)), (1, .int a0), (2, .int x2)]) dX7_soon_44 rfl (Nat.le_of_ble_eq_true rfl) rfl rfl ?_
  refine j_iconst (q := 46) (v := (nI 0)) dX7_soon_45 rfl rfl ?_
  refine j_istore (q := 48) (n := 4) (lv' := [(4, .int (nI 0)), (3, .int (nI 0)), (0, .ref (za z 77 0)), (1, .int a0), (2, .int x2)]) dX7_soon_46 (Nat.le_of_ble_eq_true rfl) rfl rfl ?_
  refine j_iconst (q := 49) (v := (nI 0)) dX7_soon_48 rfl rfl ?_
  refine j_istore (q := 51) (n := 5) (lv' := [(5, .int (nI 0)), (4, .int (nI 0)), (3, .int (nI 0)), (0, .ref (za z 77 0)), (1, .int a0), (2, .int x2)]) dX7_soon_49 (Nat.le_of_ble_eq_true rfl) rfl rfl ?_
  refine j_lv [3, 4, 5, 2, 1, 0] (lv' := [(0, .ref (za z 77 0)), (1, .int a0), (2, .int x2), (3, .int (nI 0)), (4, .int (nI 0)), (5, .int (nI 0))]) rfl ?_
  exact t_X7_soon_L51 z gx a0 g FU x2 (nI 0) (nI 0) (nI 0)
def m_X7_soon_L13 (a0 : Int32) (g : zG) : Nat → Int32 → Int32 → Option (Int32)
  | 0, _, _ => none
  | f + 1, x2, x3 => gd (inb (nI 3) 31 = true) (if x3 < (gi g 105 0 (nI 3).toNatClampNeg) then gd (inb ((nI 13) + x3) 31 = true) (bd (x2 ||| ((nI 1) <<< ((gi g 105 0 ((nI 13) + x3).toNatClampNeg) &&& 31))) fun v6 => m_X7_soon_L13 a0 g f v6 (x3 + (nI 1))) else m_X7_soon_B43 a0 g x2)
set_option maxRecDepth 100000 in
set_option maxHeartbeats 4000000 in
theorem t_X7_soon_L13 {p : Program} {l : Launch} {e : Env} {s : State} {m : MethodId} {args : Array Value} {below : List Frame} {meth : Method} {c : Code} {cells slots : Nat} {Q : Int32 → State → Prop} (z : zE) (gx : zG) (a0 : Int32) (g : zG) : ∀ (f : Nat) (x2 : Int32) (x3 : Int32), zJ dm p l e rm_X7_soon s m args below meth c cX7_soon 7 yX7_soon.cls z cells slots (wm z gx) (fn (fun _ => True) (fun _ => g) oi) .ireturn Q 13 [(0, .ref (za z 77 0)), (1, .int a0), (2, .int x2), (3, .int x3)] [] g (m_X7_soon_L13 a0 g f x2 x3) := by
  intro f
  induction f with
  | zero => intro x2 x3; exact j_none
  | succ f ih =>
    intro x2 x3
    refine j_eq (M2 := gd (inb (nI 3) 31 = true) (if x3 < (gi g 105 0 (nI 3).toNatClampNeg) then gd (inb ((nI 13) + x3) 31 = true) (bd (x2 ||| ((nI 1) <<< ((gi g 105 0 ((nI 13) + x3).toNatClampNeg) &&& 31))) fun v6 => m_X7_soon_L13 a0 g f v6 (x3 + (nI 1))) else m_X7_soon_B43 a0 g x2)) rfl ?_
    refine j_iload_n (q := 14) (i := 3) (n := 3) dX7_soon_13 rfl rfl rfl ?_
    refine j_aload_n (q := 15) (i := 0) (n := 0) dX7_soon_14 rfl rfl rfl ?_
    refine g_X7_st (q := 18) wF_X7_29 (Nat.le_of_ble_eq_true rfl) dX7_soon_15 rfl ?_
    refine j_iconst (q := 19) (v := (nI 3)) dX7_soon_18 rfl rfl ?_
    refine am_ld (k := 105) (n := 31) (q := 20) isM_105 rfl (Nat.le_of_ble_eq_true rfl) dX7_soon_19 rfl ?_
    refine j_icmp_ge (tgt := 43) (q := 23) dX7_soon_20 rfl rfl ?_ ?_
    · refine j_lv [0, 1, 2] (lv' := [(0, .ref (za z 77 0)), (1, .int a0), (2, .int x2)]) rfl ?_
      exact t_X7_soon_B43 z gx a0 g x2
    · refine j_iload_n (q := 24) (i := 2) (n := 2) dX7_soon_23 rfl rfl rfl ?_
      refine j_iconst (q := 25) (v := (nI 1)) dX7_soon_24 rfl rfl ?_
      refine j_aload_n (q := 26) (i := 0) (n := 0) dX7_soon_25 rfl rfl rfl ?_
      refine g_X7_st (q := 29) wF_X7_29 (Nat.le_of_ble_eq_true rfl) dX7_soon_26 rfl ?_
      refine j_bipush (q := 31) (v := (nI 13)) dX7_soon_29 rfl rfl ?_
      refine j_iload_n (q := 32) (i := 3) (n := 3) dX7_soon_31 rfl rfl rfl ?_
      refine j_iadd (q := 33) dX7_soon_32 rfl ?_
      refine am_ld (k := 105) (n := 31) (q := 34) isM_105 rfl (Nat.le_of_ble_eq_true rfl) dX7_soon_33 rfl ?_
      refine j_ishl (q := 35) dX7_soon_34 rfl ?_
      refine j_ior (q := 36) dX7_soon_35 rfl ?_
      refine j_top (fun v6 => ?_)
      refine j_istore_n (q := 37) (n := 2) (lv' := [(2, .int v6), (0, .ref (za z 77 0)), (1, .int a0), (3, .int x3)]) dX7_soon_36 rfl (Nat.le_of_ble_eq_true rfl) rfl rfl ?_
      refine j_iinc (q := 40) (n := 3) (i := 3) (v := x3 + (nI 1)) (lv' := [(3, .int (x3 + (nI 1))), (2, .int v6), (0, .ref (za z 77 0)), (1, .int a0)]) dX7_soon_37 rfl rfl (Nat.le_of_ble_eq_true rfl) rfl rfl ?_
      refine j_goto (tgt := 13) dX7_soon_40 rfl ?_
      refine j_lv [2, 3, 1, 0] (lv' := [(0, .ref (za z 77 0)), (1, .int a0), (2, .int v6), (3, .int (x3 + (nI 1)))]) rfl ?_
      exact ih v6 (x3 + (nI 1))
def m_X7_soon (g : zG) (a0 : Int32) : Option (Int32) := (m_X7_isPart a0).bind fun r1 => if r1 = (nI 0) then some (-1) else m_X7_soon_L13 a0 g FU (nI 0) (nI 0)
set_option maxRecDepth 100000 in
set_option maxHeartbeats 4000000 in
theorem c_X7_soon (l : Launch) (z : zE) (gx : zG) (g : zG) (a0 : Int32) : ∀ x, m_X7_soon g a0 = some x → Ms dm l yX7_soon cX7_soon 7 (some .int) rm_X7_soon z [.ref (za z 77 0), .int a0] ((wm z gx) g) (oi x) ((wm z gx) ((fun _ => g) x)) := by
  refine ms_of (Wf := (wm z gx)) (ri := .ireturn) (out := oi) (nxt := (fun _ => g)) (ok := (fun _ => True)) (lv := [(0, .ref (za z 77 0)), (1, .int a0)]) (by decide) ⟨rfl, rfl⟩ (Nat.le_of_ble_eq_true rfl) rfl (en_i (out := fun x => x)) (fun p e s m below meth c => ?_)
  refine j_eq (M2 := (m_X7_isPart a0).bind fun r1 => if r1 = (nI 0) then some (-1) else m_X7_soon_L13 a0 g FU (nI 0) (nI 0)) rfl ?_
  refine j_iload_n (q := 1) (i := 1) (n := 1) dX7_soon_0 rfl rfl rfl ?_
  refine j_ci (q := 4) (rn_S (R := rm_X7_soon) (As := [.int a0]) (rest := []) (c_X7_isPart _ z gx g a0) cv_X7_isPart wM_X7_202 ⟨rfl, rfl⟩ ⟨(Nat.le_of_ble_eq_true rfl), (Nat.le_of_ble_eq_true rfl)⟩ rfl (Nat.le_of_ble_eq_true rfl) dX7_soon_1) rfl (fun r1 => ?_)
  refine j_if_ne (tgt := 9) (q := 7) dX7_soon_4 rfl rfl ?_ ?_
  · refine j_iconst (q := 10) (v := (nI 0)) dX7_soon_9 rfl rfl ?_
    refine j_istore_n (q := 11) (n := 2) (lv' := [(2, .int (nI 0)), (0, .ref (za z 77 0)), (1, .int a0)]) dX7_soon_10 rfl (Nat.le_of_ble_eq_true rfl) rfl rfl ?_
    refine j_iconst (q := 12) (v := (nI 0)) dX7_soon_11 rfl rfl ?_
    refine j_istore_n (q := 13) (n := 3) (lv' := [(3, .int (nI 0)), (2, .int (nI 0)), (0, .ref (za z 77 0)), (1, .int a0)]) dX7_soon_12 rfl (Nat.le_of_ble_eq_true rfl) rfl rfl ?_
    refine j_lv [2, 3, 1, 0] (lv' := [(0, .ref (za z 77 0)), (1, .int a0), (2, .int (nI 0)), (3, .int (nI 0))]) rfl ?_
    exact t_X7_soon_L13 z gx a0 g FU (nI 0) (nI 0)
  · refine j_iconst (q := 8) (v := (-1)) dX7_soon_7 rfl rfl ?_
    exact j_ret (x := (-1)) dX7_soon_8 ⟨trivial, rfl, rfl⟩
