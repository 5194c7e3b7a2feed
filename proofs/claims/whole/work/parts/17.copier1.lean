-- CopierJobs.imageAt(I)LCopierJobs$Course;
abbrev rm_X6_imageAt : Room := { frames := 0, cells := 0, slots := 0, locals := 0 }
theorem cv_X6_imageAt : CV yX6_imageAt cX6_imageAt 2 (some (.object "CopierJobs$Course")) 1 := ⟨wC_X6_imageAt, wI_X6_imageAt, wS_X6_imageAt, wZ_X6, by decide +kernel⟩
def m_X6_imageAt (g : zG) (a0 : Int32) : Option (Option Nat) := if a0 < (nI 0) then some none else if a0 < (nI 2) then gd (inb a0 2 = true) (some (some (1 + a0.toNatClampNeg))) else some none
set_option maxRecDepth 100000 in
set_option maxHeartbeats 4000000 in
theorem c_X6_imageAt (l : Launch) (z : zE) (gm : zG) (g : zG) (a0 : Int32) : ∀ x, m_X6_imageAt g a0 = some x → Ms dm l yX6_imageAt cX6_imageAt 2 (some (.object "CopierJobs$Course")) rm_X6_imageAt z [.ref (za z 76 0), .int a0] ((wx z gm) g) ((orf z 70) x) ((wx z gm) ((fun _ => g) x)) := by
  refine ms_of (Wf := (wx z gm)) (ri := .areturn) (out := (orf z 70)) (nxt := (fun _ => g)) (ok := (fun _ => True)) (lv := [(0, .ref (za z 76 0)), (1, .int a0)]) (by decide) ⟨rfl, rfl⟩ (Nat.le_of_ble_eq_true rfl) rfl (en_r (k0 := 70) (out := fun x => x)) (fun p e s m below meth c => ?_)
  refine j_eq (M2 := if a0 < (nI 0) then some none else if a0 < (nI 2) then gd (inb a0 2 = true) (some (some (1 + a0.toNatClampNeg))) else some none) rfl ?_
  refine j_iload_n (q := 1) (i := 1) (n := 1) dX6_imageAt_0 rfl rfl rfl ?_
  refine j_if_lt (tgt := 22) (q := 4) dX6_imageAt_1 rfl rfl ?_ ?_
  · refine j_null (q := 23) dX6_imageAt_22 rfl ?_
    exact j_ret (x := none) dX6_imageAt_23 ⟨trivial, rfl, rfl⟩
  · refine j_iload_n (q := 5) (i := 1) (n := 1) dX6_imageAt_4 rfl rfl rfl ?_
    refine j_aload_n (q := 6) (i := 0) (n := 0) dX6_imageAt_5 rfl rfl rfl ?_
    refine g_X6_images (q := 9) wF_X6_37 (Nat.le_of_ble_eq_true rfl) dX6_imageAt_6 rfl ?_
    refine a82_len (q := 10) (Nat.le_of_ble_eq_true rfl) dX6_imageAt_9 rfl ?_
    refine j_icmp_ge (tgt := 22) (q := 13) dX6_imageAt_10 rfl rfl ?_ ?_
    · refine j_null (q := 23) dX6_imageAt_22 rfl ?_
      exact j_ret (x := none) dX6_imageAt_23 ⟨trivial, rfl, rfl⟩
    · refine j_aload_n (q := 14) (i := 0) (n := 0) dX6_imageAt_13 rfl rfl rfl ?_
      refine g_X6_images (q := 17) wF_X6_37 (Nat.le_of_ble_eq_true rfl) dX6_imageAt_14 rfl ?_
      refine j_iload_n (q := 18) (i := 1) (n := 1) dX6_imageAt_17 rfl rfl rfl ?_
      refine a82_ld (q := 19) (Nat.le_of_ble_eq_true rfl) dX6_imageAt_18 rfl ?_
      refine j_goto (tgt := 23) dX6_imageAt_19 rfl ?_
      exact j_ret (x := some (1 + a0.toNatClampNeg)) dX6_imageAt_23 ⟨trivial, rfl, rfl⟩
-- CopierJobs.shortestBut(I)I
abbrev rm_X6_shortestBut : Room := { frames := 4, cells := 0, slots := 0, locals := 89 }
theorem cv_X6_shortestBut : CV yX6_shortestBut cX6_shortestBut 6 (some .int) 1 := ⟨wC_X6_shortestBut, wI_X6_shortestBut, wS_X6_shortestBut, wZ_X6, by decide +kernel⟩
def m_X6_shortestBut_B85 (a0 : Int32) (g : zG) (K8 : Int32 → Int32 → Int32 → Option (Int32)) (x2 : Int32) (x3 : Int32) (x4 : Int32) : Option (Int32) := K8 x2 x3 (x4 + (nI 1))
set_option maxRecDepth 100000 in
set_option maxHeartbeats 4000000 in
theorem t_X6_shortestBut_B85 {p : Program} {l : Launch} {e : Env} {s : State} {m : MethodId} {args : Array Value} {below : List Frame} {meth : Method} {c : Code} {cells slots : Nat} {Q : Int32 → State → Prop} (z : zE) (gm : zG) (a0 : Int32) (g : zG) (K8 : Int32 → Int32 → Int32 → Option (Int32)) (hK8 : ∀ (x2 : Int32) (x3 : Int32) (x4 : Int32), zJ dm p l e rm_X6_shortestBut s m args below meth c cX6_shortestBut 6 yX6_shortestBut.cls z cells slots (wx z gm) (fn (fun _ => True) (fun _ => g) oi) .ireturn Q 8 [(0, .ref (za z 76 0)), (1, .int a0), (2, .int x2), (3, .int x3), (4, .int x4)] [] g (K8 x2 x3 x4)) (x2 : Int32) (x3 : Int32) (x4 : Int32) : zJ dm p l e rm_X6_shortestBut s m args below meth c cX6_shortestBut 6 yX6_shortestBut.cls z cells slots (wx z gm) (fn (fun _ => True) (fun _ => g) oi) .ireturn Q 85 [(0, .ref (za z 76 0)), (1, .int a0), (2, .int x2), (3, .int x3), (4, .int x4)] [] g (m_X6_shortestBut_B85 a0 g K8 x2 x3 x4) := by
  refine j_eq (M2 := K8 x2 x3 (x4 + (nI 1))) rfl ?_
  refine j_iinc (q := 88) (n := 4) (i := 4) (v := x4 + (nI 1)) (lv' := [(4, .int (x4 + (nI 1))), (0, .ref (za z 76 0)), (1, .int a0), (2, .int x2), (3, .int x3)]) dX6_shortestBut_85 rfl rfl (Nat.le_of_ble_eq_true rfl) rfl rfl ?_
  refine j_goto (tgt := 8) dX6_shortestBut_88 rfl ?_
  refine j_lv [1, 2, 3, 4, 0] (lv' := [(0, .ref (za z 76 0)), (1, .int a0), (2, .int x2), (3, .int x3), (4, .int (x4 + (nI 1)))]) rfl ?_
  exact hK8 x2 x3 (x4 + (nI 1))
def m_X6_shortestBut_B79 (a0 : Int32) (g : zG) (K8 : Int32 → Int32 → Int32 → Option (Int32)) (x4 : Int32) (x5 : Int32) : Option (Int32) := m_X6_shortestBut_B85 a0 g K8 x4 x5 x4
set_option maxRecDepth 100000 in
set_option maxHeartbeats 4000000 in
theorem t_X6_shortestBut_B79 {p : Program} {l : Launch} {e : Env} {s : State} {m : MethodId} {args : Array Value} {below : List Frame} {meth : Method} {c : Code} {cells slots : Nat} {Q : Int32 → State → Prop} (z : zE) (gm : zG) (a0 : Int32) (g : zG) (K8 : Int32 → Int32 → Int32 → Option (Int32)) (hK8 : ∀ (x2 : Int32) (x3 : Int32) (x4 : Int32), zJ dm p l e rm_X6_shortestBut s m args below meth c cX6_shortestBut 6 yX6_shortestBut.cls z cells slots (wx z gm) (fn (fun _ => True) (fun _ => g) oi) .ireturn Q 8 [(0, .ref (za z 76 0)), (1, .int a0), (2, .int x2), (3, .int x3), (4, .int x4)] [] g (K8 x2 x3 x4)) (x4 : Int32) (x5 : Int32) : zJ dm p l e rm_X6_shortestBut s m args below meth c cX6_shortestBut 6 yX6_shortestBut.cls z cells slots (wx z gm) (fn (fun _ => True) (fun _ => g) oi) .ireturn Q 79 [(0, .ref (za z 76 0)), (1, .int a0), (4, .int x4), (5, .int x5)] [] g (m_X6_shortestBut_B79 a0 g K8 x4 x5) := by
  refine j_eq (M2 := m_X6_shortestBut_B85 a0 g K8 x4 x5 x4) rfl ?_
  refine j_iload (q := 81) (i := 2) (n := 4) dX6_shortestBut_79 rfl rfl ?_
  refine j_istore_n (q := 82) (n := 2) (lv' := [(2, .int x4), (0, .ref (za z 76 0)), (1, .int a0), (4, .int x4), (5, .int x5)]) dX6_shortestBut_81 rfl (Nat.le_of_ble_eq_true rfl) rfl rfl ?_
  refine j_iload (q := 84) (i := 4) (n := 5) dX6_shortestBut_82 rfl rfl ?_
  refine j_istore_n (q := 85) (n := 3) (lv' := [(3, .int x5), (2, .int x4), (0, .ref (za z 76 0)), (1, .int a0), (4, .int x4), (5, .int x5)]) dX6_shortestBut_84 rfl (Nat.le_of_ble_eq_true rfl) rfl rfl ?_
  refine j_lv [2, 3, 1, 0, 4] (lv' := [(0, .ref (za z 76 0)), (1, .int a0), (2, .int x4), (3, .int x5), (4, .int x4)]) rfl ?_
  exact t_X6_shortestBut_B85 z gm a0 g K8 hK8 x4 x5 x4
def m_X6_shortestBut_L8 (a0 : Int32) (g : zG) : Nat → Int32 → Int32 → Int32 → Option (Int32)
  | 0, _, _, _ => none
  | f + 1, x2, x3, x4 => gd (gn g 0 < dm 73) (if x4 < (gi g 12 (gn g 0) 0) then (m_X2_placeOf g 0 x4).bind fun r2 => if r2 = (-9) then m_X6_shortestBut_B85 a0 g (m_X6_shortestBut_L8 a0 g f) x2 x3 x4 else if ((a0 >>> (x4 &&& 31)) &&& (nI 1)) = (nI 0) then gd (gn g 0 < dm 73) ((m_X2_leftOf g 0 (gn g 0) x4).bind fun r4 => if x2 = (-9) then m_X6_shortestBut_B79 a0 g (m_X6_shortestBut_L8 a0 g f) x4 r4 else if r4 < x3 then m_X6_shortestBut_B79 a0 g (m_X6_shortestBut_L8 a0 g f) x4 r4 else m_X6_shortestBut_B85 a0 g (m_X6_shortestBut_L8 a0 g f) x2 x3 x4) else m_X6_shortestBut_B85 a0 g (m_X6_shortestBut_L8 a0 g f) x2 x3 x4 else some x2)
set_option maxRecDepth 100000 in
set_option maxHeartbeats 4000000 in
theorem t_X6_shortestBut_L8 {p : Program} {l : Launch} {e : Env} {s : State} {m : MethodId} {args : Array Value} {below : List Frame} {meth : Method} {c : Code} {cells slots : Nat} {Q : Int32 → State → Prop} (z : zE) (gm : zG) (a0 : Int32) (g : zG) : ∀ (f : Nat) (x2 : Int32) (x3 : Int32) (x4 : Int32), zJ dm p l e rm_X6_shortestBut s m args below meth c cX6_shortestBut 6 yX6_shortestBut.cls z cells slots (wx z gm) (fn (fun _ => True) (fun _ => g) oi) .ireturn Q 8 [(0, .ref (za z 76 0)), (1, .int a0), (2, .int x2), (3, .int x3), (4, .int x4)] [] g (m_X6_shortestBut_L8 a0 g f x2 x3 x4) := by
  intro f
  induction f with
  | zero => intro x2 x3 x4; exact j_none
  | succ f ih =>
    intro x2 x3 x4
    refine j_eq (M2 := gd (gn g 0 < dm 73) (if x4 < (gi g 12 (gn g 0) 0) then (m_X2_placeOf g 0 x4).bind fun r2 => if r2 = (-9) then m_X6_shortestBut_B85 a0 g (m_X6_shortestBut_L8 a0 g f) x2 x3 x4 else if ((a0 >>> (x4 &&& 31)) &&& (nI 1)) = (nI 0) then gd (gn g 0 < dm 73) ((m_X2_leftOf g 0 (gn g 0) x4).bind fun r4 => if x2 = (-9) then m_X6_shortestBut_B79 a0 g (m_X6_shortestBut_L8 a0 g f) x4 r4 else if r4 < x3 then m_X6_shortestBut_B79 a0 g (m_X6_shortestBut_L8 a0 g f) x4 r4 else m_X6_shortestBut_B85 a0 g (m_X6_shortestBut_L8 a0 g f) x2 x3 x4) else m_X6_shortestBut_B85 a0 g (m_X6_shortestBut_L8 a0 g f) x2 x3 x4 else some x2)) rfl ?_
    refine j_iload (q := 10) (i := 4) (n := 4) dX6_shortestBut_8 rfl rfl ?_
    refine j_aload_n (q := 11) (i := 0) (n := 0) dX6_shortestBut_10 rfl rfl rfl ?_
    refine g_X6_plan (q := 14) wF_X6_48 (Nat.le_of_ble_eq_true rfl) dX6_shortestBut_11 rfl ?_
    refine j_gd (fun hp1 => ?_)
    refine gN_X3_jobCount (q := 17) wG_X6_269 hp1 dX6_shortestBut_14 rfl ?_
    refine j_icmp_ge (tgt := 91) (q := 20) dX6_shortestBut_17 rfl rfl ?_ ?_
    · refine j_iload_n (q := 92) (i := 2) (n := 2) dX6_shortestBut_91 rfl rfl rfl ?_
      exact j_ret (x := x2) dX6_shortestBut_92 ⟨trivial, rfl, rfl⟩
    · refine j_aload_n (q := 21) (i := 0) (n := 0) dX6_shortestBut_20 rfl rfl rfl ?_
      refine g_X6_course (q := 24) wF_X6_19 (Nat.le_of_ble_eq_true rfl) dX6_shortestBut_21 rfl ?_
      refine gN_X0_now (q := 27) wG_X6_104 (Nat.le_of_ble_eq_true rfl) dX6_shortestBut_24 rfl ?_
      refine j_iload (q := 29) (i := 4) (n := 4) dX6_shortestBut_27 rfl rfl ?_
      refine j_ci (q := 32) (rn_V (R := rm_X6_shortestBut) (As := [.int x4]) (rest := []) (c_X2_placeOf _ z gm g 0 (Nat.le_of_ble_eq_true rfl) x4) cv_X2_placeOf wM_X6_110 ⟨rfl, rfl⟩ ⟨(Nat.le_of_ble_eq_true rfl), (Nat.le_of_ble_eq_true rfl)⟩ (Nat.le_of_ble_eq_true rfl) rfl rfl rfl (Nat.le_of_ble_eq_true rfl) dX6_shortestBut_29) rfl (fun r2 => ?_)
      refine j_bipush (q := 34) (v := (-9)) dX6_shortestBut_32 rfl rfl ?_
      refine j_icmp_eq (tgt := 85) (q := 37) dX6_shortestBut_34 rfl rfl ?_ ?_
      · exact t_X6_shortestBut_B85 z gm a0 g (m_X6_shortestBut_L8 a0 g f) ih x2 x3 x4
      · refine j_iload_n (q := 38) (i := 1) (n := 1) dX6_shortestBut_37 rfl rfl rfl ?_
        refine j_iload (q := 40) (i := 4) (n := 4) dX6_shortestBut_38 rfl rfl ?_
        refine j_ishr (q := 41) dX6_shortestBut_40 rfl ?_
        refine j_iconst (q := 42) (v := (nI 1)) dX6_shortestBut_41 rfl rfl ?_
        refine j_iand (q := 43) dX6_shortestBut_42 rfl ?_
        refine j_if_eq (tgt := 49) (q := 46) dX6_shortestBut_43 rfl rfl ?_ ?_
        · refine j_aload_n (q := 50) (i := 0) (n := 0) dX6_shortestBut_49 rfl rfl rfl ?_
          refine g_X6_course (q := 53) wF_X6_19 (Nat.le_of_ble_eq_true rfl) dX6_shortestBut_50 rfl ?_
          refine gN_X0_now (q := 56) wG_X6_104 (Nat.le_of_ble_eq_true rfl) dX6_shortestBut_53 rfl ?_
          refine j_aload_n (q := 57) (i := 0) (n := 0) dX6_shortestBut_56 rfl rfl rfl ?_
          refine g_X6_plan (q := 60) wF_X6_48 (Nat.le_of_ble_eq_true rfl) dX6_shortestBut_57 rfl ?_
          refine j_gd (fun hp3 => ?_)
          refine j_iload (q := 62) (i := 4) (n := 4) dX6_shortestBut_60 rfl rfl ?_
          refine j_ci (q := 65) (rn_V (R := rm_X6_shortestBut) (As := [.ref (za z 73 (gn g 0)), .int x4]) (rest := []) (c_X2_leftOf _ z gm g 0 (Nat.le_of_ble_eq_true rfl) (gn g 0) hp3 x4) cv_X2_leftOf wM_X6_119 ⟨rfl, rfl⟩ ⟨(Nat.le_of_ble_eq_true rfl), (Nat.le_of_ble_eq_true rfl)⟩ (Nat.le_of_ble_eq_true rfl) rfl rfl rfl (Nat.le_of_ble_eq_true rfl) dX6_shortestBut_62) rfl (fun r4 => ?_)
          refine j_istore (q := 67) (n := 5) (lv' := [(5, .int r4), (0, .ref (za z 76 0)), (1, .int a0), (2, .int x2), (3, .int x3), (4, .int x4)]) dX6_shortestBut_65 (Nat.le_of_ble_eq_true rfl) rfl rfl ?_
          refine j_iload_n (q := 68) (i := 3) (n := 2) dX6_shortestBut_67 rfl rfl rfl ?_
          refine j_bipush (q := 70) (v := (-9)) dX6_shortestBut_68 rfl rfl ?_
          refine j_icmp_eq (tgt := 79) (q := 73) dX6_shortestBut_70 rfl rfl ?_ ?_
          · refine j_lv [1, 2, 5, 0] (lv' := [(0, .ref (za z 76 0)), (1, .int a0), (4, .int x4), (5, .int r4)]) rfl ?_
            exact t_X6_shortestBut_B79 z gm a0 g (m_X6_shortestBut_L8 a0 g f) ih x4 r4
          · refine j_iload (q := 75) (i := 0) (n := 5) dX6_shortestBut_73 rfl rfl ?_
            refine j_iload_n (q := 76) (i := 4) (n := 3) dX6_shortestBut_75 rfl rfl rfl ?_
            refine j_icmp_ge (tgt := 85) (q := 79) dX6_shortestBut_76 rfl rfl ?_ ?_
            · refine j_lv [1, 2, 3, 4, 5] (lv' := [(0, .ref (za z 76 0)), (1, .int a0), (2, .int x2), (3, .int x3), (4, .int x4)]) rfl ?_
              exact t_X6_shortestBut_B85 z gm a0 g (m_X6_shortestBut_L8 a0 g f) ih x2 x3 x4
            · refine j_lv [1, 2, 5, 0] (lv' := [(0, .ref (za z 76 0)), (1, .int a0), (4, .int x4), (5, .int r4)]) rfl ?_
              exact t_X6_shortestBut_B79 z gm a0 g (m_X6_shortestBut_L8 a0 g f) ih x4 r4
        · refine j_goto (tgt := 85) dX6_shortestBut_46 rfl ?_
          exact t_X6_shortestBut_B85 z gm a0 g (m_X6_shortestBut_L8 a0 g f) ih x2 x3 x4
def m_X6_shortestBut (g : zG) (a0 : Int32) : Option (Int32) := m_X6_shortestBut_L8 a0 g FU (-9) (nI 0) (nI 0)
set_option maxRecDepth 100000 in
set_option maxHeartbeats 4000000 in
theorem c_X6_shortestBut (l : Launch) (z : zE) (gm : zG) (g : zG) (a0 : Int32) : ∀ x, m_X6_shortestBut g a0 = some x → Ms dm l yX6_shortestBut cX6_shortestBut 6 (some .int) rm_X6_shortestBut z [.ref (za z 76 0), .int a0] ((wx z gm) g) (oi x) ((wx z gm) ((fun _ => g) x)) := by
  refine ms_of (Wf := (wx z gm)) (ri := .ireturn) (out := oi) (nxt := (fun _ => g)) (ok := (fun _ => True)) (lv := [(0, .ref (za z 76 0)), (1, .int a0)]) (by decide) ⟨rfl, rfl⟩ (Nat.le_of_ble_eq_true rfl) rfl (en_i (out := fun x => x)) (fun p e s m below meth c => ?_)
  refine j_eq (M2 := m_X6_shortestBut_L8 a0 g FU (-9) (nI 0) (nI 0)) rfl ?_
  refine j_bipush (q := 2) (v := (-9)) dX6_shortestBut_0 rfl rfl ?_
  refine j_istore_n (q := 3) (n := 2) (lv' := [(2, .int (-9)), (0, .ref (za z 76 0)), (1, .int a0)]) dX6_shortestBut_2 rfl (Nat.le_of_ble_eq_true rfl) rfl rfl ?_
  refine j_iconst (q := 4) (v := (nI 0)) dX6_shortestBut_3 rfl rfl ?_
  refine j_istore_n (q := 5) (n := 3) (lv' := [(3, .int (nI 0)), (2, .int (-9)), (0, .ref (za z 76 0)), (1, .int a0)]) dX6_shortestBut_4 rfl (Nat.le_of_ble_eq_true rfl) rfl rfl ?_
  refine j_iconst (q := 6) (v := (nI 0)) dX6_shortestBut_5 rfl rfl ?_
  refine j_istore (q := 8) (n := 4) (lv' := [(4, .int (nI 0)), (3, .int (nI 0)), (2, .int (-9)), (0, .ref (za z 76 0)), (1, .int a0)]) dX6_shortestBut_6 (Nat.le_of_ble_eq_true rfl) rfl rfl ?_
  refine j_lv [3, 4, 2, 1, 0] (lv' := [(0, .ref (za z 76 0)), (1, .int a0), (2, .int (-9)), (3, .int (nI 0)), (4, .int (nI 0))]) rfl ?_
  exact t_X6_shortestBut_L8 z gm a0 g FU (-9) (nI 0) (nI 0)
-- CopierJobs.endsIn(I)I
abbrev rm_X6_endsIn : Room := { frames := 5, cells := 0, slots := 0, locals := 112 }
theorem cv_X6_endsIn : CV yX6_endsIn cX6_endsIn 3 (some .int) 1 := ⟨wC_X6_endsIn, wI_X6_endsIn, wS_X6_endsIn, wZ_X6, by decide +kernel⟩
def m_X6_endsIn_L35 (a0 : Int32) : Nat → zG → Int32 → Option (Int32 × zG)
  | 0, _, _ => none
  | f + 1, g, x2 => if (nI 400) < x2 then some ((-9), g) else gd (gn g 0 < dm 73) ((m_X2_whyStands g 33 (gn g 0)).bind fun r4 => if r4 = (nI 0) then gd (gn g 0 < dm 73) (sb (m_X2_passTick g 33 (gn g 0)) fun r6 g7 => (m_X2_placeOf g7 33 a0).bind fun r9 => if r9 = (-9) then some (x2, g7) else m_X6_endsIn_L35 a0 f g7 (x2 + (nI 1))) else some ((-9), g))
set_option maxRecDepth 100000 in
set_option maxHeartbeats 4000000 in
theorem t_X6_endsIn_L35 {p : Program} {l : Launch} {e : Env} {s : State} {m : MethodId} {args : Array Value} {below : List Frame} {meth : Method} {c : Code} {cells slots : Nat} {Q : (Int32 × zG) → State → Prop} (z : zE) (gm : zG) (a0 : Int32) : ∀ (f : Nat) (g : zG) (x2 : Int32), zJ dm p l e rm_X6_endsIn s m args below meth c cX6_endsIn 3 yX6_endsIn.cls z cells slots (wx z gm) (fn (fun _ => True) (fun x => x.2) osi) .ireturn Q 35 [(0, .ref (za z 76 0)), (1, .int a0), (2, .int x2)] [] g (m_X6_endsIn_L35 a0 f g x2) := by
  intro f
  induction f with
  | zero => intro g x2; exact j_none
  | succ f ih =>
    intro g x2
    refine j_eq (M2 := if (nI 400) < x2 then some ((-9), g) else gd (gn g 0 < dm 73) ((m_X2_whyStands g 33 (gn g 0)).bind fun r4 => if r4 = (nI 0) then gd (gn g 0 < dm 73) (sb (m_X2_passTick g 33 (gn g 0)) fun r6 g7 => (m_X2_placeOf g7 33 a0).bind fun r9 => if r9 = (-9) then some (x2, g7) else m_X6_endsIn_L35 a0 f g7 (x2 + (nI 1))) else some ((-9), g))) rfl ?_
    refine j_iload_n (q := 36) (i := 2) (n := 2) dX6_endsIn_35 rfl rfl rfl ?_
    refine j_sipush (q := 39) (v := (nI 400)) dX6_endsIn_36 rfl rfl ?_
    refine j_icmp_gt (tgt := 92) (q := 42) dX6_endsIn_39 rfl rfl ?_ ?_
    · refine j_bipush (q := 94) (v := (-9)) dX6_endsIn_92 rfl rfl ?_
      exact j_ret (x := ((-9), g)) dX6_endsIn_94 ⟨trivial, rfl, rfl⟩
    · refine j_aload_n (q := 43) (i := 0) (n := 0) dX6_endsIn_42 rfl rfl rfl ?_
      refine g_X6_trial (q := 46) wF_X6_26 (Nat.le_of_ble_eq_true rfl) dX6_endsIn_43 rfl ?_
      refine j_aload_n (q := 47) (i := 0) (n := 0) dX6_endsIn_46 rfl rfl rfl ?_
      refine g_X6_plan (q := 50) wF_X6_48 (Nat.le_of_ble_eq_true rfl) dX6_endsIn_47 rfl ?_
      refine j_gd (fun hp3 => ?_)
      refine j_ci (q := 53) (rn_V (R := rm_X6_endsIn) (As := [.ref (za z 73 (gn g 0))]) (rest := []) (c_X2_whyStands _ z gm g 33 (Nat.le_of_ble_eq_true rfl) (gn g 0) hp3) cv_X2_whyStands wM_X6_205 ⟨rfl, rfl⟩ ⟨(Nat.le_of_ble_eq_true rfl), (Nat.le_of_ble_eq_true rfl)⟩ (Nat.le_of_ble_eq_true rfl) rfl rfl rfl (Nat.le_of_ble_eq_true rfl) dX6_endsIn_50) rfl (fun r4 => ?_)
      refine j_if_eq (tgt := 59) (q := 56) dX6_endsIn_53 rfl rfl ?_ ?_
      · refine j_aload_n (q := 60) (i := 0) (n := 0) dX6_endsIn_59 rfl rfl rfl ?_
        refine g_X6_trial (q := 63) wF_X6_26 (Nat.le_of_ble_eq_true rfl) dX6_endsIn_60 rfl ?_
        refine j_aload_n (q := 64) (i := 0) (n := 0) dX6_endsIn_63 rfl rfl rfl ?_
        refine g_X6_plan (q := 67) wF_X6_48 (Nat.le_of_ble_eq_true rfl) dX6_endsIn_64 rfl ?_
        refine j_gd (fun hp5 => ?_)
        refine j_ss (q := 70) (rn_V (R := rm_X6_endsIn) (As := [.ref (za z 73 (gn g 0))]) (rest := []) (c_X2_passTick _ z gm g 33 (Nat.le_of_ble_eq_true rfl) (gn g 0) hp5) cv_X2_passTick wM_X6_170 ⟨rfl, rfl⟩ ⟨(Nat.le_of_ble_eq_true rfl), (Nat.le_of_ble_eq_true rfl)⟩ (Nat.le_of_ble_eq_true rfl) rfl rfl rfl (Nat.le_of_ble_eq_true rfl) dX6_endsIn_67) rfl (fun r6 g7 => ?_)
        refine j_pop (q := 71) dX6_endsIn_70 rfl rfl ?_
        refine j_aload_n (q := 72) (i := 0) (n := 0) dX6_endsIn_71 rfl rfl rfl ?_
        refine g_X6_trial (q := 75) wF_X6_26 (Nat.le_of_ble_eq_true rfl) dX6_endsIn_72 rfl ?_
        refine j_iload_n (q := 76) (i := 1) (n := 1) dX6_endsIn_75 rfl rfl rfl ?_
        refine j_ci (q := 79) (rn_V (R := rm_X6_endsIn) (As := [.int a0]) (rest := []) (c_X2_placeOf _ z gm g7 33 (Nat.le_of_ble_eq_true rfl) a0) cv_X2_placeOf wM_X6_110 ⟨rfl, rfl⟩ ⟨(Nat.le_of_ble_eq_true rfl), (Nat.le_of_ble_eq_true rfl)⟩ (Nat.le_of_ble_eq_true rfl) rfl rfl rfl (Nat.le_of_ble_eq_true rfl) dX6_endsIn_76) rfl (fun r9 => ?_)
        refine j_bipush (q := 81) (v := (-9)) dX6_endsIn_79 rfl rfl ?_
        refine j_icmp_ne (tgt := 86) (q := 84) dX6_endsIn_81 rfl rfl ?_ ?_
        · refine j_iinc (q := 89) (n := 2) (i := 2) (v := x2 + (nI 1)) (lv' := [(2, .int (x2 + (nI 1))), (0, .ref (za z 76 0)), (1, .int a0)]) dX6_endsIn_86 rfl rfl (Nat.le_of_ble_eq_true rfl) rfl rfl ?_
          refine j_goto (tgt := 35) dX6_endsIn_89 rfl ?_
          refine j_lv [1, 2, 0] (lv' := [(0, .ref (za z 76 0)), (1, .int a0), (2, .int (x2 + (nI 1)))]) rfl ?_
          exact ih g7 (x2 + (nI 1))
        · refine j_iload_n (q := 85) (i := 2) (n := 2) dX6_endsIn_84 rfl rfl rfl ?_
          exact j_ret (x := (x2, g7)) dX6_endsIn_85 ⟨trivial, rfl, rfl⟩
      · refine j_bipush (q := 58) (v := (-9)) dX6_endsIn_56 rfl rfl ?_
        exact j_ret (x := ((-9), g)) dX6_endsIn_58 ⟨trivial, rfl, rfl⟩
def m_X6_endsIn (g : zG) (a0 : Int32) : Option (Int32 × zG) := (m_X2_placeOf g 0 a0).bind fun r1 => if r1 = (-9) then some ((-9), g) else (m_X2_copyFrom g 33 0).bind fun g2 => m_X6_endsIn_L35 a0 FU g2 (nI 1)
set_option maxRecDepth 100000 in
set_option maxHeartbeats 4000000 in
theorem c_X6_endsIn (l : Launch) (z : zE) (gm : zG) (g : zG) (a0 : Int32) : ∀ x, m_X6_endsIn g a0 = some x → Ms dm l yX6_endsIn cX6_endsIn 3 (some .int) rm_X6_endsIn z [.ref (za z 76 0), .int a0] ((wx z gm) g) (osi x) ((wx z gm) ((fun x => x.2) x)) := by
  refine ms_of (Wf := (wx z gm)) (ri := .ireturn) (out := osi) (nxt := (fun x => x.2)) (ok := (fun _ => True)) (lv := [(0, .ref (za z 76 0)), (1, .int a0)]) (by decide) ⟨rfl, rfl⟩ (Nat.le_of_ble_eq_true rfl) rfl (en_i (out := fun x : Int32 × zG => x.1)) (fun p e s m below meth c => ?_)
  refine j_eq (M2 := (m_X2_placeOf g 0 a0).bind fun r1 => if r1 = (-9) then some ((-9), g) else (m_X2_copyFrom g 33 0).bind fun g2 => m_X6_endsIn_L35 a0 FU g2 (nI 1)) rfl ?_
  refine j_aload_n (q := 1) (i := 0) (n := 0) dX6_endsIn_0 rfl rfl rfl ?_
  refine g_X6_course (q := 4) wF_X6_19 (Nat.le_of_ble_eq_true rfl) dX6_endsIn_1 rfl ?_
  refine gN_X0_now (q := 7) wG_X6_104 (Nat.le_of_ble_eq_true rfl) dX6_endsIn_4 rfl ?_
  refine j_iload_n (q := 8) (i := 1) (n := 1) dX6_endsIn_7 rfl rfl rfl ?_
  refine j_ci (q := 11) (rn_V (R := rm_X6_endsIn) (As := [.int a0]) (rest := []) (c_X2_placeOf _ z gm g 0 (Nat.le_of_ble_eq_true rfl) a0) cv_X2_placeOf wM_X6_110 ⟨rfl, rfl⟩ ⟨(Nat.le_of_ble_eq_true rfl), (Nat.le_of_ble_eq_true rfl)⟩ (Nat.le_of_ble_eq_true rfl) rfl rfl rfl (Nat.le_of_ble_eq_true rfl) dX6_endsIn_8) rfl (fun r1 => ?_)
  refine j_bipush (q := 13) (v := (-9)) dX6_endsIn_11 rfl rfl ?_
  refine j_icmp_ne (tgt := 19) (q := 16) dX6_endsIn_13 rfl rfl ?_ ?_
  · refine j_aload_n (q := 20) (i := 0) (n := 0) dX6_endsIn_19 rfl rfl rfl ?_
    refine g_X6_trial (q := 23) wF_X6_26 (Nat.le_of_ble_eq_true rfl) dX6_endsIn_20 rfl ?_
    refine j_aload_n (q := 24) (i := 0) (n := 0) dX6_endsIn_23 rfl rfl rfl ?_
    refine g_X6_course (q := 27) wF_X6_19 (Nat.le_of_ble_eq_true rfl) dX6_endsIn_24 rfl ?_
    refine gN_X0_now (q := 30) wG_X6_104 (Nat.le_of_ble_eq_true rfl) dX6_endsIn_27 rfl ?_
    refine j_sv (q := 33) (rn_V (R := rm_X6_endsIn) (As := [.ref (za z 72 0)]) (rest := []) (c_X2_copyFrom _ z gm g 33 (Nat.le_of_ble_eq_true rfl) 0 (Nat.le_of_ble_eq_true rfl)) cv_X2_copyFrom wM_X6_279 ⟨rfl, rfl⟩ ⟨(Nat.le_of_ble_eq_true rfl), (Nat.le_of_ble_eq_true rfl)⟩ (Nat.le_of_ble_eq_true rfl) rfl rfl rfl (Nat.le_of_ble_eq_true rfl) dX6_endsIn_30) rfl (fun g2 => ?_)
    refine j_iconst (q := 34) (v := (nI 1)) dX6_endsIn_33 rfl rfl ?_
    refine j_istore_n (q := 35) (n := 2) (lv' := [(2, .int (nI 1)), (0, .ref (za z 76 0)), (1, .int a0)]) dX6_endsIn_34 rfl (Nat.le_of_ble_eq_true rfl) rfl rfl ?_
    refine j_lv [1, 2, 0] (lv' := [(0, .ref (za z 76 0)), (1, .int a0), (2, .int (nI 1))]) rfl ?_
    exact t_X6_endsIn_L35 z gm a0 FU g2 (nI 1)
  · refine j_bipush (q := 18) (v := (-9)) dX6_endsIn_16 rfl rfl ?_
    exact j_ret (x := ((-9), g)) dX6_endsIn_18 ⟨trivial, rfl, rfl⟩
-- CopierJobs.worthAs(ILCopierJobs$Job;II)I
abbrev rm_X6_worthAs (f : Nat) : Room := { frames := f + 2, cells := 0, slots := 0, locals := f * 25 + 42 }
theorem cv_X6_worthAs : CV yX6_worthAs cX6_worthAs 6 (some .int) 4 := ⟨wC_X6_worthAs, wI_X6_worthAs, wS_X6_worthAs, wZ_X6, by decide +kernel⟩
def m_X6_worthAs : Nat → zG → Int32 → Nat → Int32 → Int32 → Option (Int32 × zG)
  | 0, _, _, _, _, _ => none
  | f + 1, g, a0, j0, a2, a3 => if a3 < (nI 6) then if a0 < (nI 0) then some ((nI 0), g) else if a0 < (nI 6) then (m_X6_at g 209 0 a0).bind fun r1 => bd (ul g 0 ((gl g 0) + (Int32.toInt64 r1))) fun g2 => if a0 = (nI 0) then some (gi g2 20 j0 0, g2) else gd (inb a0 (ln 208) = true) (sb (m_X6_worthAs f g2 (sc 208 a0.toNatClampNeg) j0 a2 (a3 + (nI 1))) fun r3 g4 => if a0 = (nI 1) then (some (r3 + (gi g4 21 j0 0), g4)) else if a0 = (nI 2) then ((m_X2_madeOf g4 0 a2).bind fun r7 => some (r3 - r7, g4)) else if a0 = (nI 3) then (some (r3 * (nI 2), g4)) else if a0 = (nI 4) then (some (r3 + a2, g4)) else if a0 = (nI 5) then (some (r3 + (gi g4 0 0 0), g4)) else (some (r3, g4))) else some ((nI 0), g) else some ((nI 0), g)
set_option maxRecDepth 100000 in
set_option maxHeartbeats 4000000 in
theorem c_X6_worthAs (l : Launch) (f : Nat) (z : zE) (gm : zG) : ∀ (g : zG) (a0 : Int32) (j0 : Nat) (hj0 : j0 < dm 71) (a2 : Int32) (a3 : Int32), ∀ x, m_X6_worthAs f g a0 j0 a2 a3 = some x → Ms dm l yX6_worthAs cX6_worthAs 6 (some .int) (rm_X6_worthAs f) z [.ref (za z 76 0), .int a0, .ref (za z 71 j0), .int a2, .int a3] ((wx z gm) g) (osi x) ((wx z gm) ((fun x => x.2) x)) := by
  induction f with
  | zero => intro g a0 j0 hj0 a2 a3 x h; cases h
  | succ f ih =>
  intro g a0 j0 hj0 a2 a3
  refine ms_of (Wf := (wx z gm)) (ri := .ireturn) (out := osi) (nxt := (fun x => x.2)) (ok := (fun _ => True)) (lv := [(0, .ref (za z 76 0)), (1, .int a0), (2, .ref (za z 71 j0)), (3, .int a2), (4, .int a3)]) (by decide) ⟨rfl, rfl⟩ (Nat.le_of_ble_eq_true rfl) rfl (en_i (out := fun x : Int32 × zG => x.1)) (fun p e s m below meth c => ?_)
  refine j_eq (M2 := if a3 < (nI 6) then if a0 < (nI 0) then some ((nI 0), g) else if a0 < (nI 6) then (m_X6_at g 209 0 a0).bind fun r1 => bd (ul g 0 ((gl g 0) + (Int32.toInt64 r1))) fun g2 => if a0 = (nI 0) then some (gi g2 20 j0 0, g2) else gd (inb a0 (ln 208) = true) (sb (m_X6_worthAs f g2 (sc 208 a0.toNatClampNeg) j0 a2 (a3 + (nI 1))) fun r3 g4 => if a0 = (nI 1) then (some (r3 + (gi g4 21 j0 0), g4)) else if a0 = (nI 2) then ((m_X2_madeOf g4 0 a2).bind fun r7 => some (r3 - r7, g4)) else if a0 = (nI 3) then (some (r3 * (nI 2), g4)) else if a0 = (nI 4) then (some (r3 + a2, g4)) else if a0 = (nI 5) then (some (r3 + (gi g4 0 0 0), g4)) else (some (r3, g4))) else some ((nI 0), g) else some ((nI 0), g)) rfl ?_
  refine j_iload (q := 2) (i := 4) (n := 4) dX6_worthAs_0 rfl rfl ?_
  refine j_gets (k := 208) (q := 5) (by decide) (by decide) wF_X6_251 dX6_worthAs_2 rfl ?_
  refine j_slen (k := 208) (v := nI 6) (q := 6) (by decide) (by decide) rfl dX6_worthAs_5 rfl ?_
  refine j_icmp_ge (tgt := 21) (q := 9) dX6_worthAs_6 rfl rfl ?_ ?_
  · refine j_iconst (q := 22) (v := (nI 0)) dX6_worthAs_21 rfl rfl ?_
    exact j_ret (x := ((nI 0), g)) dX6_worthAs_22 ⟨trivial, rfl, rfl⟩
  · refine j_iload_n (q := 10) (i := 1) (n := 1) dX6_worthAs_9 rfl rfl rfl ?_
    refine j_if_lt (tgt := 21) (q := 13) dX6_worthAs_10 rfl rfl ?_ ?_
    · refine j_iconst (q := 22) (v := (nI 0)) dX6_worthAs_21 rfl rfl ?_
      exact j_ret (x := ((nI 0), g)) dX6_worthAs_22 ⟨trivial, rfl, rfl⟩
    · refine j_iload_n (q := 14) (i := 1) (n := 1) dX6_worthAs_13 rfl rfl rfl ?_
      refine j_gets (k := 208) (q := 17) (by decide) (by decide) wF_X6_251 dX6_worthAs_14 rfl ?_
      refine j_slen (k := 208) (v := nI 6) (q := 18) (by decide) (by decide) rfl dX6_worthAs_17 rfl ?_
      refine j_icmp_lt (tgt := 23) (q := 21) dX6_worthAs_18 rfl rfl ?_ ?_
      · refine j_aload_n (q := 24) (i := 0) (n := 0) dX6_worthAs_23 rfl rfl rfl ?_
        refine j_dup (q := 25) dX6_worthAs_24 rfl rfl ?_
        refine g_X6_traced (q := 28) wF_X6_275 (Nat.le_of_ble_eq_true rfl) dX6_worthAs_25 rfl ?_
        refine j_gets (k := 209) (q := 31) (by decide) (by decide) wF_X6_282 dX6_worthAs_28 rfl ?_
        refine j_iload_n (q := 32) (i := 1) (n := 1) dX6_worthAs_31 rfl rfl rfl ?_
        refine j_ci (q := 35) (rn_S (R := (rm_X6_worthAs (f + 1))) (As := [.ref (za z 209 0), .int a0]) (rest := [.long (gl g 0), .ref (za z 76 0)]) (c_X6_at _ z gm g 209 0 (Or.inr ⟨by decide, by decide, rfl⟩) a0) cv_X6_at wM_X6_151 ⟨rfl, rfl⟩ (by simp only [rm_X6_worthAs, rm_X6_at]; omega) rfl (Nat.le_of_ble_eq_true rfl) dX6_worthAs_32) rfl (fun r1 => ?_)
        refine j_i2l (q := 36) dX6_worthAs_35 rfl ?_
        refine j_ladd (q := 37) dX6_worthAs_36 rfl ?_
        refine p_X6_traced (q := 40) dm_le wF_X6_275 (Nat.le_of_ble_eq_true rfl) dX6_worthAs_37 rfl (fun g2 => ?_)
        refine j_iload_n (q := 41) (i := 1) (n := 1) dX6_worthAs_40 rfl rfl rfl ?_
        refine j_if_ne (tgt := 49) (q := 44) dX6_worthAs_41 rfl rfl ?_ ?_
        · refine j_aload_n (q := 50) (i := 0) (n := 0) dX6_worthAs_49 rfl rfl rfl ?_
          refine j_gets (k := 208) (q := 53) (by decide) (by decide) wF_X6_251 dX6_worthAs_50 rfl ?_
          refine j_iload_n (q := 54) (i := 1) (n := 1) dX6_worthAs_53 rfl rfl rfl ?_
          refine j_sld (k := 208) (q := 55) (by decide) (by decide) dX6_worthAs_54 rfl ?_
          refine j_aload_n (q := 56) (i := 2) (n := 2) dX6_worthAs_55 rfl rfl rfl ?_
          refine j_iload_n (q := 57) (i := 3) (n := 3) dX6_worthAs_56 rfl rfl rfl ?_
          refine j_iload (q := 59) (i := 4) (n := 4) dX6_worthAs_57 rfl rfl ?_
          refine j_iconst (q := 60) (v := (nI 1)) dX6_worthAs_59 rfl rfl ?_
          refine j_iadd (q := 61) dX6_worthAs_60 rfl ?_
          refine j_ss (q := 64) (rn_V (R := (rm_X6_worthAs (f + 1))) (As := [.int (sc 208 a0.toNatClampNeg), .ref (za z 71 j0), .int a2, .int (a3 + (nI 1))]) (rest := []) (ih g2 (sc 208 a0.toNatClampNeg) j0 hj0 a2 (a3 + (nI 1))) cv_X6_worthAs wM_X6_255 ⟨rfl, rfl⟩ (by simp only [rm_X6_worthAs, rm_X6_worthAs]; omega) (Nat.le_of_ble_eq_true rfl) rfl rfl rfl (Nat.le_of_ble_eq_true rfl) dX6_worthAs_61) rfl (fun r3 g4 => ?_)
          refine j_istore (q := 66) (n := 5) (lv' := [(5, .int r3), (0, .ref (za z 76 0)), (1, .int a0), (2, .ref (za z 71 j0)), (3, .int a2), (4, .int a3)]) dX6_worthAs_64 (Nat.le_of_ble_eq_true rfl) rfl rfl ?_
          refine j_iload_n (q := 67) (i := 2) (n := 1) dX6_worthAs_66 rfl rfl rfl ?_
          refine j_case (v := (nI 1)) ?_ (fun h6 => ?_)
          · refine j_tableIn (tgt := 100) dX6_worthAs_67 (by decide) (by decide) rfl rfl ?_
            refine j_iload (q := 102) (i := 0) (n := 5) dX6_worthAs_100 rfl rfl ?_
            refine j_aload_n (q := 103) (i := 3) (n := 2) dX6_worthAs_102 rfl rfl rfl ?_
            refine gN_X1_copies (q := 106) wG_X6_88 hj0 dX6_worthAs_103 rfl ?_
            refine j_iadd (q := 107) dX6_worthAs_106 rfl ?_
            exact j_ret (x := (r3 + (gi g4 21 j0 0), g4)) dX6_worthAs_107 ⟨trivial, rfl, rfl⟩
          refine j_case (v := (nI 2)) ?_ (fun h8 => ?_)
          · refine j_tableIn (tgt := 108) dX6_worthAs_67 (by decide) (by decide) rfl rfl ?_
            refine j_iload (q := 110) (i := 0) (n := 5) dX6_worthAs_108 rfl rfl ?_
            refine j_aload_n (q := 111) (i := 1) (n := 0) dX6_worthAs_110 rfl rfl rfl ?_
            refine g_X6_course (q := 114) wF_X6_19 (Nat.le_of_ble_eq_true rfl) dX6_worthAs_111 rfl ?_
            refine gN_X0_now (q := 117) wG_X6_104 (Nat.le_of_ble_eq_true rfl) dX6_worthAs_114 rfl ?_
            refine j_iload_n (q := 118) (i := 4) (n := 3) dX6_worthAs_117 rfl rfl rfl ?_
            refine j_ci (q := 121) (rn_V (R := (rm_X6_worthAs (f + 1))) (As := [.int a2]) (rest := [.int r3]) (c_X2_madeOf _ z gm g4 0 (Nat.le_of_ble_eq_true rfl) a2) cv_X2_madeOf wM_X6_107 ⟨rfl, rfl⟩ (by simp only [rm_X6_worthAs, rm_X2_madeOf]; omega) (Nat.le_of_ble_eq_true rfl) rfl rfl rfl (Nat.le_of_ble_eq_true rfl) dX6_worthAs_118) rfl (fun r7 => ?_)
            refine j_isub (q := 122) dX6_worthAs_121 rfl ?_
            exact j_ret (x := (r3 - r7, g4)) dX6_worthAs_122 ⟨trivial, rfl, rfl⟩
          refine j_case (v := (nI 3)) ?_ (fun h9 => ?_)
          · refine j_tableIn (tgt := 123) dX6_worthAs_67 (by decide) (by decide) rfl rfl ?_
            refine j_iload (q := 125) (i := 0) (n := 5) dX6_worthAs_123 rfl rfl ?_
            refine j_iconst (q := 126) (v := (nI 2)) dX6_worthAs_125 rfl rfl ?_
            refine j_imul (q := 127) dX6_worthAs_126 rfl ?_
            exact j_ret (x := (r3 * (nI 2), g4)) dX6_worthAs_127 ⟨trivial, rfl, rfl⟩
          refine j_case (v := (nI 4)) ?_ (fun h10 => ?_)
          · refine j_tableIn (tgt := 128) dX6_worthAs_67 (by decide) (by decide) rfl rfl ?_
            refine j_iload (q := 130) (i := 0) (n := 5) dX6_worthAs_128 rfl rfl ?_
            refine j_iload_n (q := 131) (i := 4) (n := 3) dX6_worthAs_130 rfl rfl rfl ?_
            refine j_iadd (q := 132) dX6_worthAs_131 rfl ?_
            exact j_ret (x := (r3 + a2, g4)) dX6_worthAs_132 ⟨trivial, rfl, rfl⟩
          refine j_case (v := (nI 5)) ?_ (fun h11 => ?_)
          · refine j_tableIn (tgt := 133) dX6_worthAs_67 (by decide) (by decide) rfl rfl ?_
            refine j_iload (q := 135) (i := 0) (n := 5) dX6_worthAs_133 rfl rfl ?_
            refine j_aload_n (q := 136) (i := 1) (n := 0) dX6_worthAs_135 rfl rfl rfl ?_
            refine g_X6_course (q := 139) wF_X6_19 (Nat.le_of_ble_eq_true rfl) dX6_worthAs_136 rfl ?_
            refine gN_X0_now (q := 142) wG_X6_104 (Nat.le_of_ble_eq_true rfl) dX6_worthAs_139 rfl ?_
            refine gN_X2_tick (q := 145) wG_X6_164 (Nat.le_of_ble_eq_true rfl) dX6_worthAs_142 rfl ?_
            refine j_iadd (q := 146) dX6_worthAs_145 rfl ?_
            exact j_ret (x := (r3 + (gi g4 0 0 0), g4)) dX6_worthAs_146 ⟨trivial, rfl, rfl⟩
          refine j_tableOut (tgt := 147) dX6_worthAs_67 (by have e0 := q_ne (n := 1) h6 rfl; have e1 := q_ne (n := 2) h8 rfl; have e2 := q_ne (n := 3) h9 rfl; have e3 := q_ne (n := 4) h10 rfl; have e4 := q_ne (n := 5) h11 rfl; omega) rfl ?_
          refine j_iload (q := 149) (i := 0) (n := 5) dX6_worthAs_147 rfl rfl ?_
          exact j_ret (x := (r3, g4)) dX6_worthAs_149 ⟨trivial, rfl, rfl⟩
        · refine j_aload_n (q := 45) (i := 2) (n := 2) dX6_worthAs_44 rfl rfl rfl ?_
          refine gN_X1_pages (q := 48) wG_X6_82 hj0 dX6_worthAs_45 rfl ?_
          exact j_ret (x := (gi g2 20 j0 0, g2)) dX6_worthAs_48 ⟨trivial, rfl, rfl⟩
      · refine j_iconst (q := 22) (v := (nI 0)) dX6_worthAs_21 rfl rfl ?_
        exact j_ret (x := ((nI 0), g)) dX6_worthAs_22 ⟨trivial, rfl, rfl⟩
-- CopierJobs.type(I)I
abbrev rm_X6_type : Room := { frames := 2, cells := 0, slots := 0, locals := 43 }
theorem cv_X6_type : CV yX6_type cX6_type 2 (some .int) 1 := ⟨wC_X6_type, wI_X6_type, wS_X6_type, wZ_X6, by decide +kernel⟩
def m_X6_type (g : zG) (a0 : Int32) : Option (Int32 × zG) := if a0 < (nI 0) then some ((-1), g) else if (nI 255) < a0 then some ((-1), g) else (m_X5_isFull g).bind fun r1 => if r1 = (nI 0) then sb (m_X5_add g a0) fun r2 g3 => some (r2, g3) else some ((-3), g)
set_option maxRecDepth 100000 in
set_option maxHeartbeats 4000000 in
theorem c_X6_type (l : Launch) (z : zE) (gm : zG) (g : zG) (a0 : Int32) : ∀ x, m_X6_type g a0 = some x → Ms dm l yX6_type cX6_type 2 (some .int) rm_X6_type z [.ref (za z 76 0), .int a0] ((wx z gm) g) (osi x) ((wx z gm) ((fun x => x.2) x)) := by
  refine ms_of (Wf := (wx z gm)) (ri := .ireturn) (out := osi) (nxt := (fun x => x.2)) (ok := (fun _ => True)) (lv := [(0, .ref (za z 76 0)), (1, .int a0)]) (by decide) ⟨rfl, rfl⟩ (Nat.le_of_ble_eq_true rfl) rfl (en_i (out := fun x : Int32 × zG => x.1)) (fun p e s m below meth c => ?_)
  refine j_eq (M2 := if a0 < (nI 0) then some ((-1), g) else if (nI 255) < a0 then some ((-1), g) else (m_X5_isFull g).bind fun r1 => if r1 = (nI 0) then sb (m_X5_add g a0) fun r2 g3 => some (r2, g3) else some ((-3), g)) rfl ?_
  refine j_iload_n (q := 1) (i := 1) (n := 1) dX6_type_0 rfl rfl rfl ?_
  refine j_if_lt (tgt := 11) (q := 4) dX6_type_1 rfl rfl ?_ ?_
  · refine j_iconst (q := 12) (v := (-1)) dX6_type_11 rfl rfl ?_
    exact j_ret (x := ((-1), g)) dX6_type_12 ⟨trivial, rfl, rfl⟩
  · refine j_iload_n (q := 5) (i := 1) (n := 1) dX6_type_4 rfl rfl rfl ?_
    refine j_sipush (q := 8) (v := (nI 255)) dX6_type_5 rfl rfl ?_
    refine j_icmp_le (tgt := 13) (q := 11) dX6_type_8 rfl rfl ?_ ?_
    · refine j_aload_n (q := 14) (i := 0) (n := 0) dX6_type_13 rfl rfl rfl ?_
      refine g_X6_text (q := 17) wF_X6_10 (Nat.le_of_ble_eq_true rfl) dX6_type_14 rfl ?_
      refine j_ci (q := 20) (rn_V (R := rm_X6_type) (As := []) (rest := []) (c_X5_isFull _ z gm g) cv_X5_isFull wM_X6_59 ⟨rfl, rfl⟩ ⟨(Nat.le_of_ble_eq_true rfl), (Nat.le_of_ble_eq_true rfl)⟩ (Nat.le_of_ble_eq_true rfl) rfl rfl rfl (Nat.le_of_ble_eq_true rfl) dX6_type_17) rfl (fun r1 => ?_)
      refine j_if_eq (tgt := 28) (q := 23) dX6_type_20 rfl rfl ?_ ?_
      · refine j_aload_n (q := 29) (i := 0) (n := 0) dX6_type_28 rfl rfl rfl ?_
        refine g_X6_text (q := 32) wF_X6_10 (Nat.le_of_ble_eq_true rfl) dX6_type_29 rfl ?_
        refine j_iload_n (q := 33) (i := 1) (n := 1) dX6_type_32 rfl rfl rfl ?_
        refine j_ss (q := 36) (rn_V (R := rm_X6_type) (As := [.int a0]) (rest := []) (c_X5_add _ z gm g a0) cv_X5_add wM_X6_63 ⟨rfl, rfl⟩ ⟨(Nat.le_of_ble_eq_true rfl), (Nat.le_of_ble_eq_true rfl)⟩ (Nat.le_of_ble_eq_true rfl) rfl rfl rfl (Nat.le_of_ble_eq_true rfl) dX6_type_33) rfl (fun r2 g3 => ?_)
        exact j_ret (x := (r2, g3)) dX6_type_36 ⟨trivial, rfl, rfl⟩
      · refine j_bipush (q := 25) (v := (-3)) dX6_type_23 rfl rfl ?_
        refine j_goto (tgt := 36) dX6_type_25 rfl ?_
        exact j_ret (x := ((-3), g)) dX6_type_36 ⟨trivial, rfl, rfl⟩
    · refine j_iconst (q := 12) (v := (-1)) dX6_type_11 rfl rfl ?_
      exact j_ret (x := ((-1), g)) dX6_type_12 ⟨trivial, rfl, rfl⟩
-- CopierJobs.clear()I
abbrev rm_X6_clear : Room := { frames := 1, cells := 0, slots := 0, locals := 21 }
theorem cv_X6_clear : CV yX6_clear cX6_clear 1 (some .int) 0 := ⟨wC_X6_clear, wI_X6_clear, wS_X6_clear, wZ_X6, by decide +kernel⟩
def m_X6_clear (g : zG) : Option (Int32 × zG) := sb (m_X5_wipe g) fun r1 g2 => some (r1, g2)
set_option maxRecDepth 100000 in
set_option maxHeartbeats 4000000 in
theorem c_X6_clear (l : Launch) (z : zE) (gm : zG) (g : zG) : ∀ x, m_X6_clear g = some x → Ms dm l yX6_clear cX6_clear 1 (some .int) rm_X6_clear z [.ref (za z 76 0)] ((wx z gm) g) (osi x) ((wx z gm) ((fun x => x.2) x)) := by
  refine ms_of (Wf := (wx z gm)) (ri := .ireturn) (out := osi) (nxt := (fun x => x.2)) (ok := (fun _ => True)) (lv := [(0, .ref (za z 76 0))]) (by decide) ⟨rfl, rfl⟩ (Nat.le_of_ble_eq_true rfl) rfl (en_i (out := fun x : Int32 × zG => x.1)) (fun p e s m below meth c => ?_)
  refine j_eq (M2 := sb (m_X5_wipe g) fun r1 g2 => some (r1, g2)) rfl ?_
  refine j_aload_n (q := 1) (i := 0) (n := 0) dX6_clear_0 rfl rfl rfl ?_
  refine g_X6_text (q := 4) wF_X6_10 (Nat.le_of_ble_eq_true rfl) dX6_clear_1 rfl ?_
  refine j_ss (q := 7) (rn_V (R := rm_X6_clear) (As := []) (rest := []) (c_X5_wipe _ z gm g) cv_X5_wipe wM_X6_67 ⟨rfl, rfl⟩ ⟨(Nat.le_of_ble_eq_true rfl), (Nat.le_of_ble_eq_true rfl)⟩ (Nat.le_of_ble_eq_true rfl) rfl rfl rfl (Nat.le_of_ble_eq_true rfl) dX6_clear_4) rfl (fun r1 g2 => ?_)
  exact j_ret (x := (r1, g2)) dX6_clear_7 ⟨trivial, rfl, rfl⟩
-- CopierJobs.office()I
abbrev rm_X6_office : Room := { frames := 6, cells := 0, slots := 0, locals := 130 }
theorem cv_X6_office : CV yX6_office cX6_office 4 (some .int) 0 := ⟨wC_X6_office, wI_X6_office, wS_X6_office, wZ_X6, by decide +kernel⟩
def m_X6_office_L65 : Nat → zG → Int32 → Int32 → Option (Int32 × zG)
  | 0, _, _, _ => none
  | f + 1, g, x1, x3 => if x3 < (nI 2) then gd (inb x3 2 = true) (bd (ui g 60 0 x3.toNatClampNeg (nI 0)) fun g17 => m_X6_office_L65 f g17 x1 (x3 + (nI 1))) else some (x1, g)
set_option maxRecDepth 100000 in
set_option maxHeartbeats 4000000 in
theorem t_X6_office_L65 {p : Program} {l : Launch} {e : Env} {s : State} {m : MethodId} {args : Array Value} {below : List Frame} {meth : Method} {c : Code} {cells slots : Nat} {Q : (Int32 × zG) → State → Prop} (z : zE) (gm : zG) : ∀ (f : Nat) (g : zG) (x1 : Int32) (x3 : Int32), zJ dm p l e rm_X6_office s m args below meth c cX6_office 4 yX6_office.cls z cells slots (wx z gm) (fn (fun _ => True) (fun x => x.2) osi) .ireturn Q 65 [(0, .ref (za z 76 0)), (1, .int x1), (3, .int x3)] [] g (m_X6_office_L65 f g x1 x3) := by
  intro f
  induction f with
  | zero => intro g x1 x3; exact j_none
  | succ f ih =>
    intro g x1 x3
    refine j_eq (M2 := if x3 < (nI 2) then gd (inb x3 2 = true) (bd (ui g 60 0 x3.toNatClampNeg (nI 0)) fun g17 => m_X6_office_L65 f g17 x1 (x3 + (nI 1))) else some (x1, g)) rfl ?_
    refine j_iload_n (q := 66) (i := 2) (n := 3) dX6_office_65 rfl rfl rfl ?_
    refine j_aload_n (q := 67) (i := 0) (n := 0) dX6_office_66 rfl rfl rfl ?_
    refine g_X6_kept (q := 70) wF_X6_41 (Nat.le_of_ble_eq_true rfl) dX6_office_67 rfl ?_
    refine a60_len (q := 71) (Nat.le_of_ble_eq_true rfl) dX6_office_70 rfl ?_
    refine j_icmp_ge (tgt := 87) (q := 74) dX6_office_71 rfl rfl ?_ ?_
    · refine j_iload_n (q := 88) (i := 1) (n := 1) dX6_office_87 rfl rfl rfl ?_
      exact j_ret (x := (x1, g)) dX6_office_88 ⟨trivial, rfl, rfl⟩
    · refine j_aload_n (q := 75) (i := 0) (n := 0) dX6_office_74 rfl rfl rfl ?_
      refine g_X6_kept (q := 78) wF_X6_41 (Nat.le_of_ble_eq_true rfl) dX6_office_75 rfl ?_
      refine j_iload_n (q := 79) (i := 2) (n := 3) dX6_office_78 rfl rfl rfl ?_
      refine j_iconst (q := 80) (v := (nI 0)) dX6_office_79 rfl rfl ?_
      refine a60_st (q := 81) dm_le rfl (Nat.le_of_ble_eq_true rfl) dX6_office_80 rfl (fun g17 => ?_)
      refine j_iinc (q := 84) (n := 3) (i := 2) (v := x3 + (nI 1)) (lv' := [(3, .int (x3 + (nI 1))), (0, .ref (za z 76 0)), (1, .int x1)]) dX6_office_81 rfl rfl (Nat.le_of_ble_eq_true rfl) rfl rfl ?_
      refine j_goto (tgt := 65) dX6_office_84 rfl ?_
      refine j_lv [1, 2, 0] (lv' := [(0, .ref (za z 76 0)), (1, .int x1), (3, .int (x3 + (nI 1)))]) rfl ?_
      exact ih g17 x1 (x3 + (nI 1))
def m_X6_office (g : zG) : Option (Int32 × zG) := gd (gn g 1 < dm 73) (sb (m_X3_readFrom g (gn g 1)) fun r2 g3 => if r2 < (nI 0) then some (r2, g3) else gd (gn g3 0 < dm 73) (gd (gn g3 1 < dm 73) (bd (un g3 0 (gn g3 1)) fun g7 => bd (un g7 1 (gn g3 0)) fun g8 => sb (m_X5_wipe g8) fun r9 g10 => gd (gn g10 0 < dm 73) ((m_X0_begin g10 0 (gn g10 0)).bind fun g13 => sb (m_X4_forgetAll g13) fun r14 g15 => m_X6_office_L65 FU g15 r2 (nI 0)))))
set_option maxRecDepth 100000 in
set_option maxHeartbeats 4000000 in
theorem c_X6_office (l : Launch) (z : zE) (gm : zG) (g : zG) : ∀ x, m_X6_office g = some x → Ms dm l yX6_office cX6_office 4 (some .int) rm_X6_office z [.ref (za z 76 0)] ((wx z gm) g) (osi x) ((wx z gm) ((fun x => x.2) x)) := by
  refine ms_of (Wf := (wx z gm)) (ri := .ireturn) (out := osi) (nxt := (fun x => x.2)) (ok := (fun _ => True)) (lv := [(0, .ref (za z 76 0))]) (by decide) ⟨rfl, rfl⟩ (Nat.le_of_ble_eq_true rfl) rfl (en_i (out := fun x : Int32 × zG => x.1)) (fun p e s m below meth c => ?_)
  refine j_eq (M2 := gd (gn g 1 < dm 73) (sb (m_X3_readFrom g (gn g 1)) fun r2 g3 => if r2 < (nI 0) then some (r2, g3) else gd (gn g3 0 < dm 73) (gd (gn g3 1 < dm 73) (bd (un g3 0 (gn g3 1)) fun g7 => bd (un g7 1 (gn g3 0)) fun g8 => sb (m_X5_wipe g8) fun r9 g10 => gd (gn g10 0 < dm 73) ((m_X0_begin g10 0 (gn g10 0)).bind fun g13 => sb (m_X4_forgetAll g13) fun r14 g15 => m_X6_office_L65 FU g15 r2 (nI 0)))))) rfl ?_
  refine j_aload_n (q := 1) (i := 0) (n := 0) dX6_office_0 rfl rfl rfl ?_
  refine g_X6_nextPlan (q := 4) wF_X6_52 (Nat.le_of_ble_eq_true rfl) dX6_office_1 rfl ?_
  refine j_gd (fun hp1 => ?_)
  refine j_aload_n (q := 5) (i := 0) (n := 0) dX6_office_4 rfl rfl rfl ?_
  refine g_X6_text (q := 8) wF_X6_10 (Nat.le_of_ble_eq_true rfl) dX6_office_5 rfl ?_
  refine j_ss (q := 11) (rn_V (R := rm_X6_office) (As := [.ref (za z 75 0)]) (rest := []) (c_X3_readFrom _ z gm g (gn g 1) hp1) cv_X3_readFrom wM_X6_71 ⟨rfl, rfl⟩ ⟨(Nat.le_of_ble_eq_true rfl), (Nat.le_of_ble_eq_true rfl)⟩ hp1 rfl rfl rfl (Nat.le_of_ble_eq_true rfl) dX6_office_8) rfl (fun r2 g3 => ?_)
  refine j_istore_n (q := 12) (n := 1) (lv' := [(1, .int r2), (0, .ref (za z 76 0))]) dX6_office_11 rfl (Nat.le_of_ble_eq_true rfl) rfl rfl ?_
  refine j_iload_n (q := 13) (i := 0) (n := 1) dX6_office_12 rfl rfl rfl ?_
  refine j_if_ge (tgt := 18) (q := 16) dX6_office_13 rfl rfl ?_ ?_
  · refine j_aload_n (q := 19) (i := 1) (n := 0) dX6_office_18 rfl rfl rfl ?_
    refine g_X6_plan (q := 22) wF_X6_48 (Nat.le_of_ble_eq_true rfl) dX6_office_19 rfl ?_
    refine j_gd (fun hp5 => ?_)
    refine j_astore_n (q := 23) (n := 2) (lv' := [(2, .ref (za z 73 (gn g3 0))), (1, .int r2), (0, .ref (za z 76 0))]) dX6_office_22 rfl (Nat.le_of_ble_eq_true rfl) rfl rfl ?_
    refine j_aload_n (q := 24) (i := 2) (n := 0) dX6_office_23 rfl rfl rfl ?_
    refine j_aload_n (q := 25) (i := 2) (n := 0) dX6_office_24 rfl rfl rfl ?_
    refine g_X6_nextPlan (q := 28) wF_X6_52 (Nat.le_of_ble_eq_true rfl) dX6_office_25 rfl ?_
    refine j_gd (fun hp6 => ?_)
    refine p_X6_plan (q := 31) dm_le wF_X6_48 (Nat.le_of_ble_eq_true rfl) dX6_office_28 rfl (fun g7 => ?_)
    refine j_aload_n (q := 32) (i := 2) (n := 0) dX6_office_31 rfl rfl rfl ?_
    refine j_aload_n (q := 33) (i := 0) (n := 2) dX6_office_32 rfl rfl rfl ?_
    refine p_X6_nextPlan (q := 36) dm_le wF_X6_52 (Nat.le_of_ble_eq_true rfl) dX6_office_33 rfl (fun g8 => ?_)
    refine j_aload_n (q := 37) (i := 2) (n := 0) dX6_office_36 rfl rfl rfl ?_
    refine g_X6_text (q := 40) wF_X6_10 (Nat.le_of_ble_eq_true rfl) dX6_office_37 rfl ?_
    refine j_ss (q := 43) (rn_V (R := rm_X6_office) (As := []) (rest := []) (c_X5_wipe _ z gm g8) cv_X5_wipe wM_X6_67 ⟨rfl, rfl⟩ ⟨(Nat.le_of_ble_eq_true rfl), (Nat.le_of_ble_eq_true rfl)⟩ (Nat.le_of_ble_eq_true rfl) rfl rfl rfl (Nat.le_of_ble_eq_true rfl) dX6_office_40) rfl (fun r9 g10 => ?_)
    refine j_pop (q := 44) dX6_office_43 rfl rfl ?_
    refine j_aload_n (q := 45) (i := 2) (n := 0) dX6_office_44 rfl rfl rfl ?_
    refine g_X6_course (q := 48) wF_X6_19 (Nat.le_of_ble_eq_true rfl) dX6_office_45 rfl ?_
    refine j_aload_n (q := 49) (i := 2) (n := 0) dX6_office_48 rfl rfl rfl ?_
    refine g_X6_plan (q := 52) wF_X6_48 (Nat.le_of_ble_eq_true rfl) dX6_office_49 rfl ?_
    refine j_gd (fun hp12 => ?_)
    refine j_sv (q := 55) (rn_V (R := rm_X6_office) (As := [.ref (za z 73 (gn g10 0))]) (rest := []) (c_X0_begin _ z gm g10 0 (Nat.le_of_ble_eq_true rfl) (gn g10 0) hp12) cv_X0_begin wM_X6_55 ⟨rfl, rfl⟩ ⟨(Nat.le_of_ble_eq_true rfl), (Nat.le_of_ble_eq_true rfl)⟩ (Nat.le_of_ble_eq_true rfl) rfl rfl rfl (Nat.le_of_ble_eq_true rfl) dX6_office_52) rfl (fun g13 => ?_)
    refine j_aload_n (q := 56) (i := 2) (n := 0) dX6_office_55 rfl rfl rfl ?_
    refine g_X6_seen (q := 59) wF_X6_33 (Nat.le_of_ble_eq_true rfl) dX6_office_56 rfl ?_
    refine j_ss (q := 62) (rn_V (R := rm_X6_office) (As := []) (rest := []) (c_X4_forgetAll _ z gm g13) cv_X4_forgetAll wM_X6_75 ⟨rfl, rfl⟩ ⟨(Nat.le_of_ble_eq_true rfl), (Nat.le_of_ble_eq_true rfl)⟩ (Nat.le_of_ble_eq_true rfl) rfl rfl rfl (Nat.le_of_ble_eq_true rfl) dX6_office_59) rfl (fun r14 g15 => ?_)
    refine j_pop (q := 63) dX6_office_62 rfl rfl ?_
    refine j_iconst (q := 64) (v := (nI 0)) dX6_office_63 rfl rfl ?_
    refine j_istore_n (q := 65) (n := 3) (lv' := [(3, .int (nI 0)), (2, .ref (za z 73 (gn g3 0))), (1, .int r2), (0, .ref (za z 76 0))]) dX6_office_64 rfl (Nat.le_of_ble_eq_true rfl) rfl rfl ?_
    refine j_lv [3, 2, 0] (lv' := [(0, .ref (za z 76 0)), (1, .int r2), (3, .int (nI 0))]) rfl ?_
    exact t_X6_office_L65 z gm FU g15 r2 (nI 0)
  · refine j_iload_n (q := 17) (i := 0) (n := 1) dX6_office_16 rfl rfl rfl ?_
    exact j_ret (x := (r2, g3)) dX6_office_17 ⟨trivial, rfl, rfl⟩
-- CopierJobs.job(II)I
abbrev rm_X6_job : Room := { frames := 6, cells := 0, slots := 0, locals := 134 }
theorem cv_X6_job : CV yX6_job cX6_job 4 (some .int) 2 := ⟨wC_X6_job, wI_X6_job, wS_X6_job, wZ_X6, by decide +kernel⟩
def m_X6_job (g : zG) (a0 : Int32) (a1 : Int32) : Option (Int32 × zG) := gd (gn g 0 < dm 73) ((m_X3_jobAt g (gn g 0) a0).bind fun x => oc x (some ((-1), g)) (fun n2 => gd (n2 < dm 71) (if a1 = (nI 0) then (some (gi g 20 n2 0, g)) else if a1 = (nI 1) then (some (gi g 21 n2 0, g)) else if a1 = (nI 2) then (if (gi g 22 n2 0) = (nI 0) then some ((nI 0), g) else some ((nI 1), g)) else if a1 = (nI 3) then (if (gi g 23 n2 0) = (nI 0) then some ((nI 0), g) else some ((nI 1), g)) else if a1 = (nI 4) then (some (gi g 24 n2 0, g)) else if a1 = (nI 5) then ((m_X1_all g n2).bind fun r9 => some (r9, g)) else if a1 = (nI 6) then ((m_X2_madeOf g 0 a0).bind fun r11 => some (r11, g)) else if a1 = (nI 7) then ((m_X2_placeOf g 0 a0).bind fun r13 => some (r13, g)) else if a1 = (nI 8) then ((m_X2_endOf g 0 a0).bind fun r15 => some (r15, g)) else if a1 = (nI 9) then (sb (m_X6_endsIn g a0) fun r17 g18 => some (r17, g18)) else if a1 = (nI 10) then (gd (gn g 0 < dm 73) ((m_X2_leftOf g 0 (gn g 0) a0).bind fun r22 => some (r22, g))) else (some ((-1), g)))))
set_option maxRecDepth 100000 in
set_option maxHeartbeats 4000000 in
theorem c_X6_job (l : Launch) (z : zE) (gm : zG) (g : zG) (a0 : Int32) (a1 : Int32) : ∀ x, m_X6_job g a0 a1 = some x → Ms dm l yX6_job cX6_job 4 (some .int) rm_X6_job z [.ref (za z 76 0), .int a0, .int a1] ((wx z gm) g) (osi x) ((wx z gm) ((fun x => x.2) x)) := by
  refine ms_of (Wf := (wx z gm)) (ri := .ireturn) (out := osi) (nxt := (fun x => x.2)) (ok := (fun _ => True)) (lv := [(0, .ref (za z 76 0)), (1, .int a0), (2, .int a1)]) (by decide) ⟨rfl, rfl⟩ (Nat.le_of_ble_eq_true rfl) rfl (en_i (out := fun x : Int32 × zG => x.1)) (fun p e s m below meth c => ?_)
  refine j_eq (M2 := gd (gn g 0 < dm 73) ((m_X3_jobAt g (gn g 0) a0).bind fun x => oc x (some ((-1), g)) (fun n2 => gd (n2 < dm 71) (if a1 = (nI 0) then (some (gi g 20 n2 0, g)) else if a1 = (nI 1) then (some (gi g 21 n2 0, g)) else if a1 = (nI 2) then (if (gi g 22 n2 0) = (nI 0) then some ((nI 0), g) else some ((nI 1), g)) else if a1 = (nI 3) then (if (gi g 23 n2 0) = (nI 0) then some ((nI 0), g) else some ((nI 1), g)) else if a1 = (nI 4) then (some (gi g 24 n2 0, g)) else if a1 = (nI 5) then ((m_X1_all g n2).bind fun r9 => some (r9, g)) else if a1 = (nI 6) then ((m_X2_madeOf g 0 a0).bind fun r11 => some (r11, g)) else if a1 = (nI 7) then ((m_X2_placeOf g 0 a0).bind fun r13 => some (r13, g)) else if a1 = (nI 8) then ((m_X2_endOf g 0 a0).bind fun r15 => some (r15, g)) else if a1 = (nI 9) then (sb (m_X6_endsIn g a0) fun r17 g18 => some (r17, g18)) else if a1 = (nI 10) then (gd (gn g 0 < dm 73) ((m_X2_leftOf g 0 (gn g 0) a0).bind fun r22 => some (r22, g))) else (some ((-1), g)))))) rfl ?_
  refine j_aload_n (q := 1) (i := 0) (n := 0) dX6_job_0 rfl rfl rfl ?_
  refine g_X6_plan (q := 4) wF_X6_48 (Nat.le_of_ble_eq_true rfl) dX6_job_1 rfl ?_
  refine j_gd (fun hp1 => ?_)
  refine j_iload_n (q := 5) (i := 1) (n := 1) dX6_job_4 rfl rfl rfl ?_
  refine j_crs (k0 := 71) (q := 8) (rn_V (R := rm_X6_job) (As := [.int a0]) (rest := []) (c_X3_jobAt _ z gm g (gn g 0) hp1 a0) cv_X3_jobAt wM_X6_78 ⟨rfl, rfl⟩ ⟨(Nat.le_of_ble_eq_true rfl), (Nat.le_of_ble_eq_true rfl)⟩ hp1 rfl rfl rfl (Nat.le_of_ble_eq_true rfl) dX6_job_5) rfl ?_ (fun n2 => ?_)
  · refine j_astore_nN (q := 9) (n := 3) (lv' := [(3, .null), (0, .ref (za z 76 0)), (1, .int a0), (2, .int a1)]) dX6_job_8 rfl (Nat.le_of_ble_eq_true rfl) rfl rfl ?_
    refine j_aload_nN (q := 10) (i := 0) (n := 3) dX6_job_9 rfl rfl rfl ?_
    refine j_non0 (q := 13) dX6_job_10 rfl ?_
    refine j_iconst (q := 14) (v := (-1)) dX6_job_13 rfl rfl ?_
    exact j_ret (x := ((-1), g)) dX6_job_14 ⟨trivial, rfl, rfl⟩
  · refine j_gd (fun hn3 => ?_)
    refine j_astore_n (q := 9) (n := 3) (lv' := [(3, .ref (za z 71 n2)), (0, .ref (za z 76 0)), (1, .int a0), (2, .int a1)]) dX6_job_8 rfl (Nat.le_of_ble_eq_true rfl) rfl rfl ?_
    refine j_aload_n (q := 10) (i := 0) (n := 3) dX6_job_9 rfl rfl rfl ?_
    refine j_non1 (tgt := 15) dX6_job_10 rfl ?_
    refine j_iload_n (q := 16) (i := 3) (n := 2) dX6_job_15 rfl rfl rfl ?_
    refine j_case (v := (nI 0)) ?_ (fun h4 => ?_)
    · refine j_tableIn (tgt := 76) dX6_job_16 (by decide) (by decide) rfl rfl ?_
      refine j_aload_n (q := 77) (i := 0) (n := 3) dX6_job_76 rfl rfl rfl ?_
      refine gN_X1_pages (q := 80) wG_X6_82 hn3 dX6_job_77 rfl ?_
      exact j_ret (x := (gi g 20 n2 0, g)) dX6_job_80 ⟨trivial, rfl, rfl⟩
    refine j_case (v := (nI 1)) ?_ (fun h5 => ?_)
    · refine j_tableIn (tgt := 81) dX6_job_16 (by decide) (by decide) rfl rfl ?_
      refine j_aload_n (q := 82) (i := 0) (n := 3) dX6_job_81 rfl rfl rfl ?_
      refine gN_X1_copies (q := 85) wG_X6_88 hn3 dX6_job_82 rfl ?_
      exact j_ret (x := (gi g 21 n2 0, g)) dX6_job_85 ⟨trivial, rfl, rfl⟩
    refine j_case (v := (nI 2)) ?_ (fun h6 => ?_)
    · refine j_tableIn (tgt := 86) dX6_job_16 (by decide) (by decide) rfl rfl ?_
      refine j_aload_n (q := 87) (i := 0) (n := 3) dX6_job_86 rfl rfl rfl ?_
      refine gN_X1_both (q := 90) wG_X6_91 hn3 dX6_job_87 rfl ?_
      refine j_if_eq (tgt := 97) (q := 93) dX6_job_90 rfl rfl ?_ ?_
      · refine j_iconst (q := 98) (v := (nI 0)) dX6_job_97 rfl rfl ?_
        exact j_ret (x := ((nI 0), g)) dX6_job_98 ⟨trivial, rfl, rfl⟩
      · refine j_iconst (q := 94) (v := (nI 1)) dX6_job_93 rfl rfl ?_
        refine j_goto (tgt := 98) dX6_job_94 rfl ?_
        exact j_ret (x := ((nI 1), g)) dX6_job_98 ⟨trivial, rfl, rfl⟩
    refine j_case (v := (nI 3)) ?_ (fun h7 => ?_)
    · refine j_tableIn (tgt := 99) dX6_job_16 (by decide) (by decide) rfl rfl ?_
      refine j_aload_n (q := 100) (i := 0) (n := 3) dX6_job_99 rfl rfl rfl ?_
      refine gN_X1_sorted (q := 103) wG_X6_95 hn3 dX6_job_100 rfl ?_
      refine j_if_eq (tgt := 110) (q := 106) dX6_job_103 rfl rfl ?_ ?_
      · refine j_iconst (q := 111) (v := (nI 0)) dX6_job_110 rfl rfl ?_
        exact j_ret (x := ((nI 0), g)) dX6_job_111 ⟨trivial, rfl, rfl⟩
      · refine j_iconst (q := 107) (v := (nI 1)) dX6_job_106 rfl rfl ?_
        refine j_goto (tgt := 111) dX6_job_107 rfl ?_
        exact j_ret (x := ((nI 1), g)) dX6_job_111 ⟨trivial, rfl, rfl⟩
    refine j_case (v := (nI 4)) ?_ (fun h8 => ?_)
    · refine j_tableIn (tgt := 112) dX6_job_16 (by decide) (by decide) rfl rfl ?_
      refine j_aload_n (q := 113) (i := 0) (n := 3) dX6_job_112 rfl rfl rfl ?_
      refine gN_X1_tray (q := 116) wG_X6_98 hn3 dX6_job_113 rfl ?_
      exact j_ret (x := (gi g 24 n2 0, g)) dX6_job_116 ⟨trivial, rfl, rfl⟩
    refine j_case (v := (nI 5)) ?_ (fun h10 => ?_)
    · refine j_tableIn (tgt := 117) dX6_job_16 (by decide) (by decide) rfl rfl ?_
      refine j_aload_n (q := 118) (i := 0) (n := 3) dX6_job_117 rfl rfl rfl ?_
      refine j_ci (q := 121) (rn_V (R := rm_X6_job) (As := []) (rest := []) (c_X1_all _ z gm g n2 hn3) cv_X1_all wM_X6_101 ⟨rfl, rfl⟩ ⟨(Nat.le_of_ble_eq_true rfl), (Nat.le_of_ble_eq_true rfl)⟩ hn3 rfl rfl rfl (Nat.le_of_ble_eq_true rfl) dX6_job_118) rfl (fun r9 => ?_)
      exact j_ret (x := (r9, g)) dX6_job_121 ⟨trivial, rfl, rfl⟩
    refine j_case (v := (nI 6)) ?_ (fun h12 => ?_)
    · refine j_tableIn (tgt := 122) dX6_job_16 (by decide) (by decide) rfl rfl ?_
      refine j_aload_n (q := 123) (i := 1) (n := 0) dX6_job_122 rfl rfl rfl ?_
      refine g_X6_course (q := 126) wF_X6_19 (Nat.le_of_ble_eq_true rfl) dX6_job_123 rfl ?_
      refine gN_X0_now (q := 129) wG_X6_104 (Nat.le_of_ble_eq_true rfl) dX6_job_126 rfl ?_
      refine j_iload_n (q := 130) (i := 2) (n := 1) dX6_job_129 rfl rfl rfl ?_
      refine j_ci (q := 133) (rn_V (R := rm_X6_job) (As := [.int a0]) (rest := []) (c_X2_madeOf _ z gm g 0 (Nat.le_of_ble_eq_true rfl) a0) cv_X2_madeOf wM_X6_107 ⟨rfl, rfl⟩ ⟨(Nat.le_of_ble_eq_true rfl), (Nat.le_of_ble_eq_true rfl)⟩ (Nat.le_of_ble_eq_true rfl) rfl rfl rfl (Nat.le_of_ble_eq_true rfl) dX6_job_130) rfl (fun r11 => ?_)
      exact j_ret (x := (r11, g)) dX6_job_133 ⟨trivial, rfl, rfl⟩
    refine j_case (v := (nI 7)) ?_ (fun h14 => ?_)
    · refine j_tableIn (tgt := 134) dX6_job_16 (by decide) (by decide) rfl rfl ?_
      refine j_aload_n (q := 135) (i := 1) (n := 0) dX6_job_134 rfl rfl rfl ?_
      refine g_X6_course (q := 138) wF_X6_19 (Nat.le_of_ble_eq_true rfl) dX6_job_135 rfl ?_
      refine gN_X0_now (q := 141) wG_X6_104 (Nat.le_of_ble_eq_true rfl) dX6_job_138 rfl ?_
      refine j_iload_n (q := 142) (i := 2) (n := 1) dX6_job_141 rfl rfl rfl ?_
      refine j_ci (q := 145) (rn_V (R := rm_X6_job) (As := [.int a0]) (rest := []) (c_X2_placeOf _ z gm g 0 (Nat.le_of_ble_eq_true rfl) a0) cv_X2_placeOf wM_X6_110 ⟨rfl, rfl⟩ ⟨(Nat.le_of_ble_eq_true rfl), (Nat.le_of_ble_eq_true rfl)⟩ (Nat.le_of_ble_eq_true rfl) rfl rfl rfl (Nat.le_of_ble_eq_true rfl) dX6_job_142) rfl (fun r13 => ?_)
      exact j_ret (x := (r13, g)) dX6_job_145 ⟨trivial, rfl, rfl⟩
    refine j_case (v := (nI 8)) ?_ (fun h16 => ?_)
    · refine j_tableIn (tgt := 146) dX6_job_16 (by decide) (by decide) rfl rfl ?_
      refine j_aload_n (q := 147) (i := 1) (n := 0) dX6_job_146 rfl rfl rfl ?_
      refine g_X6_course (q := 150) wF_X6_19 (Nat.le_of_ble_eq_true rfl) dX6_job_147 rfl ?_
      refine gN_X0_now (q := 153) wG_X6_104 (Nat.le_of_ble_eq_true rfl) dX6_job_150 rfl ?_
      refine j_iload_n (q := 154) (i := 2) (n := 1) dX6_job_153 rfl rfl rfl ?_
      refine j_ci (q := 157) (rn_V (R := rm_X6_job) (As := [.int a0]) (rest := []) (c_X2_endOf _ z gm g 0 (Nat.le_of_ble_eq_true rfl) a0) cv_X2_endOf wM_X6_113 ⟨rfl, rfl⟩ ⟨(Nat.le_of_ble_eq_true rfl), (Nat.le_of_ble_eq_true rfl)⟩ (Nat.le_of_ble_eq_true rfl) rfl rfl rfl (Nat.le_of_ble_eq_true rfl) dX6_job_154) rfl (fun r15 => ?_)
      exact j_ret (x := (r15, g)) dX6_job_157 ⟨trivial, rfl, rfl⟩
    refine j_case (v := (nI 9)) ?_ (fun h20 => ?_)
    · refine j_tableIn (tgt := 158) dX6_job_16 (by decide) (by decide) rfl rfl ?_
      refine j_aload_n (q := 159) (i := 1) (n := 0) dX6_job_158 rfl rfl rfl ?_
      refine j_iload_n (q := 160) (i := 2) (n := 1) dX6_job_159 rfl rfl rfl ?_
      refine j_ss (q := 163) (rn_V (R := rm_X6_job) (As := [.int a0]) (rest := []) (c_X6_endsIn _ z gm g a0) cv_X6_endsIn wM_X6_116 ⟨rfl, rfl⟩ ⟨(Nat.le_of_ble_eq_true rfl), (Nat.le_of_ble_eq_true rfl)⟩ (Nat.le_of_ble_eq_true rfl) rfl rfl rfl (Nat.le_of_ble_eq_true rfl) dX6_job_160) rfl (fun r17 g18 => ?_)
      exact j_ret (x := (r17, g18)) dX6_job_163 ⟨trivial, rfl, rfl⟩
    refine j_case (v := (nI 10)) ?_ (fun h23 => ?_)
    · refine j_tableIn (tgt := 164) dX6_job_16 (by decide) (by decide) rfl rfl ?_
      refine j_aload_n (q := 165) (i := 1) (n := 0) dX6_job_164 rfl rfl rfl ?_
      refine g_X6_course (q := 168) wF_X6_19 (Nat.le_of_ble_eq_true rfl) dX6_job_165 rfl ?_
      refine gN_X0_now (q := 171) wG_X6_104 (Nat.le_of_ble_eq_true rfl) dX6_job_168 rfl ?_
      refine j_aload_n (q := 172) (i := 1) (n := 0) dX6_job_171 rfl rfl rfl ?_
      refine g_X6_plan (q := 175) wF_X6_48 (Nat.le_of_ble_eq_true rfl) dX6_job_172 rfl ?_
      refine j_gd (fun hp21 => ?_)
      refine j_iload_n (q := 176) (i := 2) (n := 1) dX6_job_175 rfl rfl rfl ?_
      refine j_ci (q := 179) (rn_V (R := rm_X6_job) (As := [.ref (za z 73 (gn g 0)), .int a0]) (rest := []) (c_X2_leftOf _ z gm g 0 (Nat.le_of_ble_eq_true rfl) (gn g 0) hp21 a0) cv_X2_leftOf wM_X6_119 ⟨rfl, rfl⟩ ⟨(Nat.le_of_ble_eq_true rfl), (Nat.le_of_ble_eq_true rfl)⟩ (Nat.le_of_ble_eq_true rfl) rfl rfl rfl (Nat.le_of_ble_eq_true rfl) dX6_job_176) rfl (fun r22 => ?_)
      exact j_ret (x := (r22, g)) dX6_job_179 ⟨trivial, rfl, rfl⟩
    refine j_tableOut (tgt := 180) dX6_job_16 (by have e0 := q_ne (n := 0) h4 rfl; have e1 := q_ne (n := 1) h5 rfl; have e2 := q_ne (n := 2) h6 rfl; have e3 := q_ne (n := 3) h7 rfl; have e4 := q_ne (n := 4) h8 rfl; have e5 := q_ne (n := 5) h10 rfl; have e6 := q_ne (n := 6) h12 rfl; have e7 := q_ne (n := 7) h14 rfl; have e8 := q_ne (n := 8) h16 rfl; have e9 := q_ne (n := 9) h20 rfl; have e10 := q_ne (n := 10) h23 rfl; omega) rfl ?_
    refine j_iconst (q := 181) (v := (-1)) dX6_job_180 rfl rfl ?_
    exact j_ret (x := ((-1), g)) dX6_job_181 ⟨trivial, rfl, rfl⟩
-- CopierJobs.sheet(III)I
abbrev rm_X6_sheet : Room := { frames := 2, cells := 0, slots := 0, locals := 44 }
theorem cv_X6_sheet : CV yX6_sheet cX6_sheet 5 (some .int) 3 := ⟨wC_X6_sheet, wI_X6_sheet, wS_X6_sheet, wZ_X6, by decide +kernel⟩
def m_X6_sheet (g : zG) (a0 : Int32) (a1 : Int32) (a2 : Int32) : Option (Int32) := gd (gn g 0 < dm 73) ((m_X3_jobAt g (gn g 0) a0).bind fun x => oc x (some (-1)) (fun n2 => gd (n2 < dm 71) ((m_X1_hasSheet g n2 a1).bind fun r4 => if r4 = (nI 0) then some (-1) else if a2 = (nI 0) then ((m_X1_copyOf g n2 a1).bind fun r5 => some r5) else if a2 = (nI 1) then ((m_X1_frontOf g n2 a1).bind fun r7 => some r7) else if a2 = (nI 2) then ((m_X1_backOf g n2 a1).bind fun r9 => some r9) else if a2 = (nI 3) then (gd (gn g 0 < dm 73) ((m_X3_binOf g (gn g 0) n2 a1).bind fun r12 => some r12)) else (some (-1)))))
set_option maxRecDepth 100000 in
set_option maxHeartbeats 4000000 in
theorem c_X6_sheet (l : Launch) (z : zE) (gm : zG) (g : zG) (a0 : Int32) (a1 : Int32) (a2 : Int32) : ∀ x, m_X6_sheet g a0 a1 a2 = some x → Ms dm l yX6_sheet cX6_sheet 5 (some .int) rm_X6_sheet z [.ref (za z 76 0), .int a0, .int a1, .int a2] ((wx z gm) g) (oi x) ((wx z gm) ((fun _ => g) x)) := by
  refine ms_of (Wf := (wx z gm)) (ri := .ireturn) (out := oi) (nxt := (fun _ => g)) (ok := (fun _ => True)) (lv := [(0, .ref (za z 76 0)), (1, .int a0), (2, .int a1), (3, .int a2)]) (by decide) ⟨rfl, rfl⟩ (Nat.le_of_ble_eq_true rfl) rfl (en_i (out := fun x => x)) (fun p e s m below meth c => ?_)
  refine j_eq (M2 := gd (gn g 0 < dm 73) ((m_X3_jobAt g (gn g 0) a0).bind fun x => oc x (some (-1)) (fun n2 => gd (n2 < dm 71) ((m_X1_hasSheet g n2 a1).bind fun r4 => if r4 = (nI 0) then some (-1) else if a2 = (nI 0) then ((m_X1_copyOf g n2 a1).bind fun r5 => some r5) else if a2 = (nI 1) then ((m_X1_frontOf g n2 a1).bind fun r7 => some r7) else if a2 = (nI 2) then ((m_X1_backOf g n2 a1).bind fun r9 => some r9) else if a2 = (nI 3) then (gd (gn g 0 < dm 73) ((m_X3_binOf g (gn g 0) n2 a1).bind fun r12 => some r12)) else (some (-1)))))) rfl ?_
  refine j_aload_n (q := 1) (i := 0) (n := 0) dX6_sheet_0 rfl rfl rfl ?_
  refine g_X6_plan (q := 4) wF_X6_48 (Nat.le_of_ble_eq_true rfl) dX6_sheet_1 rfl ?_
  refine j_gd (fun hp1 => ?_)
  refine j_iload_n (q := 5) (i := 1) (n := 1) dX6_sheet_4 rfl rfl rfl ?_
  refine j_crs (k0 := 71) (q := 8) (rn_V (R := rm_X6_sheet) (As := [.int a0]) (rest := []) (c_X3_jobAt _ z gm g (gn g 0) hp1 a0) cv_X3_jobAt wM_X6_78 ⟨rfl, rfl⟩ ⟨(Nat.le_of_ble_eq_true rfl), (Nat.le_of_ble_eq_true rfl)⟩ hp1 rfl rfl rfl (Nat.le_of_ble_eq_true rfl) dX6_sheet_5) rfl ?_ (fun n2 => ?_)
  · refine j_astoreN (q := 10) (n := 4) (lv' := [(4, .null), (0, .ref (za z 76 0)), (1, .int a0), (2, .int a1), (3, .int a2)]) dX6_sheet_8 (Nat.le_of_ble_eq_true rfl) rfl rfl ?_
    refine j_aloadN (q := 12) (i := 0) (n := 4) dX6_sheet_10 rfl rfl ?_
    refine j_nul0 (tgt := 24) dX6_sheet_12 rfl ?_
    refine j_iconst (q := 25) (v := (-1)) dX6_sheet_24 rfl rfl ?_
    exact j_ret (x := (-1)) dX6_sheet_25 ⟨trivial, rfl, rfl⟩
  · refine j_gd (fun hn3 => ?_)
    refine j_astore (q := 10) (n := 4) (lv' := [(4, .ref (za z 71 n2)), (0, .ref (za z 76 0)), (1, .int a0), (2, .int a1), (3, .int a2)]) dX6_sheet_8 (Nat.le_of_ble_eq_true rfl) rfl rfl ?_
    refine j_aload (q := 12) (i := 0) (n := 4) dX6_sheet_10 rfl rfl ?_
    refine j_nul1 (q := 15) dX6_sheet_12 rfl ?_
    refine j_aload (q := 17) (i := 0) (n := 4) dX6_sheet_15 rfl rfl ?_
    refine j_iload_n (q := 18) (i := 3) (n := 2) dX6_sheet_17 rfl rfl rfl ?_
    refine j_ci (q := 21) (rn_V (R := rm_X6_sheet) (As := [.int a1]) (rest := []) (c_X1_hasSheet _ z gm g n2 hn3 a1) cv_X1_hasSheet wM_X6_123 ⟨rfl, rfl⟩ ⟨(Nat.le_of_ble_eq_true rfl), (Nat.le_of_ble_eq_true rfl)⟩ hn3 rfl rfl rfl (Nat.le_of_ble_eq_true rfl) dX6_sheet_18) rfl (fun r4 => ?_)
    refine j_if_ne (tgt := 26) (q := 24) dX6_sheet_21 rfl rfl ?_ ?_
    · refine j_iload_n (q := 27) (i := 4) (n := 3) dX6_sheet_26 rfl rfl rfl ?_
      refine j_case (v := (nI 0)) ?_ (fun h6 => ?_)
      · refine j_tableIn (tgt := 56) dX6_sheet_27 (by decide) (by decide) rfl rfl ?_
        refine j_aload (q := 58) (i := 0) (n := 4) dX6_sheet_56 rfl rfl ?_
        refine j_iload_n (q := 59) (i := 3) (n := 2) dX6_sheet_58 rfl rfl rfl ?_
        refine j_ci (q := 62) (rn_V (R := rm_X6_sheet) (As := [.int a1]) (rest := []) (c_X1_copyOf _ z gm g n2 hn3 a1) cv_X1_copyOf wM_X6_127 ⟨rfl, rfl⟩ ⟨(Nat.le_of_ble_eq_true rfl), (Nat.le_of_ble_eq_true rfl)⟩ hn3 rfl rfl rfl (Nat.le_of_ble_eq_true rfl) dX6_sheet_59) rfl (fun r5 => ?_)
        exact j_ret (x := r5) dX6_sheet_62 ⟨trivial, rfl, rfl⟩
      refine j_case (v := (nI 1)) ?_ (fun h8 => ?_)
      · refine j_tableIn (tgt := 63) dX6_sheet_27 (by decide) (by decide) rfl rfl ?_
        refine j_aload (q := 65) (i := 0) (n := 4) dX6_sheet_63 rfl rfl ?_
        refine j_iload_n (q := 66) (i := 3) (n := 2) dX6_sheet_65 rfl rfl rfl ?_
        refine j_ci (q := 69) (rn_V (R := rm_X6_sheet) (As := [.int a1]) (rest := []) (c_X1_frontOf _ z gm g n2 hn3 a1) cv_X1_frontOf wM_X6_130 ⟨rfl, rfl⟩ ⟨(Nat.le_of_ble_eq_true rfl), (Nat.le_of_ble_eq_true rfl)⟩ hn3 rfl rfl rfl (Nat.le_of_ble_eq_true rfl) dX6_sheet_66) rfl (fun r7 => ?_)
        exact j_ret (x := r7) dX6_sheet_69 ⟨trivial, rfl, rfl⟩
      refine j_case (v := (nI 2)) ?_ (fun h10 => ?_)
      · refine j_tableIn (tgt := 70) dX6_sheet_27 (by decide) (by decide) rfl rfl ?_
        refine j_aload (q := 72) (i := 0) (n := 4) dX6_sheet_70 rfl rfl ?_
        refine j_iload_n (q := 73) (i := 3) (n := 2) dX6_sheet_72 rfl rfl rfl ?_
        refine j_ci (q := 76) (rn_V (R := rm_X6_sheet) (As := [.int a1]) (rest := []) (c_X1_backOf _ z gm g n2 hn3 a1) cv_X1_backOf wM_X6_133 ⟨rfl, rfl⟩ ⟨(Nat.le_of_ble_eq_true rfl), (Nat.le_of_ble_eq_true rfl)⟩ hn3 rfl rfl rfl (Nat.le_of_ble_eq_true rfl) dX6_sheet_73) rfl (fun r9 => ?_)
        exact j_ret (x := r9) dX6_sheet_76 ⟨trivial, rfl, rfl⟩
      refine j_case (v := (nI 3)) ?_ (fun h13 => ?_)
      · refine j_tableIn (tgt := 77) dX6_sheet_27 (by decide) (by decide) rfl rfl ?_
        refine j_aload_n (q := 78) (i := 1) (n := 0) dX6_sheet_77 rfl rfl rfl ?_
        refine g_X6_plan (q := 81) wF_X6_48 (Nat.le_of_ble_eq_true rfl) dX6_sheet_78 rfl ?_
        refine j_gd (fun hp11 => ?_)
        refine j_aload (q := 83) (i := 0) (n := 4) dX6_sheet_81 rfl rfl ?_
        refine j_iload_n (q := 84) (i := 3) (n := 2) dX6_sheet_83 rfl rfl rfl ?_
        refine j_ci (q := 87) (rn_V (R := rm_X6_sheet) (As := [.ref (za z 71 n2), .int a1]) (rest := []) (c_X3_binOf _ z gm g (gn g 0) hp11 n2 hn3 a1) cv_X3_binOf wM_X6_136 ⟨rfl, rfl⟩ ⟨(Nat.le_of_ble_eq_true rfl), (Nat.le_of_ble_eq_true rfl)⟩ hp11 rfl rfl rfl (Nat.le_of_ble_eq_true rfl) dX6_sheet_84) rfl (fun r12 => ?_)
        exact j_ret (x := r12) dX6_sheet_87 ⟨trivial, rfl, rfl⟩
      refine j_tableOut (tgt := 88) dX6_sheet_27 (by have e0 := q_ne (n := 0) h6 rfl; have e1 := q_ne (n := 1) h8 rfl; have e2 := q_ne (n := 2) h10 rfl; have e3 := q_ne (n := 3) h13 rfl; omega) rfl ?_
      refine j_iconst (q := 89) (v := (-1)) dX6_sheet_88 rfl rfl ?_
      exact j_ret (x := (-1)) dX6_sheet_89 ⟨trivial, rfl, rfl⟩
    · refine j_iconst (q := 25) (v := (-1)) dX6_sheet_24 rfl rfl ?_
      exact j_ret (x := (-1)) dX6_sheet_25 ⟨trivial, rfl, rfl⟩
-- CopierJobs.where(III)I
abbrev rm_X6_where : Room := { frames := 1, cells := 0, slots := 0, locals := 23 }
theorem cv_X6_where : CV yX6_where cX6_where 5 (some .int) 3 := ⟨wC_X6_where, wI_X6_where, wS_X6_where, wZ_X6, by decide +kernel⟩
def m_X6_where (g : zG) (a0 : Int32) (a1 : Int32) (a2 : Int32) : Option (Int32) := gd (gn g 0 < dm 73) ((m_X3_jobAt g (gn g 0) a0).bind fun x => oc x (some (-1)) (fun n2 => gd (n2 < dm 71) ((m_X1_hasPage g n2 a1).bind fun r4 => if r4 = (nI 0) then some (-1) else if a2 < (nI 0) then some (-1) else if a2 < (gi g 21 n2 0) then (m_X1_sheetWith g n2 a1 a2).bind fun r5 => some r5 else some (-1))))
set_option maxRecDepth 100000 in
set_option maxHeartbeats 4000000 in
theorem c_X6_where (l : Launch) (z : zE) (gm : zG) (g : zG) (a0 : Int32) (a1 : Int32) (a2 : Int32) : ∀ x, m_X6_where g a0 a1 a2 = some x → Ms dm l yX6_where cX6_where 5 (some .int) rm_X6_where z [.ref (za z 76 0), .int a0, .int a1, .int a2] ((wx z gm) g) (oi x) ((wx z gm) ((fun _ => g) x)) := by
  refine ms_of (Wf := (wx z gm)) (ri := .ireturn) (out := oi) (nxt := (fun _ => g)) (ok := (fun _ => True)) (lv := [(0, .ref (za z 76 0)), (1, .int a0), (2, .int a1), (3, .int a2)]) (by decide) ⟨rfl, rfl⟩ (Nat.le_of_ble_eq_true rfl) rfl (en_i (out := fun x => x)) (fun p e s m below meth c => ?_)
  refine j_eq (M2 := gd (gn g 0 < dm 73) ((m_X3_jobAt g (gn g 0) a0).bind fun x => oc x (some (-1)) (fun n2 => gd (n2 < dm 71) ((m_X1_hasPage g n2 a1).bind fun r4 => if r4 = (nI 0) then some (-1) else if a2 < (nI 0) then some (-1) else if a2 < (gi g 21 n2 0) then (m_X1_sheetWith g n2 a1 a2).bind fun r5 => some r5 else some (-1))))) rfl ?_
  refine j_aload_n (q := 1) (i := 0) (n := 0) dX6_where_0 rfl rfl rfl ?_
  refine g_X6_plan (q := 4) wF_X6_48 (Nat.le_of_ble_eq_true rfl) dX6_where_1 rfl ?_
  refine j_gd (fun hp1 => ?_)
  refine j_iload_n (q := 5) (i := 1) (n := 1) dX6_where_4 rfl rfl rfl ?_
  refine j_crs (k0 := 71) (q := 8) (rn_V (R := rm_X6_where) (As := [.int a0]) (rest := []) (c_X3_jobAt _ z gm g (gn g 0) hp1 a0) cv_X3_jobAt wM_X6_78 ⟨rfl, rfl⟩ ⟨(Nat.le_of_ble_eq_true rfl), (Nat.le_of_ble_eq_true rfl)⟩ hp1 rfl rfl rfl (Nat.le_of_ble_eq_true rfl) dX6_where_5) rfl ?_ (fun n2 => ?_)
  · refine j_astoreN (q := 10) (n := 4) (lv' := [(4, .null), (0, .ref (za z 76 0)), (1, .int a0), (2, .int a1), (3, .int a2)]) dX6_where_8 (Nat.le_of_ble_eq_true rfl) rfl rfl ?_
    refine j_aloadN (q := 12) (i := 0) (n := 4) dX6_where_10 rfl rfl ?_
    refine j_nul0 (tgt := 37) dX6_where_12 rfl ?_
    refine j_iconst (q := 38) (v := (-1)) dX6_where_37 rfl rfl ?_
    exact j_ret (x := (-1)) dX6_where_38 ⟨trivial, rfl, rfl⟩
  · refine j_gd (fun hn3 => ?_)
    refine j_astore (q := 10) (n := 4) (lv' := [(4, .ref (za z 71 n2)), (0, .ref (za z 76 0)), (1, .int a0), (2, .int a1), (3, .int a2)]) dX6_where_8 (Nat.le_of_ble_eq_true rfl) rfl rfl ?_
    refine j_aload (q := 12) (i := 0) (n := 4) dX6_where_10 rfl rfl ?_
    refine j_nul1 (q := 15) dX6_where_12 rfl ?_
    refine j_aload (q := 17) (i := 0) (n := 4) dX6_where_15 rfl rfl ?_
    refine j_iload_n (q := 18) (i := 3) (n := 2) dX6_where_17 rfl rfl rfl ?_
    refine j_ci (q := 21) (rn_V (R := rm_X6_where) (As := [.int a1]) (rest := []) (c_X1_hasPage _ z gm g n2 hn3 a1) cv_X1_hasPage wM_X6_140 ⟨rfl, rfl⟩ ⟨(Nat.le_of_ble_eq_true rfl), (Nat.le_of_ble_eq_true rfl)⟩ hn3 rfl rfl rfl (Nat.le_of_ble_eq_true rfl) dX6_where_18) rfl (fun r4 => ?_)
    refine j_if_eq (tgt := 37) (q := 24) dX6_where_21 rfl rfl ?_ ?_
    · refine j_iconst (q := 38) (v := (-1)) dX6_where_37 rfl rfl ?_
      exact j_ret (x := (-1)) dX6_where_38 ⟨trivial, rfl, rfl⟩
    · refine j_iload_n (q := 25) (i := 4) (n := 3) dX6_where_24 rfl rfl rfl ?_
      refine j_if_lt (tgt := 37) (q := 28) dX6_where_25 rfl rfl ?_ ?_
      · refine j_iconst (q := 38) (v := (-1)) dX6_where_37 rfl rfl ?_
        exact j_ret (x := (-1)) dX6_where_38 ⟨trivial, rfl, rfl⟩
      · refine j_iload_n (q := 29) (i := 4) (n := 3) dX6_where_28 rfl rfl rfl ?_
        refine j_aload (q := 31) (i := 0) (n := 4) dX6_where_29 rfl rfl ?_
        refine gN_X1_copies (q := 34) wG_X6_88 hn3 dX6_where_31 rfl ?_
        refine j_icmp_lt (tgt := 39) (q := 37) dX6_where_34 rfl rfl ?_ ?_
        · refine j_aload (q := 41) (i := 0) (n := 4) dX6_where_39 rfl rfl ?_
          refine j_iload_n (q := 42) (i := 3) (n := 2) dX6_where_41 rfl rfl rfl ?_
          refine j_iload_n (q := 43) (i := 4) (n := 3) dX6_where_42 rfl rfl rfl ?_
          refine j_ci (q := 46) (rn_V (R := rm_X6_where) (As := [.int a1, .int a2]) (rest := []) (c_X1_sheetWith _ z gm g n2 hn3 a1 a2) cv_X1_sheetWith wM_X6_143 ⟨rfl, rfl⟩ ⟨(Nat.le_of_ble_eq_true rfl), (Nat.le_of_ble_eq_true rfl)⟩ hn3 rfl rfl rfl (Nat.le_of_ble_eq_true rfl) dX6_where_43) rfl (fun r5 => ?_)
          exact j_ret (x := r5) dX6_where_46 ⟨trivial, rfl, rfl⟩
        · refine j_iconst (q := 38) (v := (-1)) dX6_where_37 rfl rfl ?_
          exact j_ret (x := (-1)) dX6_where_38 ⟨trivial, rfl, rfl⟩
-- CopierJobs.tray(II)I
abbrev rm_X6_tray : Room := { frames := 3, cells := 0, slots := 0, locals := 68 }
theorem cv_X6_tray : CV yX6_tray cX6_tray 3 (some .int) 2 := ⟨wC_X6_tray, wI_X6_tray, wS_X6_tray, wZ_X6, by decide +kernel⟩
def m_X6_tray (g : zG) (a0 : Int32) (a1 : Int32) : Option (Int32) := if a0 < (nI 0) then some (-1) else if a0 < (nI 3) then if a1 = (nI 0) then ((m_X6_at g 7 0 a0).bind fun r1 => some r1) else if a1 = (nI 1) then (gd (gn g 0 < dm 73) ((m_X2_trayWants g 0 (gn g 0) a0).bind fun r4 => some r4)) else (some (-1)) else some (-1)
set_option maxRecDepth 100000 in
set_option maxHeartbeats 4000000 in
theorem c_X6_tray (l : Launch) (z : zE) (gm : zG) (g : zG) (a0 : Int32) (a1 : Int32) : ∀ x, m_X6_tray g a0 a1 = some x → Ms dm l yX6_tray cX6_tray 3 (some .int) rm_X6_tray z [.ref (za z 76 0), .int a0, .int a1] ((wx z gm) g) (oi x) ((wx z gm) ((fun _ => g) x)) := by
  refine ms_of (Wf := (wx z gm)) (ri := .ireturn) (out := oi) (nxt := (fun _ => g)) (ok := (fun _ => True)) (lv := [(0, .ref (za z 76 0)), (1, .int a0), (2, .int a1)]) (by decide) ⟨rfl, rfl⟩ (Nat.le_of_ble_eq_true rfl) rfl (en_i (out := fun x => x)) (fun p e s m below meth c => ?_)
  refine j_eq (M2 := if a0 < (nI 0) then some (-1) else if a0 < (nI 3) then if a1 = (nI 0) then ((m_X6_at g 7 0 a0).bind fun r1 => some r1) else if a1 = (nI 1) then (gd (gn g 0 < dm 73) ((m_X2_trayWants g 0 (gn g 0) a0).bind fun r4 => some r4)) else (some (-1)) else some (-1)) rfl ?_
  refine j_iload_n (q := 1) (i := 1) (n := 1) dX6_tray_0 rfl rfl rfl ?_
  refine j_if_lt (tgt := 9) (q := 4) dX6_tray_1 rfl rfl ?_ ?_
  · refine j_iconst (q := 10) (v := (-1)) dX6_tray_9 rfl rfl ?_
    exact j_ret (x := (-1)) dX6_tray_10 ⟨trivial, rfl, rfl⟩
  · refine j_iload_n (q := 5) (i := 1) (n := 1) dX6_tray_4 rfl rfl rfl ?_
    refine j_iconst (q := 6) (v := (nI 3)) dX6_tray_5 rfl rfl ?_
    refine j_icmp_lt (tgt := 11) (q := 9) dX6_tray_6 rfl rfl ?_ ?_
    · refine j_iload_n (q := 12) (i := 2) (n := 2) dX6_tray_11 rfl rfl rfl ?_
      refine j_case (v := (nI 0)) ?_ (fun h2 => ?_)
      · refine j_lookup (tgt := 40) dX6_tray_12 rfl rfl rfl ?_
        refine j_aload_n (q := 41) (i := 0) (n := 0) dX6_tray_40 rfl rfl rfl ?_
        refine g_X6_course (q := 44) wF_X6_19 (Nat.le_of_ble_eq_true rfl) dX6_tray_41 rfl ?_
        refine gN_X0_now (q := 47) wG_X6_104 (Nat.le_of_ble_eq_true rfl) dX6_tray_44 rfl ?_
        refine gN_X2_trays (q := 50) wG_X6_147 (Nat.le_of_ble_eq_true rfl) dX6_tray_47 rfl ?_
        refine j_iload_n (q := 51) (i := 1) (n := 1) dX6_tray_50 rfl rfl rfl ?_
        refine j_ci (q := 54) (rn_S (R := rm_X6_tray) (As := [.ref (za z 7 0), .int a0]) (rest := []) (c_X6_at _ z gm g 7 0 (Or.inl ⟨isX_7, (Nat.le_of_ble_eq_true rfl)⟩) a0) cv_X6_at wM_X6_151 ⟨rfl, rfl⟩ ⟨(Nat.le_of_ble_eq_true rfl), (Nat.le_of_ble_eq_true rfl)⟩ rfl (Nat.le_of_ble_eq_true rfl) dX6_tray_51) rfl (fun r1 => ?_)
        exact j_ret (x := r1) dX6_tray_54 ⟨trivial, rfl, rfl⟩
      refine j_case (v := (nI 1)) ?_ (fun h5 => ?_)
      · refine j_lookup (tgt := 55) dX6_tray_12 rfl rfl rfl ?_
        refine j_aload_n (q := 56) (i := 0) (n := 0) dX6_tray_55 rfl rfl rfl ?_
        refine g_X6_course (q := 59) wF_X6_19 (Nat.le_of_ble_eq_true rfl) dX6_tray_56 rfl ?_
        refine gN_X0_now (q := 62) wG_X6_104 (Nat.le_of_ble_eq_true rfl) dX6_tray_59 rfl ?_
        refine j_aload_n (q := 63) (i := 0) (n := 0) dX6_tray_62 rfl rfl rfl ?_
        refine g_X6_plan (q := 66) wF_X6_48 (Nat.le_of_ble_eq_true rfl) dX6_tray_63 rfl ?_
        refine j_gd (fun hp3 => ?_)
        refine j_iload_n (q := 67) (i := 1) (n := 1) dX6_tray_66 rfl rfl rfl ?_
        refine j_ci (q := 70) (rn_V (R := rm_X6_tray) (As := [.ref (za z 73 (gn g 0)), .int a0]) (rest := []) (c_X2_trayWants _ z gm g 0 (Nat.le_of_ble_eq_true rfl) (gn g 0) hp3 a0) cv_X2_trayWants wM_X6_155 ⟨rfl, rfl⟩ ⟨(Nat.le_of_ble_eq_true rfl), (Nat.le_of_ble_eq_true rfl)⟩ (Nat.le_of_ble_eq_true rfl) rfl rfl rfl (Nat.le_of_ble_eq_true rfl) dX6_tray_67) rfl (fun r4 => ?_)
        exact j_ret (x := r4) dX6_tray_70 ⟨trivial, rfl, rfl⟩
      refine j_lookup (tgt := 71) (off := 59) dX6_tray_12 rfl (by have e0 := (q_ne (n := 0) h2 rfl).symm; have e1 := (q_ne (n := 1) h5 rfl).symm; simp [Op.lookupswitch.offset, e0, e0.symm, e1, e1.symm]) rfl ?_
      refine j_iconst (q := 72) (v := (-1)) dX6_tray_71 rfl rfl ?_
      exact j_ret (x := (-1)) dX6_tray_72 ⟨trivial, rfl, rfl⟩
    · refine j_iconst (q := 10) (v := (-1)) dX6_tray_9 rfl rfl ?_
      exact j_ret (x := (-1)) dX6_tray_10 ⟨trivial, rfl, rfl⟩
-- CopierJobs.bin(I)I
abbrev rm_X6_bin : Room := { frames := 1, cells := 0, slots := 0, locals := 21 }
theorem cv_X6_bin : CV yX6_bin cX6_bin 2 (some .int) 1 := ⟨wC_X6_bin, wI_X6_bin, wS_X6_bin, wZ_X6, by decide +kernel⟩
def m_X6_bin (g : zG) (a0 : Int32) : Option (Int32) := gd (gn g 0 < dm 73) ((m_X3_hasBin g (gn g 0) a0).bind fun r2 => if r2 = (nI 0) then some (-1) else (m_X6_at g 8 0 a0).bind fun r3 => some r3)
set_option maxRecDepth 100000 in
set_option maxHeartbeats 4000000 in
theorem c_X6_bin (l : Launch) (z : zE) (gm : zG) (g : zG) (a0 : Int32) : ∀ x, m_X6_bin g a0 = some x → Ms dm l yX6_bin cX6_bin 2 (some .int) rm_X6_bin z [.ref (za z 76 0), .int a0] ((wx z gm) g) (oi x) ((wx z gm) ((fun _ => g) x)) := by
  refine ms_of (Wf := (wx z gm)) (ri := .ireturn) (out := oi) (nxt := (fun _ => g)) (ok := (fun _ => True)) (lv := [(0, .ref (za z 76 0)), (1, .int a0)]) (by decide) ⟨rfl, rfl⟩ (Nat.le_of_ble_eq_true rfl) rfl (en_i (out := fun x => x)) (fun p e s m below meth c => ?_)
  refine j_eq (M2 := gd (gn g 0 < dm 73) ((m_X3_hasBin g (gn g 0) a0).bind fun r2 => if r2 = (nI 0) then some (-1) else (m_X6_at g 8 0 a0).bind fun r3 => some r3)) rfl ?_
  refine j_aload_n (q := 1) (i := 0) (n := 0) dX6_bin_0 rfl rfl rfl ?_
  refine g_X6_plan (q := 4) wF_X6_48 (Nat.le_of_ble_eq_true rfl) dX6_bin_1 rfl ?_
  refine j_gd (fun hp1 => ?_)
  refine j_iload_n (q := 5) (i := 1) (n := 1) dX6_bin_4 rfl rfl rfl ?_
  refine j_ci (q := 8) (rn_V (R := rm_X6_bin) (As := [.int a0]) (rest := []) (c_X3_hasBin _ z gm g (gn g 0) hp1 a0) cv_X3_hasBin wM_X6_158 ⟨rfl, rfl⟩ ⟨(Nat.le_of_ble_eq_true rfl), (Nat.le_of_ble_eq_true rfl)⟩ hp1 rfl rfl rfl (Nat.le_of_ble_eq_true rfl) dX6_bin_5) rfl (fun r2 => ?_)
  refine j_if_eq (tgt := 28) (q := 11) dX6_bin_8 rfl rfl ?_ ?_
  · refine j_iconst (q := 29) (v := (-1)) dX6_bin_28 rfl rfl ?_
    exact j_ret (x := (-1)) dX6_bin_29 ⟨trivial, rfl, rfl⟩
  · refine j_aload_n (q := 12) (i := 0) (n := 0) dX6_bin_11 rfl rfl rfl ?_
    refine g_X6_course (q := 15) wF_X6_19 (Nat.le_of_ble_eq_true rfl) dX6_bin_12 rfl ?_
    refine gN_X0_now (q := 18) wG_X6_104 (Nat.le_of_ble_eq_true rfl) dX6_bin_15 rfl ?_
    refine gN_X2_bins (q := 21) wG_X6_161 (Nat.le_of_ble_eq_true rfl) dX6_bin_18 rfl ?_
    refine j_iload_n (q := 22) (i := 1) (n := 1) dX6_bin_21 rfl rfl rfl ?_
    refine j_ci (q := 25) (rn_S (R := rm_X6_bin) (As := [.ref (za z 8 0), .int a0]) (rest := []) (c_X6_at _ z gm g 8 0 (Or.inl ⟨isX_8, (Nat.le_of_ble_eq_true rfl)⟩) a0) cv_X6_at wM_X6_151 ⟨rfl, rfl⟩ ⟨(Nat.le_of_ble_eq_true rfl), (Nat.le_of_ble_eq_true rfl)⟩ rfl (Nat.le_of_ble_eq_true rfl) dX6_bin_22) rfl (fun r3 => ?_)
    refine j_goto (tgt := 29) dX6_bin_25 rfl ?_
    exact j_ret (x := r3) dX6_bin_29 ⟨trivial, rfl, rfl⟩
