-- CopierJobs.ticks(I)I
abbrev rm_X6_ticks : Room := { frames := 5, cells := 0, slots := 0, locals := 112 }
theorem cv_X6_ticks : CV yX6_ticks cX6_ticks 4 (some .int) 1 := ⟨wC_X6_ticks, wI_X6_ticks, wS_X6_ticks, wZ_X6, by decide +kernel⟩
def m_X6_ticks_B70 (a0 : Int32) (K45 : zG → Int32 → Int32 → Option (Int32 × zG)) (g : zG) (x2 : Int32) (x3 : Int32) : Option (Int32 × zG) := K45 g x2 (x3 + (nI 1))
set_option maxRecDepth 100000 in
set_option maxHeartbeats 4000000 in
theorem t_X6_ticks_B70 {p : Program} {l : Launch} {e : Env} {s : State} {m : MethodId} {args : Array Value} {below : List Frame} {meth : Method} {c : Code} {cells slots : Nat} {Q : (Int32 × zG) → State → Prop} (z : zE) (gm : zG) (a0 : Int32) (K45 : zG → Int32 → Int32 → Option (Int32 × zG)) (hK45 : ∀ (g : zG) (x2 : Int32) (x3 : Int32), zJ dm p l e rm_X6_ticks s m args below meth c cX6_ticks 4 yX6_ticks.cls z cells slots (wx z gm) (fn (fun _ => True) (fun x => x.2) osi) .ireturn Q 45 [(0, .ref (za z 76 0)), (1, .int a0), (2, .int x2), (3, .int x3)] [] g (K45 g x2 x3)) (g : zG) (x2 : Int32) (x3 : Int32) : zJ dm p l e rm_X6_ticks s m args below meth c cX6_ticks 4 yX6_ticks.cls z cells slots (wx z gm) (fn (fun _ => True) (fun x => x.2) osi) .ireturn Q 70 [(0, .ref (za z 76 0)), (1, .int a0), (2, .int x2), (3, .int x3)] [] g (m_X6_ticks_B70 a0 K45 g x2 x3) := by
  refine j_eq (M2 := K45 g x2 (x3 + (nI 1))) rfl ?_
  refine j_iinc (q := 73) (n := 3) (i := 3) (v := x3 + (nI 1)) (lv' := [(3, .int (x3 + (nI 1))), (0, .ref (za z 76 0)), (1, .int a0), (2, .int x2)]) dX6_ticks_70 rfl rfl (Nat.le_of_ble_eq_true rfl) rfl rfl ?_
  refine j_goto (tgt := 45) dX6_ticks_73 rfl ?_
  refine j_lv [1, 2, 3, 0] (lv' := [(0, .ref (za z 76 0)), (1, .int a0), (2, .int x2), (3, .int (x3 + (nI 1)))]) rfl ?_
  exact hK45 g x2 (x3 + (nI 1))
def m_X6_ticks_L45 (a0 : Int32) : Nat → zG → Int32 → Int32 → Option (Int32 × zG)
  | 0, _, _, _ => none
  | f + 1, g, x2, x3 => if x3 < a0 then gd (gn g 0 < dm 73) (sb (m_X2_passTick g 0 (gn g 0)) fun r3 g4 => if r3 = (nI 0) then m_X6_ticks_B70 a0 (m_X6_ticks_L45 a0 f) g4 x2 x3 else m_X6_ticks_B70 a0 (m_X6_ticks_L45 a0 f) g4 (x2 + (nI 1)) x3) else some (x2, g)
set_option maxRecDepth 100000 in
set_option maxHeartbeats 4000000 in
theorem t_X6_ticks_L45 {p : Program} {l : Launch} {e : Env} {s : State} {m : MethodId} {args : Array Value} {below : List Frame} {meth : Method} {c : Code} {cells slots : Nat} {Q : (Int32 × zG) → State → Prop} (z : zE) (gm : zG) (a0 : Int32) : ∀ (f : Nat) (g : zG) (x2 : Int32) (x3 : Int32), zJ dm p l e rm_X6_ticks s m args below meth c cX6_ticks 4 yX6_ticks.cls z cells slots (wx z gm) (fn (fun _ => True) (fun x => x.2) osi) .ireturn Q 45 [(0, .ref (za z 76 0)), (1, .int a0), (2, .int x2), (3, .int x3)] [] g (m_X6_ticks_L45 a0 f g x2 x3) := by
  intro f
  induction f with
  | zero => intro g x2 x3; exact j_none
  | succ f ih =>
    intro g x2 x3
    refine j_eq (M2 := if x3 < a0 then gd (gn g 0 < dm 73) (sb (m_X2_passTick g 0 (gn g 0)) fun r3 g4 => if r3 = (nI 0) then m_X6_ticks_B70 a0 (m_X6_ticks_L45 a0 f) g4 x2 x3 else m_X6_ticks_B70 a0 (m_X6_ticks_L45 a0 f) g4 (x2 + (nI 1)) x3) else some (x2, g)) rfl ?_
    refine j_iload_n (q := 46) (i := 3) (n := 3) dX6_ticks_45 rfl rfl rfl ?_
    refine j_iload_n (q := 47) (i := 1) (n := 1) dX6_ticks_46 rfl rfl rfl ?_
    refine j_icmp_ge (tgt := 76) (q := 50) dX6_ticks_47 rfl rfl ?_ ?_
    · refine j_iload_n (q := 77) (i := 2) (n := 2) dX6_ticks_76 rfl rfl rfl ?_
      exact j_ret (x := (x2, g)) dX6_ticks_77 ⟨trivial, rfl, rfl⟩
    · refine j_aload_n (q := 51) (i := 0) (n := 0) dX6_ticks_50 rfl rfl rfl ?_
      refine g_X6_course (q := 54) wF_X6_19 (Nat.le_of_ble_eq_true rfl) dX6_ticks_51 rfl ?_
      refine gN_X0_now (q := 57) wG_X6_104 (Nat.le_of_ble_eq_true rfl) dX6_ticks_54 rfl ?_
      refine j_aload_n (q := 58) (i := 0) (n := 0) dX6_ticks_57 rfl rfl rfl ?_
      refine g_X6_plan (q := 61) wF_X6_48 (Nat.le_of_ble_eq_true rfl) dX6_ticks_58 rfl ?_
      refine j_gd (fun hp2 => ?_)
      refine j_ss (q := 64) (rn_V (R := rm_X6_ticks) (As := [.ref (za z 73 (gn g 0))]) (rest := []) (c_X2_passTick _ z gm g 0 (Nat.le_of_ble_eq_true rfl) (gn g 0) hp2) cv_X2_passTick wM_X6_170 ⟨rfl, rfl⟩ ⟨(Nat.le_of_ble_eq_true rfl), (Nat.le_of_ble_eq_true rfl)⟩ (Nat.le_of_ble_eq_true rfl) rfl rfl rfl (Nat.le_of_ble_eq_true rfl) dX6_ticks_61) rfl (fun r3 g4 => ?_)
      refine j_if_eq (tgt := 70) (q := 67) dX6_ticks_64 rfl rfl ?_ ?_
      · exact t_X6_ticks_B70 z gm a0 (m_X6_ticks_L45 a0 f) ih g4 x2 x3
      · refine j_iinc (q := 70) (n := 2) (i := 2) (v := x2 + (nI 1)) (lv' := [(2, .int (x2 + (nI 1))), (0, .ref (za z 76 0)), (1, .int a0), (3, .int x3)]) dX6_ticks_67 rfl rfl (Nat.le_of_ble_eq_true rfl) rfl rfl ?_
        refine j_lv [1, 2, 0, 3] (lv' := [(0, .ref (za z 76 0)), (1, .int a0), (2, .int (x2 + (nI 1))), (3, .int x3)]) rfl ?_
        exact t_X6_ticks_B70 z gm a0 (m_X6_ticks_L45 a0 f) ih g4 (x2 + (nI 1)) x3
def m_X6_ticks (g : zG) (a0 : Int32) : Option (Int32 × zG) := if a0 < (nI 1) then some ((-1), g) else if (nI 20) < a0 then some ((-1), g) else if (nI 9999) < ((gi g 0 0 0) + a0) then some ((-2), g) else (m_X0_remember g 0).bind fun g1 => m_X6_ticks_L45 a0 FU g1 (nI 0) (nI 0)
set_option maxRecDepth 100000 in
set_option maxHeartbeats 4000000 in
theorem c_X6_ticks (l : Launch) (z : zE) (gm : zG) (g : zG) (a0 : Int32) : ∀ x, m_X6_ticks g a0 = some x → Ms dm l yX6_ticks cX6_ticks 4 (some .int) rm_X6_ticks z [.ref (za z 76 0), .int a0] ((wx z gm) g) (osi x) ((wx z gm) ((fun x => x.2) x)) := by
  refine ms_of (Wf := (wx z gm)) (ri := .ireturn) (out := osi) (nxt := (fun x => x.2)) (ok := (fun _ => True)) (lv := [(0, .ref (za z 76 0)), (1, .int a0)]) (by decide) ⟨rfl, rfl⟩ (Nat.le_of_ble_eq_true rfl) rfl (en_i (out := fun x : Int32 × zG => x.1)) (fun p e s m below meth c => ?_)
  refine j_eq (M2 := if a0 < (nI 1) then some ((-1), g) else if (nI 20) < a0 then some ((-1), g) else if (nI 9999) < ((gi g 0 0 0) + a0) then some ((-2), g) else (m_X0_remember g 0).bind fun g1 => m_X6_ticks_L45 a0 FU g1 (nI 0) (nI 0)) rfl ?_
  refine j_iload_n (q := 1) (i := 1) (n := 1) dX6_ticks_0 rfl rfl rfl ?_
  refine j_iconst (q := 2) (v := (nI 1)) dX6_ticks_1 rfl rfl ?_
  refine j_icmp_lt (tgt := 11) (q := 5) dX6_ticks_2 rfl rfl ?_ ?_
  · refine j_iconst (q := 12) (v := (-1)) dX6_ticks_11 rfl rfl ?_
    exact j_ret (x := ((-1), g)) dX6_ticks_12 ⟨trivial, rfl, rfl⟩
  · refine j_iload_n (q := 6) (i := 1) (n := 1) dX6_ticks_5 rfl rfl rfl ?_
    refine j_bipush (q := 8) (v := (nI 20)) dX6_ticks_6 rfl rfl ?_
    refine j_icmp_le (tgt := 13) (q := 11) dX6_ticks_8 rfl rfl ?_ ?_
    · refine j_aload_n (q := 14) (i := 0) (n := 0) dX6_ticks_13 rfl rfl rfl ?_
      refine g_X6_course (q := 17) wF_X6_19 (Nat.le_of_ble_eq_true rfl) dX6_ticks_14 rfl ?_
      refine gN_X0_now (q := 20) wG_X6_104 (Nat.le_of_ble_eq_true rfl) dX6_ticks_17 rfl ?_
      refine gN_X2_tick (q := 23) wG_X6_164 (Nat.le_of_ble_eq_true rfl) dX6_ticks_20 rfl ?_
      refine j_iload_n (q := 24) (i := 1) (n := 1) dX6_ticks_23 rfl rfl rfl ?_
      refine j_iadd (q := 25) dX6_ticks_24 rfl ?_
      refine j_sipush (q := 28) (v := (nI 9999)) dX6_ticks_25 rfl rfl ?_
      refine j_icmp_le (tgt := 34) (q := 31) dX6_ticks_28 rfl rfl ?_ ?_
      · refine j_aload_n (q := 35) (i := 0) (n := 0) dX6_ticks_34 rfl rfl rfl ?_
        refine g_X6_course (q := 38) wF_X6_19 (Nat.le_of_ble_eq_true rfl) dX6_ticks_35 rfl ?_
        refine j_sv (q := 41) (rn_V (R := rm_X6_ticks) (As := []) (rest := []) (c_X0_remember _ z gm g 0 (Nat.le_of_ble_eq_true rfl)) cv_X0_remember wM_X6_167 ⟨rfl, rfl⟩ ⟨(Nat.le_of_ble_eq_true rfl), (Nat.le_of_ble_eq_true rfl)⟩ (Nat.le_of_ble_eq_true rfl) rfl rfl rfl (Nat.le_of_ble_eq_true rfl) dX6_ticks_38) rfl (fun g1 => ?_)
        refine j_iconst (q := 42) (v := (nI 0)) dX6_ticks_41 rfl rfl ?_
        refine j_istore_n (q := 43) (n := 2) (lv' := [(2, .int (nI 0)), (0, .ref (za z 76 0)), (1, .int a0)]) dX6_ticks_42 rfl (Nat.le_of_ble_eq_true rfl) rfl rfl ?_
        refine j_iconst (q := 44) (v := (nI 0)) dX6_ticks_43 rfl rfl ?_
        refine j_istore_n (q := 45) (n := 3) (lv' := [(3, .int (nI 0)), (2, .int (nI 0)), (0, .ref (za z 76 0)), (1, .int a0)]) dX6_ticks_44 rfl (Nat.le_of_ble_eq_true rfl) rfl rfl ?_
        refine j_lv [2, 3, 1, 0] (lv' := [(0, .ref (za z 76 0)), (1, .int a0), (2, .int (nI 0)), (3, .int (nI 0))]) rfl ?_
        exact t_X6_ticks_L45 z gm a0 FU g1 (nI 0) (nI 0)
      · refine j_bipush (q := 33) (v := (-2)) dX6_ticks_31 rfl rfl ?_
        exact j_ret (x := ((-2), g)) dX6_ticks_33 ⟨trivial, rfl, rfl⟩
    · refine j_iconst (q := 12) (v := (-1)) dX6_ticks_11 rfl rfl ?_
      exact j_ret (x := ((-1), g)) dX6_ticks_12 ⟨trivial, rfl, rfl⟩
-- CopierJobs.ahead(I)I
abbrev rm_X6_ahead : Room := { frames := 3, cells := 0, slots := 0, locals := 65 }
theorem cv_X6_ahead : CV yX6_ahead cX6_ahead 4 (some .int) 1 := ⟨wC_X6_ahead, wI_X6_ahead, wS_X6_ahead, wZ_X6, by decide +kernel⟩
def m_X6_ahead (g : zG) (a0 : Int32) : Option (Int32 × zG) := gd (gn g 0 < dm 73) ((m_X3_jobAt g (gn g 0) a0).bind fun x => oc x (some ((-1), g)) (fun n2 => gd (n2 < dm 71) ((m_X2_placeOf g 0 a0).bind fun r4 => if r4 = (-9) then some ((-2), g) else if r4 = (nI 0) then some ((-2), g) else (m_X0_remember g 0).bind fun g5 => (m_X2_firstJob g5 0).bind fun r6 => (m_X2_comeToHead g5 0 a0).bind fun g7 => some (r6, g7))))
set_option maxRecDepth 100000 in
set_option maxHeartbeats 4000000 in
theorem c_X6_ahead (l : Launch) (z : zE) (gm : zG) (g : zG) (a0 : Int32) : ∀ x, m_X6_ahead g a0 = some x → Ms dm l yX6_ahead cX6_ahead 4 (some .int) rm_X6_ahead z [.ref (za z 76 0), .int a0] ((wx z gm) g) (osi x) ((wx z gm) ((fun x => x.2) x)) := by
  refine ms_of (Wf := (wx z gm)) (ri := .ireturn) (out := osi) (nxt := (fun x => x.2)) (ok := (fun _ => True)) (lv := [(0, .ref (za z 76 0)), (1, .int a0)]) (by decide) ⟨rfl, rfl⟩ (Nat.le_of_ble_eq_true rfl) rfl (en_i (out := fun x : Int32 × zG => x.1)) (fun p e s m below meth c => ?_)
  refine j_eq (M2 := gd (gn g 0 < dm 73) ((m_X3_jobAt g (gn g 0) a0).bind fun x => oc x (some ((-1), g)) (fun n2 => gd (n2 < dm 71) ((m_X2_placeOf g 0 a0).bind fun r4 => if r4 = (-9) then some ((-2), g) else if r4 = (nI 0) then some ((-2), g) else (m_X0_remember g 0).bind fun g5 => (m_X2_firstJob g5 0).bind fun r6 => (m_X2_comeToHead g5 0 a0).bind fun g7 => some (r6, g7))))) rfl ?_
  refine j_aload_n (q := 1) (i := 0) (n := 0) dX6_ahead_0 rfl rfl rfl ?_
  refine g_X6_plan (q := 4) wF_X6_48 (Nat.le_of_ble_eq_true rfl) dX6_ahead_1 rfl ?_
  refine j_gd (fun hp1 => ?_)
  refine j_iload_n (q := 5) (i := 1) (n := 1) dX6_ahead_4 rfl rfl rfl ?_
  refine j_crs (k0 := 71) (q := 8) (rn_V (R := rm_X6_ahead) (As := [.int a0]) (rest := []) (c_X3_jobAt _ z gm g (gn g 0) hp1 a0) cv_X3_jobAt wM_X6_78 ⟨rfl, rfl⟩ ⟨(Nat.le_of_ble_eq_true rfl), (Nat.le_of_ble_eq_true rfl)⟩ hp1 rfl rfl rfl (Nat.le_of_ble_eq_true rfl) dX6_ahead_5) rfl ?_ (fun n2 => ?_)
  · refine j_non0 (q := 11) dX6_ahead_8 rfl ?_
    refine j_iconst (q := 12) (v := (-1)) dX6_ahead_11 rfl rfl ?_
    exact j_ret (x := ((-1), g)) dX6_ahead_12 ⟨trivial, rfl, rfl⟩
  · refine j_gd (fun hn3 => ?_)
    refine j_non1 (tgt := 13) dX6_ahead_8 rfl ?_
    refine j_aload_n (q := 14) (i := 0) (n := 0) dX6_ahead_13 rfl rfl rfl ?_
    refine g_X6_course (q := 17) wF_X6_19 (Nat.le_of_ble_eq_true rfl) dX6_ahead_14 rfl ?_
    refine gN_X0_now (q := 20) wG_X6_104 (Nat.le_of_ble_eq_true rfl) dX6_ahead_17 rfl ?_
    refine j_iload_n (q := 21) (i := 1) (n := 1) dX6_ahead_20 rfl rfl rfl ?_
    refine j_ci (q := 24) (rn_V (R := rm_X6_ahead) (As := [.int a0]) (rest := []) (c_X2_placeOf _ z gm g 0 (Nat.le_of_ble_eq_true rfl) a0) cv_X2_placeOf wM_X6_110 ⟨rfl, rfl⟩ ⟨(Nat.le_of_ble_eq_true rfl), (Nat.le_of_ble_eq_true rfl)⟩ (Nat.le_of_ble_eq_true rfl) rfl rfl rfl (Nat.le_of_ble_eq_true rfl) dX6_ahead_21) rfl (fun r4 => ?_)
    refine j_istore_n (q := 25) (n := 2) (lv' := [(2, .int r4), (0, .ref (za z 76 0)), (1, .int a0)]) dX6_ahead_24 rfl (Nat.le_of_ble_eq_true rfl) rfl rfl ?_
    refine j_iload_n (q := 26) (i := 0) (n := 2) dX6_ahead_25 rfl rfl rfl ?_
    refine j_bipush (q := 28) (v := (-9)) dX6_ahead_26 rfl rfl ?_
    refine j_icmp_eq (tgt := 35) (q := 31) dX6_ahead_28 rfl rfl ?_ ?_
    · refine j_bipush (q := 37) (v := (-2)) dX6_ahead_35 rfl rfl ?_
      exact j_ret (x := ((-2), g)) dX6_ahead_37 ⟨trivial, rfl, rfl⟩
    · refine j_iload_n (q := 32) (i := 0) (n := 2) dX6_ahead_31 rfl rfl rfl ?_
      refine j_if_ne (tgt := 38) (q := 35) dX6_ahead_32 rfl rfl ?_ ?_
      · refine j_aload_n (q := 39) (i := 1) (n := 0) dX6_ahead_38 rfl rfl rfl ?_
        refine g_X6_course (q := 42) wF_X6_19 (Nat.le_of_ble_eq_true rfl) dX6_ahead_39 rfl ?_
        refine j_sv (q := 45) (rn_V (R := rm_X6_ahead) (As := []) (rest := []) (c_X0_remember _ z gm g 0 (Nat.le_of_ble_eq_true rfl)) cv_X0_remember wM_X6_167 ⟨rfl, rfl⟩ ⟨(Nat.le_of_ble_eq_true rfl), (Nat.le_of_ble_eq_true rfl)⟩ (Nat.le_of_ble_eq_true rfl) rfl rfl rfl (Nat.le_of_ble_eq_true rfl) dX6_ahead_42) rfl (fun g5 => ?_)
        refine j_aload_n (q := 46) (i := 1) (n := 0) dX6_ahead_45 rfl rfl rfl ?_
        refine g_X6_course (q := 49) wF_X6_19 (Nat.le_of_ble_eq_true rfl) dX6_ahead_46 rfl ?_
        refine gN_X0_now (q := 52) wG_X6_104 (Nat.le_of_ble_eq_true rfl) dX6_ahead_49 rfl ?_
        refine j_ci (q := 55) (rn_V (R := rm_X6_ahead) (As := []) (rest := []) (c_X2_firstJob _ z gm g5 0 (Nat.le_of_ble_eq_true rfl)) cv_X2_firstJob wM_X6_174 ⟨rfl, rfl⟩ ⟨(Nat.le_of_ble_eq_true rfl), (Nat.le_of_ble_eq_true rfl)⟩ (Nat.le_of_ble_eq_true rfl) rfl rfl rfl (Nat.le_of_ble_eq_true rfl) dX6_ahead_52) rfl (fun r6 => ?_)
        refine j_istore_n (q := 56) (n := 3) (lv' := [(3, .int r6), (2, .int r4), (0, .ref (za z 76 0)), (1, .int a0)]) dX6_ahead_55 rfl (Nat.le_of_ble_eq_true rfl) rfl rfl ?_
        refine j_aload_n (q := 57) (i := 2) (n := 0) dX6_ahead_56 rfl rfl rfl ?_
        refine g_X6_course (q := 60) wF_X6_19 (Nat.le_of_ble_eq_true rfl) dX6_ahead_57 rfl ?_
        refine gN_X0_now (q := 63) wG_X6_104 (Nat.le_of_ble_eq_true rfl) dX6_ahead_60 rfl ?_
        refine j_iload_n (q := 64) (i := 3) (n := 1) dX6_ahead_63 rfl rfl rfl ?_
        refine j_sv (q := 67) (rn_V (R := rm_X6_ahead) (As := [.int a0]) (rest := []) (c_X2_comeToHead _ z gm g5 0 (Nat.le_of_ble_eq_true rfl) a0) cv_X2_comeToHead wM_X6_177 ⟨rfl, rfl⟩ ⟨(Nat.le_of_ble_eq_true rfl), (Nat.le_of_ble_eq_true rfl)⟩ (Nat.le_of_ble_eq_true rfl) rfl rfl rfl (Nat.le_of_ble_eq_true rfl) dX6_ahead_64) rfl (fun g7 => ?_)
        refine j_iload_n (q := 68) (i := 0) (n := 3) dX6_ahead_67 rfl rfl rfl ?_
        exact j_ret (x := (r6, g7)) dX6_ahead_68 ⟨trivial, rfl, rfl⟩
      · refine j_bipush (q := 37) (v := (-2)) dX6_ahead_35 rfl rfl ?_
        exact j_ret (x := ((-2), g)) dX6_ahead_37 ⟨trivial, rfl, rfl⟩
-- CopierJobs.breaks(I)I
abbrev rm_X6_breaks : Room := { frames := 3, cells := 0, slots := 0, locals := 65 }
theorem cv_X6_breaks : CV yX6_breaks cX6_breaks 2 (some .int) 1 := ⟨wC_X6_breaks, wI_X6_breaks, wS_X6_breaks, wZ_X6, by decide +kernel⟩
def m_X6_breaks (g : zG) (a0 : Int32) : Option (Int32 × zG) := gd (gn g 0 < dm 73) ((m_X3_jobAt g (gn g 0) a0).bind fun x => oc x (some ((-1), g)) (fun n2 => gd (n2 < dm 71) ((m_X2_placeOf g 0 a0).bind fun r4 => if r4 = (-9) then some ((-2), g) else (m_X0_remember g 0).bind fun g5 => (m_X2_leaveQueue g5 0 a0).bind fun g6 => some (gi g6 3 0 0, g6))))
set_option maxRecDepth 100000 in
set_option maxHeartbeats 4000000 in
theorem c_X6_breaks (l : Launch) (z : zE) (gm : zG) (g : zG) (a0 : Int32) : ∀ x, m_X6_breaks g a0 = some x → Ms dm l yX6_breaks cX6_breaks 2 (some .int) rm_X6_breaks z [.ref (za z 76 0), .int a0] ((wx z gm) g) (osi x) ((wx z gm) ((fun x => x.2) x)) := by
  refine ms_of (Wf := (wx z gm)) (ri := .ireturn) (out := osi) (nxt := (fun x => x.2)) (ok := (fun _ => True)) (lv := [(0, .ref (za z 76 0)), (1, .int a0)]) (by decide) ⟨rfl, rfl⟩ (Nat.le_of_ble_eq_true rfl) rfl (en_i (out := fun x : Int32 × zG => x.1)) (fun p e s m below meth c => ?_)
  refine j_eq (M2 := gd (gn g 0 < dm 73) ((m_X3_jobAt g (gn g 0) a0).bind fun x => oc x (some ((-1), g)) (fun n2 => gd (n2 < dm 71) ((m_X2_placeOf g 0 a0).bind fun r4 => if r4 = (-9) then some ((-2), g) else (m_X0_remember g 0).bind fun g5 => (m_X2_leaveQueue g5 0 a0).bind fun g6 => some (gi g6 3 0 0, g6))))) rfl ?_
  refine j_aload_n (q := 1) (i := 0) (n := 0) dX6_breaks_0 rfl rfl rfl ?_
  refine g_X6_plan (q := 4) wF_X6_48 (Nat.le_of_ble_eq_true rfl) dX6_breaks_1 rfl ?_
  refine j_gd (fun hp1 => ?_)
  refine j_iload_n (q := 5) (i := 1) (n := 1) dX6_breaks_4 rfl rfl rfl ?_
  refine j_crs (k0 := 71) (q := 8) (rn_V (R := rm_X6_breaks) (As := [.int a0]) (rest := []) (c_X3_jobAt _ z gm g (gn g 0) hp1 a0) cv_X3_jobAt wM_X6_78 ⟨rfl, rfl⟩ ⟨(Nat.le_of_ble_eq_true rfl), (Nat.le_of_ble_eq_true rfl)⟩ hp1 rfl rfl rfl (Nat.le_of_ble_eq_true rfl) dX6_breaks_5) rfl ?_ (fun n2 => ?_)
  · refine j_non0 (q := 11) dX6_breaks_8 rfl ?_
    refine j_iconst (q := 12) (v := (-1)) dX6_breaks_11 rfl rfl ?_
    exact j_ret (x := ((-1), g)) dX6_breaks_12 ⟨trivial, rfl, rfl⟩
  · refine j_gd (fun hn3 => ?_)
    refine j_non1 (tgt := 13) dX6_breaks_8 rfl ?_
    refine j_aload_n (q := 14) (i := 0) (n := 0) dX6_breaks_13 rfl rfl rfl ?_
    refine g_X6_course (q := 17) wF_X6_19 (Nat.le_of_ble_eq_true rfl) dX6_breaks_14 rfl ?_
    refine gN_X0_now (q := 20) wG_X6_104 (Nat.le_of_ble_eq_true rfl) dX6_breaks_17 rfl ?_
    refine j_iload_n (q := 21) (i := 1) (n := 1) dX6_breaks_20 rfl rfl rfl ?_
    refine j_ci (q := 24) (rn_V (R := rm_X6_breaks) (As := [.int a0]) (rest := []) (c_X2_placeOf _ z gm g 0 (Nat.le_of_ble_eq_true rfl) a0) cv_X2_placeOf wM_X6_110 ⟨rfl, rfl⟩ ⟨(Nat.le_of_ble_eq_true rfl), (Nat.le_of_ble_eq_true rfl)⟩ (Nat.le_of_ble_eq_true rfl) rfl rfl rfl (Nat.le_of_ble_eq_true rfl) dX6_breaks_21) rfl (fun r4 => ?_)
    refine j_bipush (q := 26) (v := (-9)) dX6_breaks_24 rfl rfl ?_
    refine j_icmp_ne (tgt := 32) (q := 29) dX6_breaks_26 rfl rfl ?_ ?_
    · refine j_aload_n (q := 33) (i := 0) (n := 0) dX6_breaks_32 rfl rfl rfl ?_
      refine g_X6_course (q := 36) wF_X6_19 (Nat.le_of_ble_eq_true rfl) dX6_breaks_33 rfl ?_
      refine j_sv (q := 39) (rn_V (R := rm_X6_breaks) (As := []) (rest := []) (c_X0_remember _ z gm g 0 (Nat.le_of_ble_eq_true rfl)) cv_X0_remember wM_X6_167 ⟨rfl, rfl⟩ ⟨(Nat.le_of_ble_eq_true rfl), (Nat.le_of_ble_eq_true rfl)⟩ (Nat.le_of_ble_eq_true rfl) rfl rfl rfl (Nat.le_of_ble_eq_true rfl) dX6_breaks_36) rfl (fun g5 => ?_)
      refine j_aload_n (q := 40) (i := 0) (n := 0) dX6_breaks_39 rfl rfl rfl ?_
      refine g_X6_course (q := 43) wF_X6_19 (Nat.le_of_ble_eq_true rfl) dX6_breaks_40 rfl ?_
      refine gN_X0_now (q := 46) wG_X6_104 (Nat.le_of_ble_eq_true rfl) dX6_breaks_43 rfl ?_
      refine j_iload_n (q := 47) (i := 1) (n := 1) dX6_breaks_46 rfl rfl rfl ?_
      refine j_sv (q := 50) (rn_V (R := rm_X6_breaks) (As := [.int a0]) (rest := []) (c_X2_leaveQueue _ z gm g5 0 (Nat.le_of_ble_eq_true rfl) a0) cv_X2_leaveQueue wM_X6_181 ⟨rfl, rfl⟩ ⟨(Nat.le_of_ble_eq_true rfl), (Nat.le_of_ble_eq_true rfl)⟩ (Nat.le_of_ble_eq_true rfl) rfl rfl rfl (Nat.le_of_ble_eq_true rfl) dX6_breaks_47) rfl (fun g6 => ?_)
      refine j_aload_n (q := 51) (i := 0) (n := 0) dX6_breaks_50 rfl rfl rfl ?_
      refine g_X6_course (q := 54) wF_X6_19 (Nat.le_of_ble_eq_true rfl) dX6_breaks_51 rfl ?_
      refine gN_X0_now (q := 57) wG_X6_104 (Nat.le_of_ble_eq_true rfl) dX6_breaks_54 rfl ?_
      refine gN_X2_queued (q := 60) wG_X6_184 (Nat.le_of_ble_eq_true rfl) dX6_breaks_57 rfl ?_
      exact j_ret (x := (gi g6 3 0 0, g6)) dX6_breaks_60 ⟨trivial, rfl, rfl⟩
    · refine j_bipush (q := 31) (v := (-2)) dX6_breaks_29 rfl rfl ?_
      exact j_ret (x := ((-2), g)) dX6_breaks_31 ⟨trivial, rfl, rfl⟩
-- CopierJobs.fills(II)I
abbrev rm_X6_fills : Room := { frames := 3, cells := 0, slots := 0, locals := 65 }
theorem cv_X6_fills : CV yX6_fills cX6_fills 4 (some .int) 2 := ⟨wC_X6_fills, wI_X6_fills, wS_X6_fills, wZ_X6, by decide +kernel⟩
def m_X6_fills (g : zG) (a0 : Int32) (a1 : Int32) : Option (Int32 × zG) := if a0 < (nI 0) then some ((-1), g) else if a0 < (nI 3) then if a1 < (nI 1) then some ((-1), g) else if (nI 99) < a1 then some ((-1), g) else (m_X6_at g 7 0 a0).bind fun r1 => if r1 < (nI 99) then (m_X0_remember g 0).bind fun g2 => (m_J9_min_7cf53 (nI 99) (r1 + a1)).bind fun r3 => (m_X6_put g2 7 0 a0 r3).bind fun g4 => (m_X6_at g4 7 0 a0).bind fun r5 => some (r5, g4) else some ((-2), g) else some ((-1), g)
set_option maxRecDepth 100000 in
set_option maxHeartbeats 4000000 in
theorem c_X6_fills (l : Launch) (z : zE) (gm : zG) (g : zG) (a0 : Int32) (a1 : Int32) : ∀ x, m_X6_fills g a0 a1 = some x → Ms dm l yX6_fills cX6_fills 4 (some .int) rm_X6_fills z [.ref (za z 76 0), .int a0, .int a1] ((wx z gm) g) (osi x) ((wx z gm) ((fun x => x.2) x)) := by
  refine ms_of (Wf := (wx z gm)) (ri := .ireturn) (out := osi) (nxt := (fun x => x.2)) (ok := (fun _ => True)) (lv := [(0, .ref (za z 76 0)), (1, .int a0), (2, .int a1)]) (by decide) ⟨rfl, rfl⟩ (Nat.le_of_ble_eq_true rfl) rfl (en_i (out := fun x : Int32 × zG => x.1)) (fun p e s m below meth c => ?_)
  refine j_eq (M2 := if a0 < (nI 0) then some ((-1), g) else if a0 < (nI 3) then if a1 < (nI 1) then some ((-1), g) else if (nI 99) < a1 then some ((-1), g) else (m_X6_at g 7 0 a0).bind fun r1 => if r1 < (nI 99) then (m_X0_remember g 0).bind fun g2 => (m_J9_min_7cf53 (nI 99) (r1 + a1)).bind fun r3 => (m_X6_put g2 7 0 a0 r3).bind fun g4 => (m_X6_at g4 7 0 a0).bind fun r5 => some (r5, g4) else some ((-2), g) else some ((-1), g)) rfl ?_
  refine j_iload_n (q := 1) (i := 1) (n := 1) dX6_fills_0 rfl rfl rfl ?_
  refine j_if_lt (tgt := 20) (q := 4) dX6_fills_1 rfl rfl ?_ ?_
  · refine j_iconst (q := 21) (v := (-1)) dX6_fills_20 rfl rfl ?_
    exact j_ret (x := ((-1), g)) dX6_fills_21 ⟨trivial, rfl, rfl⟩
  · refine j_iload_n (q := 5) (i := 1) (n := 1) dX6_fills_4 rfl rfl rfl ?_
    refine j_iconst (q := 6) (v := (nI 3)) dX6_fills_5 rfl rfl ?_
    refine j_icmp_ge (tgt := 20) (q := 9) dX6_fills_6 rfl rfl ?_ ?_
    · refine j_iconst (q := 21) (v := (-1)) dX6_fills_20 rfl rfl ?_
      exact j_ret (x := ((-1), g)) dX6_fills_21 ⟨trivial, rfl, rfl⟩
    · refine j_iload_n (q := 10) (i := 2) (n := 2) dX6_fills_9 rfl rfl rfl ?_
      refine j_iconst (q := 11) (v := (nI 1)) dX6_fills_10 rfl rfl ?_
      refine j_icmp_lt (tgt := 20) (q := 14) dX6_fills_11 rfl rfl ?_ ?_
      · refine j_iconst (q := 21) (v := (-1)) dX6_fills_20 rfl rfl ?_
        exact j_ret (x := ((-1), g)) dX6_fills_21 ⟨trivial, rfl, rfl⟩
      · refine j_iload_n (q := 15) (i := 2) (n := 2) dX6_fills_14 rfl rfl rfl ?_
        refine j_bipush (q := 17) (v := (nI 99)) dX6_fills_15 rfl rfl ?_
        refine j_icmp_le (tgt := 22) (q := 20) dX6_fills_17 rfl rfl ?_ ?_
        · refine j_aload_n (q := 23) (i := 0) (n := 0) dX6_fills_22 rfl rfl rfl ?_
          refine g_X6_course (q := 26) wF_X6_19 (Nat.le_of_ble_eq_true rfl) dX6_fills_23 rfl ?_
          refine gN_X0_now (q := 29) wG_X6_104 (Nat.le_of_ble_eq_true rfl) dX6_fills_26 rfl ?_
          refine gN_X2_trays (q := 32) wG_X6_147 (Nat.le_of_ble_eq_true rfl) dX6_fills_29 rfl ?_
          refine j_iload_n (q := 33) (i := 1) (n := 1) dX6_fills_32 rfl rfl rfl ?_
          refine j_ci (q := 36) (rn_S (R := rm_X6_fills) (As := [.ref (za z 7 0), .int a0]) (rest := []) (c_X6_at _ z gm g 7 0 (Or.inl ⟨isX_7, (Nat.le_of_ble_eq_true rfl)⟩) a0) cv_X6_at wM_X6_151 ⟨rfl, rfl⟩ ⟨(Nat.le_of_ble_eq_true rfl), (Nat.le_of_ble_eq_true rfl)⟩ rfl (Nat.le_of_ble_eq_true rfl) dX6_fills_33) rfl (fun r1 => ?_)
          refine j_istore_n (q := 37) (n := 3) (lv' := [(3, .int r1), (0, .ref (za z 76 0)), (1, .int a0), (2, .int a1)]) dX6_fills_36 rfl (Nat.le_of_ble_eq_true rfl) rfl rfl ?_
          refine j_iload_n (q := 38) (i := 0) (n := 3) dX6_fills_37 rfl rfl rfl ?_
          refine j_bipush (q := 40) (v := (nI 99)) dX6_fills_38 rfl rfl ?_
          refine j_icmp_lt (tgt := 46) (q := 43) dX6_fills_40 rfl rfl ?_ ?_
          · refine j_aload_n (q := 47) (i := 1) (n := 0) dX6_fills_46 rfl rfl rfl ?_
            refine g_X6_course (q := 50) wF_X6_19 (Nat.le_of_ble_eq_true rfl) dX6_fills_47 rfl ?_
            refine j_sv (q := 53) (rn_V (R := rm_X6_fills) (As := []) (rest := []) (c_X0_remember _ z gm g 0 (Nat.le_of_ble_eq_true rfl)) cv_X0_remember wM_X6_167 ⟨rfl, rfl⟩ ⟨(Nat.le_of_ble_eq_true rfl), (Nat.le_of_ble_eq_true rfl)⟩ (Nat.le_of_ble_eq_true rfl) rfl rfl rfl (Nat.le_of_ble_eq_true rfl) dX6_fills_50) rfl (fun g2 => ?_)
            refine j_aload_n (q := 54) (i := 1) (n := 0) dX6_fills_53 rfl rfl rfl ?_
            refine g_X6_course (q := 57) wF_X6_19 (Nat.le_of_ble_eq_true rfl) dX6_fills_54 rfl ?_
            refine gN_X0_now (q := 60) wG_X6_104 (Nat.le_of_ble_eq_true rfl) dX6_fills_57 rfl ?_
            refine gN_X2_trays (q := 63) wG_X6_147 (Nat.le_of_ble_eq_true rfl) dX6_fills_60 rfl ?_
            refine j_iload_n (q := 64) (i := 2) (n := 1) dX6_fills_63 rfl rfl rfl ?_
            refine j_bipush (q := 66) (v := (nI 99)) dX6_fills_64 rfl rfl ?_
            refine j_iload_n (q := 67) (i := 0) (n := 3) dX6_fills_66 rfl rfl rfl ?_
            refine j_iload_n (q := 68) (i := 3) (n := 2) dX6_fills_67 rfl rfl rfl ?_
            refine j_iadd (q := 69) dX6_fills_68 rfl ?_
            refine j_ci (q := 72) (rn_S (R := rm_X6_fills) (As := [.int (nI 99), .int (r1 + a1)]) (rest := [.int a0, .ref (za z 7 0)]) (c_J9_min_7cf53 _ z gm g2 (nI 99) (r1 + a1)) cv_J9_min_7cf53 wM_X6_187 ⟨rfl, rfl⟩ ⟨(Nat.le_of_ble_eq_true rfl), (Nat.le_of_ble_eq_true rfl)⟩ rfl (Nat.le_of_ble_eq_true rfl) dX6_fills_69) rfl (fun r3 => ?_)
            refine j_sv (q := 75) (rn_S (R := rm_X6_fills) (As := [.ref (za z 7 0), .int a0, .int r3]) (rest := []) (c_X6_put _ z gm g2 7 0 isX_7 (Nat.le_of_ble_eq_true rfl) a0 r3) cv_X6_put wM_X6_192 ⟨rfl, rfl⟩ ⟨(Nat.le_of_ble_eq_true rfl), (Nat.le_of_ble_eq_true rfl)⟩ rfl (Nat.le_of_ble_eq_true rfl) dX6_fills_72) rfl (fun g4 => ?_)
            refine j_aload_n (q := 76) (i := 1) (n := 0) dX6_fills_75 rfl rfl rfl ?_
            refine g_X6_course (q := 79) wF_X6_19 (Nat.le_of_ble_eq_true rfl) dX6_fills_76 rfl ?_
            refine gN_X0_now (q := 82) wG_X6_104 (Nat.le_of_ble_eq_true rfl) dX6_fills_79 rfl ?_
            refine gN_X2_trays (q := 85) wG_X6_147 (Nat.le_of_ble_eq_true rfl) dX6_fills_82 rfl ?_
            refine j_iload_n (q := 86) (i := 2) (n := 1) dX6_fills_85 rfl rfl rfl ?_
            refine j_ci (q := 89) (rn_S (R := rm_X6_fills) (As := [.ref (za z 7 0), .int a0]) (rest := []) (c_X6_at _ z gm g4 7 0 (Or.inl ⟨isX_7, (Nat.le_of_ble_eq_true rfl)⟩) a0) cv_X6_at wM_X6_151 ⟨rfl, rfl⟩ ⟨(Nat.le_of_ble_eq_true rfl), (Nat.le_of_ble_eq_true rfl)⟩ rfl (Nat.le_of_ble_eq_true rfl) dX6_fills_86) rfl (fun r5 => ?_)
            exact j_ret (x := (r5, g4)) dX6_fills_89 ⟨trivial, rfl, rfl⟩
          · refine j_bipush (q := 45) (v := (-2)) dX6_fills_43 rfl rfl ?_
            exact j_ret (x := ((-2), g)) dX6_fills_45 ⟨trivial, rfl, rfl⟩
        · refine j_iconst (q := 21) (v := (-1)) dX6_fills_20 rfl rfl ?_
          exact j_ret (x := ((-1), g)) dX6_fills_21 ⟨trivial, rfl, rfl⟩
-- CopierJobs.toner(I)I
abbrev rm_X6_toner : Room := { frames := 3, cells := 0, slots := 0, locals := 65 }
theorem cv_X6_toner : CV yX6_toner cX6_toner 2 (some .int) 1 := ⟨wC_X6_toner, wI_X6_toner, wS_X6_toner, wZ_X6, by decide +kernel⟩
def m_X6_toner (g : zG) (a0 : Int32) : Option (Int32 × zG) := if a0 < (nI 1) then some ((-1), g) else if (nI 999) < a0 then some ((-1), g) else if (gi g 1 0 0) < (nI 999) then (m_X0_remember g 0).bind fun g1 => (m_J9_min_7cf53 (nI 999) ((gi g1 1 0 0) + a0)).bind fun r2 => bd (ui g1 1 0 0 r2) fun g3 => some (gi g3 1 0 0, g3) else some ((-2), g)
set_option maxRecDepth 100000 in
set_option maxHeartbeats 4000000 in
theorem c_X6_toner (l : Launch) (z : zE) (gm : zG) (g : zG) (a0 : Int32) : ∀ x, m_X6_toner g a0 = some x → Ms dm l yX6_toner cX6_toner 2 (some .int) rm_X6_toner z [.ref (za z 76 0), .int a0] ((wx z gm) g) (osi x) ((wx z gm) ((fun x => x.2) x)) := by
  refine ms_of (Wf := (wx z gm)) (ri := .ireturn) (out := osi) (nxt := (fun x => x.2)) (ok := (fun _ => True)) (lv := [(0, .ref (za z 76 0)), (1, .int a0)]) (by decide) ⟨rfl, rfl⟩ (Nat.le_of_ble_eq_true rfl) rfl (en_i (out := fun x : Int32 × zG => x.1)) (fun p e s m below meth c => ?_)
  refine j_eq (M2 := if a0 < (nI 1) then some ((-1), g) else if (nI 999) < a0 then some ((-1), g) else if (gi g 1 0 0) < (nI 999) then (m_X0_remember g 0).bind fun g1 => (m_J9_min_7cf53 (nI 999) ((gi g1 1 0 0) + a0)).bind fun r2 => bd (ui g1 1 0 0 r2) fun g3 => some (gi g3 1 0 0, g3) else some ((-2), g)) rfl ?_
  refine j_iload_n (q := 1) (i := 1) (n := 1) dX6_toner_0 rfl rfl rfl ?_
  refine j_iconst (q := 2) (v := (nI 1)) dX6_toner_1 rfl rfl ?_
  refine j_icmp_lt (tgt := 12) (q := 5) dX6_toner_2 rfl rfl ?_ ?_
  · refine j_iconst (q := 13) (v := (-1)) dX6_toner_12 rfl rfl ?_
    exact j_ret (x := ((-1), g)) dX6_toner_13 ⟨trivial, rfl, rfl⟩
  · refine j_iload_n (q := 6) (i := 1) (n := 1) dX6_toner_5 rfl rfl rfl ?_
    refine j_sipush (q := 9) (v := (nI 999)) dX6_toner_6 rfl rfl ?_
    refine j_icmp_le (tgt := 14) (q := 12) dX6_toner_9 rfl rfl ?_ ?_
    · refine j_aload_n (q := 15) (i := 0) (n := 0) dX6_toner_14 rfl rfl rfl ?_
      refine g_X6_course (q := 18) wF_X6_19 (Nat.le_of_ble_eq_true rfl) dX6_toner_15 rfl ?_
      refine gN_X0_now (q := 21) wG_X6_104 (Nat.le_of_ble_eq_true rfl) dX6_toner_18 rfl ?_
      refine gN_X2_toner (q := 24) wG_X6_196 (Nat.le_of_ble_eq_true rfl) dX6_toner_21 rfl ?_
      refine j_sipush (q := 27) (v := (nI 999)) dX6_toner_24 rfl rfl ?_
      refine j_icmp_lt (tgt := 33) (q := 30) dX6_toner_27 rfl rfl ?_ ?_
      · refine j_aload_n (q := 34) (i := 0) (n := 0) dX6_toner_33 rfl rfl rfl ?_
        refine g_X6_course (q := 37) wF_X6_19 (Nat.le_of_ble_eq_true rfl) dX6_toner_34 rfl ?_
        refine j_sv (q := 40) (rn_V (R := rm_X6_toner) (As := []) (rest := []) (c_X0_remember _ z gm g 0 (Nat.le_of_ble_eq_true rfl)) cv_X0_remember wM_X6_167 ⟨rfl, rfl⟩ ⟨(Nat.le_of_ble_eq_true rfl), (Nat.le_of_ble_eq_true rfl)⟩ (Nat.le_of_ble_eq_true rfl) rfl rfl rfl (Nat.le_of_ble_eq_true rfl) dX6_toner_37) rfl (fun g1 => ?_)
        refine j_aload_n (q := 41) (i := 0) (n := 0) dX6_toner_40 rfl rfl rfl ?_
        refine g_X6_course (q := 44) wF_X6_19 (Nat.le_of_ble_eq_true rfl) dX6_toner_41 rfl ?_
        refine gN_X0_now (q := 47) wG_X6_104 (Nat.le_of_ble_eq_true rfl) dX6_toner_44 rfl ?_
        refine j_sipush (q := 50) (v := (nI 999)) dX6_toner_47 rfl rfl ?_
        refine j_aload_n (q := 51) (i := 0) (n := 0) dX6_toner_50 rfl rfl rfl ?_
        refine g_X6_course (q := 54) wF_X6_19 (Nat.le_of_ble_eq_true rfl) dX6_toner_51 rfl ?_
        refine gN_X0_now (q := 57) wG_X6_104 (Nat.le_of_ble_eq_true rfl) dX6_toner_54 rfl ?_
        refine gN_X2_toner (q := 60) wG_X6_196 (Nat.le_of_ble_eq_true rfl) dX6_toner_57 rfl ?_
        refine j_iload_n (q := 61) (i := 1) (n := 1) dX6_toner_60 rfl rfl rfl ?_
        refine j_iadd (q := 62) dX6_toner_61 rfl ?_
        refine j_ci (q := 65) (rn_S (R := rm_X6_toner) (As := [.int (nI 999), .int ((gi g1 1 0 0) + a0)]) (rest := [.ref (za z 72 0)]) (c_J9_min_7cf53 _ z gm g1 (nI 999) ((gi g1 1 0 0) + a0)) cv_J9_min_7cf53 wM_X6_187 ⟨rfl, rfl⟩ ⟨(Nat.le_of_ble_eq_true rfl), (Nat.le_of_ble_eq_true rfl)⟩ rfl (Nat.le_of_ble_eq_true rfl) dX6_toner_62) rfl (fun r2 => ?_)
        refine pN_X2_toner (q := 68) dm_le wG_X6_196 (Nat.le_of_ble_eq_true rfl) dX6_toner_65 rfl (fun g3 => ?_)
        refine j_aload_n (q := 69) (i := 0) (n := 0) dX6_toner_68 rfl rfl rfl ?_
        refine g_X6_course (q := 72) wF_X6_19 (Nat.le_of_ble_eq_true rfl) dX6_toner_69 rfl ?_
        refine gN_X0_now (q := 75) wG_X6_104 (Nat.le_of_ble_eq_true rfl) dX6_toner_72 rfl ?_
        refine gN_X2_toner (q := 78) wG_X6_196 (Nat.le_of_ble_eq_true rfl) dX6_toner_75 rfl ?_
        exact j_ret (x := (gi g3 1 0 0, g3)) dX6_toner_78 ⟨trivial, rfl, rfl⟩
      · refine j_bipush (q := 32) (v := (-2)) dX6_toner_30 rfl rfl ?_
        exact j_ret (x := ((-2), g)) dX6_toner_32 ⟨trivial, rfl, rfl⟩
    · refine j_iconst (q := 13) (v := (-1)) dX6_toner_12 rfl rfl ?_
      exact j_ret (x := ((-1), g)) dX6_toner_13 ⟨trivial, rfl, rfl⟩
-- CopierJobs.empties(I)I
abbrev rm_X6_empties : Room := { frames := 3, cells := 0, slots := 0, locals := 65 }
theorem cv_X6_empties : CV yX6_empties cX6_empties 3 (some .int) 1 := ⟨wC_X6_empties, wI_X6_empties, wS_X6_empties, wZ_X6, by decide +kernel⟩
def m_X6_empties (g : zG) (a0 : Int32) : Option (Int32 × zG) := gd (gn g 0 < dm 73) ((m_X3_hasBin g (gn g 0) a0).bind fun r2 => if r2 = (nI 0) then some ((-1), g) else (m_X6_at g 8 0 a0).bind fun r3 => if r3 = (nI 0) then some ((-2), g) else (m_X0_remember g 0).bind fun g4 => (m_X6_put g4 8 0 a0 (nI 0)).bind fun g5 => some (r3, g5))
set_option maxRecDepth 100000 in
set_option maxHeartbeats 4000000 in
theorem c_X6_empties (l : Launch) (z : zE) (gm : zG) (g : zG) (a0 : Int32) : ∀ x, m_X6_empties g a0 = some x → Ms dm l yX6_empties cX6_empties 3 (some .int) rm_X6_empties z [.ref (za z 76 0), .int a0] ((wx z gm) g) (osi x) ((wx z gm) ((fun x => x.2) x)) := by
  refine ms_of (Wf := (wx z gm)) (ri := .ireturn) (out := osi) (nxt := (fun x => x.2)) (ok := (fun _ => True)) (lv := [(0, .ref (za z 76 0)), (1, .int a0)]) (by decide) ⟨rfl, rfl⟩ (Nat.le_of_ble_eq_true rfl) rfl (en_i (out := fun x : Int32 × zG => x.1)) (fun p e s m below meth c => ?_)
  refine j_eq (M2 := gd (gn g 0 < dm 73) ((m_X3_hasBin g (gn g 0) a0).bind fun r2 => if r2 = (nI 0) then some ((-1), g) else (m_X6_at g 8 0 a0).bind fun r3 => if r3 = (nI 0) then some ((-2), g) else (m_X0_remember g 0).bind fun g4 => (m_X6_put g4 8 0 a0 (nI 0)).bind fun g5 => some (r3, g5))) rfl ?_
  refine j_aload_n (q := 1) (i := 0) (n := 0) dX6_empties_0 rfl rfl rfl ?_
  refine g_X6_plan (q := 4) wF_X6_48 (Nat.le_of_ble_eq_true rfl) dX6_empties_1 rfl ?_
  refine j_gd (fun hp1 => ?_)
  refine j_iload_n (q := 5) (i := 1) (n := 1) dX6_empties_4 rfl rfl rfl ?_
  refine j_ci (q := 8) (rn_V (R := rm_X6_empties) (As := [.int a0]) (rest := []) (c_X3_hasBin _ z gm g (gn g 0) hp1 a0) cv_X3_hasBin wM_X6_158 ⟨rfl, rfl⟩ ⟨(Nat.le_of_ble_eq_true rfl), (Nat.le_of_ble_eq_true rfl)⟩ hp1 rfl rfl rfl (Nat.le_of_ble_eq_true rfl) dX6_empties_5) rfl (fun r2 => ?_)
  refine j_if_ne (tgt := 13) (q := 11) dX6_empties_8 rfl rfl ?_ ?_
  · refine j_aload_n (q := 14) (i := 0) (n := 0) dX6_empties_13 rfl rfl rfl ?_
    refine g_X6_course (q := 17) wF_X6_19 (Nat.le_of_ble_eq_true rfl) dX6_empties_14 rfl ?_
    refine gN_X0_now (q := 20) wG_X6_104 (Nat.le_of_ble_eq_true rfl) dX6_empties_17 rfl ?_
    refine gN_X2_bins (q := 23) wG_X6_161 (Nat.le_of_ble_eq_true rfl) dX6_empties_20 rfl ?_
    refine j_iload_n (q := 24) (i := 1) (n := 1) dX6_empties_23 rfl rfl rfl ?_
    refine j_ci (q := 27) (rn_S (R := rm_X6_empties) (As := [.ref (za z 8 0), .int a0]) (rest := []) (c_X6_at _ z gm g 8 0 (Or.inl ⟨isX_8, (Nat.le_of_ble_eq_true rfl)⟩) a0) cv_X6_at wM_X6_151 ⟨rfl, rfl⟩ ⟨(Nat.le_of_ble_eq_true rfl), (Nat.le_of_ble_eq_true rfl)⟩ rfl (Nat.le_of_ble_eq_true rfl) dX6_empties_24) rfl (fun r3 => ?_)
    refine j_istore_n (q := 28) (n := 2) (lv' := [(2, .int r3), (0, .ref (za z 76 0)), (1, .int a0)]) dX6_empties_27 rfl (Nat.le_of_ble_eq_true rfl) rfl rfl ?_
    refine j_iload_n (q := 29) (i := 0) (n := 2) dX6_empties_28 rfl rfl rfl ?_
    refine j_if_ne (tgt := 35) (q := 32) dX6_empties_29 rfl rfl ?_ ?_
    · refine j_aload_n (q := 36) (i := 1) (n := 0) dX6_empties_35 rfl rfl rfl ?_
      refine g_X6_course (q := 39) wF_X6_19 (Nat.le_of_ble_eq_true rfl) dX6_empties_36 rfl ?_
      refine j_sv (q := 42) (rn_V (R := rm_X6_empties) (As := []) (rest := []) (c_X0_remember _ z gm g 0 (Nat.le_of_ble_eq_true rfl)) cv_X0_remember wM_X6_167 ⟨rfl, rfl⟩ ⟨(Nat.le_of_ble_eq_true rfl), (Nat.le_of_ble_eq_true rfl)⟩ (Nat.le_of_ble_eq_true rfl) rfl rfl rfl (Nat.le_of_ble_eq_true rfl) dX6_empties_39) rfl (fun g4 => ?_)
      refine j_aload_n (q := 43) (i := 1) (n := 0) dX6_empties_42 rfl rfl rfl ?_
      refine g_X6_course (q := 46) wF_X6_19 (Nat.le_of_ble_eq_true rfl) dX6_empties_43 rfl ?_
      refine gN_X0_now (q := 49) wG_X6_104 (Nat.le_of_ble_eq_true rfl) dX6_empties_46 rfl ?_
      refine gN_X2_bins (q := 52) wG_X6_161 (Nat.le_of_ble_eq_true rfl) dX6_empties_49 rfl ?_
      refine j_iload_n (q := 53) (i := 2) (n := 1) dX6_empties_52 rfl rfl rfl ?_
      refine j_iconst (q := 54) (v := (nI 0)) dX6_empties_53 rfl rfl ?_
      refine j_sv (q := 57) (rn_S (R := rm_X6_empties) (As := [.ref (za z 8 0), .int a0, .int (nI 0)]) (rest := []) (c_X6_put _ z gm g4 8 0 isX_8 (Nat.le_of_ble_eq_true rfl) a0 (nI 0)) cv_X6_put wM_X6_192 ⟨rfl, rfl⟩ ⟨(Nat.le_of_ble_eq_true rfl), (Nat.le_of_ble_eq_true rfl)⟩ rfl (Nat.le_of_ble_eq_true rfl) dX6_empties_54) rfl (fun g5 => ?_)
      refine j_iload_n (q := 58) (i := 0) (n := 2) dX6_empties_57 rfl rfl rfl ?_
      exact j_ret (x := (r3, g5)) dX6_empties_58 ⟨trivial, rfl, rfl⟩
    · refine j_bipush (q := 34) (v := (-2)) dX6_empties_32 rfl rfl ?_
      exact j_ret (x := ((-2), g)) dX6_empties_34 ⟨trivial, rfl, rfl⟩
  · refine j_iconst (q := 12) (v := (-1)) dX6_empties_11 rfl rfl ?_
    exact j_ret (x := ((-1), g)) dX6_empties_12 ⟨trivial, rfl, rfl⟩
-- CopierJobs.undo()I
abbrev rm_X6_undo : Room := { frames := 3, cells := 0, slots := 0, locals := 65 }
theorem cv_X6_undo : CV yX6_undo cX6_undo 1 (some .int) 0 := ⟨wC_X6_undo, wI_X6_undo, wS_X6_undo, wZ_X6, by decide +kernel⟩
def m_X6_undo (g : zG) : Option (Int32 × zG) := if (gi g 31 0 0) = (nI 0) then some ((-2), g) else (m_X0_takeBack g 0).bind fun g1 => some (gi g1 31 0 0, g1)
set_option maxRecDepth 100000 in
set_option maxHeartbeats 4000000 in
theorem c_X6_undo (l : Launch) (z : zE) (gm : zG) (g : zG) : ∀ x, m_X6_undo g = some x → Ms dm l yX6_undo cX6_undo 1 (some .int) rm_X6_undo z [.ref (za z 76 0)] ((wx z gm) g) (osi x) ((wx z gm) ((fun x => x.2) x)) := by
  refine ms_of (Wf := (wx z gm)) (ri := .ireturn) (out := osi) (nxt := (fun x => x.2)) (ok := (fun _ => True)) (lv := [(0, .ref (za z 76 0))]) (by decide) ⟨rfl, rfl⟩ (Nat.le_of_ble_eq_true rfl) rfl (en_i (out := fun x : Int32 × zG => x.1)) (fun p e s m below meth c => ?_)
  refine j_eq (M2 := if (gi g 31 0 0) = (nI 0) then some ((-2), g) else (m_X0_takeBack g 0).bind fun g1 => some (gi g1 31 0 0, g1)) rfl ?_
  refine j_aload_n (q := 1) (i := 0) (n := 0) dX6_undo_0 rfl rfl rfl ?_
  refine g_X6_course (q := 4) wF_X6_19 (Nat.le_of_ble_eq_true rfl) dX6_undo_1 rfl ?_
  refine gN_X0_knownCount (q := 7) wG_X6_199 (Nat.le_of_ble_eq_true rfl) dX6_undo_4 rfl ?_
  refine j_if_ne (tgt := 13) (q := 10) dX6_undo_7 rfl rfl ?_ ?_
  · refine j_aload_n (q := 14) (i := 0) (n := 0) dX6_undo_13 rfl rfl rfl ?_
    refine g_X6_course (q := 17) wF_X6_19 (Nat.le_of_ble_eq_true rfl) dX6_undo_14 rfl ?_
    refine j_sv (q := 20) (rn_V (R := rm_X6_undo) (As := []) (rest := []) (c_X0_takeBack _ z gm g 0 (Nat.le_of_ble_eq_true rfl)) cv_X0_takeBack wM_X6_202 ⟨rfl, rfl⟩ ⟨(Nat.le_of_ble_eq_true rfl), (Nat.le_of_ble_eq_true rfl)⟩ (Nat.le_of_ble_eq_true rfl) rfl rfl rfl (Nat.le_of_ble_eq_true rfl) dX6_undo_17) rfl (fun g1 => ?_)
    refine j_aload_n (q := 21) (i := 0) (n := 0) dX6_undo_20 rfl rfl rfl ?_
    refine g_X6_course (q := 24) wF_X6_19 (Nat.le_of_ble_eq_true rfl) dX6_undo_21 rfl ?_
    refine gN_X0_knownCount (q := 27) wG_X6_199 (Nat.le_of_ble_eq_true rfl) dX6_undo_24 rfl ?_
    exact j_ret (x := (gi g1 31 0 0, g1)) dX6_undo_27 ⟨trivial, rfl, rfl⟩
  · refine j_bipush (q := 12) (v := (-2)) dX6_undo_10 rfl rfl ?_
    exact j_ret (x := ((-2), g)) dX6_undo_12 ⟨trivial, rfl, rfl⟩
-- CopierJobs.now(I)I
abbrev rm_X6_now : Room := { frames := 5, cells := 0, slots := 0, locals := 112 }
theorem cv_X6_now : CV yX6_now cX6_now 3 (some .int) 1 := ⟨wC_X6_now, wI_X6_now, wS_X6_now, wZ_X6, by decide +kernel⟩
def m_X6_now (g : zG) (a0 : Int32) : Option (Int32) := if a0 = (nI 0) then (some (gi g 0 0 0)) else if a0 = (nI 1) then (some (gi g 1 0 0)) else if a0 = (nI 2) then ((m_X2_firstJob g 0).bind fun r3 => some r3) else if a0 = (nI 3) then (gd (gn g 0 < dm 73) ((m_X2_whyStands g 0 (gn g 0)).bind fun r6 => some r6)) else if a0 = (nI 4) then (if (gi g 2 0 0) = (nI 0) then some (nI 0) else some (nI 1)) else if a0 = (nI 5) then (some (gi g 3 0 0)) else if a0 = (nI 6) then ((m_X2_sheetsInBins g 0).bind fun r10 => some r10) else if a0 = (nI 7) then (gd (gn g 0 < dm 73) ((m_X2_tonerWants g 0 (gn g 0)).bind fun r13 => some r13)) else (some (-1))
set_option maxRecDepth 100000 in
set_option maxHeartbeats 4000000 in
theorem c_X6_now (l : Launch) (z : zE) (gm : zG) (g : zG) (a0 : Int32) : ∀ x, m_X6_now g a0 = some x → Ms dm l yX6_now cX6_now 3 (some .int) rm_X6_now z [.ref (za z 76 0), .int a0] ((wx z gm) g) (oi x) ((wx z gm) ((fun _ => g) x)) := by
  refine ms_of (Wf := (wx z gm)) (ri := .ireturn) (out := oi) (nxt := (fun _ => g)) (ok := (fun _ => True)) (lv := [(0, .ref (za z 76 0)), (1, .int a0)]) (by decide) ⟨rfl, rfl⟩ (Nat.le_of_ble_eq_true rfl) rfl (en_i (out := fun x => x)) (fun p e s m below meth c => ?_)
  refine j_eq (M2 := if a0 = (nI 0) then (some (gi g 0 0 0)) else if a0 = (nI 1) then (some (gi g 1 0 0)) else if a0 = (nI 2) then ((m_X2_firstJob g 0).bind fun r3 => some r3) else if a0 = (nI 3) then (gd (gn g 0 < dm 73) ((m_X2_whyStands g 0 (gn g 0)).bind fun r6 => some r6)) else if a0 = (nI 4) then (if (gi g 2 0 0) = (nI 0) then some (nI 0) else some (nI 1)) else if a0 = (nI 5) then (some (gi g 3 0 0)) else if a0 = (nI 6) then ((m_X2_sheetsInBins g 0).bind fun r10 => some r10) else if a0 = (nI 7) then (gd (gn g 0 < dm 73) ((m_X2_tonerWants g 0 (gn g 0)).bind fun r13 => some r13)) else (some (-1))) rfl ?_
  refine j_aload_n (q := 1) (i := 0) (n := 0) dX6_now_0 rfl rfl rfl ?_
  refine g_X6_course (q := 4) wF_X6_19 (Nat.le_of_ble_eq_true rfl) dX6_now_1 rfl ?_
  refine gN_X0_now (q := 7) wG_X6_104 (Nat.le_of_ble_eq_true rfl) dX6_now_4 rfl ?_
  refine j_astore_n (q := 8) (n := 2) (lv' := [(2, .ref (za z 72 0)), (0, .ref (za z 76 0)), (1, .int a0)]) dX6_now_7 rfl (Nat.le_of_ble_eq_true rfl) rfl rfl ?_
  refine j_iload_n (q := 9) (i := 2) (n := 1) dX6_now_8 rfl rfl rfl ?_
  refine j_case (v := (nI 0)) ?_ (fun h1 => ?_)
  · refine j_tableIn (tgt := 56) dX6_now_9 (by decide) (by decide) rfl rfl ?_
    refine j_aload_n (q := 57) (i := 0) (n := 2) dX6_now_56 rfl rfl rfl ?_
    refine gN_X2_tick (q := 60) wG_X6_164 (Nat.le_of_ble_eq_true rfl) dX6_now_57 rfl ?_
    exact j_ret (x := gi g 0 0 0) dX6_now_60 ⟨trivial, rfl, rfl⟩
  refine j_case (v := (nI 1)) ?_ (fun h2 => ?_)
  · refine j_tableIn (tgt := 61) dX6_now_9 (by decide) (by decide) rfl rfl ?_
    refine j_aload_n (q := 62) (i := 0) (n := 2) dX6_now_61 rfl rfl rfl ?_
    refine gN_X2_toner (q := 65) wG_X6_196 (Nat.le_of_ble_eq_true rfl) dX6_now_62 rfl ?_
    exact j_ret (x := gi g 1 0 0) dX6_now_65 ⟨trivial, rfl, rfl⟩
  refine j_case (v := (nI 2)) ?_ (fun h4 => ?_)
  · refine j_tableIn (tgt := 66) dX6_now_9 (by decide) (by decide) rfl rfl ?_
    refine j_aload_n (q := 67) (i := 0) (n := 2) dX6_now_66 rfl rfl rfl ?_
    refine j_ci (q := 70) (rn_V (R := rm_X6_now) (As := []) (rest := []) (c_X2_firstJob _ z gm g 0 (Nat.le_of_ble_eq_true rfl)) cv_X2_firstJob wM_X6_174 ⟨rfl, rfl⟩ ⟨(Nat.le_of_ble_eq_true rfl), (Nat.le_of_ble_eq_true rfl)⟩ (Nat.le_of_ble_eq_true rfl) rfl rfl rfl (Nat.le_of_ble_eq_true rfl) dX6_now_67) rfl (fun r3 => ?_)
    exact j_ret (x := r3) dX6_now_70 ⟨trivial, rfl, rfl⟩
  refine j_case (v := (nI 3)) ?_ (fun h7 => ?_)
  · refine j_tableIn (tgt := 71) dX6_now_9 (by decide) (by decide) rfl rfl ?_
    refine j_aload_n (q := 72) (i := 0) (n := 2) dX6_now_71 rfl rfl rfl ?_
    refine j_aload_n (q := 73) (i := 1) (n := 0) dX6_now_72 rfl rfl rfl ?_
    refine g_X6_plan (q := 76) wF_X6_48 (Nat.le_of_ble_eq_true rfl) dX6_now_73 rfl ?_
    refine j_gd (fun hp5 => ?_)
    refine j_ci (q := 79) (rn_V (R := rm_X6_now) (As := [.ref (za z 73 (gn g 0))]) (rest := []) (c_X2_whyStands _ z gm g 0 (Nat.le_of_ble_eq_true rfl) (gn g 0) hp5) cv_X2_whyStands wM_X6_205 ⟨rfl, rfl⟩ ⟨(Nat.le_of_ble_eq_true rfl), (Nat.le_of_ble_eq_true rfl)⟩ (Nat.le_of_ble_eq_true rfl) rfl rfl rfl (Nat.le_of_ble_eq_true rfl) dX6_now_76) rfl (fun r6 => ?_)
    exact j_ret (x := r6) dX6_now_79 ⟨trivial, rfl, rfl⟩
  refine j_case (v := (nI 4)) ?_ (fun h8 => ?_)
  · refine j_tableIn (tgt := 80) dX6_now_9 (by decide) (by decide) rfl rfl ?_
    refine j_aload_n (q := 81) (i := 0) (n := 2) dX6_now_80 rfl rfl rfl ?_
    refine gN_X2_half (q := 84) wG_X6_209 (Nat.le_of_ble_eq_true rfl) dX6_now_81 rfl ?_
    refine j_if_eq (tgt := 91) (q := 87) dX6_now_84 rfl rfl ?_ ?_
    · refine j_iconst (q := 92) (v := (nI 0)) dX6_now_91 rfl rfl ?_
      exact j_ret (x := (nI 0)) dX6_now_92 ⟨trivial, rfl, rfl⟩
    · refine j_iconst (q := 88) (v := (nI 1)) dX6_now_87 rfl rfl ?_
      refine j_goto (tgt := 92) dX6_now_88 rfl ?_
      exact j_ret (x := (nI 1)) dX6_now_92 ⟨trivial, rfl, rfl⟩
  refine j_case (v := (nI 5)) ?_ (fun h9 => ?_)
  · refine j_tableIn (tgt := 93) dX6_now_9 (by decide) (by decide) rfl rfl ?_
    refine j_aload_n (q := 94) (i := 0) (n := 2) dX6_now_93 rfl rfl rfl ?_
    refine gN_X2_queued (q := 97) wG_X6_184 (Nat.le_of_ble_eq_true rfl) dX6_now_94 rfl ?_
    exact j_ret (x := gi g 3 0 0) dX6_now_97 ⟨trivial, rfl, rfl⟩
  refine j_case (v := (nI 6)) ?_ (fun h11 => ?_)
  · refine j_tableIn (tgt := 98) dX6_now_9 (by decide) (by decide) rfl rfl ?_
    refine j_aload_n (q := 99) (i := 0) (n := 2) dX6_now_98 rfl rfl rfl ?_
    refine j_ci (q := 102) (rn_V (R := rm_X6_now) (As := []) (rest := []) (c_X2_sheetsInBins _ z gm g 0 (Nat.le_of_ble_eq_true rfl)) cv_X2_sheetsInBins wM_X6_212 ⟨rfl, rfl⟩ ⟨(Nat.le_of_ble_eq_true rfl), (Nat.le_of_ble_eq_true rfl)⟩ (Nat.le_of_ble_eq_true rfl) rfl rfl rfl (Nat.le_of_ble_eq_true rfl) dX6_now_99) rfl (fun r10 => ?_)
    exact j_ret (x := r10) dX6_now_102 ⟨trivial, rfl, rfl⟩
  refine j_case (v := (nI 7)) ?_ (fun h14 => ?_)
  · refine j_tableIn (tgt := 103) dX6_now_9 (by decide) (by decide) rfl rfl ?_
    refine j_aload_n (q := 104) (i := 0) (n := 2) dX6_now_103 rfl rfl rfl ?_
    refine j_aload_n (q := 105) (i := 1) (n := 0) dX6_now_104 rfl rfl rfl ?_
    refine g_X6_plan (q := 108) wF_X6_48 (Nat.le_of_ble_eq_true rfl) dX6_now_105 rfl ?_
    refine j_gd (fun hp12 => ?_)
    refine j_ci (q := 111) (rn_V (R := rm_X6_now) (As := [.ref (za z 73 (gn g 0))]) (rest := []) (c_X2_tonerWants _ z gm g 0 (Nat.le_of_ble_eq_true rfl) (gn g 0) hp12) cv_X2_tonerWants wM_X6_215 ⟨rfl, rfl⟩ ⟨(Nat.le_of_ble_eq_true rfl), (Nat.le_of_ble_eq_true rfl)⟩ (Nat.le_of_ble_eq_true rfl) rfl rfl rfl (Nat.le_of_ble_eq_true rfl) dX6_now_108) rfl (fun r13 => ?_)
    exact j_ret (x := r13) dX6_now_111 ⟨trivial, rfl, rfl⟩
  refine j_tableOut (tgt := 112) dX6_now_9 (by have e0 := q_ne (n := 0) h1 rfl; have e1 := q_ne (n := 1) h2 rfl; have e2 := q_ne (n := 2) h4 rfl; have e3 := q_ne (n := 3) h7 rfl; have e4 := q_ne (n := 4) h8 rfl; have e5 := q_ne (n := 5) h9 rfl; have e6 := q_ne (n := 6) h11 rfl; have e7 := q_ne (n := 7) h14 rfl; omega) rfl ?_
  refine j_iconst (q := 113) (v := (-1)) dX6_now_112 rfl rfl ?_
  exact j_ret (x := (-1)) dX6_now_113 ⟨trivial, rfl, rfl⟩
-- CopierJobs.soon(I)I
abbrev rm_X6_soon : Room := { frames := 5, cells := 0, slots := 0, locals := 114 }
theorem cv_X6_soon : CV yX6_soon cX6_soon 8 (some .int) 1 := ⟨wC_X6_soon, wI_X6_soon, wS_X6_soon, wZ_X6, by decide +kernel⟩
def m_X6_soon_B108 (a0 : Int32) (g : zG) (x2 : Int32) (x3 : Int32) : Option (Int32) := if a0 = (nI 0) then some x2 else some x3
set_option maxRecDepth 100000 in
set_option maxHeartbeats 4000000 in
theorem t_X6_soon_B108 {p : Program} {l : Launch} {e : Env} {s : State} {m : MethodId} {args : Array Value} {below : List Frame} {meth : Method} {c : Code} {cells slots : Nat} {Q : Int32 → State → Prop} (z : zE) (gm : zG) (a0 : Int32) (g : zG) (x2 : Int32) (x3 : Int32) : zJ dm p l e rm_X6_soon s m args below meth c cX6_soon 8 yX6_soon.cls z cells slots (wx z gm) (fn (fun _ => True) (fun _ => g) oi) .ireturn Q 108 [(1, .int a0), (2, .int x2), (3, .int x3)] [] g (m_X6_soon_B108 a0 g x2 x3) := by
  refine j_eq (M2 := if a0 = (nI 0) then some x2 else some x3) rfl ?_
  refine j_iload_n (q := 109) (i := 0) (n := 1) dX6_soon_108 rfl rfl rfl ?_
  refine j_if_ne (tgt := 116) (q := 112) dX6_soon_109 rfl rfl ?_ ?_
  · refine j_iload_n (q := 117) (i := 2) (n := 3) dX6_soon_116 rfl rfl rfl ?_
    exact j_ret (x := x3) dX6_soon_117 ⟨trivial, rfl, rfl⟩
  · refine j_iload_n (q := 113) (i := 1) (n := 2) dX6_soon_112 rfl rfl rfl ?_
    refine j_goto (tgt := 117) dX6_soon_113 rfl ?_
    exact j_ret (x := x2) dX6_soon_117 ⟨trivial, rfl, rfl⟩
def m_X6_soon_B54 (a0 : Int32) (g : zG) (x2 : Int32) (x3 : Int32) : Option (Int32) := m_X6_soon_B108 a0 g x2 x3
set_option maxRecDepth 100000 in
set_option maxHeartbeats 4000000 in
theorem t_X6_soon_B54 {p : Program} {l : Launch} {e : Env} {s : State} {m : MethodId} {args : Array Value} {below : List Frame} {meth : Method} {c : Code} {cells slots : Nat} {Q : Int32 → State → Prop} (z : zE) (gm : zG) (a0 : Int32) (g : zG) (x2 : Int32) (x3 : Int32) : zJ dm p l e rm_X6_soon s m args below meth c cX6_soon 8 yX6_soon.cls z cells slots (wx z gm) (fn (fun _ => True) (fun _ => g) oi) .ireturn Q 54 [(1, .int a0), (2, .int x2), (3, .int x3)] [] g (m_X6_soon_B54 a0 g x2 x3) := by
  refine j_eq (M2 := m_X6_soon_B108 a0 g x2 x3) rfl ?_
  refine j_goto (tgt := 108) dX6_soon_54 rfl ?_
  exact t_X6_soon_B108 z gm a0 g x2 x3
def m_X6_soon_L24 (a0 : Int32) (g : zG) : Nat → Int32 → Int32 → Int32 → Int32 → Int32 → Option (Int32)
  | 0, _, _, _, _, _ => none
  | f + 1, x2, x3, x4, x5, x6 => if x6 < (gi g 3 0 0) then (m_X6_shortestBut g x5).bind fun r1 => if r1 = (-9) then m_X6_soon_B54 a0 g x2 x3 else bd (x5 ||| ((nI 1) <<< (r1 &&& 31))) fun v2 => gd (gn g 0 < dm 73) ((m_X2_leftOf g 0 (gn g 0) r1).bind fun r4 => bd (((x3 * (nI 10)) + r1) + (nI 1)) fun v5 => m_X6_soon_L24 a0 g f (x2 + (x4 + r4)) v5 (x4 + r4) v2 (x6 + (nI 1))) else m_X6_soon_B108 a0 g x2 x3
set_option maxRecDepth 100000 in
set_option maxHeartbeats 4000000 in
theorem t_X6_soon_L24 {p : Program} {l : Launch} {e : Env} {s : State} {m : MethodId} {args : Array Value} {below : List Frame} {meth : Method} {c : Code} {cells slots : Nat} {Q : Int32 → State → Prop} (z : zE) (gm : zG) (a0 : Int32) (g : zG) : ∀ (f : Nat) (x2 : Int32) (x3 : Int32) (x4 : Int32) (x5 : Int32) (x6 : Int32), zJ dm p l e rm_X6_soon s m args below meth c cX6_soon 8 yX6_soon.cls z cells slots (wx z gm) (fn (fun _ => True) (fun _ => g) oi) .ireturn Q 24 [(0, .ref (za z 76 0)), (1, .int a0), (2, .int x2), (3, .int x3), (4, .int x4), (5, .int x5), (6, .int x6)] [] g (m_X6_soon_L24 a0 g f x2 x3 x4 x5 x6) := by
  intro f
  induction f with
  | zero => intro x2 x3 x4 x5 x6; exact j_none
  | succ f ih =>
    intro x2 x3 x4 x5 x6
    refine j_eq (M2 := if x6 < (gi g 3 0 0) then (m_X6_shortestBut g x5).bind fun r1 => if r1 = (-9) then m_X6_soon_B54 a0 g x2 x3 else bd (x5 ||| ((nI 1) <<< (r1 &&& 31))) fun v2 => gd (gn g 0 < dm 73) ((m_X2_leftOf g 0 (gn g 0) r1).bind fun r4 => bd (((x3 * (nI 10)) + r1) + (nI 1)) fun v5 => m_X6_soon_L24 a0 g f (x2 + (x4 + r4)) v5 (x4 + r4) v2 (x6 + (nI 1))) else m_X6_soon_B108 a0 g x2 x3) rfl ?_
    refine j_iload (q := 26) (i := 6) (n := 6) dX6_soon_24 rfl rfl ?_
    refine j_aload_n (q := 27) (i := 0) (n := 0) dX6_soon_26 rfl rfl rfl ?_
    refine g_X6_course (q := 30) wF_X6_19 (Nat.le_of_ble_eq_true rfl) dX6_soon_27 rfl ?_
    refine gN_X0_now (q := 33) wG_X6_104 (Nat.le_of_ble_eq_true rfl) dX6_soon_30 rfl ?_
    refine gN_X2_queued (q := 36) wG_X6_184 (Nat.le_of_ble_eq_true rfl) dX6_soon_33 rfl ?_
    refine j_icmp_ge (tgt := 108) (q := 39) dX6_soon_36 rfl rfl ?_ ?_
    · refine j_lv [1, 2, 3] (lv' := [(1, .int a0), (2, .int x2), (3, .int x3)]) rfl ?_
      exact t_X6_soon_B108 z gm a0 g x2 x3
    · refine j_aload_n (q := 40) (i := 0) (n := 0) dX6_soon_39 rfl rfl rfl ?_
      refine j_iload (q := 42) (i := 5) (n := 5) dX6_soon_40 rfl rfl ?_
      refine j_ci (q := 45) (rn_V (R := rm_X6_soon) (As := [.int x5]) (rest := []) (c_X6_shortestBut _ z gm g x5) cv_X6_shortestBut wM_X6_218 ⟨rfl, rfl⟩ ⟨(Nat.le_of_ble_eq_true rfl), (Nat.le_of_ble_eq_true rfl)⟩ (Nat.le_of_ble_eq_true rfl) rfl rfl rfl (Nat.le_of_ble_eq_true rfl) dX6_soon_42) rfl (fun r1 => ?_)
      refine j_istore (q := 47) (n := 7) (lv' := [(7, .int r1), (0, .ref (za z 76 0)), (1, .int a0), (2, .int x2), (3, .int x3), (4, .int x4), (5, .int x5), (6, .int x6)]) dX6_soon_45 (Nat.le_of_ble_eq_true rfl) rfl rfl ?_
      refine j_iload (q := 49) (i := 0) (n := 7) dX6_soon_47 rfl rfl ?_
      refine j_bipush (q := 51) (v := (-9)) dX6_soon_49 rfl rfl ?_
      refine j_icmp_ne (tgt := 57) (q := 54) dX6_soon_51 rfl rfl ?_ ?_
      · refine j_iload (q := 59) (i := 6) (n := 5) dX6_soon_57 rfl rfl ?_
        refine j_iconst (q := 60) (v := (nI 1)) dX6_soon_59 rfl rfl ?_
        refine j_iload (q := 62) (i := 0) (n := 7) dX6_soon_60 rfl rfl ?_
        refine j_ishl (q := 63) dX6_soon_62 rfl ?_
        refine j_ior (q := 64) dX6_soon_63 rfl ?_
        refine j_top (fun v2 => ?_)
        refine j_istore (q := 66) (n := 5) (lv' := [(5, .int v2), (7, .int r1), (0, .ref (za z 76 0)), (1, .int a0), (2, .int x2), (3, .int x3), (4, .int x4), (6, .int x6)]) dX6_soon_64 (Nat.le_of_ble_eq_true rfl) rfl rfl ?_
        refine j_iload (q := 68) (i := 6) (n := 4) dX6_soon_66 rfl rfl ?_
        refine j_aload_n (q := 69) (i := 2) (n := 0) dX6_soon_68 rfl rfl rfl ?_
        refine g_X6_course (q := 72) wF_X6_19 (Nat.le_of_ble_eq_true rfl) dX6_soon_69 rfl ?_
        refine gN_X0_now (q := 75) wG_X6_104 (Nat.le_of_ble_eq_true rfl) dX6_soon_72 rfl ?_
        refine j_aload_n (q := 76) (i := 2) (n := 0) dX6_soon_75 rfl rfl rfl ?_
        refine g_X6_plan (q := 79) wF_X6_48 (Nat.le_of_ble_eq_true rfl) dX6_soon_76 rfl ?_
        refine j_gd (fun hp3 => ?_)
        refine j_iload (q := 81) (i := 1) (n := 7) dX6_soon_79 rfl rfl ?_
        refine j_ci (q := 84) (rn_V (R := rm_X6_soon) (As := [.ref (za z 73 (gn g 0)), .int r1]) (rest := [.int x4]) (c_X2_leftOf _ z gm g 0 (Nat.le_of_ble_eq_true rfl) (gn g 0) hp3 r1) cv_X2_leftOf wM_X6_119 ⟨rfl, rfl⟩ ⟨(Nat.le_of_ble_eq_true rfl), (Nat.le_of_ble_eq_true rfl)⟩ (Nat.le_of_ble_eq_true rfl) rfl rfl rfl (Nat.le_of_ble_eq_true rfl) dX6_soon_81) rfl (fun r4 => ?_)
        refine j_iadd (q := 85) dX6_soon_84 rfl ?_
        refine j_istore (q := 87) (n := 4) (lv' := [(4, .int (x4 + r4)), (5, .int v2), (7, .int r1), (0, .ref (za z 76 0)), (1, .int a0), (2, .int x2), (3, .int x3), (6, .int x6)]) dX6_soon_85 (Nat.le_of_ble_eq_true rfl) rfl rfl ?_
        refine j_iload_n (q := 88) (i := 5) (n := 2) dX6_soon_87 rfl rfl rfl ?_
        refine j_iload (q := 90) (i := 0) (n := 4) dX6_soon_88 rfl rfl ?_
        refine j_iadd (q := 91) dX6_soon_90 rfl ?_
        refine j_istore_n (q := 92) (n := 2) (lv' := [(2, .int (x2 + (x4 + r4))), (4, .int (x4 + r4)), (5, .int v2), (7, .int r1), (0, .ref (za z 76 0)), (1, .int a0), (3, .int x3), (6, .int x6)]) dX6_soon_91 rfl (Nat.le_of_ble_eq_true rfl) rfl rfl ?_
        refine j_iload_n (q := 93) (i := 6) (n := 3) dX6_soon_92 rfl rfl rfl ?_
        refine j_bipush (q := 95) (v := (nI 10)) dX6_soon_93 rfl rfl ?_
        refine j_imul (q := 96) dX6_soon_95 rfl ?_
        refine j_iload (q := 98) (i := 3) (n := 7) dX6_soon_96 rfl rfl ?_
        refine j_iadd (q := 99) dX6_soon_98 rfl ?_
        refine j_iconst (q := 100) (v := (nI 1)) dX6_soon_99 rfl rfl ?_
        refine j_iadd (q := 101) dX6_soon_100 rfl ?_
        refine j_top (fun v5 => ?_)
        refine j_istore_n (q := 102) (n := 3) (lv' := [(3, .int v5), (2, .int (x2 + (x4 + r4))), (4, .int (x4 + r4)), (5, .int v2), (7, .int r1), (0, .ref (za z 76 0)), (1, .int a0), (6, .int x6)]) dX6_soon_101 rfl (Nat.le_of_ble_eq_true rfl) rfl rfl ?_
        refine j_iinc (q := 105) (n := 6) (i := 7) (v := x6 + (nI 1)) (lv' := [(6, .int (x6 + (nI 1))), (3, .int v5), (2, .int (x2 + (x4 + r4))), (4, .int (x4 + r4)), (5, .int v2), (7, .int r1), (0, .ref (za z 76 0)), (1, .int a0)]) dX6_soon_102 rfl rfl (Nat.le_of_ble_eq_true rfl) rfl rfl ?_
        refine j_goto (tgt := 24) dX6_soon_105 rfl ?_
        refine j_lv [6, 7, 2, 1, 3, 4, 0] (lv' := [(0, .ref (za z 76 0)), (1, .int a0), (2, .int (x2 + (x4 + r4))), (3, .int v5), (4, .int (x4 + r4)), (5, .int v2), (6, .int (x6 + (nI 1)))]) rfl ?_
        exact ih (x2 + (x4 + r4)) v5 (x4 + r4) v2 (x6 + (nI 1))
      · refine j_lv [2, 3, 4] (lv' := [(1, .int a0), (2, .int x2), (3, .int x3)]) rfl ?_
        exact t_X6_soon_B54 z gm a0 g x2 x3
def m_X6_soon_B11 (a0 : Int32) (g : zG) : Option (Int32) := m_X6_soon_L24 a0 g FU (nI 0) (nI 0) (nI 0) (nI 0) (nI 0)
set_option maxRecDepth 100000 in
set_option maxHeartbeats 4000000 in
theorem t_X6_soon_B11 {p : Program} {l : Launch} {e : Env} {s : State} {m : MethodId} {args : Array Value} {below : List Frame} {meth : Method} {c : Code} {cells slots : Nat} {Q : Int32 → State → Prop} (z : zE) (gm : zG) (a0 : Int32) (g : zG) : zJ dm p l e rm_X6_soon s m args below meth c cX6_soon 8 yX6_soon.cls z cells slots (wx z gm) (fn (fun _ => True) (fun _ => g) oi) .ireturn Q 11 [(0, .ref (za z 76 0)), (1, .int a0)] [] g (m_X6_soon_B11 a0 g) := by
  refine j_eq (M2 := m_X6_soon_L24 a0 g FU (nI 0) (nI 0) (nI 0) (nI 0) (nI 0)) rfl ?_
  refine j_iconst (q := 12) (v := (nI 0)) dX6_soon_11 rfl rfl ?_
  refine j_istore_n (q := 13) (n := 2) (lv' := [(2, .int (nI 0)), (0, .ref (za z 76 0)), (1, .int a0)]) dX6_soon_12 rfl (Nat.le_of_ble_eq_true rfl) rfl rfl ?_
  refine j_iconst (q := 14) (v := (nI 0)) dX6_soon_13 rfl rfl ?_
  refine j_istore_n (q := 15) (n := 3) (lv' := [(3, .int (nI 0)), (2, .int (nI 0)), (0, .ref (za z 76 0)), (1, .int a0)]) dX6_soon_14 rfl (Nat.le_of_ble_eq_true rfl) rfl rfl ?_
  refine j_iconst (q := 16) (v := (nI 0)) dX6_soon_15 rfl rfl ?_
  refine j_istore (q := 18) (n := 4) (lv' := [(4, .int (nI 0)), (3, .int (nI 0)), (2, .int (nI 0)), (0, .ref (za z 76 0)), (1, .int a0)]) dX6_soon_16 (Nat.le_of_ble_eq_true rfl) rfl rfl ?_
  refine j_iconst (q := 19) (v := (nI 0)) dX6_soon_18 rfl rfl ?_
  refine j_istore (q := 21) (n := 5) (lv' := [(5, .int (nI 0)), (4, .int (nI 0)), (3, .int (nI 0)), (2, .int (nI 0)), (0, .ref (za z 76 0)), (1, .int a0)]) dX6_soon_19 (Nat.le_of_ble_eq_true rfl) rfl rfl ?_
  refine j_iconst (q := 22) (v := (nI 0)) dX6_soon_21 rfl rfl ?_
  refine j_istore (q := 24) (n := 6) (lv' := [(6, .int (nI 0)), (5, .int (nI 0)), (4, .int (nI 0)), (3, .int (nI 0)), (2, .int (nI 0)), (0, .ref (za z 76 0)), (1, .int a0)]) dX6_soon_22 (Nat.le_of_ble_eq_true rfl) rfl rfl ?_
  refine j_lv [5, 6, 4, 3, 2, 1, 0] (lv' := [(0, .ref (za z 76 0)), (1, .int a0), (2, .int (nI 0)), (3, .int (nI 0)), (4, .int (nI 0)), (5, .int (nI 0)), (6, .int (nI 0))]) rfl ?_
  exact t_X6_soon_L24 z gm a0 g FU (nI 0) (nI 0) (nI 0) (nI 0) (nI 0)
def m_X6_soon (g : zG) (a0 : Int32) : Option (Int32) := if a0 = (nI 0) then m_X6_soon_B11 a0 g else if a0 = (nI 1) then m_X6_soon_B11 a0 g else some (-1)
set_option maxRecDepth 100000 in
set_option maxHeartbeats 4000000 in
theorem c_X6_soon (l : Launch) (z : zE) (gm : zG) (g : zG) (a0 : Int32) : ∀ x, m_X6_soon g a0 = some x → Ms dm l yX6_soon cX6_soon 8 (some .int) rm_X6_soon z [.ref (za z 76 0), .int a0] ((wx z gm) g) (oi x) ((wx z gm) ((fun _ => g) x)) := by
  refine ms_of (Wf := (wx z gm)) (ri := .ireturn) (out := oi) (nxt := (fun _ => g)) (ok := (fun _ => True)) (lv := [(0, .ref (za z 76 0)), (1, .int a0)]) (by decide) ⟨rfl, rfl⟩ (Nat.le_of_ble_eq_true rfl) rfl (en_i (out := fun x => x)) (fun p e s m below meth c => ?_)
  refine j_eq (M2 := if a0 = (nI 0) then m_X6_soon_B11 a0 g else if a0 = (nI 1) then m_X6_soon_B11 a0 g else some (-1)) rfl ?_
  refine j_iload_n (q := 1) (i := 1) (n := 1) dX6_soon_0 rfl rfl rfl ?_
  refine j_if_eq (tgt := 11) (q := 4) dX6_soon_1 rfl rfl ?_ ?_
  · exact t_X6_soon_B11 z gm a0 g
  · refine j_iload_n (q := 5) (i := 1) (n := 1) dX6_soon_4 rfl rfl rfl ?_
    refine j_iconst (q := 6) (v := (nI 1)) dX6_soon_5 rfl rfl ?_
    refine j_icmp_eq (tgt := 11) (q := 9) dX6_soon_6 rfl rfl ?_ ?_
    · exact t_X6_soon_B11 z gm a0 g
    · refine j_iconst (q := 10) (v := (-1)) dX6_soon_9 rfl rfl ?_
      exact j_ret (x := (-1)) dX6_soon_10 ⟨trivial, rfl, rfl⟩
-- CopierJobs.odds(IIII)I
abbrev rm_X6_odds : Room := { frames := 2, cells := 0, slots := 0, locals := 45 }
theorem cv_X6_odds : CV yX6_odds cX6_odds 9 (some .int) 4 := ⟨wC_X6_odds, wI_X6_odds, wS_X6_odds, wZ_X6, by decide +kernel⟩
def m_X6_odds (g : zG) (a0 : Int32) (a1 : Int32) (a2 : Int32) (a3 : Int32) : Option (Int32) := gd (gn g 0 < dm 73) ((m_X3_jobAt g (gn g 0) a0).bind fun x => oc x (some (-1)) (fun n2 => gd (n2 < dm 71) (if a1 < (nI 1) then some (-1) else if (nI 4) < a1 then some (-1) else (m_X1_hasPage g n2 a2).bind fun r4 => if r4 = (nI 0) then some (-1) else if a3 < (nI 0) then some (-1) else if (nI 1) < a3 then some (-1) else (m_X1_all g n2).bind fun r5 => if r5 < a1 then some (-2) else (m_X1_all g n2).bind fun r6 => (m_X6_choose r6 a1).bind fun r7 => (m_X1_all g n2).bind fun r8 => (m_X6_choose (r8 - (gi g 21 n2 0)) a1).bind fun r9 => (m_X6_commonDivisor (r7 - r9) r7).bind fun r10 => if (nI 0) < r10 then if a3 = (nI 0) then gd (¬ (r10 : Int32) = 0) (some ((r7 - r9) / r10)) else gd (¬ (r10 : Int32) = 0) (some (r7 / r10)) else some (nI 0))))
set_option maxRecDepth 100000 in
set_option maxHeartbeats 4000000 in
theorem c_X6_odds (l : Launch) (z : zE) (gm : zG) (g : zG) (a0 : Int32) (a1 : Int32) (a2 : Int32) (a3 : Int32) : ∀ x, m_X6_odds g a0 a1 a2 a3 = some x → Ms dm l yX6_odds cX6_odds 9 (some .int) rm_X6_odds z [.ref (za z 76 0), .int a0, .int a1, .int a2, .int a3] ((wx z gm) g) (oi x) ((wx z gm) ((fun _ => g) x)) := by
  refine ms_of (Wf := (wx z gm)) (ri := .ireturn) (out := oi) (nxt := (fun _ => g)) (ok := (fun _ => True)) (lv := [(0, .ref (za z 76 0)), (1, .int a0), (2, .int a1), (3, .int a2), (4, .int a3)]) (by decide) ⟨rfl, rfl⟩ (Nat.le_of_ble_eq_true rfl) rfl (en_i (out := fun x => x)) (fun p e s m below meth c => ?_)
  refine j_eq (M2 := gd (gn g 0 < dm 73) ((m_X3_jobAt g (gn g 0) a0).bind fun x => oc x (some (-1)) (fun n2 => gd (n2 < dm 71) (if a1 < (nI 1) then some (-1) else if (nI 4) < a1 then some (-1) else (m_X1_hasPage g n2 a2).bind fun r4 => if r4 = (nI 0) then some (-1) else if a3 < (nI 0) then some (-1) else if (nI 1) < a3 then some (-1) else (m_X1_all g n2).bind fun r5 => if r5 < a1 then some (-2) else (m_X1_all g n2).bind fun r6 => (m_X6_choose r6 a1).bind fun r7 => (m_X1_all g n2).bind fun r8 => (m_X6_choose (r8 - (gi g 21 n2 0)) a1).bind fun r9 => (m_X6_commonDivisor (r7 - r9) r7).bind fun r10 => if (nI 0) < r10 then if a3 = (nI 0) then gd (¬ (r10 : Int32) = 0) (some ((r7 - r9) / r10)) else gd (¬ (r10 : Int32) = 0) (some (r7 / r10)) else some (nI 0))))) rfl ?_
  refine j_aload_n (q := 1) (i := 0) (n := 0) dX6_odds_0 rfl rfl rfl ?_
  refine g_X6_plan (q := 4) wF_X6_48 (Nat.le_of_ble_eq_true rfl) dX6_odds_1 rfl ?_
  refine j_gd (fun hp1 => ?_)
  refine j_iload_n (q := 5) (i := 1) (n := 1) dX6_odds_4 rfl rfl rfl ?_
  refine j_crs (k0 := 71) (q := 8) (rn_V (R := rm_X6_odds) (As := [.int a0]) (rest := []) (c_X3_jobAt _ z gm g (gn g 0) hp1 a0) cv_X3_jobAt wM_X6_78 ⟨rfl, rfl⟩ ⟨(Nat.le_of_ble_eq_true rfl), (Nat.le_of_ble_eq_true rfl)⟩ hp1 rfl rfl rfl (Nat.le_of_ble_eq_true rfl) dX6_odds_5) rfl ?_ (fun n2 => ?_)
  · refine j_astoreN (q := 10) (n := 5) (lv' := [(5, .null), (0, .ref (za z 76 0)), (1, .int a0), (2, .int a1), (3, .int a2), (4, .int a3)]) dX6_odds_8 (Nat.le_of_ble_eq_true rfl) rfl rfl ?_
    refine j_aloadN (q := 12) (i := 0) (n := 5) dX6_odds_10 rfl rfl ?_
    refine j_nul0 (tgt := 45) dX6_odds_12 rfl ?_
    refine j_iconst (q := 46) (v := (-1)) dX6_odds_45 rfl rfl ?_
    exact j_ret (x := (-1)) dX6_odds_46 ⟨trivial, rfl, rfl⟩
  · refine j_gd (fun hn3 => ?_)
    refine j_astore (q := 10) (n := 5) (lv' := [(5, .ref (za z 71 n2)), (0, .ref (za z 76 0)), (1, .int a0), (2, .int a1), (3, .int a2), (4, .int a3)]) dX6_odds_8 (Nat.le_of_ble_eq_true rfl) rfl rfl ?_
    refine j_aload (q := 12) (i := 0) (n := 5) dX6_odds_10 rfl rfl ?_
    refine j_nul1 (q := 15) dX6_odds_12 rfl ?_
    refine j_iload_n (q := 16) (i := 3) (n := 2) dX6_odds_15 rfl rfl rfl ?_
    refine j_iconst (q := 17) (v := (nI 1)) dX6_odds_16 rfl rfl ?_
    refine j_icmp_lt (tgt := 45) (q := 20) dX6_odds_17 rfl rfl ?_ ?_
    · refine j_iconst (q := 46) (v := (-1)) dX6_odds_45 rfl rfl ?_
      exact j_ret (x := (-1)) dX6_odds_46 ⟨trivial, rfl, rfl⟩
    · refine j_iload_n (q := 21) (i := 3) (n := 2) dX6_odds_20 rfl rfl rfl ?_
      refine j_iconst (q := 22) (v := (nI 4)) dX6_odds_21 rfl rfl ?_
      refine j_icmp_gt (tgt := 45) (q := 25) dX6_odds_22 rfl rfl ?_ ?_
      · refine j_iconst (q := 46) (v := (-1)) dX6_odds_45 rfl rfl ?_
        exact j_ret (x := (-1)) dX6_odds_46 ⟨trivial, rfl, rfl⟩
      · refine j_aload (q := 27) (i := 0) (n := 5) dX6_odds_25 rfl rfl ?_
        refine j_iload_n (q := 28) (i := 4) (n := 3) dX6_odds_27 rfl rfl rfl ?_
        refine j_ci (q := 31) (rn_V (R := rm_X6_odds) (As := [.int a2]) (rest := []) (c_X1_hasPage _ z gm g n2 hn3 a2) cv_X1_hasPage wM_X6_140 ⟨rfl, rfl⟩ ⟨(Nat.le_of_ble_eq_true rfl), (Nat.le_of_ble_eq_true rfl)⟩ hn3 rfl rfl rfl (Nat.le_of_ble_eq_true rfl) dX6_odds_28) rfl (fun r4 => ?_)
        refine j_if_eq (tgt := 45) (q := 34) dX6_odds_31 rfl rfl ?_ ?_
        · refine j_iconst (q := 46) (v := (-1)) dX6_odds_45 rfl rfl ?_
          exact j_ret (x := (-1)) dX6_odds_46 ⟨trivial, rfl, rfl⟩
        · refine j_iload (q := 36) (i := 5) (n := 4) dX6_odds_34 rfl rfl ?_
          refine j_if_lt (tgt := 45) (q := 39) dX6_odds_36 rfl rfl ?_ ?_
          · refine j_iconst (q := 46) (v := (-1)) dX6_odds_45 rfl rfl ?_
            exact j_ret (x := (-1)) dX6_odds_46 ⟨trivial, rfl, rfl⟩
          · refine j_iload (q := 41) (i := 5) (n := 4) dX6_odds_39 rfl rfl ?_
            refine j_iconst (q := 42) (v := (nI 1)) dX6_odds_41 rfl rfl ?_
            refine j_icmp_le (tgt := 47) (q := 45) dX6_odds_42 rfl rfl ?_ ?_
            · refine j_aload (q := 49) (i := 0) (n := 5) dX6_odds_47 rfl rfl ?_
              refine j_ci (q := 52) (rn_V (R := rm_X6_odds) (As := []) (rest := []) (c_X1_all _ z gm g n2 hn3) cv_X1_all wM_X6_101 ⟨rfl, rfl⟩ ⟨(Nat.le_of_ble_eq_true rfl), (Nat.le_of_ble_eq_true rfl)⟩ hn3 rfl rfl rfl (Nat.le_of_ble_eq_true rfl) dX6_odds_49) rfl (fun r5 => ?_)
              refine j_iload_n (q := 53) (i := 3) (n := 2) dX6_odds_52 rfl rfl rfl ?_
              refine j_icmp_ge (tgt := 59) (q := 56) dX6_odds_53 rfl rfl ?_ ?_
              · refine j_aload (q := 61) (i := 0) (n := 5) dX6_odds_59 rfl rfl ?_
                refine j_ci (q := 64) (rn_V (R := rm_X6_odds) (As := []) (rest := []) (c_X1_all _ z gm g n2 hn3) cv_X1_all wM_X6_101 ⟨rfl, rfl⟩ ⟨(Nat.le_of_ble_eq_true rfl), (Nat.le_of_ble_eq_true rfl)⟩ hn3 rfl rfl rfl (Nat.le_of_ble_eq_true rfl) dX6_odds_61) rfl (fun r6 => ?_)
                refine j_iload_n (q := 65) (i := 3) (n := 2) dX6_odds_64 rfl rfl rfl ?_
                refine j_ci (q := 68) (rn_S (R := rm_X6_odds) (As := [.int r6, .int a1]) (rest := []) (c_X6_choose _ z gm g r6 a1) cv_X6_choose wM_X6_221 ⟨rfl, rfl⟩ ⟨(Nat.le_of_ble_eq_true rfl), (Nat.le_of_ble_eq_true rfl)⟩ rfl (Nat.le_of_ble_eq_true rfl) dX6_odds_65) rfl (fun r7 => ?_)
                refine j_istore (q := 70) (n := 6) (lv' := [(6, .int r7), (5, .ref (za z 71 n2)), (0, .ref (za z 76 0)), (1, .int a0), (2, .int a1), (3, .int a2), (4, .int a3)]) dX6_odds_68 (Nat.le_of_ble_eq_true rfl) rfl rfl ?_
                refine j_iload (q := 72) (i := 0) (n := 6) dX6_odds_70 rfl rfl ?_
                refine j_aload (q := 74) (i := 1) (n := 5) dX6_odds_72 rfl rfl ?_
                refine j_ci (q := 77) (rn_V (R := rm_X6_odds) (As := []) (rest := [.int r7]) (c_X1_all _ z gm g n2 hn3) cv_X1_all wM_X6_101 ⟨rfl, rfl⟩ ⟨(Nat.le_of_ble_eq_true rfl), (Nat.le_of_ble_eq_true rfl)⟩ hn3 rfl rfl rfl (Nat.le_of_ble_eq_true rfl) dX6_odds_74) rfl (fun r8 => ?_)
                refine j_aload (q := 79) (i := 1) (n := 5) dX6_odds_77 rfl rfl ?_
                refine gN_X1_copies (q := 82) wG_X6_88 hn3 dX6_odds_79 rfl ?_
                refine j_isub (q := 83) dX6_odds_82 rfl ?_
                refine j_iload_n (q := 84) (i := 4) (n := 2) dX6_odds_83 rfl rfl rfl ?_
                refine j_ci (q := 87) (rn_S (R := rm_X6_odds) (As := [.int (r8 - (gi g 21 n2 0)), .int a1]) (rest := [.int r7]) (c_X6_choose _ z gm g (r8 - (gi g 21 n2 0)) a1) cv_X6_choose wM_X6_221 ⟨rfl, rfl⟩ ⟨(Nat.le_of_ble_eq_true rfl), (Nat.le_of_ble_eq_true rfl)⟩ rfl (Nat.le_of_ble_eq_true rfl) dX6_odds_84) rfl (fun r9 => ?_)
                refine j_isub (q := 88) dX6_odds_87 rfl ?_
                refine j_istore (q := 90) (n := 7) (lv' := [(7, .int (r7 - r9)), (6, .int r7), (5, .ref (za z 71 n2)), (0, .ref (za z 76 0)), (1, .int a0), (2, .int a1), (3, .int a2), (4, .int a3)]) dX6_odds_88 (Nat.le_of_ble_eq_true rfl) rfl rfl ?_
                refine j_iload (q := 92) (i := 0) (n := 7) dX6_odds_90 rfl rfl ?_
                refine j_iload (q := 94) (i := 1) (n := 6) dX6_odds_92 rfl rfl ?_
                refine j_ci (q := 97) (rn_S (R := rm_X6_odds) (As := [.int (r7 - r9), .int r7]) (rest := []) (c_X6_commonDivisor _ z gm g (r7 - r9) r7) cv_X6_commonDivisor wM_X6_224 ⟨rfl, rfl⟩ ⟨(Nat.le_of_ble_eq_true rfl), (Nat.le_of_ble_eq_true rfl)⟩ rfl (Nat.le_of_ble_eq_true rfl) dX6_odds_94) rfl (fun r10 => ?_)
                refine j_istore (q := 99) (n := 8) (lv' := [(8, .int r10), (7, .int (r7 - r9)), (6, .int r7), (5, .ref (za z 71 n2)), (0, .ref (za z 76 0)), (1, .int a0), (2, .int a1), (3, .int a2), (4, .int a3)]) dX6_odds_97 (Nat.le_of_ble_eq_true rfl) rfl rfl ?_
                refine j_iload (q := 101) (i := 0) (n := 8) dX6_odds_99 rfl rfl ?_
                refine j_if_gt (tgt := 106) (q := 104) dX6_odds_101 rfl rfl ?_ ?_
                · refine j_iload (q := 108) (i := 8) (n := 4) dX6_odds_106 rfl rfl ?_
                  refine j_if_ne (tgt := 116) (q := 111) dX6_odds_108 rfl rfl ?_ ?_
                  · refine j_iload (q := 118) (i := 2) (n := 6) dX6_odds_116 rfl rfl ?_
                    refine j_iload (q := 120) (i := 0) (n := 8) dX6_odds_118 rfl rfl ?_
                    refine j_idiv (q := 121) dX6_odds_120 rfl ?_
                    exact j_ret (x := r7 / r10) dX6_odds_121 ⟨trivial, rfl, rfl⟩
                  · refine j_iload (q := 113) (i := 1) (n := 7) dX6_odds_111 rfl rfl ?_
                    refine j_goto (tgt := 118) dX6_odds_113 rfl ?_
                    refine j_iload (q := 120) (i := 0) (n := 8) dX6_odds_118 rfl rfl ?_
                    refine j_idiv (q := 121) dX6_odds_120 rfl ?_
                    exact j_ret (x := (r7 - r9) / r10) dX6_odds_121 ⟨trivial, rfl, rfl⟩
                · refine j_iconst (q := 105) (v := (nI 0)) dX6_odds_104 rfl rfl ?_
                  exact j_ret (x := (nI 0)) dX6_odds_105 ⟨trivial, rfl, rfl⟩
              · refine j_bipush (q := 58) (v := (-2)) dX6_odds_56 rfl rfl ?_
                exact j_ret (x := (-2)) dX6_odds_58 ⟨trivial, rfl, rfl⟩
            · refine j_iconst (q := 46) (v := (-1)) dX6_odds_45 rfl rfl ?_
              exact j_ret (x := (-1)) dX6_odds_46 ⟨trivial, rfl, rfl⟩
-- CopierJobs.sees(III)I
abbrev rm_X6_sees : Room := { frames := 2, cells := 0, slots := 0, locals := 45 }
theorem cv_X6_sees : CV yX6_sees cX6_sees 4 (some .int) 3 := ⟨wC_X6_sees, wI_X6_sees, wS_X6_sees, wZ_X6, by decide +kernel⟩
def m_X6_sees (g : zG) (a0 : Int32) (a1 : Int32) (a2 : Int32) : Option (Int32 × zG) := if a0 < (nI 0) then some ((-1), g) else if (nI 80) < a0 then some ((-1), g) else if a1 < (nI 1) then some ((-1), g) else if (nI 9) < a1 then some ((-1), g) else if a2 < (nI 0) then some ((-1), g) else if (nI 1) < a2 then some ((-1), g) else if (gi g 40 0 0) < (nI 6) then sb (m_X4_add g a0 a1 a2) fun r1 g2 => some (r1, g2) else some ((-3), g)
set_option maxRecDepth 100000 in
set_option maxHeartbeats 4000000 in
theorem c_X6_sees (l : Launch) (z : zE) (gm : zG) (g : zG) (a0 : Int32) (a1 : Int32) (a2 : Int32) : ∀ x, m_X6_sees g a0 a1 a2 = some x → Ms dm l yX6_sees cX6_sees 4 (some .int) rm_X6_sees z [.ref (za z 76 0), .int a0, .int a1, .int a2] ((wx z gm) g) (osi x) ((wx z gm) ((fun x => x.2) x)) := by
  refine ms_of (Wf := (wx z gm)) (ri := .ireturn) (out := osi) (nxt := (fun x => x.2)) (ok := (fun _ => True)) (lv := [(0, .ref (za z 76 0)), (1, .int a0), (2, .int a1), (3, .int a2)]) (by decide) ⟨rfl, rfl⟩ (Nat.le_of_ble_eq_true rfl) rfl (en_i (out := fun x : Int32 × zG => x.1)) (fun p e s m below meth c => ?_)
  refine j_eq (M2 := if a0 < (nI 0) then some ((-1), g) else if (nI 80) < a0 then some ((-1), g) else if a1 < (nI 1) then some ((-1), g) else if (nI 9) < a1 then some ((-1), g) else if a2 < (nI 0) then some ((-1), g) else if (nI 1) < a2 then some ((-1), g) else if (gi g 40 0 0) < (nI 6) then sb (m_X4_add g a0 a1 a2) fun r1 g2 => some (r1, g2) else some ((-3), g)) rfl ?_
  refine j_iload_n (q := 1) (i := 1) (n := 1) dX6_sees_0 rfl rfl rfl ?_
  refine j_if_lt (tgt := 30) (q := 4) dX6_sees_1 rfl rfl ?_ ?_
  · refine j_iconst (q := 31) (v := (-1)) dX6_sees_30 rfl rfl ?_
    exact j_ret (x := ((-1), g)) dX6_sees_31 ⟨trivial, rfl, rfl⟩
  · refine j_iload_n (q := 5) (i := 1) (n := 1) dX6_sees_4 rfl rfl rfl ?_
    refine j_bipush (q := 7) (v := (nI 80)) dX6_sees_5 rfl rfl ?_
    refine j_icmp_gt (tgt := 30) (q := 10) dX6_sees_7 rfl rfl ?_ ?_
    · refine j_iconst (q := 31) (v := (-1)) dX6_sees_30 rfl rfl ?_
      exact j_ret (x := ((-1), g)) dX6_sees_31 ⟨trivial, rfl, rfl⟩
    · refine j_iload_n (q := 11) (i := 2) (n := 2) dX6_sees_10 rfl rfl rfl ?_
      refine j_iconst (q := 12) (v := (nI 1)) dX6_sees_11 rfl rfl ?_
      refine j_icmp_lt (tgt := 30) (q := 15) dX6_sees_12 rfl rfl ?_ ?_
      · refine j_iconst (q := 31) (v := (-1)) dX6_sees_30 rfl rfl ?_
        exact j_ret (x := ((-1), g)) dX6_sees_31 ⟨trivial, rfl, rfl⟩
      · refine j_iload_n (q := 16) (i := 2) (n := 2) dX6_sees_15 rfl rfl rfl ?_
        refine j_bipush (q := 18) (v := (nI 9)) dX6_sees_16 rfl rfl ?_
        refine j_icmp_gt (tgt := 30) (q := 21) dX6_sees_18 rfl rfl ?_ ?_
        · refine j_iconst (q := 31) (v := (-1)) dX6_sees_30 rfl rfl ?_
          exact j_ret (x := ((-1), g)) dX6_sees_31 ⟨trivial, rfl, rfl⟩
        · refine j_iload_n (q := 22) (i := 3) (n := 3) dX6_sees_21 rfl rfl rfl ?_
          refine j_if_lt (tgt := 30) (q := 25) dX6_sees_22 rfl rfl ?_ ?_
          · refine j_iconst (q := 31) (v := (-1)) dX6_sees_30 rfl rfl ?_
            exact j_ret (x := ((-1), g)) dX6_sees_31 ⟨trivial, rfl, rfl⟩
          · refine j_iload_n (q := 26) (i := 3) (n := 3) dX6_sees_25 rfl rfl rfl ?_
            refine j_iconst (q := 27) (v := (nI 1)) dX6_sees_26 rfl rfl ?_
            refine j_icmp_le (tgt := 32) (q := 30) dX6_sees_27 rfl rfl ?_ ?_
            · refine j_aload_n (q := 33) (i := 0) (n := 0) dX6_sees_32 rfl rfl rfl ?_
              refine g_X6_seen (q := 36) wF_X6_33 (Nat.le_of_ble_eq_true rfl) dX6_sees_33 rfl ?_
              refine gN_X4_size (q := 39) wG_X6_227 (Nat.le_of_ble_eq_true rfl) dX6_sees_36 rfl ?_
              refine j_bipush (q := 41) (v := (nI 6)) dX6_sees_39 rfl rfl ?_
              refine j_icmp_lt (tgt := 49) (q := 44) dX6_sees_41 rfl rfl ?_ ?_
              · refine j_aload_n (q := 50) (i := 0) (n := 0) dX6_sees_49 rfl rfl rfl ?_
                refine g_X6_seen (q := 53) wF_X6_33 (Nat.le_of_ble_eq_true rfl) dX6_sees_50 rfl ?_
                refine j_iload_n (q := 54) (i := 1) (n := 1) dX6_sees_53 rfl rfl rfl ?_
                refine j_iload_n (q := 55) (i := 2) (n := 2) dX6_sees_54 rfl rfl rfl ?_
                refine j_iload_n (q := 56) (i := 3) (n := 3) dX6_sees_55 rfl rfl rfl ?_
                refine j_ss (q := 59) (rn_V (R := rm_X6_sees) (As := [.int a0, .int a1, .int a2]) (rest := []) (c_X4_add _ z gm g a0 a1 a2) cv_X4_add wM_X6_230 ⟨rfl, rfl⟩ ⟨(Nat.le_of_ble_eq_true rfl), (Nat.le_of_ble_eq_true rfl)⟩ (Nat.le_of_ble_eq_true rfl) rfl rfl rfl (Nat.le_of_ble_eq_true rfl) dX6_sees_56) rfl (fun r1 g2 => ?_)
                exact j_ret (x := (r1, g2)) dX6_sees_59 ⟨trivial, rfl, rfl⟩
              · refine j_bipush (q := 46) (v := (-3)) dX6_sees_44 rfl rfl ?_
                refine j_goto (tgt := 59) dX6_sees_46 rfl ?_
                exact j_ret (x := ((-3), g)) dX6_sees_59 ⟨trivial, rfl, rfl⟩
            · refine j_iconst (q := 31) (v := (-1)) dX6_sees_30 rfl rfl ?_
              exact j_ret (x := ((-1), g)) dX6_sees_31 ⟨trivial, rfl, rfl⟩
-- CopierJobs.forget()I
abbrev rm_X6_forget : Room := { frames := 1, cells := 0, slots := 0, locals := 21 }
theorem cv_X6_forget : CV yX6_forget cX6_forget 1 (some .int) 0 := ⟨wC_X6_forget, wI_X6_forget, wS_X6_forget, wZ_X6, by decide +kernel⟩
def m_X6_forget (g : zG) : Option (Int32 × zG) := sb (m_X4_forgetAll g) fun r1 g2 => some (r1, g2)
set_option maxRecDepth 100000 in
set_option maxHeartbeats 4000000 in
theorem c_X6_forget (l : Launch) (z : zE) (gm : zG) (g : zG) : ∀ x, m_X6_forget g = some x → Ms dm l yX6_forget cX6_forget 1 (some .int) rm_X6_forget z [.ref (za z 76 0)] ((wx z gm) g) (osi x) ((wx z gm) ((fun x => x.2) x)) := by
  refine ms_of (Wf := (wx z gm)) (ri := .ireturn) (out := osi) (nxt := (fun x => x.2)) (ok := (fun _ => True)) (lv := [(0, .ref (za z 76 0))]) (by decide) ⟨rfl, rfl⟩ (Nat.le_of_ble_eq_true rfl) rfl (en_i (out := fun x : Int32 × zG => x.1)) (fun p e s m below meth c => ?_)
  refine j_eq (M2 := sb (m_X4_forgetAll g) fun r1 g2 => some (r1, g2)) rfl ?_
  refine j_aload_n (q := 1) (i := 0) (n := 0) dX6_forget_0 rfl rfl rfl ?_
  refine g_X6_seen (q := 4) wF_X6_33 (Nat.le_of_ble_eq_true rfl) dX6_forget_1 rfl ?_
  refine j_ss (q := 7) (rn_V (R := rm_X6_forget) (As := []) (rest := []) (c_X4_forgetAll _ z gm g) cv_X4_forgetAll wM_X6_75 ⟨rfl, rfl⟩ ⟨(Nat.le_of_ble_eq_true rfl), (Nat.le_of_ble_eq_true rfl)⟩ (Nat.le_of_ble_eq_true rfl) rfl rfl rfl (Nat.le_of_ble_eq_true rfl) dX6_forget_4) rfl (fun r1 g2 => ?_)
  exact j_ret (x := (r1, g2)) dX6_forget_7 ⟨trivial, rfl, rfl⟩
-- CopierJobs.whose()I
abbrev rm_X6_whose : Room := { frames := 4, cells := 0, slots := 0, locals := 90 }
theorem cv_X6_whose : CV yX6_whose cX6_whose 1 (some .int) 0 := ⟨wC_X6_whose, wI_X6_whose, wS_X6_whose, wZ_X6, by decide +kernel⟩
def m_X6_whose (g : zG) : Option (Int32) := gd (gn g 0 < dm 73) ((m_X4_fittingOf g (gn g 0)).bind fun r2 => some r2)
set_option maxRecDepth 100000 in
set_option maxHeartbeats 4000000 in
theorem c_X6_whose (l : Launch) (z : zE) (gm : zG) (g : zG) : ∀ x, m_X6_whose g = some x → Ms dm l yX6_whose cX6_whose 1 (some .int) rm_X6_whose z [.ref (za z 76 0)] ((wx z gm) g) (oi x) ((wx z gm) ((fun _ => g) x)) := by
  refine ms_of (Wf := (wx z gm)) (ri := .ireturn) (out := oi) (nxt := (fun _ => g)) (ok := (fun _ => True)) (lv := [(0, .ref (za z 76 0))]) (by decide) ⟨rfl, rfl⟩ (Nat.le_of_ble_eq_true rfl) rfl (en_i (out := fun x => x)) (fun p e s m below meth c => ?_)
  refine j_eq (M2 := gd (gn g 0 < dm 73) ((m_X4_fittingOf g (gn g 0)).bind fun r2 => some r2)) rfl ?_
  refine j_aload_n (q := 1) (i := 0) (n := 0) dX6_whose_0 rfl rfl rfl ?_
  refine g_X6_seen (q := 4) wF_X6_33 (Nat.le_of_ble_eq_true rfl) dX6_whose_1 rfl ?_
  refine j_aload_n (q := 5) (i := 0) (n := 0) dX6_whose_4 rfl rfl rfl ?_
  refine g_X6_plan (q := 8) wF_X6_48 (Nat.le_of_ble_eq_true rfl) dX6_whose_5 rfl ?_
  refine j_gd (fun hp1 => ?_)
  refine j_ci (q := 11) (rn_V (R := rm_X6_whose) (As := [.ref (za z 73 (gn g 0))]) (rest := []) (c_X4_fittingOf _ z gm g (gn g 0) hp1) cv_X4_fittingOf wM_X6_233 ⟨rfl, rfl⟩ ⟨(Nat.le_of_ble_eq_true rfl), (Nat.le_of_ble_eq_true rfl)⟩ (Nat.le_of_ble_eq_true rfl) rfl rfl rfl (Nat.le_of_ble_eq_true rfl) dX6_whose_8) rfl (fun r2 => ?_)
  exact j_ret (x := r2) dX6_whose_11 ⟨trivial, rfl, rfl⟩
-- CopierJobs.look()I
abbrev rm_X6_look : Room := { frames := 4, cells := 0, slots := 0, locals := 90 }
theorem cv_X6_look : CV yX6_look cX6_look 9 (some .int) 0 := ⟨wC_X6_look, wI_X6_look, wS_X6_look, wZ_X6, by decide +kernel⟩
def m_X6_look_B101 (K26 : zG → Int32 → Int32 → Int32 → Int32 → Int32 → Option (Int32 × zG)) (K50 : zG → Int32 → Int32 → Int32 → Int32 → Int32 → Int32 → Option (Int32 × zG)) (g : zG) (x1 : Int32) (x2 : Int32) (x3 : Int32) (x4 : Int32) (x5 : Int32) (x6 : Int32) : Option (Int32 × zG) := K50 g x1 x2 x3 x4 x5 (x6 + (nI 1))
set_option maxRecDepth 100000 in
set_option maxHeartbeats 4000000 in
theorem t_X6_look_B101 {p : Program} {l : Launch} {e : Env} {s : State} {m : MethodId} {args : Array Value} {below : List Frame} {meth : Method} {c : Code} {cells slots : Nat} {Q : (Int32 × zG) → State → Prop} (z : zE) (gm : zG) (K26 : zG → Int32 → Int32 → Int32 → Int32 → Int32 → Option (Int32 × zG)) (K50 : zG → Int32 → Int32 → Int32 → Int32 → Int32 → Int32 → Option (Int32 × zG)) (hK26 : ∀ (g : zG) (x1 : Int32) (x2 : Int32) (x3 : Int32) (x4 : Int32) (x5 : Int32), zJ dm p l e rm_X6_look s m args below meth c cX6_look 9 yX6_look.cls z cells slots (wx z gm) (fn (fun _ => True) (fun x => x.2) osi) .ireturn Q 26 [(0, .ref (za z 76 0)), (1, .int x1), (2, .int x2), (3, .int x3), (4, .int x4), (5, .int x5)] [] g (K26 g x1 x2 x3 x4 x5)) (hK50 : ∀ (g : zG) (x1 : Int32) (x2 : Int32) (x3 : Int32) (x4 : Int32) (x5 : Int32) (x6 : Int32), zJ dm p l e rm_X6_look s m args below meth c cX6_look 9 yX6_look.cls z cells slots (wx z gm) (fn (fun _ => True) (fun x => x.2) osi) .ireturn Q 50 [(0, .ref (za z 76 0)), (1, .int x1), (2, .int x2), (3, .int x3), (4, .int x4), (5, .int x5), (6, .int x6)] [] g (K50 g x1 x2 x3 x4 x5 x6)) (g : zG) (x1 : Int32) (x2 : Int32) (x3 : Int32) (x4 : Int32) (x5 : Int32) (x6 : Int32) : zJ dm p l e rm_X6_look s m args below meth c cX6_look 9 yX6_look.cls z cells slots (wx z gm) (fn (fun _ => True) (fun x => x.2) osi) .ireturn Q 101 [(0, .ref (za z 76 0)), (1, .int x1), (2, .int x2), (3, .int x3), (4, .int x4), (5, .int x5), (6, .int x6)] [] g (m_X6_look_B101 K26 K50 g x1 x2 x3 x4 x5 x6) := by
  refine j_eq (M2 := K50 g x1 x2 x3 x4 x5 (x6 + (nI 1))) rfl ?_
  refine j_iinc (q := 104) (n := 6) (i := 6) (v := x6 + (nI 1)) (lv' := [(6, .int (x6 + (nI 1))), (0, .ref (za z 76 0)), (1, .int x1), (2, .int x2), (3, .int x3), (4, .int x4), (5, .int x5)]) dX6_look_101 rfl rfl (Nat.le_of_ble_eq_true rfl) rfl rfl ?_
  refine j_goto (tgt := 50) dX6_look_104 rfl ?_
  refine j_lv [1, 2, 3, 4, 5, 6, 0] (lv' := [(0, .ref (za z 76 0)), (1, .int x1), (2, .int x2), (3, .int x3), (4, .int x4), (5, .int x5), (6, .int (x6 + (nI 1)))]) rfl ?_
  exact hK50 g x1 x2 x3 x4 x5 (x6 + (nI 1))
def m_X6_look_L50 (K26 : zG → Int32 → Int32 → Int32 → Int32 → Int32 → Option (Int32 × zG)) : Nat → zG → Int32 → Int32 → Int32 → Int32 → Int32 → Int32 → Option (Int32 × zG)
  | 0, _, _, _, _, _, _, _ => none
  | f + 1, g, x1, x2, x3, x4, x5, x6 => if (nI 9) < x6 then K26 g x1 x2 x3 x4 (x5 + (nI 1)) else (m_X6_at g 44 0 x6).bind fun r6 => (m_J9_max_7cf53 r6 (x2 - r6)).bind fun r7 => if r7 < x3 then m_X6_look_B101 K26 (m_X6_look_L50 K26 f) g x1 x2 r7 (((nI 10) * x5) + x6) x5 x6 else m_X6_look_B101 K26 (m_X6_look_L50 K26 f) g x1 x2 x3 x4 x5 x6
set_option maxRecDepth 100000 in
set_option maxHeartbeats 4000000 in
theorem t_X6_look_L50 {p : Program} {l : Launch} {e : Env} {s : State} {m : MethodId} {args : Array Value} {below : List Frame} {meth : Method} {c : Code} {cells slots : Nat} {Q : (Int32 × zG) → State → Prop} (z : zE) (gm : zG) (K26 : zG → Int32 → Int32 → Int32 → Int32 → Int32 → Option (Int32 × zG)) (hK26 : ∀ (g : zG) (x1 : Int32) (x2 : Int32) (x3 : Int32) (x4 : Int32) (x5 : Int32), zJ dm p l e rm_X6_look s m args below meth c cX6_look 9 yX6_look.cls z cells slots (wx z gm) (fn (fun _ => True) (fun x => x.2) osi) .ireturn Q 26 [(0, .ref (za z 76 0)), (1, .int x1), (2, .int x2), (3, .int x3), (4, .int x4), (5, .int x5)] [] g (K26 g x1 x2 x3 x4 x5)) : ∀ (f : Nat) (g : zG) (x1 : Int32) (x2 : Int32) (x3 : Int32) (x4 : Int32) (x5 : Int32) (x6 : Int32), zJ dm p l e rm_X6_look s m args below meth c cX6_look 9 yX6_look.cls z cells slots (wx z gm) (fn (fun _ => True) (fun x => x.2) osi) .ireturn Q 50 [(0, .ref (za z 76 0)), (1, .int x1), (2, .int x2), (3, .int x3), (4, .int x4), (5, .int x5), (6, .int x6)] [] g (m_X6_look_L50 K26 f g x1 x2 x3 x4 x5 x6) := by
  intro f
  induction f with
  | zero => intro g x1 x2 x3 x4 x5 x6; exact j_none
  | succ f ih =>
    intro g x1 x2 x3 x4 x5 x6
    refine j_eq (M2 := if (nI 9) < x6 then K26 g x1 x2 x3 x4 (x5 + (nI 1)) else (m_X6_at g 44 0 x6).bind fun r6 => (m_J9_max_7cf53 r6 (x2 - r6)).bind fun r7 => if r7 < x3 then m_X6_look_B101 K26 (m_X6_look_L50 K26 f) g x1 x2 r7 (((nI 10) * x5) + x6) x5 x6 else m_X6_look_B101 K26 (m_X6_look_L50 K26 f) g x1 x2 x3 x4 x5 x6) rfl ?_
    refine j_iload (q := 52) (i := 6) (n := 6) dX6_look_50 rfl rfl ?_
    refine j_bipush (q := 54) (v := (nI 9)) dX6_look_52 rfl rfl ?_
    refine j_icmp_gt (tgt := 107) (q := 57) dX6_look_54 rfl rfl ?_ ?_
    · refine j_iinc (q := 110) (n := 5) (i := 5) (v := x5 + (nI 1)) (lv' := [(5, .int (x5 + (nI 1))), (0, .ref (za z 76 0)), (1, .int x1), (2, .int x2), (3, .int x3), (4, .int x4), (6, .int x6)]) dX6_look_107 rfl rfl (Nat.le_of_ble_eq_true rfl) rfl rfl ?_
      refine j_goto (tgt := 26) dX6_look_110 rfl ?_
      refine j_lv [1, 2, 3, 4, 5, 0] (lv' := [(0, .ref (za z 76 0)), (1, .int x1), (2, .int x2), (3, .int x3), (4, .int x4), (5, .int (x5 + (nI 1)))]) rfl ?_
      exact hK26 g x1 x2 x3 x4 (x5 + (nI 1))
    · refine j_aload_n (q := 58) (i := 0) (n := 0) dX6_look_57 rfl rfl rfl ?_
      refine g_X6_seen (q := 61) wF_X6_33 (Nat.le_of_ble_eq_true rfl) dX6_look_58 rfl ?_
      refine gN_X4_withFront (q := 64) wG_X6_245 (Nat.le_of_ble_eq_true rfl) dX6_look_61 rfl ?_
      refine j_iload (q := 66) (i := 6) (n := 6) dX6_look_64 rfl rfl ?_
      refine j_ci (q := 69) (rn_S (R := rm_X6_look) (As := [.ref (za z 44 0), .int x6]) (rest := []) (c_X6_at _ z gm g 44 0 (Or.inl ⟨isX_44, (Nat.le_of_ble_eq_true rfl)⟩) x6) cv_X6_at wM_X6_151 ⟨rfl, rfl⟩ ⟨(Nat.le_of_ble_eq_true rfl), (Nat.le_of_ble_eq_true rfl)⟩ rfl (Nat.le_of_ble_eq_true rfl) dX6_look_66) rfl (fun r6 => ?_)
      refine j_istore (q := 71) (n := 7) (lv' := [(7, .int r6), (0, .ref (za z 76 0)), (1, .int x1), (2, .int x2), (3, .int x3), (4, .int x4), (5, .int x5), (6, .int x6)]) dX6_look_69 (Nat.le_of_ble_eq_true rfl) rfl rfl ?_
      refine j_iload (q := 73) (i := 0) (n := 7) dX6_look_71 rfl rfl ?_
      refine j_iload_n (q := 74) (i := 3) (n := 2) dX6_look_73 rfl rfl rfl ?_
      refine j_iload (q := 76) (i := 0) (n := 7) dX6_look_74 rfl rfl ?_
      refine j_isub (q := 77) dX6_look_76 rfl ?_
      refine j_ci (q := 80) (rn_S (R := rm_X6_look) (As := [.int r6, .int (x2 - r6)]) (rest := []) (c_J9_max_7cf53 _ z gm g r6 (x2 - r6)) cv_J9_max_7cf53 wM_X6_248 ⟨rfl, rfl⟩ ⟨(Nat.le_of_ble_eq_true rfl), (Nat.le_of_ble_eq_true rfl)⟩ rfl (Nat.le_of_ble_eq_true rfl) dX6_look_77) rfl (fun r7 => ?_)
      refine j_istore (q := 82) (n := 8) (lv' := [(8, .int r7), (7, .int r6), (0, .ref (za z 76 0)), (1, .int x1), (2, .int x2), (3, .int x3), (4, .int x4), (5, .int x5), (6, .int x6)]) dX6_look_80 (Nat.le_of_ble_eq_true rfl) rfl rfl ?_
      refine j_iload (q := 84) (i := 0) (n := 8) dX6_look_82 rfl rfl ?_
      refine j_iload_n (q := 85) (i := 5) (n := 3) dX6_look_84 rfl rfl rfl ?_
      refine j_icmp_ge (tgt := 101) (q := 88) dX6_look_85 rfl rfl ?_ ?_
      · refine j_lv [2, 3, 4, 5, 6, 7, 8] (lv' := [(0, .ref (za z 76 0)), (1, .int x1), (2, .int x2), (3, .int x3), (4, .int x4), (5, .int x5), (6, .int x6)]) rfl ?_
        exact t_X6_look_B101 z gm K26 (m_X6_look_L50 K26 f) hK26 ih g x1 x2 x3 x4 x5 x6
      · refine j_iload (q := 90) (i := 0) (n := 8) dX6_look_88 rfl rfl ?_
        refine j_istore_n (q := 91) (n := 3) (lv' := [(3, .int r7), (8, .int r7), (7, .int r6), (0, .ref (za z 76 0)), (1, .int x1), (2, .int x2), (4, .int x4), (5, .int x5), (6, .int x6)]) dX6_look_90 rfl (Nat.le_of_ble_eq_true rfl) rfl rfl ?_
        refine j_bipush (q := 93) (v := (nI 10)) dX6_look_91 rfl rfl ?_
        refine j_iload (q := 95) (i := 7) (n := 5) dX6_look_93 rfl rfl ?_
        refine j_imul (q := 96) dX6_look_95 rfl ?_
        refine j_iload (q := 98) (i := 8) (n := 6) dX6_look_96 rfl rfl ?_
        refine j_iadd (q := 99) dX6_look_98 rfl ?_
        refine j_istore (q := 101) (n := 4) (lv' := [(4, .int (((nI 10) * x5) + x6)), (3, .int r7), (8, .int r7), (7, .int r6), (0, .ref (za z 76 0)), (1, .int x1), (2, .int x2), (5, .int x5), (6, .int x6)]) dX6_look_99 (Nat.le_of_ble_eq_true rfl) rfl rfl ?_
        refine j_lv [4, 5, 6, 1, 0, 7, 8] (lv' := [(0, .ref (za z 76 0)), (1, .int x1), (2, .int x2), (3, .int r7), (4, .int (((nI 10) * x5) + x6)), (5, .int x5), (6, .int x6)]) rfl ?_
        exact t_X6_look_B101 z gm K26 (m_X6_look_L50 K26 f) hK26 ih g x1 x2 r7 (((nI 10) * x5) + x6) x5 x6
def m_X6_look_L26 : Nat → zG → Int32 → Int32 → Int32 → Int32 → Int32 → Option (Int32 × zG)
  | 0, _, _, _, _, _, _ => none
  | f + 1, g, x1, x2, x3, x4, x5 => if (nI 80) < x5 then some (x4, g) else gd (gn g 0 < dm 73) ((m_X4_countFronts g (gn g 0) x1 x5).bind fun g5 => m_X6_look_L50 (m_X6_look_L26 f) FU g5 x1 x2 x3 x4 x5 (nI 1))
set_option maxRecDepth 100000 in
set_option maxHeartbeats 4000000 in
theorem t_X6_look_L26 {p : Program} {l : Launch} {e : Env} {s : State} {m : MethodId} {args : Array Value} {below : List Frame} {meth : Method} {c : Code} {cells slots : Nat} {Q : (Int32 × zG) → State → Prop} (z : zE) (gm : zG) : ∀ (f : Nat) (g : zG) (x1 : Int32) (x2 : Int32) (x3 : Int32) (x4 : Int32) (x5 : Int32), zJ dm p l e rm_X6_look s m args below meth c cX6_look 9 yX6_look.cls z cells slots (wx z gm) (fn (fun _ => True) (fun x => x.2) osi) .ireturn Q 26 [(0, .ref (za z 76 0)), (1, .int x1), (2, .int x2), (3, .int x3), (4, .int x4), (5, .int x5)] [] g (m_X6_look_L26 f g x1 x2 x3 x4 x5) := by
  intro f
  induction f with
  | zero => intro g x1 x2 x3 x4 x5; exact j_none
  | succ f ih =>
    intro g x1 x2 x3 x4 x5
    refine j_eq (M2 := if (nI 80) < x5 then some (x4, g) else gd (gn g 0 < dm 73) ((m_X4_countFronts g (gn g 0) x1 x5).bind fun g5 => m_X6_look_L50 (m_X6_look_L26 f) FU g5 x1 x2 x3 x4 x5 (nI 1))) rfl ?_
    refine j_iload (q := 28) (i := 5) (n := 5) dX6_look_26 rfl rfl ?_
    refine j_bipush (q := 30) (v := (nI 80)) dX6_look_28 rfl rfl ?_
    refine j_icmp_gt (tgt := 113) (q := 33) dX6_look_30 rfl rfl ?_ ?_
    · refine j_iload (q := 115) (i := 4) (n := 4) dX6_look_113 rfl rfl ?_
      exact j_ret (x := (x4, g)) dX6_look_115 ⟨trivial, rfl, rfl⟩
    · refine j_aload_n (q := 34) (i := 0) (n := 0) dX6_look_33 rfl rfl rfl ?_
      refine g_X6_seen (q := 37) wF_X6_33 (Nat.le_of_ble_eq_true rfl) dX6_look_34 rfl ?_
      refine j_aload_n (q := 38) (i := 0) (n := 0) dX6_look_37 rfl rfl rfl ?_
      refine g_X6_plan (q := 41) wF_X6_48 (Nat.le_of_ble_eq_true rfl) dX6_look_38 rfl ?_
      refine j_gd (fun hp4 => ?_)
      refine j_iload_n (q := 42) (i := 1) (n := 1) dX6_look_41 rfl rfl rfl ?_
      refine j_iload (q := 44) (i := 5) (n := 5) dX6_look_42 rfl rfl ?_
      refine j_sv (q := 47) (rn_V (R := rm_X6_look) (As := [.ref (za z 73 (gn g 0)), .int x1, .int x5]) (rest := []) (c_X4_countFronts _ z gm g (gn g 0) hp4 x1 x5) cv_X4_countFronts wM_X6_241 ⟨rfl, rfl⟩ ⟨(Nat.le_of_ble_eq_true rfl), (Nat.le_of_ble_eq_true rfl)⟩ (Nat.le_of_ble_eq_true rfl) rfl rfl rfl (Nat.le_of_ble_eq_true rfl) dX6_look_44) rfl (fun g5 => ?_)
      refine j_iconst (q := 48) (v := (nI 1)) dX6_look_47 rfl rfl ?_
      refine j_istore (q := 50) (n := 6) (lv' := [(6, .int (nI 1)), (0, .ref (za z 76 0)), (1, .int x1), (2, .int x2), (3, .int x3), (4, .int x4), (5, .int x5)]) dX6_look_48 (Nat.le_of_ble_eq_true rfl) rfl rfl ?_
      refine j_lv [1, 2, 3, 4, 5, 6, 0] (lv' := [(0, .ref (za z 76 0)), (1, .int x1), (2, .int x2), (3, .int x3), (4, .int x4), (5, .int x5), (6, .int (nI 1))]) rfl ?_
      exact t_X6_look_L50 z gm (m_X6_look_L26 f) ih FU g5 x1 x2 x3 x4 x5 (nI 1)
def m_X6_look (g : zG) : Option (Int32 × zG) := gd (gn g 0 < dm 73) ((m_X4_fittingOf g (gn g 0)).bind fun r2 => (m_J6_bitCount_0f7a4 r2).bind fun r3 => m_X6_look_L26 FU g r2 r3 r3 (-9) (nI 0))
set_option maxRecDepth 100000 in
set_option maxHeartbeats 4000000 in
theorem c_X6_look (l : Launch) (z : zE) (gm : zG) (g : zG) : ∀ x, m_X6_look g = some x → Ms dm l yX6_look cX6_look 9 (some .int) rm_X6_look z [.ref (za z 76 0)] ((wx z gm) g) (osi x) ((wx z gm) ((fun x => x.2) x)) := by
  refine ms_of (Wf := (wx z gm)) (ri := .ireturn) (out := osi) (nxt := (fun x => x.2)) (ok := (fun _ => True)) (lv := [(0, .ref (za z 76 0))]) (by decide) ⟨rfl, rfl⟩ (Nat.le_of_ble_eq_true rfl) rfl (en_i (out := fun x : Int32 × zG => x.1)) (fun p e s m below meth c => ?_)
  refine j_eq (M2 := gd (gn g 0 < dm 73) ((m_X4_fittingOf g (gn g 0)).bind fun r2 => (m_J6_bitCount_0f7a4 r2).bind fun r3 => m_X6_look_L26 FU g r2 r3 r3 (-9) (nI 0))) rfl ?_
  refine j_aload_n (q := 1) (i := 0) (n := 0) dX6_look_0 rfl rfl rfl ?_
  refine g_X6_seen (q := 4) wF_X6_33 (Nat.le_of_ble_eq_true rfl) dX6_look_1 rfl ?_
  refine j_aload_n (q := 5) (i := 0) (n := 0) dX6_look_4 rfl rfl rfl ?_
  refine g_X6_plan (q := 8) wF_X6_48 (Nat.le_of_ble_eq_true rfl) dX6_look_5 rfl ?_
  refine j_gd (fun hp1 => ?_)
  refine j_ci (q := 11) (rn_V (R := rm_X6_look) (As := [.ref (za z 73 (gn g 0))]) (rest := []) (c_X4_fittingOf _ z gm g (gn g 0) hp1) cv_X4_fittingOf wM_X6_233 ⟨rfl, rfl⟩ ⟨(Nat.le_of_ble_eq_true rfl), (Nat.le_of_ble_eq_true rfl)⟩ (Nat.le_of_ble_eq_true rfl) rfl rfl rfl (Nat.le_of_ble_eq_true rfl) dX6_look_8) rfl (fun r2 => ?_)
  refine j_istore_n (q := 12) (n := 1) (lv' := [(1, .int r2), (0, .ref (za z 76 0))]) dX6_look_11 rfl (Nat.le_of_ble_eq_true rfl) rfl rfl ?_
  refine j_iload_n (q := 13) (i := 0) (n := 1) dX6_look_12 rfl rfl rfl ?_
  refine j_ci (q := 16) (rn_S (R := rm_X6_look) (As := [.int r2]) (rest := []) (c_J6_bitCount_0f7a4 _ z gm g r2) cv_J6_bitCount_0f7a4 wM_X6_236 ⟨rfl, rfl⟩ ⟨(Nat.le_of_ble_eq_true rfl), (Nat.le_of_ble_eq_true rfl)⟩ rfl (Nat.le_of_ble_eq_true rfl) dX6_look_13) rfl (fun r3 => ?_)
  refine j_istore_n (q := 17) (n := 2) (lv' := [(2, .int r3), (1, .int r2), (0, .ref (za z 76 0))]) dX6_look_16 rfl (Nat.le_of_ble_eq_true rfl) rfl rfl ?_
  refine j_iload_n (q := 18) (i := 0) (n := 2) dX6_look_17 rfl rfl rfl ?_
  refine j_istore_n (q := 19) (n := 3) (lv' := [(3, .int r3), (2, .int r3), (1, .int r2), (0, .ref (za z 76 0))]) dX6_look_18 rfl (Nat.le_of_ble_eq_true rfl) rfl rfl ?_
  refine j_bipush (q := 21) (v := (-9)) dX6_look_19 rfl rfl ?_
  refine j_istore (q := 23) (n := 4) (lv' := [(4, .int (-9)), (3, .int r3), (2, .int r3), (1, .int r2), (0, .ref (za z 76 0))]) dX6_look_21 (Nat.le_of_ble_eq_true rfl) rfl rfl ?_
  refine j_iconst (q := 24) (v := (nI 0)) dX6_look_23 rfl rfl ?_
  refine j_istore (q := 26) (n := 5) (lv' := [(5, .int (nI 0)), (4, .int (-9)), (3, .int r3), (2, .int r3), (1, .int r2), (0, .ref (za z 76 0))]) dX6_look_24 (Nat.le_of_ble_eq_true rfl) rfl rfl ?_
  refine j_lv [5, 4, 3, 2, 1, 0] (lv' := [(0, .ref (za z 76 0)), (1, .int r2), (2, .int r3), (3, .int r3), (4, .int (-9)), (5, .int (nI 0))]) rfl ?_
  exact t_X6_look_L26 z gm FU g r2 r3 r3 (-9) (nI 0)
-- CopierJobs.mark(II)I
abbrev rm_X6_mark : Room := { frames := 12, cells := 0, slots := 0, locals := 292 }
theorem cv_X6_mark : CV yX6_mark cX6_mark 4 (some .int) 2 := ⟨wC_X6_mark, wI_X6_mark, wS_X6_mark, wZ_X6, by decide +kernel⟩
def m_X6_mark (g : zG) (a0 : Int32) (a1 : Int32) : Option (Int32 × zG) := gd (gn g 0 < dm 73) ((m_X3_jobAt g (gn g 0) a1).bind fun x => oc x (some ((-1000000), g)) (fun n2 => gd (n2 < dm 71) (if a0 < (nI 0) then some ((-1000000), g) else if a0 < (nI 6) then sb (m_X6_worthAs 9 g a0 n2 a1 (nI 0)) fun r4 g5 => some (r4, g5) else some ((-1000000), g))))
set_option maxRecDepth 100000 in
set_option maxHeartbeats 4000000 in
theorem c_X6_mark (l : Launch) (z : zE) (gm : zG) (g : zG) (a0 : Int32) (a1 : Int32) : ∀ x, m_X6_mark g a0 a1 = some x → Ms dm l yX6_mark cX6_mark 4 (some .int) rm_X6_mark z [.ref (za z 76 0), .int a0, .int a1] ((wx z gm) g) (osi x) ((wx z gm) ((fun x => x.2) x)) := by
  refine ms_of (Wf := (wx z gm)) (ri := .ireturn) (out := osi) (nxt := (fun x => x.2)) (ok := (fun _ => True)) (lv := [(0, .ref (za z 76 0)), (1, .int a0), (2, .int a1)]) (by decide) ⟨rfl, rfl⟩ (Nat.le_of_ble_eq_true rfl) rfl (en_i (out := fun x : Int32 × zG => x.1)) (fun p e s m below meth c => ?_)
  refine j_eq (M2 := gd (gn g 0 < dm 73) ((m_X3_jobAt g (gn g 0) a1).bind fun x => oc x (some ((-1000000), g)) (fun n2 => gd (n2 < dm 71) (if a0 < (nI 0) then some ((-1000000), g) else if a0 < (nI 6) then sb (m_X6_worthAs 9 g a0 n2 a1 (nI 0)) fun r4 g5 => some (r4, g5) else some ((-1000000), g))))) rfl ?_
  refine j_aload_n (q := 1) (i := 0) (n := 0) dX6_mark_0 rfl rfl rfl ?_
  refine g_X6_plan (q := 4) wF_X6_48 (Nat.le_of_ble_eq_true rfl) dX6_mark_1 rfl ?_
  refine j_gd (fun hp1 => ?_)
  refine j_iload_n (q := 5) (i := 2) (n := 2) dX6_mark_4 rfl rfl rfl ?_
  refine j_crs (k0 := 71) (q := 8) (rn_V (R := rm_X6_mark) (As := [.int a1]) (rest := []) (c_X3_jobAt _ z gm g (gn g 0) hp1 a1) cv_X3_jobAt wM_X6_78 ⟨rfl, rfl⟩ ⟨(Nat.le_of_ble_eq_true rfl), (Nat.le_of_ble_eq_true rfl)⟩ hp1 rfl rfl rfl (Nat.le_of_ble_eq_true rfl) dX6_mark_5) rfl ?_ (fun n2 => ?_)
  · refine j_astore_nN (q := 9) (n := 3) (lv' := [(3, .null), (0, .ref (za z 76 0)), (1, .int a0), (2, .int a1)]) dX6_mark_8 rfl (Nat.le_of_ble_eq_true rfl) rfl rfl ?_
    refine j_aload_nN (q := 10) (i := 0) (n := 3) dX6_mark_9 rfl rfl rfl ?_
    refine j_nul0 (tgt := 25) dX6_mark_10 rfl ?_
    refine j_ldc (q := 27) (v := (-1000000)) dX6_mark_25 wV_X6_254 rfl ?_
    exact j_ret (x := ((-1000000), g)) dX6_mark_27 ⟨trivial, rfl, rfl⟩
  · refine j_gd (fun hn3 => ?_)
    refine j_astore_n (q := 9) (n := 3) (lv' := [(3, .ref (za z 71 n2)), (0, .ref (za z 76 0)), (1, .int a0), (2, .int a1)]) dX6_mark_8 rfl (Nat.le_of_ble_eq_true rfl) rfl rfl ?_
    refine j_aload_n (q := 10) (i := 0) (n := 3) dX6_mark_9 rfl rfl rfl ?_
    refine j_nul1 (q := 13) dX6_mark_10 rfl ?_
    refine j_iload_n (q := 14) (i := 2) (n := 1) dX6_mark_13 rfl rfl rfl ?_
    refine j_if_lt (tgt := 25) (q := 17) dX6_mark_14 rfl rfl ?_ ?_
    · refine j_ldc (q := 27) (v := (-1000000)) dX6_mark_25 wV_X6_254 rfl ?_
      exact j_ret (x := ((-1000000), g)) dX6_mark_27 ⟨trivial, rfl, rfl⟩
    · refine j_iload_n (q := 18) (i := 2) (n := 1) dX6_mark_17 rfl rfl rfl ?_
      refine j_gets (k := 208) (q := 21) (by decide) (by decide) wF_X6_251 dX6_mark_18 rfl ?_
      refine j_slen (k := 208) (v := nI 6) (q := 22) (by decide) (by decide) rfl dX6_mark_21 rfl ?_
      refine j_icmp_lt (tgt := 28) (q := 25) dX6_mark_22 rfl rfl ?_ ?_
      · refine j_aload_n (q := 29) (i := 1) (n := 0) dX6_mark_28 rfl rfl rfl ?_
        refine j_iload_n (q := 30) (i := 2) (n := 1) dX6_mark_29 rfl rfl rfl ?_
        refine j_aload_n (q := 31) (i := 0) (n := 3) dX6_mark_30 rfl rfl rfl ?_
        refine j_iload_n (q := 32) (i := 3) (n := 2) dX6_mark_31 rfl rfl rfl ?_
        refine j_iconst (q := 33) (v := (nI 0)) dX6_mark_32 rfl rfl ?_
        refine j_ss (q := 36) (rn_V (R := rm_X6_mark) (As := [.int a0, .ref (za z 71 n2), .int a1, .int (nI 0)]) (rest := []) (c_X6_worthAs _ 9 z gm g a0 n2 hn3 a1 (nI 0)) cv_X6_worthAs wM_X6_255 ⟨rfl, rfl⟩ ⟨(Nat.le_of_ble_eq_true rfl), (Nat.le_of_ble_eq_true rfl)⟩ (Nat.le_of_ble_eq_true rfl) rfl rfl rfl (Nat.le_of_ble_eq_true rfl) dX6_mark_33) rfl (fun r4 g5 => ?_)
        exact j_ret (x := (r4, g5)) dX6_mark_36 ⟨trivial, rfl, rfl⟩
      · refine j_ldc (q := 27) (v := (-1000000)) dX6_mark_25 wV_X6_254 rfl ?_
        exact j_ret (x := ((-1000000), g)) dX6_mark_27 ⟨trivial, rfl, rfl⟩
-- CopierJobs.keep(I)I
abbrev rm_X6_keep : Room := { frames := 3, cells := 0, slots := 0, locals := 68 }
theorem cv_X6_keep : CV yX6_keep cX6_keep 3 (some .int) 1 := ⟨wC_X6_keep, wI_X6_keep, wS_X6_keep, wZ_X6, by decide +kernel⟩
def m_X6_keep (g : zG) (a0 : Int32) : Option (Int32 × zG) := (m_X6_imageAt g a0).bind fun x => oc x (some ((-1), g)) (fun n1 => gd (n1 < dm 70) (if a0 < (nI 0) then some ((-1), g) else if a0 < (nI 2) then (m_X0_copyFrom g n1 0).bind fun g3 => gd (inb a0 2 = true) (bd (ui g3 60 0 a0.toNatClampNeg (nI 1)) fun g4 => some (gi g4 0 0 0, g4)) else some ((-1), g)))
set_option maxRecDepth 100000 in
set_option maxHeartbeats 4000000 in
theorem c_X6_keep (l : Launch) (z : zE) (gm : zG) (g : zG) (a0 : Int32) : ∀ x, m_X6_keep g a0 = some x → Ms dm l yX6_keep cX6_keep 3 (some .int) rm_X6_keep z [.ref (za z 76 0), .int a0] ((wx z gm) g) (osi x) ((wx z gm) ((fun x => x.2) x)) := by
  refine ms_of (Wf := (wx z gm)) (ri := .ireturn) (out := osi) (nxt := (fun x => x.2)) (ok := (fun _ => True)) (lv := [(0, .ref (za z 76 0)), (1, .int a0)]) (by decide) ⟨rfl, rfl⟩ (Nat.le_of_ble_eq_true rfl) rfl (en_i (out := fun x : Int32 × zG => x.1)) (fun p e s m below meth c => ?_)
  refine j_eq (M2 := (m_X6_imageAt g a0).bind fun x => oc x (some ((-1), g)) (fun n1 => gd (n1 < dm 70) (if a0 < (nI 0) then some ((-1), g) else if a0 < (nI 2) then (m_X0_copyFrom g n1 0).bind fun g3 => gd (inb a0 2 = true) (bd (ui g3 60 0 a0.toNatClampNeg (nI 1)) fun g4 => some (gi g4 0 0 0, g4)) else some ((-1), g)))) rfl ?_
  refine j_aload_n (q := 1) (i := 0) (n := 0) dX6_keep_0 rfl rfl rfl ?_
  refine j_iload_n (q := 2) (i := 1) (n := 1) dX6_keep_1 rfl rfl rfl ?_
  refine j_crs (k0 := 70) (q := 5) (rn_V (R := rm_X6_keep) (As := [.int a0]) (rest := []) (c_X6_imageAt _ z gm g a0) cv_X6_imageAt wM_X6_259 ⟨rfl, rfl⟩ ⟨(Nat.le_of_ble_eq_true rfl), (Nat.le_of_ble_eq_true rfl)⟩ (Nat.le_of_ble_eq_true rfl) rfl rfl rfl (Nat.le_of_ble_eq_true rfl) dX6_keep_2) rfl ?_ (fun n1 => ?_)
  · refine j_astore_nN (q := 6) (n := 2) (lv' := [(2, .null), (0, .ref (za z 76 0)), (1, .int a0)]) dX6_keep_5 rfl (Nat.le_of_ble_eq_true rfl) rfl rfl ?_
    refine j_aload_nN (q := 7) (i := 0) (n := 2) dX6_keep_6 rfl rfl rfl ?_
    refine j_nul0 (tgt := 23) dX6_keep_7 rfl ?_
    refine j_iconst (q := 24) (v := (-1)) dX6_keep_23 rfl rfl ?_
    exact j_ret (x := ((-1), g)) dX6_keep_24 ⟨trivial, rfl, rfl⟩
  · refine j_gd (fun hn2 => ?_)
    refine j_astore_n (q := 6) (n := 2) (lv' := [(2, .ref (za z 70 n1)), (0, .ref (za z 76 0)), (1, .int a0)]) dX6_keep_5 rfl (Nat.le_of_ble_eq_true rfl) rfl rfl ?_
    refine j_aload_n (q := 7) (i := 0) (n := 2) dX6_keep_6 rfl rfl rfl ?_
    refine j_nul1 (q := 10) dX6_keep_7 rfl ?_
    refine j_iload_n (q := 11) (i := 2) (n := 1) dX6_keep_10 rfl rfl rfl ?_
    refine j_if_lt (tgt := 23) (q := 14) dX6_keep_11 rfl rfl ?_ ?_
    · refine j_iconst (q := 24) (v := (-1)) dX6_keep_23 rfl rfl ?_
      exact j_ret (x := ((-1), g)) dX6_keep_24 ⟨trivial, rfl, rfl⟩
    · refine j_iload_n (q := 15) (i := 2) (n := 1) dX6_keep_14 rfl rfl rfl ?_
      refine j_aload_n (q := 16) (i := 1) (n := 0) dX6_keep_15 rfl rfl rfl ?_
      refine g_X6_kept (q := 19) wF_X6_41 (Nat.le_of_ble_eq_true rfl) dX6_keep_16 rfl ?_
      refine a60_len (q := 20) (Nat.le_of_ble_eq_true rfl) dX6_keep_19 rfl ?_
      refine j_icmp_lt (tgt := 25) (q := 23) dX6_keep_20 rfl rfl ?_ ?_
      · refine j_aload_n (q := 26) (i := 0) (n := 2) dX6_keep_25 rfl rfl rfl ?_
        refine j_aload_n (q := 27) (i := 1) (n := 0) dX6_keep_26 rfl rfl rfl ?_
        refine g_X6_course (q := 30) wF_X6_19 (Nat.le_of_ble_eq_true rfl) dX6_keep_27 rfl ?_
        refine j_sv (q := 33) (rn_V (R := rm_X6_keep) (As := [.ref (za z 70 0)]) (rest := []) (c_X0_copyFrom _ z gm g n1 hn2 0 (Nat.le_of_ble_eq_true rfl)) cv_X0_copyFrom wM_X6_263 ⟨rfl, rfl⟩ ⟨(Nat.le_of_ble_eq_true rfl), (Nat.le_of_ble_eq_true rfl)⟩ hn2 rfl rfl rfl (Nat.le_of_ble_eq_true rfl) dX6_keep_30) rfl (fun g3 => ?_)
        refine j_aload_n (q := 34) (i := 1) (n := 0) dX6_keep_33 rfl rfl rfl ?_
        refine g_X6_kept (q := 37) wF_X6_41 (Nat.le_of_ble_eq_true rfl) dX6_keep_34 rfl ?_
        refine j_iload_n (q := 38) (i := 2) (n := 1) dX6_keep_37 rfl rfl rfl ?_
        refine j_iconst (q := 39) (v := (nI 1)) dX6_keep_38 rfl rfl ?_
        refine a60_st (q := 40) dm_le rfl (Nat.le_of_ble_eq_true rfl) dX6_keep_39 rfl (fun g4 => ?_)
        refine j_aload_n (q := 41) (i := 1) (n := 0) dX6_keep_40 rfl rfl rfl ?_
        refine g_X6_course (q := 44) wF_X6_19 (Nat.le_of_ble_eq_true rfl) dX6_keep_41 rfl ?_
        refine gN_X0_now (q := 47) wG_X6_104 (Nat.le_of_ble_eq_true rfl) dX6_keep_44 rfl ?_
        refine gN_X2_tick (q := 50) wG_X6_164 (Nat.le_of_ble_eq_true rfl) dX6_keep_47 rfl ?_
        exact j_ret (x := (gi g4 0 0 0, g4)) dX6_keep_50 ⟨trivial, rfl, rfl⟩
      · refine j_iconst (q := 24) (v := (-1)) dX6_keep_23 rfl rfl ?_
        exact j_ret (x := ((-1), g)) dX6_keep_24 ⟨trivial, rfl, rfl⟩
-- CopierJobs.back(I)I
abbrev rm_X6_back : Room := { frames := 3, cells := 0, slots := 0, locals := 68 }
theorem cv_X6_back : CV yX6_back cX6_back 3 (some .int) 1 := ⟨wC_X6_back, wI_X6_back, wS_X6_back, wZ_X6, by decide +kernel⟩
def m_X6_back (g : zG) (a0 : Int32) : Option (Int32 × zG) := (m_X6_imageAt g a0).bind fun x => oc x (some ((-1), g)) (fun n1 => gd (n1 < dm 70) (if a0 < (nI 0) then some ((-1), g) else if a0 < (nI 2) then gd (inb a0 2 = true) (if (gi g 60 0 a0.toNatClampNeg) = (nI 0) then some ((-2), g) else (m_X0_copyFrom g 0 n1).bind fun g3 => some (gi g3 0 0 0, g3)) else some ((-1), g)))
set_option maxRecDepth 100000 in
set_option maxHeartbeats 4000000 in
theorem c_X6_back (l : Launch) (z : zE) (gm : zG) (g : zG) (a0 : Int32) : ∀ x, m_X6_back g a0 = some x → Ms dm l yX6_back cX6_back 3 (some .int) rm_X6_back z [.ref (za z 76 0), .int a0] ((wx z gm) g) (osi x) ((wx z gm) ((fun x => x.2) x)) := by
  refine ms_of (Wf := (wx z gm)) (ri := .ireturn) (out := osi) (nxt := (fun x => x.2)) (ok := (fun _ => True)) (lv := [(0, .ref (za z 76 0)), (1, .int a0)]) (by decide) ⟨rfl, rfl⟩ (Nat.le_of_ble_eq_true rfl) rfl (en_i (out := fun x : Int32 × zG => x.1)) (fun p e s m below meth c => ?_)
  refine j_eq (M2 := (m_X6_imageAt g a0).bind fun x => oc x (some ((-1), g)) (fun n1 => gd (n1 < dm 70) (if a0 < (nI 0) then some ((-1), g) else if a0 < (nI 2) then gd (inb a0 2 = true) (if (gi g 60 0 a0.toNatClampNeg) = (nI 0) then some ((-2), g) else (m_X0_copyFrom g 0 n1).bind fun g3 => some (gi g3 0 0 0, g3)) else some ((-1), g)))) rfl ?_
  refine j_aload_n (q := 1) (i := 0) (n := 0) dX6_back_0 rfl rfl rfl ?_
  refine j_iload_n (q := 2) (i := 1) (n := 1) dX6_back_1 rfl rfl rfl ?_
  refine j_crs (k0 := 70) (q := 5) (rn_V (R := rm_X6_back) (As := [.int a0]) (rest := []) (c_X6_imageAt _ z gm g a0) cv_X6_imageAt wM_X6_259 ⟨rfl, rfl⟩ ⟨(Nat.le_of_ble_eq_true rfl), (Nat.le_of_ble_eq_true rfl)⟩ (Nat.le_of_ble_eq_true rfl) rfl rfl rfl (Nat.le_of_ble_eq_true rfl) dX6_back_2) rfl ?_ (fun n1 => ?_)
  · refine j_astore_nN (q := 6) (n := 2) (lv' := [(2, .null), (0, .ref (za z 76 0)), (1, .int a0)]) dX6_back_5 rfl (Nat.le_of_ble_eq_true rfl) rfl rfl ?_
    refine j_aload_nN (q := 7) (i := 0) (n := 2) dX6_back_6 rfl rfl rfl ?_
    refine j_nul0 (tgt := 23) dX6_back_7 rfl ?_
    refine j_iconst (q := 24) (v := (-1)) dX6_back_23 rfl rfl ?_
    exact j_ret (x := ((-1), g)) dX6_back_24 ⟨trivial, rfl, rfl⟩
  · refine j_gd (fun hn2 => ?_)
    refine j_astore_n (q := 6) (n := 2) (lv' := [(2, .ref (za z 70 n1)), (0, .ref (za z 76 0)), (1, .int a0)]) dX6_back_5 rfl (Nat.le_of_ble_eq_true rfl) rfl rfl ?_
    refine j_aload_n (q := 7) (i := 0) (n := 2) dX6_back_6 rfl rfl rfl ?_
    refine j_nul1 (q := 10) dX6_back_7 rfl ?_
    refine j_iload_n (q := 11) (i := 2) (n := 1) dX6_back_10 rfl rfl rfl ?_
    refine j_if_lt (tgt := 23) (q := 14) dX6_back_11 rfl rfl ?_ ?_
    · refine j_iconst (q := 24) (v := (-1)) dX6_back_23 rfl rfl ?_
      exact j_ret (x := ((-1), g)) dX6_back_24 ⟨trivial, rfl, rfl⟩
    · refine j_iload_n (q := 15) (i := 2) (n := 1) dX6_back_14 rfl rfl rfl ?_
      refine j_aload_n (q := 16) (i := 1) (n := 0) dX6_back_15 rfl rfl rfl ?_
      refine g_X6_kept (q := 19) wF_X6_41 (Nat.le_of_ble_eq_true rfl) dX6_back_16 rfl ?_
      refine a60_len (q := 20) (Nat.le_of_ble_eq_true rfl) dX6_back_19 rfl ?_
      refine j_icmp_lt (tgt := 25) (q := 23) dX6_back_20 rfl rfl ?_ ?_
      · refine j_aload_n (q := 26) (i := 1) (n := 0) dX6_back_25 rfl rfl rfl ?_
        refine g_X6_kept (q := 29) wF_X6_41 (Nat.le_of_ble_eq_true rfl) dX6_back_26 rfl ?_
        refine j_iload_n (q := 30) (i := 2) (n := 1) dX6_back_29 rfl rfl rfl ?_
        refine a60_ld (q := 31) (Nat.le_of_ble_eq_true rfl) dX6_back_30 rfl ?_
        refine j_if_ne (tgt := 37) (q := 34) dX6_back_31 rfl rfl ?_ ?_
        · refine j_aload_n (q := 38) (i := 1) (n := 0) dX6_back_37 rfl rfl rfl ?_
          refine g_X6_course (q := 41) wF_X6_19 (Nat.le_of_ble_eq_true rfl) dX6_back_38 rfl ?_
          refine j_aload_n (q := 42) (i := 0) (n := 2) dX6_back_41 rfl rfl rfl ?_
          refine j_sv (q := 45) (rn_V (R := rm_X6_back) (As := [.ref (za z 70 n1)]) (rest := []) (c_X0_copyFrom _ z gm g 0 (Nat.le_of_ble_eq_true rfl) n1 hn2) cv_X0_copyFrom wM_X6_263 ⟨rfl, rfl⟩ ⟨(Nat.le_of_ble_eq_true rfl), (Nat.le_of_ble_eq_true rfl)⟩ (Nat.le_of_ble_eq_true rfl) rfl rfl rfl (Nat.le_of_ble_eq_true rfl) dX6_back_42) rfl (fun g3 => ?_)
          refine j_aload_n (q := 46) (i := 1) (n := 0) dX6_back_45 rfl rfl rfl ?_
          refine g_X6_course (q := 49) wF_X6_19 (Nat.le_of_ble_eq_true rfl) dX6_back_46 rfl ?_
          refine gN_X0_now (q := 52) wG_X6_104 (Nat.le_of_ble_eq_true rfl) dX6_back_49 rfl ?_
          refine gN_X2_tick (q := 55) wG_X6_164 (Nat.le_of_ble_eq_true rfl) dX6_back_52 rfl ?_
          exact j_ret (x := (gi g3 0 0 0, g3)) dX6_back_55 ⟨trivial, rfl, rfl⟩
        · refine j_bipush (q := 36) (v := (-2)) dX6_back_34 rfl rfl ?_
          exact j_ret (x := ((-2), g)) dX6_back_36 ⟨trivial, rfl, rfl⟩
      · refine j_iconst (q := 24) (v := (-1)) dX6_back_23 rfl rfl ?_
        exact j_ret (x := ((-1), g)) dX6_back_24 ⟨trivial, rfl, rfl⟩
-- CopierJobs.count(I)I
abbrev rm_X6_count : Room := { frames := 0, cells := 0, slots := 0, locals := 0 }
theorem cv_X6_count : CV yX6_count cX6_count 2 (some .int) 1 := ⟨wC_X6_count, wI_X6_count, wS_X6_count, wZ_X6, by decide +kernel⟩
def m_X6_count (g : zG) (a0 : Int32) : Option (Int32) := if a0 = (nI 0) then (gd (gn g 0 < dm 73) (some (gi g 11 (gn g 0) 0))) else if a0 = (nI 1) then (gd (gn g 0 < dm 73) (some (gi g 12 (gn g 0) 0))) else if a0 = (nI 2) then (some (gi g 40 0 0)) else if a0 = (nI 3) then (some (gi g 31 0 0)) else if a0 = (nI 4) then (some (gi g 50 0 0)) else (some (-1))
set_option maxRecDepth 100000 in
set_option maxHeartbeats 4000000 in
theorem c_X6_count (l : Launch) (z : zE) (gm : zG) (g : zG) (a0 : Int32) : ∀ x, m_X6_count g a0 = some x → Ms dm l yX6_count cX6_count 2 (some .int) rm_X6_count z [.ref (za z 76 0), .int a0] ((wx z gm) g) (oi x) ((wx z gm) ((fun _ => g) x)) := by
  refine ms_of (Wf := (wx z gm)) (ri := .ireturn) (out := oi) (nxt := (fun _ => g)) (ok := (fun _ => True)) (lv := [(0, .ref (za z 76 0)), (1, .int a0)]) (by decide) ⟨rfl, rfl⟩ (Nat.le_of_ble_eq_true rfl) rfl (en_i (out := fun x => x)) (fun p e s m below meth c => ?_)
  refine j_eq (M2 := if a0 = (nI 0) then (gd (gn g 0 < dm 73) (some (gi g 11 (gn g 0) 0))) else if a0 = (nI 1) then (gd (gn g 0 < dm 73) (some (gi g 12 (gn g 0) 0))) else if a0 = (nI 2) then (some (gi g 40 0 0)) else if a0 = (nI 3) then (some (gi g 31 0 0)) else if a0 = (nI 4) then (some (gi g 50 0 0)) else (some (-1))) rfl ?_
  refine j_iload_n (q := 1) (i := 1) (n := 1) dX6_count_0 rfl rfl rfl ?_
  refine j_case (v := (nI 0)) ?_ (fun h2 => ?_)
  · refine j_tableIn (tgt := 36) dX6_count_1 (by decide) (by decide) rfl rfl ?_
    refine j_aload_n (q := 37) (i := 0) (n := 0) dX6_count_36 rfl rfl rfl ?_
    refine g_X6_plan (q := 40) wF_X6_48 (Nat.le_of_ble_eq_true rfl) dX6_count_37 rfl ?_
    refine j_gd (fun hp1 => ?_)
    refine gN_X3_bins (q := 43) wG_X6_267 hp1 dX6_count_40 rfl ?_
    exact j_ret (x := gi g 11 (gn g 0) 0) dX6_count_43 ⟨trivial, rfl, rfl⟩
  refine j_case (v := (nI 1)) ?_ (fun h4 => ?_)
  · refine j_tableIn (tgt := 44) dX6_count_1 (by decide) (by decide) rfl rfl ?_
    refine j_aload_n (q := 45) (i := 0) (n := 0) dX6_count_44 rfl rfl rfl ?_
    refine g_X6_plan (q := 48) wF_X6_48 (Nat.le_of_ble_eq_true rfl) dX6_count_45 rfl ?_
    refine j_gd (fun hp3 => ?_)
    refine gN_X3_jobCount (q := 51) wG_X6_269 hp3 dX6_count_48 rfl ?_
    exact j_ret (x := gi g 12 (gn g 0) 0) dX6_count_51 ⟨trivial, rfl, rfl⟩
  refine j_case (v := (nI 2)) ?_ (fun h5 => ?_)
  · refine j_tableIn (tgt := 52) dX6_count_1 (by decide) (by decide) rfl rfl ?_
    refine j_aload_n (q := 53) (i := 0) (n := 0) dX6_count_52 rfl rfl rfl ?_
    refine g_X6_seen (q := 56) wF_X6_33 (Nat.le_of_ble_eq_true rfl) dX6_count_53 rfl ?_
    refine gN_X4_size (q := 59) wG_X6_227 (Nat.le_of_ble_eq_true rfl) dX6_count_56 rfl ?_
    exact j_ret (x := gi g 40 0 0) dX6_count_59 ⟨trivial, rfl, rfl⟩
  refine j_case (v := (nI 3)) ?_ (fun h6 => ?_)
  · refine j_tableIn (tgt := 60) dX6_count_1 (by decide) (by decide) rfl rfl ?_
    refine j_aload_n (q := 61) (i := 0) (n := 0) dX6_count_60 rfl rfl rfl ?_
    refine g_X6_course (q := 64) wF_X6_19 (Nat.le_of_ble_eq_true rfl) dX6_count_61 rfl ?_
    refine gN_X0_knownCount (q := 67) wG_X6_199 (Nat.le_of_ble_eq_true rfl) dX6_count_64 rfl ?_
    exact j_ret (x := gi g 31 0 0) dX6_count_67 ⟨trivial, rfl, rfl⟩
  refine j_case (v := (nI 4)) ?_ (fun h7 => ?_)
  · refine j_tableIn (tgt := 68) dX6_count_1 (by decide) (by decide) rfl rfl ?_
    refine j_aload_n (q := 69) (i := 0) (n := 0) dX6_count_68 rfl rfl rfl ?_
    refine g_X6_text (q := 72) wF_X6_10 (Nat.le_of_ble_eq_true rfl) dX6_count_69 rfl ?_
    refine gN_X5_length (q := 75) wG_X6_272 (Nat.le_of_ble_eq_true rfl) dX6_count_72 rfl ?_
    exact j_ret (x := gi g 50 0 0) dX6_count_75 ⟨trivial, rfl, rfl⟩
  refine j_tableOut (tgt := 76) dX6_count_1 (by have e0 := q_ne (n := 0) h2 rfl; have e1 := q_ne (n := 1) h4 rfl; have e2 := q_ne (n := 2) h5 rfl; have e3 := q_ne (n := 3) h6 rfl; have e4 := q_ne (n := 4) h7 rfl; omega) rfl ?_
  refine j_iconst (q := 77) (v := (-1)) dX6_count_76 rfl rfl ?_
  exact j_ret (x := (-1)) dX6_count_77 ⟨trivial, rfl, rfl⟩
-- CopierJobs.trace()J
abbrev rm_X6_trace : Room := { frames := 0, cells := 0, slots := 0, locals := 0 }
theorem cv_X6_trace : CV yX6_trace cX6_trace 1 (some .long) 0 := ⟨wC_X6_trace, wI_X6_trace, wS_X6_trace, wZ_X6, by decide +kernel⟩
def m_X6_trace (g : zG) : Option (Int64) := some (gl g 0)
set_option maxRecDepth 100000 in
set_option maxHeartbeats 4000000 in
theorem c_X6_trace (l : Launch) (z : zE) (gm : zG) (g : zG) : ∀ x, m_X6_trace g = some x → Ms dm l yX6_trace cX6_trace 1 (some .long) rm_X6_trace z [.ref (za z 76 0)] ((wx z gm) g) (ol x) ((wx z gm) ((fun _ => g) x)) := by
  refine ms_of (Wf := (wx z gm)) (ri := .lreturn) (out := ol) (nxt := (fun _ => g)) (ok := (fun _ => True)) (lv := [(0, .ref (za z 76 0))]) (by decide) ⟨rfl, rfl⟩ (Nat.le_of_ble_eq_true rfl) rfl (en_l (out := fun x => x)) (fun p e s m below meth c => ?_)
  refine j_eq (M2 := some (gl g 0)) rfl ?_
  refine j_aload_n (q := 1) (i := 0) (n := 0) dX6_trace_0 rfl rfl rfl ?_
  refine g_X6_traced (q := 4) wF_X6_275 (Nat.le_of_ble_eq_true rfl) dX6_trace_1 rfl ?_
  exact j_ret (x := gl g 0) dX6_trace_4 ⟨trivial, rfl, rfl⟩
