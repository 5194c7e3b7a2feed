-- CopierJobsModel.choose(II)J
abbrev rm_X7_choose : Room := { frames := 0, cells := 0, slots := 0, locals := 0 }
theorem cv_X7_choose : CT yX7_choose cX7_choose 5 (some .long) 2 := ⟨wC_X7_choose, wT_X7_choose, wZ_X7, by decide +kernel⟩
def m_X7_choose_L5 (a0 : Int32) (a1 : Int32) : Nat → Int64 → Int32 → Option (Int64)
  | 0, _, _ => none
  | f + 1, x2, x4 => if x4 < a1 then gd (¬ ((Int32.toInt64 (x4 + (nI 1))) : Int64) = 0) (bd ((x2 * (Int32.toInt64 (a0 - x4))) / (Int32.toInt64 (x4 + (nI 1)))) fun v1 => m_X7_choose_L5 a0 a1 f v1 (x4 + (nI 1))) else some x2
set_option maxRecDepth 100000 in
set_option maxHeartbeats 4000000 in
theorem t_X7_choose_L5 {p : Program} {l : Launch} {e : Env} {s : State} {m : MethodId} {args : Array Value} {below : List Frame} {meth : Method} {c : Code} {cells slots : Nat} {Q : Int64 → State → Prop} (z : zE) (gx : zG) (a0 : Int32) (a1 : Int32) (g : zG) : ∀ (f : Nat) (x2 : Int64) (x4 : Int32), zJ dm p l e rm_X7_choose s m args below meth c cX7_choose 5 yX7_choose.cls z cells slots (wm z gx) (fn (fun _ => True) (fun _ => g) ol) .lreturn Q 5 [(0, .int a0), (1, .int a1), (2, .long x2), (4, .int x4)] [] g (m_X7_choose_L5 a0 a1 f x2 x4) := by
  intro f
  induction f with
  | zero => intro x2 x4; exact j_none
  | succ f ih =>
    intro x2 x4
    refine j_eq (M2 := if x4 < a1 then gd (¬ ((Int32.toInt64 (x4 + (nI 1))) : Int64) = 0) (bd ((x2 * (Int32.toInt64 (a0 - x4))) / (Int32.toInt64 (x4 + (nI 1)))) fun v1 => m_X7_choose_L5 a0 a1 f v1 (x4 + (nI 1))) else some x2) rfl ?_
    refine j_iload (q := 7) (i := 3) (n := 4) dX7_choose_5 rfl rfl ?_
    refine j_iload_n (q := 8) (i := 1) (n := 1) dX7_choose_7 rfl rfl rfl ?_
    refine j_icmp_ge (tgt := 31) (q := 11) dX7_choose_8 rfl rfl ?_ ?_
    · refine j_lload_n (q := 32) (i := 2) (n := 2) dX7_choose_31 rfl rfl rfl ?_
      exact j_ret (x := x2) dX7_choose_32 ⟨trivial, rfl, rfl⟩
    · refine j_lload_n (q := 12) (i := 2) (n := 2) dX7_choose_11 rfl rfl rfl ?_
      refine j_iload_n (q := 13) (i := 0) (n := 0) dX7_choose_12 rfl rfl rfl ?_
      refine j_iload (q := 15) (i := 3) (n := 4) dX7_choose_13 rfl rfl ?_
      refine j_isub (q := 16) dX7_choose_15 rfl ?_
      refine j_i2l (q := 17) dX7_choose_16 rfl ?_
      refine j_lmul (q := 18) dX7_choose_17 rfl ?_
      refine j_iload (q := 20) (i := 3) (n := 4) dX7_choose_18 rfl rfl ?_
      refine j_iconst (q := 21) (v := (nI 1)) dX7_choose_20 rfl rfl ?_
      refine j_iadd (q := 22) dX7_choose_21 rfl ?_
      refine j_i2l (q := 23) dX7_choose_22 rfl ?_
      refine j_ldiv (q := 24) dX7_choose_23 rfl ?_
      refine j_topl (fun v1 => ?_)
      refine j_lstore_n (q := 25) (n := 2) (lv' := [(2, .long v1), (0, .int a0), (1, .int a1), (4, .int x4)]) dX7_choose_24 rfl (Nat.le_of_ble_eq_true rfl) rfl rfl ?_
      refine j_iinc (q := 28) (n := 4) (i := 3) (v := x4 + (nI 1)) (lv' := [(4, .int (x4 + (nI 1))), (2, .long v1), (0, .int a0), (1, .int a1)]) dX7_choose_25 rfl rfl (Nat.le_of_ble_eq_true rfl) rfl rfl ?_
      refine j_goto (tgt := 5) dX7_choose_28 rfl ?_
      refine j_lv [2, 3, 1, 0] (lv' := [(0, .int a0), (1, .int a1), (2, .long v1), (4, .int (x4 + (nI 1)))]) rfl ?_
      exact ih v1 (x4 + (nI 1))
def m_X7_choose (a0 : Int32) (a1 : Int32) : Option (Int64) := m_X7_choose_L5 a0 a1 FU 1 (nI 0)
set_option maxRecDepth 100000 in
set_option maxHeartbeats 4000000 in
theorem c_X7_choose (l : Launch) (z : zE) (gx : zG) (g : zG) (a0 : Int32) (a1 : Int32) : ∀ x, m_X7_choose a0 a1 = some x → Ms dm l yX7_choose cX7_choose 5 (some .long) rm_X7_choose z [.int a0, .int a1] ((wm z gx) g) (ol x) ((wm z gx) ((fun _ => g) x)) := by
  refine ms_of (Wf := (wm z gx)) (ri := .lreturn) (out := ol) (nxt := (fun _ => g)) (ok := (fun _ => True)) (lv := [(0, .int a0), (1, .int a1)]) (by decide) ⟨rfl, rfl⟩ (Nat.le_of_ble_eq_true rfl) rfl (en_l (out := fun x => x)) (fun p e s m below meth c => ?_)
  refine j_eq (M2 := m_X7_choose_L5 a0 a1 FU 1 (nI 0)) rfl ?_
  refine j_lconst (q := 1) (v := 1) dX7_choose_0 rfl rfl ?_
  refine j_lstore_n (q := 2) (n := 2) (lv' := [(2, .long 1), (0, .int a0), (1, .int a1)]) dX7_choose_1 rfl (Nat.le_of_ble_eq_true rfl) rfl rfl ?_
  refine j_iconst (q := 3) (v := (nI 0)) dX7_choose_2 rfl rfl ?_
  refine j_istore (q := 5) (n := 4) (lv' := [(4, .int (nI 0)), (2, .long 1), (0, .int a0), (1, .int a1)]) dX7_choose_3 (Nat.le_of_ble_eq_true rfl) rfl rfl ?_
  refine j_lv [2, 3, 1, 0] (lv' := [(0, .int a0), (1, .int a1), (2, .long 1), (4, .int (nI 0))]) rfl ?_
  exact t_X7_choose_L5 z gx a0 a1 g FU 1 (nI 0)
-- CopierJobsModel.odds(IIII)I
abbrev rm_X7_odds : Room := { frames := 2, cells := 0, slots := 0, locals := 47 }
theorem cv_X7_odds : CV yX7_odds cX7_odds 17 (some .int) 4 := ⟨wC_X7_odds, wI_X7_odds, wS_X7_odds, wZ_X7, by decide +kernel⟩
def m_X7_odds_B128 (a0 : Int32) (a1 : Int32) (a2 : Int32) (a3 : Int32) (g : zG) (x6 : Int64) (x9 : Int64) (x11 : Int64) : Option (Int32) := if a3 = (nI 0) then gd (¬ (x11 : Int64) = 0) (some (Int64.toInt32 (x9 / x11))) else gd (¬ (x11 : Int64) = 0) (some (Int64.toInt32 (x6 / x11)))
set_option maxRecDepth 100000 in
set_option maxHeartbeats 4000000 in
theorem t_X7_odds_B128 {p : Program} {l : Launch} {e : Env} {s : State} {m : MethodId} {args : Array Value} {below : List Frame} {meth : Method} {c : Code} {cells slots : Nat} {Q : Int32 → State → Prop} (z : zE) (gx : zG) (a0 : Int32) (a1 : Int32) (a2 : Int32) (a3 : Int32) (g : zG) (x6 : Int64) (x9 : Int64) (x11 : Int64) : zJ dm p l e rm_X7_odds s m args below meth c cX7_odds 17 yX7_odds.cls z cells slots (wm z gx) (fn (fun _ => True) (fun _ => g) oi) .ireturn Q 128 [(4, .int a3), (6, .long x6), (9, .long x9), (11, .long x11)] [] g (m_X7_odds_B128 a0 a1 a2 a3 g x6 x9 x11) := by
  refine j_eq (M2 := if a3 = (nI 0) then gd (¬ (x11 : Int64) = 0) (some (Int64.toInt32 (x9 / x11))) else gd (¬ (x11 : Int64) = 0) (some (Int64.toInt32 (x6 / x11)))) rfl ?_
  refine j_iload (q := 130) (i := 0) (n := 4) dX7_odds_128 rfl rfl ?_
  refine j_if_ne (tgt := 141) (q := 133) dX7_odds_130 rfl rfl ?_ ?_
  · refine j_lload (q := 143) (i := 1) (n := 6) dX7_odds_141 rfl rfl ?_
    refine j_lload (q := 145) (i := 3) (n := 11) dX7_odds_143 rfl rfl ?_
    refine j_ldiv (q := 146) dX7_odds_145 rfl ?_
    refine j_l2i (q := 147) dX7_odds_146 rfl ?_
    exact j_ret (x := Int64.toInt32 (x6 / x11)) dX7_odds_147 ⟨trivial, rfl, rfl⟩
  · refine j_lload (q := 135) (i := 2) (n := 9) dX7_odds_133 rfl rfl ?_
    refine j_lload (q := 137) (i := 3) (n := 11) dX7_odds_135 rfl rfl ?_
    refine j_ldiv (q := 138) dX7_odds_137 rfl ?_
    refine j_goto (tgt := 146) dX7_odds_138 rfl ?_
    refine j_l2i (q := 147) dX7_odds_146 rfl ?_
    exact j_ret (x := Int64.toInt32 (x9 / x11)) dX7_odds_147 ⟨trivial, rfl, rfl⟩
def m_X7_odds_L103 (a0 : Int32) (a1 : Int32) (a2 : Int32) (a3 : Int32) (g : zG) : Nat → Int64 → Int64 → Int64 → Int64 → Option (Int32)
  | 0, _, _, _, _ => none
  | f + 1, x6, x9, x11, x13 => if (lg_cmp x13 0) = (nI 0) then m_X7_odds_B128 a0 a1 a2 a3 g x6 x9 x11 else gd (¬ (x13 : Int64) = 0) (m_X7_odds_L103 a0 a1 a2 a3 g f x6 x9 x13 (x11 - x11 / x13 * x13))
set_option maxRecDepth 100000 in
set_option maxHeartbeats 4000000 in
theorem t_X7_odds_L103 {p : Program} {l : Launch} {e : Env} {s : State} {m : MethodId} {args : Array Value} {below : List Frame} {meth : Method} {c : Code} {cells slots : Nat} {Q : Int32 → State → Prop} (z : zE) (gx : zG) (a0 : Int32) (a1 : Int32) (a2 : Int32) (a3 : Int32) (g : zG) : ∀ (f : Nat) (x6 : Int64) (x9 : Int64) (x11 : Int64) (x13 : Int64), zJ dm p l e rm_X7_odds s m args below meth c cX7_odds 17 yX7_odds.cls z cells slots (wm z gx) (fn (fun _ => True) (fun _ => g) oi) .ireturn Q 103 [(4, .int a3), (6, .long x6), (9, .long x9), (11, .long x11), (13, .long x13)] [] g (m_X7_odds_L103 a0 a1 a2 a3 g f x6 x9 x11 x13) := by
  intro f
  induction f with
  | zero => intro x6 x9 x11 x13; exact j_none
  | succ f ih =>
    intro x6 x9 x11 x13
    refine j_eq (M2 := if (lg_cmp x13 0) = (nI 0) then m_X7_odds_B128 a0 a1 a2 a3 g x6 x9 x11 else gd (¬ (x13 : Int64) = 0) (m_X7_odds_L103 a0 a1 a2 a3 g f x6 x9 x13 (x11 - x11 / x13 * x13))) rfl ?_
    refine j_lload (q := 105) (i := 4) (n := 13) dX7_odds_103 rfl rfl ?_
    refine j_lconst (q := 106) (v := 0) dX7_odds_105 rfl rfl ?_
    refine j_lcmp (q := 107) dX7_odds_106 rfl ?_
    refine j_if_eq (tgt := 128) (q := 110) dX7_odds_107 rfl rfl ?_ ?_
    · refine j_lv [0, 1, 2, 3] (lv' := [(4, .int a3), (6, .long x6), (9, .long x9), (11, .long x11)]) rfl ?_
      exact t_X7_odds_B128 z gx a0 a1 a2 a3 g x6 x9 x11
    · refine j_lload (q := 112) (i := 3) (n := 11) dX7_odds_110 rfl rfl ?_
      refine j_lload (q := 114) (i := 4) (n := 13) dX7_odds_112 rfl rfl ?_
      refine j_lrem (q := 115) dX7_odds_114 rfl ?_
      refine j_lstore (q := 117) (n := 15) (lv' := [(15, .long (x11 - x11 / x13 * x13)), (4, .int a3), (6, .long x6), (9, .long x9), (11, .long x11), (13, .long x13)]) dX7_odds_115 (Nat.le_of_ble_eq_true rfl) rfl rfl ?_
      refine j_lload (q := 119) (i := 5) (n := 13) dX7_odds_117 rfl rfl ?_
      refine j_lstore (q := 121) (n := 11) (lv' := [(11, .long x13), (15, .long (x11 - x11 / x13 * x13)), (4, .int a3), (6, .long x6), (9, .long x9), (13, .long x13)]) dX7_odds_119 (Nat.le_of_ble_eq_true rfl) rfl rfl ?_
      refine j_lload (q := 123) (i := 1) (n := 15) dX7_odds_121 rfl rfl ?_
      refine j_lstore (q := 125) (n := 13) (lv' := [(13, .long (x11 - x11 / x13 * x13)), (11, .long x13), (15, .long (x11 - x11 / x13 * x13)), (4, .int a3), (6, .long x6), (9, .long x9)]) dX7_odds_123 (Nat.le_of_ble_eq_true rfl) rfl rfl ?_
      refine j_goto (tgt := 103) dX7_odds_125 rfl ?_
      refine j_lv [3, 4, 5, 1, 0] (lv' := [(4, .int a3), (6, .long x6), (9, .long x9), (11, .long x13), (13, .long (x11 - x11 / x13 * x13))]) rfl ?_
      exact ih x6 x9 x13 (x11 - x11 / x13 * x13)
def m_X7_odds_B92 (a0 : Int32) (a1 : Int32) (a2 : Int32) (a3 : Int32) (g : zG) (x6 : Int64) (s0 : Int64) (s1 : Int64) : Option (Int32) := m_X7_odds_L103 a0 a1 a2 a3 g FU x6 (s1 - s0) (s1 - s0) x6
set_option maxRecDepth 100000 in
set_option maxHeartbeats 4000000 in
theorem t_X7_odds_B92 {p : Program} {l : Launch} {e : Env} {s : State} {m : MethodId} {args : Array Value} {below : List Frame} {meth : Method} {c : Code} {cells slots : Nat} {Q : Int32 → State → Prop} (z : zE) (gx : zG) (a0 : Int32) (a1 : Int32) (a2 : Int32) (a3 : Int32) (g : zG) (x6 : Int64) (s0 : Int64) (s1 : Int64) : zJ dm p l e rm_X7_odds s m args below meth c cX7_odds 17 yX7_odds.cls z cells slots (wm z gx) (fn (fun _ => True) (fun _ => g) oi) .ireturn Q 92 [(4, .int a3), (6, .long x6)] [.long s0, .long s1] g (m_X7_odds_B92 a0 a1 a2 a3 g x6 s0 s1) := by
  refine j_eq (M2 := m_X7_odds_L103 a0 a1 a2 a3 g FU x6 (s1 - s0) (s1 - s0) x6) rfl ?_
  refine j_lsub (q := 93) dX7_odds_92 rfl ?_
  refine j_lstore (q := 95) (n := 9) (lv' := [(9, .long (s1 - s0)), (4, .int a3), (6, .long x6)]) dX7_odds_93 (Nat.le_of_ble_eq_true rfl) rfl rfl ?_
  refine j_lload (q := 97) (i := 0) (n := 9) dX7_odds_95 rfl rfl ?_
  refine j_lstore (q := 99) (n := 11) (lv' := [(11, .long (s1 - s0)), (9, .long (s1 - s0)), (4, .int a3), (6, .long x6)]) dX7_odds_97 (Nat.le_of_ble_eq_true rfl) rfl rfl ?_
  refine j_lload (q := 101) (i := 3) (n := 6) dX7_odds_99 rfl rfl ?_
  refine j_lstore (q := 103) (n := 13) (lv' := [(13, .long x6), (11, .long (s1 - s0)), (9, .long (s1 - s0)), (4, .int a3), (6, .long x6)]) dX7_odds_101 (Nat.le_of_ble_eq_true rfl) rfl rfl ?_
  refine j_lv [3, 4, 2, 1, 0] (lv' := [(4, .int a3), (6, .long x6), (9, .long (s1 - s0)), (11, .long (s1 - s0)), (13, .long x6)]) rfl ?_
  exact t_X7_odds_L103 z gx a0 a1 a2 a3 g FU x6 (s1 - s0) (s1 - s0) x6
def m_X7_odds (g : zG) (a0 : Int32) (a1 : Int32) (a2 : Int32) (a3 : Int32) : Option (Int32) := (m_X7_isJob g a0).bind fun r1 => if r1 = (nI 0) then some (-1) else (m_X7_in (Int32.toInt64 a1) 1 4).bind fun r2 => if r2 = (nI 0) then some (-1) else (m_X7_isPage g a0 a2).bind fun r3 => if r3 = (nI 0) then some (-1) else (m_X7_isPart a3).bind fun r4 => if r4 = (nI 0) then some (-1) else (m_X7_allOf g a0).bind fun r5 => if r5 < a1 then some (-2) else (m_X7_choose r5 a1).bind fun r6 => gd (inb a0 6 = true) (bd (r5 - (gi g 101 0 a0.toNatClampNeg)) fun v7 => if v7 < a1 then m_X7_odds_B92 a0 a1 a2 a3 g r6 0 r6 else (m_X7_choose v7 a1).bind fun r8 => m_X7_odds_B92 a0 a1 a2 a3 g r6 r8 r6)
set_option maxRecDepth 100000 in
set_option maxHeartbeats 4000000 in
theorem c_X7_odds (l : Launch) (z : zE) (gx : zG) (g : zG) (a0 : Int32) (a1 : Int32) (a2 : Int32) (a3 : Int32) : ∀ x, m_X7_odds g a0 a1 a2 a3 = some x → Ms dm l yX7_odds cX7_odds 17 (some .int) rm_X7_odds z [.ref (za z 77 0), .int a0, .int a1, .int a2, .int a3] ((wm z gx) g) (oi x) ((wm z gx) ((fun _ => g) x)) := by
  refine ms_of (Wf := (wm z gx)) (ri := .ireturn) (out := oi) (nxt := (fun _ => g)) (ok := (fun _ => True)) (lv := [(0, .ref (za z 77 0)), (1, .int a0), (2, .int a1), (3, .int a2), (4, .int a3)]) (by decide) ⟨rfl, rfl⟩ (Nat.le_of_ble_eq_true rfl) rfl (en_i (out := fun x => x)) (fun p e s m below meth c => ?_)
  refine j_eq (M2 := (m_X7_isJob g a0).bind fun r1 => if r1 = (nI 0) then some (-1) else (m_X7_in (Int32.toInt64 a1) 1 4).bind fun r2 => if r2 = (nI 0) then some (-1) else (m_X7_isPage g a0 a2).bind fun r3 => if r3 = (nI 0) then some (-1) else (m_X7_isPart a3).bind fun r4 => if r4 = (nI 0) then some (-1) else (m_X7_allOf g a0).bind fun r5 => if r5 < a1 then some (-2) else (m_X7_choose r5 a1).bind fun r6 => gd (inb a0 6 = true) (bd (r5 - (gi g 101 0 a0.toNatClampNeg)) fun v7 => if v7 < a1 then m_X7_odds_B92 a0 a1 a2 a3 g r6 0 r6 else (m_X7_choose v7 a1).bind fun r8 => m_X7_odds_B92 a0 a1 a2 a3 g r6 r8 r6)) rfl ?_
  refine j_aload_n (q := 1) (i := 0) (n := 0) dX7_odds_0 rfl rfl rfl ?_
  refine j_iload_n (q := 2) (i := 1) (n := 1) dX7_odds_1 rfl rfl rfl ?_
  refine j_ci (q := 5) (rn_V (R := rm_X7_odds) (As := [.int a0]) (rest := []) (c_X7_isJob _ z gx g a0) cv_X7_isJob wM_X7_156 ⟨rfl, rfl⟩ ⟨(Nat.le_of_ble_eq_true rfl), (Nat.le_of_ble_eq_true rfl)⟩ (Nat.le_of_ble_eq_true rfl) rfl rfl rfl (Nat.le_of_ble_eq_true rfl) dX7_odds_2) rfl (fun r1 => ?_)
  refine j_if_eq (tgt := 37) (q := 8) dX7_odds_5 rfl rfl ?_ ?_
  · refine j_iconst (q := 38) (v := (-1)) dX7_odds_37 rfl rfl ?_
    exact j_ret (x := (-1)) dX7_odds_38 ⟨trivial, rfl, rfl⟩
  · refine j_iload_n (q := 9) (i := 2) (n := 2) dX7_odds_8 rfl rfl rfl ?_
    refine j_i2l (q := 10) dX7_odds_9 rfl ?_
    refine j_lconst (q := 11) (v := 1) dX7_odds_10 rfl rfl ?_
    refine j_ldc2 (q := 14) (v := 4) dX7_odds_11 wW_X7_217 rfl ?_
    refine j_ci (q := 17) (rn_S (R := rm_X7_odds) (As := [.long (Int32.toInt64 a1), .long 1, .long 4]) (rest := []) (c_X7_in _ z gx g (Int32.toInt64 a1) 1 4) cv_X7_in wM_X7_62 ⟨rfl, rfl⟩ ⟨(Nat.le_of_ble_eq_true rfl), (Nat.le_of_ble_eq_true rfl)⟩ rfl (Nat.le_of_ble_eq_true rfl) dX7_odds_14) rfl (fun r2 => ?_)
    refine j_if_eq (tgt := 37) (q := 20) dX7_odds_17 rfl rfl ?_ ?_
    · refine j_iconst (q := 38) (v := (-1)) dX7_odds_37 rfl rfl ?_
      exact j_ret (x := (-1)) dX7_odds_38 ⟨trivial, rfl, rfl⟩
    · refine j_aload_n (q := 21) (i := 0) (n := 0) dX7_odds_20 rfl rfl rfl ?_
      refine j_iload_n (q := 22) (i := 1) (n := 1) dX7_odds_21 rfl rfl rfl ?_
      refine j_iload_n (q := 23) (i := 3) (n := 3) dX7_odds_22 rfl rfl rfl ?_
      refine j_ci (q := 26) (rn_V (R := rm_X7_odds) (As := [.int a0, .int a2]) (rest := []) (c_X7_isPage _ z gx g a0 a2) cv_X7_isPage wM_X7_166 ⟨rfl, rfl⟩ ⟨(Nat.le_of_ble_eq_true rfl), (Nat.le_of_ble_eq_true rfl)⟩ (Nat.le_of_ble_eq_true rfl) rfl rfl rfl (Nat.le_of_ble_eq_true rfl) dX7_odds_23) rfl (fun r3 => ?_)
      refine j_if_eq (tgt := 37) (q := 29) dX7_odds_26 rfl rfl ?_ ?_
      · refine j_iconst (q := 38) (v := (-1)) dX7_odds_37 rfl rfl ?_
        exact j_ret (x := (-1)) dX7_odds_38 ⟨trivial, rfl, rfl⟩
      · refine j_iload (q := 31) (i := 4) (n := 4) dX7_odds_29 rfl rfl ?_
        refine j_ci (q := 34) (rn_S (R := rm_X7_odds) (As := [.int a3]) (rest := []) (c_X7_isPart _ z gx g a3) cv_X7_isPart wM_X7_202 ⟨rfl, rfl⟩ ⟨(Nat.le_of_ble_eq_true rfl), (Nat.le_of_ble_eq_true rfl)⟩ rfl (Nat.le_of_ble_eq_true rfl) dX7_odds_31) rfl (fun r4 => ?_)
        refine j_if_ne (tgt := 39) (q := 37) dX7_odds_34 rfl rfl ?_ ?_
        · refine j_aload_n (q := 40) (i := 0) (n := 0) dX7_odds_39 rfl rfl rfl ?_
          refine j_iload_n (q := 41) (i := 1) (n := 1) dX7_odds_40 rfl rfl rfl ?_
          refine j_ci (q := 44) (rn_V (R := rm_X7_odds) (As := [.int a0]) (rest := []) (c_X7_allOf _ z gx g a0) cv_X7_allOf wM_X7_160 ⟨rfl, rfl⟩ ⟨(Nat.le_of_ble_eq_true rfl), (Nat.le_of_ble_eq_true rfl)⟩ (Nat.le_of_ble_eq_true rfl) rfl rfl rfl (Nat.le_of_ble_eq_true rfl) dX7_odds_41) rfl (fun r5 => ?_)
          refine j_istore (q := 46) (n := 5) (lv' := [(5, .int r5), (0, .ref (za z 77 0)), (1, .int a0), (2, .int a1), (3, .int a2), (4, .int a3)]) dX7_odds_44 (Nat.le_of_ble_eq_true rfl) rfl rfl ?_
          refine j_iload (q := 48) (i := 0) (n := 5) dX7_odds_46 rfl rfl ?_
          refine j_iload_n (q := 49) (i := 3) (n := 2) dX7_odds_48 rfl rfl rfl ?_
          refine j_icmp_ge (tgt := 55) (q := 52) dX7_odds_49 rfl rfl ?_ ?_
          · refine j_iload (q := 57) (i := 0) (n := 5) dX7_odds_55 rfl rfl ?_
            refine j_iload_n (q := 58) (i := 3) (n := 2) dX7_odds_57 rfl rfl rfl ?_
            refine j_cl (q := 61) (rn_S (R := rm_X7_odds) (As := [.int r5, .int a1]) (rest := []) (c_X7_choose _ z gx g r5 a1) cv_X7_choose wM_X7_219 ⟨rfl, rfl⟩ ⟨(Nat.le_of_ble_eq_true rfl), (Nat.le_of_ble_eq_true rfl)⟩ rfl (Nat.le_of_ble_eq_true rfl) dX7_odds_58) rfl (fun r6 => ?_)
            refine j_lstore (q := 63) (n := 6) (lv' := [(6, .long r6), (5, .int r5), (0, .ref (za z 77 0)), (1, .int a0), (2, .int a1), (3, .int a2), (4, .int a3)]) dX7_odds_61 (Nat.le_of_ble_eq_true rfl) rfl rfl ?_
            refine j_iload (q := 65) (i := 1) (n := 5) dX7_odds_63 rfl rfl ?_
            refine j_aload_n (q := 66) (i := 2) (n := 0) dX7_odds_65 rfl rfl rfl ?_
            refine g_X7_copies (q := 69) wF_X7_13 (Nat.le_of_ble_eq_true rfl) dX7_odds_66 rfl ?_
            refine j_iload_n (q := 70) (i := 3) (n := 1) dX7_odds_69 rfl rfl rfl ?_
            refine am_ld (k := 101) (n := 6) (q := 71) isM_101 rfl (Nat.le_of_ble_eq_true rfl) dX7_odds_70 rfl ?_
            refine j_isub (q := 72) dX7_odds_71 rfl ?_
            refine j_top (fun v7 => ?_)
            refine j_istore (q := 74) (n := 8) (lv' := [(8, .int v7), (6, .long r6), (5, .int r5), (0, .ref (za z 77 0)), (1, .int a0), (2, .int a1), (3, .int a2), (4, .int a3)]) dX7_odds_72 (Nat.le_of_ble_eq_true rfl) rfl rfl ?_
            refine j_lload (q := 76) (i := 1) (n := 6) dX7_odds_74 rfl rfl ?_
            refine j_iload (q := 78) (i := 0) (n := 8) dX7_odds_76 rfl rfl ?_
            refine j_iload_n (q := 79) (i := 5) (n := 2) dX7_odds_78 rfl rfl rfl ?_
            refine j_icmp_ge (tgt := 86) (q := 82) dX7_odds_79 rfl rfl ?_ ?_
            · refine j_iload (q := 88) (i := 0) (n := 8) dX7_odds_86 rfl rfl ?_
              refine j_iload_n (q := 89) (i := 5) (n := 2) dX7_odds_88 rfl rfl rfl ?_
              refine j_cl (q := 92) (rn_S (R := rm_X7_odds) (As := [.int v7, .int a1]) (rest := [.long r6]) (c_X7_choose _ z gx g v7 a1) cv_X7_choose wM_X7_219 ⟨rfl, rfl⟩ ⟨(Nat.le_of_ble_eq_true rfl), (Nat.le_of_ble_eq_true rfl)⟩ rfl (Nat.le_of_ble_eq_true rfl) dX7_odds_89) rfl (fun r8 => ?_)
              refine j_lv [7, 1] (lv' := [(4, .int a3), (6, .long r6)]) rfl ?_
              exact t_X7_odds_B92 z gx a0 a1 a2 a3 g r6 r8 r6
            · refine j_lconst (q := 83) (v := 0) dX7_odds_82 rfl rfl ?_
              refine j_goto (tgt := 92) dX7_odds_83 rfl ?_
              refine j_lv [7, 1] (lv' := [(4, .int a3), (6, .long r6)]) rfl ?_
              exact t_X7_odds_B92 z gx a0 a1 a2 a3 g r6 0 r6
          · refine j_bipush (q := 54) (v := (-2)) dX7_odds_52 rfl rfl ?_
            exact j_ret (x := (-2)) dX7_odds_54 ⟨trivial, rfl, rfl⟩
        · refine j_iconst (q := 38) (v := (-1)) dX7_odds_37 rfl rfl ?_
          exact j_ret (x := (-1)) dX7_odds_38 ⟨trivial, rfl, rfl⟩
-- CopierJobsModel.sees(III)I
abbrev rm_X7_sees : Room := { frames := 2, cells := 0, slots := 0, locals := 45 }
theorem cv_X7_sees : CV yX7_sees cX7_sees 4 (some .int) 3 := ⟨wC_X7_sees, wI_X7_sees, wS_X7_sees, wZ_X7, by decide +kernel⟩
def m_X7_sees (g : zG) (a0 : Int32) (a1 : Int32) (a2 : Int32) : Option (Int32 × zG) := (m_X7_in (Int32.toInt64 a0) 0 80).bind fun r1 => if r1 = (nI 0) then some ((-1), g) else (m_X7_in (Int32.toInt64 a1) 1 9).bind fun r2 => if r2 = (nI 0) then some ((-1), g) else (m_X7_isPart a2).bind fun r3 => if r3 = (nI 0) then some ((-1), g) else if (gi g 123 0 0) = (nI 6) then some ((-3), g) else gd (inb ((nI 3) * (gi g 123 0 0)) 18 = true) (bd (ui g 107 0 ((nI 3) * (gi g 123 0 0)).toNatClampNeg a0) fun g4 => gd (inb (((nI 3) * (gi g4 123 0 0)) + (nI 1)) 18 = true) (bd (ui g4 107 0 (((nI 3) * (gi g4 123 0 0)) + (nI 1)).toNatClampNeg a1) fun g5 => gd (inb (((nI 3) * (gi g5 123 0 0)) + (nI 2)) 18 = true) (bd (ui g5 107 0 (((nI 3) * (gi g5 123 0 0)) + (nI 2)).toNatClampNeg a2) fun g6 => bd (ui g6 123 0 0 ((gi g6 123 0 0) + (nI 1))) fun g7 => some (gi g7 123 0 0, g7))))
set_option maxRecDepth 100000 in
set_option maxHeartbeats 4000000 in
theorem c_X7_sees (l : Launch) (z : zE) (gx : zG) (g : zG) (a0 : Int32) (a1 : Int32) (a2 : Int32) : ∀ x, m_X7_sees g a0 a1 a2 = some x → Ms dm l yX7_sees cX7_sees 4 (some .int) rm_X7_sees z [.ref (za z 77 0), .int a0, .int a1, .int a2] ((wm z gx) g) (osi x) ((wm z gx) ((fun x => x.2) x)) := by
  refine ms_of (Wf := (wm z gx)) (ri := .ireturn) (out := osi) (nxt := (fun x => x.2)) (ok := (fun _ => True)) (lv := [(0, .ref (za z 77 0)), (1, .int a0), (2, .int a1), (3, .int a2)]) (by decide) ⟨rfl, rfl⟩ (Nat.le_of_ble_eq_true rfl) rfl (en_i (out := fun x : Int32 × zG => x.1)) (fun p e s m below meth c => ?_)
  refine j_eq (M2 := (m_X7_in (Int32.toInt64 a0) 0 80).bind fun r1 => if r1 = (nI 0) then some ((-1), g) else (m_X7_in (Int32.toInt64 a1) 1 9).bind fun r2 => if r2 = (nI 0) then some ((-1), g) else (m_X7_isPart a2).bind fun r3 => if r3 = (nI 0) then some ((-1), g) else if (gi g 123 0 0) = (nI 6) then some ((-3), g) else gd (inb ((nI 3) * (gi g 123 0 0)) 18 = true) (bd (ui g 107 0 ((nI 3) * (gi g 123 0 0)).toNatClampNeg a0) fun g4 => gd (inb (((nI 3) * (gi g4 123 0 0)) + (nI 1)) 18 = true) (bd (ui g4 107 0 (((nI 3) * (gi g4 123 0 0)) + (nI 1)).toNatClampNeg a1) fun g5 => gd (inb (((nI 3) * (gi g5 123 0 0)) + (nI 2)) 18 = true) (bd (ui g5 107 0 (((nI 3) * (gi g5 123 0 0)) + (nI 2)).toNatClampNeg a2) fun g6 => bd (ui g6 123 0 0 ((gi g6 123 0 0) + (nI 1))) fun g7 => some (gi g7 123 0 0, g7))))) rfl ?_
  refine j_iload_n (q := 1) (i := 1) (n := 1) dX7_sees_0 rfl rfl rfl ?_
  refine j_i2l (q := 2) dX7_sees_1 rfl ?_
  refine j_lconst (q := 3) (v := 0) dX7_sees_2 rfl rfl ?_
  refine j_ldc2 (q := 6) (v := 80) dX7_sees_3 wW_X7_223 rfl ?_
  refine j_ci (q := 9) (rn_S (R := rm_X7_sees) (As := [.long (Int32.toInt64 a0), .long 0, .long 80]) (rest := []) (c_X7_in _ z gx g (Int32.toInt64 a0) 0 80) cv_X7_in wM_X7_62 ⟨rfl, rfl⟩ ⟨(Nat.le_of_ble_eq_true rfl), (Nat.le_of_ble_eq_true rfl)⟩ rfl (Nat.le_of_ble_eq_true rfl) dX7_sees_6) rfl (fun r1 => ?_)
  refine j_if_eq (tgt := 31) (q := 12) dX7_sees_9 rfl rfl ?_ ?_
  · refine j_iconst (q := 32) (v := (-1)) dX7_sees_31 rfl rfl ?_
    exact j_ret (x := ((-1), g)) dX7_sees_32 ⟨trivial, rfl, rfl⟩
  · refine j_iload_n (q := 13) (i := 2) (n := 2) dX7_sees_12 rfl rfl rfl ?_
    refine j_i2l (q := 14) dX7_sees_13 rfl ?_
    refine j_lconst (q := 15) (v := 1) dX7_sees_14 rfl rfl ?_
    refine j_ldc2 (q := 18) (v := 9) dX7_sees_15 wW_X7_225 rfl ?_
    refine j_ci (q := 21) (rn_S (R := rm_X7_sees) (As := [.long (Int32.toInt64 a1), .long 1, .long 9]) (rest := []) (c_X7_in _ z gx g (Int32.toInt64 a1) 1 9) cv_X7_in wM_X7_62 ⟨rfl, rfl⟩ ⟨(Nat.le_of_ble_eq_true rfl), (Nat.le_of_ble_eq_true rfl)⟩ rfl (Nat.le_of_ble_eq_true rfl) dX7_sees_18) rfl (fun r2 => ?_)
    refine j_if_eq (tgt := 31) (q := 24) dX7_sees_21 rfl rfl ?_ ?_
    · refine j_iconst (q := 32) (v := (-1)) dX7_sees_31 rfl rfl ?_
      exact j_ret (x := ((-1), g)) dX7_sees_32 ⟨trivial, rfl, rfl⟩
    · refine j_iload_n (q := 25) (i := 3) (n := 3) dX7_sees_24 rfl rfl rfl ?_
      refine j_ci (q := 28) (rn_S (R := rm_X7_sees) (As := [.int a2]) (rest := []) (c_X7_isPart _ z gx g a2) cv_X7_isPart wM_X7_202 ⟨rfl, rfl⟩ ⟨(Nat.le_of_ble_eq_true rfl), (Nat.le_of_ble_eq_true rfl)⟩ rfl (Nat.le_of_ble_eq_true rfl) dX7_sees_25) rfl (fun r3 => ?_)
      refine j_if_ne (tgt := 33) (q := 31) dX7_sees_28 rfl rfl ?_ ?_
      · refine j_aload_n (q := 34) (i := 0) (n := 0) dX7_sees_33 rfl rfl rfl ?_
        refine g_X7_seenMany (q := 37) wF_X7_136 (Nat.le_of_ble_eq_true rfl) dX7_sees_34 rfl ?_
        refine j_bipush (q := 39) (v := (nI 6)) dX7_sees_37 rfl rfl ?_
        refine j_icmp_ne (tgt := 45) (q := 42) dX7_sees_39 rfl rfl ?_ ?_
        · refine j_aload_n (q := 46) (i := 0) (n := 0) dX7_sees_45 rfl rfl rfl ?_
          refine g_X7_seen (q := 49) wF_X7_35 (Nat.le_of_ble_eq_true rfl) dX7_sees_46 rfl ?_
          refine j_iconst (q := 50) (v := (nI 3)) dX7_sees_49 rfl rfl ?_
          refine j_aload_n (q := 51) (i := 0) (n := 0) dX7_sees_50 rfl rfl rfl ?_
          refine g_X7_seenMany (q := 54) wF_X7_136 (Nat.le_of_ble_eq_true rfl) dX7_sees_51 rfl ?_
          refine j_imul (q := 55) dX7_sees_54 rfl ?_
          refine j_iload_n (q := 56) (i := 1) (n := 1) dX7_sees_55 rfl rfl rfl ?_
          refine am_st (k := 107) (n := 18) (q := 57) dm_le isM_107 rfl (Nat.le_of_ble_eq_true rfl) dX7_sees_56 rfl (fun g4 => ?_)
          refine j_aload_n (q := 58) (i := 0) (n := 0) dX7_sees_57 rfl rfl rfl ?_
          refine g_X7_seen (q := 61) wF_X7_35 (Nat.le_of_ble_eq_true rfl) dX7_sees_58 rfl ?_
          refine j_iconst (q := 62) (v := (nI 3)) dX7_sees_61 rfl rfl ?_
          refine j_aload_n (q := 63) (i := 0) (n := 0) dX7_sees_62 rfl rfl rfl ?_
          refine g_X7_seenMany (q := 66) wF_X7_136 (Nat.le_of_ble_eq_true rfl) dX7_sees_63 rfl ?_
          refine j_imul (q := 67) dX7_sees_66 rfl ?_
          refine j_iconst (q := 68) (v := (nI 1)) dX7_sees_67 rfl rfl ?_
          refine j_iadd (q := 69) dX7_sees_68 rfl ?_
          refine j_iload_n (q := 70) (i := 2) (n := 2) dX7_sees_69 rfl rfl rfl ?_
          refine am_st (k := 107) (n := 18) (q := 71) dm_le isM_107 rfl (Nat.le_of_ble_eq_true rfl) dX7_sees_70 rfl (fun g5 => ?_)
          refine j_aload_n (q := 72) (i := 0) (n := 0) dX7_sees_71 rfl rfl rfl ?_
          refine g_X7_seen (q := 75) wF_X7_35 (Nat.le_of_ble_eq_true rfl) dX7_sees_72 rfl ?_
          refine j_iconst (q := 76) (v := (nI 3)) dX7_sees_75 rfl rfl ?_
          refine j_aload_n (q := 77) (i := 0) (n := 0) dX7_sees_76 rfl rfl rfl ?_
          refine g_X7_seenMany (q := 80) wF_X7_136 (Nat.le_of_ble_eq_true rfl) dX7_sees_77 rfl ?_
          refine j_imul (q := 81) dX7_sees_80 rfl ?_
          refine j_iconst (q := 82) (v := (nI 2)) dX7_sees_81 rfl rfl ?_
          refine j_iadd (q := 83) dX7_sees_82 rfl ?_
          refine j_iload_n (q := 84) (i := 3) (n := 3) dX7_sees_83 rfl rfl rfl ?_
          refine am_st (k := 107) (n := 18) (q := 85) dm_le isM_107 rfl (Nat.le_of_ble_eq_true rfl) dX7_sees_84 rfl (fun g6 => ?_)
          refine j_aload_n (q := 86) (i := 0) (n := 0) dX7_sees_85 rfl rfl rfl ?_
          refine j_dup (q := 87) dX7_sees_86 rfl rfl ?_
          refine g_X7_seenMany (q := 90) wF_X7_136 (Nat.le_of_ble_eq_true rfl) dX7_sees_87 rfl ?_
          refine j_iconst (q := 91) (v := (nI 1)) dX7_sees_90 rfl rfl ?_
          refine j_iadd (q := 92) dX7_sees_91 rfl ?_
          refine p_X7_seenMany (q := 95) dm_le wF_X7_136 (Nat.le_of_ble_eq_true rfl) dX7_sees_92 rfl (fun g7 => ?_)
          refine j_aload_n (q := 96) (i := 0) (n := 0) dX7_sees_95 rfl rfl rfl ?_
          refine g_X7_seenMany (q := 99) wF_X7_136 (Nat.le_of_ble_eq_true rfl) dX7_sees_96 rfl ?_
          exact j_ret (x := (gi g7 123 0 0, g7)) dX7_sees_99 ⟨trivial, rfl, rfl⟩
        · refine j_bipush (q := 44) (v := (-3)) dX7_sees_42 rfl rfl ?_
          exact j_ret (x := ((-3), g)) dX7_sees_44 ⟨trivial, rfl, rfl⟩
      · refine j_iconst (q := 32) (v := (-1)) dX7_sees_31 rfl rfl ?_
        exact j_ret (x := ((-1), g)) dX7_sees_32 ⟨trivial, rfl, rfl⟩
-- CopierJobsModel.forget()I
abbrev rm_X7_forget : Room := { frames := 0, cells := 0, slots := 0, locals := 0 }
theorem cv_X7_forget : CV yX7_forget cX7_forget 2 (some .int) 0 := ⟨wC_X7_forget, wI_X7_forget, wS_X7_forget, wZ_X7, by decide +kernel⟩
def m_X7_forget (g : zG) : Option (Int32 × zG) := bd (ui g 123 0 0 (nI 0)) fun g1 => some (gi g 123 0 0, g1)
set_option maxRecDepth 100000 in
set_option maxHeartbeats 4000000 in
theorem c_X7_forget (l : Launch) (z : zE) (gx : zG) (g : zG) : ∀ x, m_X7_forget g = some x → Ms dm l yX7_forget cX7_forget 2 (some .int) rm_X7_forget z [.ref (za z 77 0)] ((wm z gx) g) (osi x) ((wm z gx) ((fun x => x.2) x)) := by
  refine ms_of (Wf := (wm z gx)) (ri := .ireturn) (out := osi) (nxt := (fun x => x.2)) (ok := (fun _ => True)) (lv := [(0, .ref (za z 77 0))]) (by decide) ⟨rfl, rfl⟩ (Nat.le_of_ble_eq_true rfl) rfl (en_i (out := fun x : Int32 × zG => x.1)) (fun p e s m below meth c => ?_)
  refine j_eq (M2 := bd (ui g 123 0 0 (nI 0)) fun g1 => some (gi g 123 0 0, g1)) rfl ?_
  refine j_aload_n (q := 1) (i := 0) (n := 0) dX7_forget_0 rfl rfl rfl ?_
  refine g_X7_seenMany (q := 4) wF_X7_136 (Nat.le_of_ble_eq_true rfl) dX7_forget_1 rfl ?_
  refine j_istore_n (q := 5) (n := 1) (lv' := [(1, .int (gi g 123 0 0)), (0, .ref (za z 77 0))]) dX7_forget_4 rfl (Nat.le_of_ble_eq_true rfl) rfl rfl ?_
  refine j_aload_n (q := 6) (i := 1) (n := 0) dX7_forget_5 rfl rfl rfl ?_
  refine j_iconst (q := 7) (v := (nI 0)) dX7_forget_6 rfl rfl ?_
  refine p_X7_seenMany (q := 10) dm_le wF_X7_136 (Nat.le_of_ble_eq_true rfl) dX7_forget_7 rfl (fun g1 => ?_)
  refine j_iload_n (q := 11) (i := 0) (n := 1) dX7_forget_10 rfl rfl rfl ?_
  exact j_ret (x := (gi g 123 0 0, g1)) dX7_forget_11 ⟨trivial, rfl, rfl⟩
-- CopierJobsModel.hasInFront(III)Z
abbrev rm_X7_hasInFront : Room := { frames := 3, cells := 0, slots := 0, locals := 65 }
theorem cv_X7_hasInFront : CV yX7_hasInFront cX7_hasInFront 4 (some .boolean) 3 := ⟨wC_X7_hasInFront, wI_X7_hasInFront, wS_X7_hasInFront, wZ_X7, by decide +kernel⟩
def m_X7_hasInFront (g : zG) (a0 : Int32) (a1 : Int32) (a2 : Int32) : Option (Int32) := (m_X7_allOf g a0).bind fun r1 => if a1 < r1 then (m_X7_frontOf g a0 a1).bind fun r2 => if r2 = a2 then some (nI 1) else some (nI 0) else some (nI 0)
set_option maxRecDepth 100000 in
set_option maxHeartbeats 4000000 in
theorem c_X7_hasInFront (l : Launch) (z : zE) (gx : zG) (g : zG) (a0 : Int32) (a1 : Int32) (a2 : Int32) : ∀ x, m_X7_hasInFront g a0 a1 a2 = some x → Ms dm l yX7_hasInFront cX7_hasInFront 4 (some .boolean) rm_X7_hasInFront z [.ref (za z 77 0), .int a0, .int a1, .int a2] ((wm z gx) g) (oi x) ((wm z gx) ((fun _ => g) x)) := by
  refine ms_of (Wf := (wm z gx)) (ri := .ireturn) (out := oi) (nxt := (fun _ => g)) (ok := (fun x => isb x = true)) (lv := [(0, .ref (za z 77 0)), (1, .int a0), (2, .int a1), (3, .int a2)]) (by decide) ⟨rfl, rfl⟩ (Nat.le_of_ble_eq_true rfl) rfl (en_z (out := fun x => x)) (fun p e s m below meth c => ?_)
  refine j_eq (M2 := (m_X7_allOf g a0).bind fun r1 => if a1 < r1 then (m_X7_frontOf g a0 a1).bind fun r2 => if r2 = a2 then some (nI 1) else some (nI 0) else some (nI 0)) rfl ?_
  refine j_iload_n (q := 1) (i := 2) (n := 2) dX7_hasInFront_0 rfl rfl rfl ?_
  refine j_aload_n (q := 2) (i := 0) (n := 0) dX7_hasInFront_1 rfl rfl rfl ?_
  refine j_iload_n (q := 3) (i := 1) (n := 1) dX7_hasInFront_2 rfl rfl rfl ?_
  refine j_ci (q := 6) (rn_V (R := rm_X7_hasInFront) (As := [.int a0]) (rest := [.int a1]) (c_X7_allOf _ z gx g a0) cv_X7_allOf wM_X7_160 ⟨rfl, rfl⟩ ⟨(Nat.le_of_ble_eq_true rfl), (Nat.le_of_ble_eq_true rfl)⟩ (Nat.le_of_ble_eq_true rfl) rfl rfl rfl (Nat.le_of_ble_eq_true rfl) dX7_hasInFront_3) rfl (fun r1 => ?_)
  refine j_icmp_ge (tgt := 23) (q := 9) dX7_hasInFront_6 rfl rfl ?_ ?_
  · refine j_iconst (q := 24) (v := (nI 0)) dX7_hasInFront_23 rfl rfl ?_
    exact j_ret (x := (nI 0)) dX7_hasInFront_24 ⟨rfl, rfl, rfl⟩
  · refine j_aload_n (q := 10) (i := 0) (n := 0) dX7_hasInFront_9 rfl rfl rfl ?_
    refine j_iload_n (q := 11) (i := 1) (n := 1) dX7_hasInFront_10 rfl rfl rfl ?_
    refine j_iload_n (q := 12) (i := 2) (n := 2) dX7_hasInFront_11 rfl rfl rfl ?_
    refine j_ci (q := 15) (rn_V (R := rm_X7_hasInFront) (As := [.int a0, .int a1]) (rest := []) (c_X7_frontOf _ z gx g a0 a1) cv_X7_frontOf wM_X7_147 ⟨rfl, rfl⟩ ⟨(Nat.le_of_ble_eq_true rfl), (Nat.le_of_ble_eq_true rfl)⟩ (Nat.le_of_ble_eq_true rfl) rfl rfl rfl (Nat.le_of_ble_eq_true rfl) dX7_hasInFront_12) rfl (fun r2 => ?_)
    refine j_iload_n (q := 16) (i := 3) (n := 3) dX7_hasInFront_15 rfl rfl rfl ?_
    refine j_icmp_ne (tgt := 23) (q := 19) dX7_hasInFront_16 rfl rfl ?_ ?_
    · refine j_iconst (q := 24) (v := (nI 0)) dX7_hasInFront_23 rfl rfl ?_
      exact j_ret (x := (nI 0)) dX7_hasInFront_24 ⟨rfl, rfl, rfl⟩
    · refine j_iconst (q := 20) (v := (nI 1)) dX7_hasInFront_19 rfl rfl ?_
      refine j_goto (tgt := 24) dX7_hasInFront_20 rfl ?_
      exact j_ret (x := (nI 1)) dX7_hasInFront_24 ⟨rfl, rfl, rfl⟩
-- CopierJobsModel.whose()I
abbrev rm_X7_whose : Room := { frames := 4, cells := 0, slots := 0, locals := 88 }
theorem cv_X7_whose : CV yX7_whose cX7_whose 5 (some .int) 0 := ⟨wC_X7_whose, wI_X7_whose, wS_X7_whose, wZ_X7, by decide +kernel⟩
def m_X7_whose_B102 (g : zG) (K4 : Int32 → Int32 → Option (Int32)) (x2 : Int32) (s0 : Int32) (s1 : Int32) : Option (Int32) := K4 (s1 ||| s0) (x2 + (nI 1))
set_option maxRecDepth 100000 in
set_option maxHeartbeats 4000000 in
theorem t_X7_whose_B102 {p : Program} {l : Launch} {e : Env} {s : State} {m : MethodId} {args : Array Value} {below : List Frame} {meth : Method} {c : Code} {cells slots : Nat} {Q : Int32 → State → Prop} (z : zE) (gx : zG) (g : zG) (K4 : Int32 → Int32 → Option (Int32)) (hK4 : ∀ (x1 : Int32) (x2 : Int32), zJ dm p l e rm_X7_whose s m args below meth c cX7_whose 5 yX7_whose.cls z cells slots (wm z gx) (fn (fun _ => True) (fun _ => g) oi) .ireturn Q 4 [(0, .ref (za z 77 0)), (1, .int x1), (2, .int x2)] [] g (K4 x1 x2)) (x2 : Int32) (s0 : Int32) (s1 : Int32) : zJ dm p l e rm_X7_whose s m args below meth c cX7_whose 5 yX7_whose.cls z cells slots (wm z gx) (fn (fun _ => True) (fun _ => g) oi) .ireturn Q 102 [(0, .ref (za z 77 0)), (2, .int x2)] [.int s0, .int s1] g (m_X7_whose_B102 g K4 x2 s0 s1) := by
  refine j_eq (M2 := K4 (s1 ||| s0) (x2 + (nI 1))) rfl ?_
  refine j_ior (q := 103) dX7_whose_102 rfl ?_
  refine j_istore_n (q := 104) (n := 1) (lv' := [(1, .int (s1 ||| s0)), (0, .ref (za z 77 0)), (2, .int x2)]) dX7_whose_103 rfl (Nat.le_of_ble_eq_true rfl) rfl rfl ?_
  refine j_iinc (q := 107) (n := 2) (i := 2) (v := x2 + (nI 1)) (lv' := [(2, .int (x2 + (nI 1))), (1, .int (s1 ||| s0)), (0, .ref (za z 77 0))]) dX7_whose_104 rfl rfl (Nat.le_of_ble_eq_true rfl) rfl rfl ?_
  refine j_goto (tgt := 4) dX7_whose_107 rfl ?_
  refine j_lv [2, 1, 0] (lv' := [(0, .ref (za z 77 0)), (1, .int (s1 ||| s0)), (2, .int (x2 + (nI 1)))]) rfl ?_
  exact hK4 (s1 ||| s0) (x2 + (nI 1))
def m_X7_whose_B90 (g : zG) (K4 : Int32 → Int32 → Option (Int32)) (x1 : Int32) (x2 : Int32) (x3 : Int32) : Option (Int32) := if x3 = (nI 0) then m_X7_whose_B102 g K4 x2 (nI 0) x1 else m_X7_whose_B102 g K4 x2 ((nI 1) <<< (x2 &&& 31)) x1
set_option maxRecDepth 100000 in
set_option maxHeartbeats 4000000 in
theorem t_X7_whose_B90 {p : Program} {l : Launch} {e : Env} {s : State} {m : MethodId} {args : Array Value} {below : List Frame} {meth : Method} {c : Code} {cells slots : Nat} {Q : Int32 → State → Prop} (z : zE) (gx : zG) (g : zG) (K4 : Int32 → Int32 → Option (Int32)) (hK4 : ∀ (x1 : Int32) (x2 : Int32), zJ dm p l e rm_X7_whose s m args below meth c cX7_whose 5 yX7_whose.cls z cells slots (wm z gx) (fn (fun _ => True) (fun _ => g) oi) .ireturn Q 4 [(0, .ref (za z 77 0)), (1, .int x1), (2, .int x2)] [] g (K4 x1 x2)) (x1 : Int32) (x2 : Int32) (x3 : Int32) : zJ dm p l e rm_X7_whose s m args below meth c cX7_whose 5 yX7_whose.cls z cells slots (wm z gx) (fn (fun _ => True) (fun _ => g) oi) .ireturn Q 90 [(0, .ref (za z 77 0)), (1, .int x1), (2, .int x2), (3, .int x3)] [] g (m_X7_whose_B90 g K4 x1 x2 x3) := by
  refine j_eq (M2 := if x3 = (nI 0) then m_X7_whose_B102 g K4 x2 (nI 0) x1 else m_X7_whose_B102 g K4 x2 ((nI 1) <<< (x2 &&& 31)) x1) rfl ?_
  refine j_iload_n (q := 91) (i := 1) (n := 1) dX7_whose_90 rfl rfl rfl ?_
  refine j_iload_n (q := 92) (i := 3) (n := 3) dX7_whose_91 rfl rfl rfl ?_
  refine j_if_eq (tgt := 101) (q := 95) dX7_whose_92 rfl rfl ?_ ?_
  · refine j_iconst (q := 102) (v := (nI 0)) dX7_whose_101 rfl rfl ?_
    refine j_lv [0, 2] (lv' := [(0, .ref (za z 77 0)), (2, .int x2)]) rfl ?_
    exact t_X7_whose_B102 z gx g K4 hK4 x2 (nI 0) x1
  · refine j_iconst (q := 96) (v := (nI 1)) dX7_whose_95 rfl rfl ?_
    refine j_iload_n (q := 97) (i := 2) (n := 2) dX7_whose_96 rfl rfl rfl ?_
    refine j_ishl (q := 98) dX7_whose_97 rfl ?_
    refine j_goto (tgt := 102) dX7_whose_98 rfl ?_
    refine j_lv [0, 2] (lv' := [(0, .ref (za z 77 0)), (2, .int x2)]) rfl ?_
    exact t_X7_whose_B102 z gx g K4 hK4 x2 ((nI 1) <<< (x2 &&& 31)) x1
def m_X7_whose_B83 (g : zG) (K4 : Int32 → Int32 → Option (Int32)) (K17 : Int32 → Int32 → Int32 → Int32 → Option (Int32)) (x1 : Int32) (x2 : Int32) (x4 : Int32) (s0 : Int32) : Option (Int32) := K17 x1 x2 s0 (x4 + (nI 1))
set_option maxRecDepth 100000 in
set_option maxHeartbeats 4000000 in
theorem t_X7_whose_B83 {p : Program} {l : Launch} {e : Env} {s : State} {m : MethodId} {args : Array Value} {below : List Frame} {meth : Method} {c : Code} {cells slots : Nat} {Q : Int32 → State → Prop} (z : zE) (gx : zG) (g : zG) (K4 : Int32 → Int32 → Option (Int32)) (K17 : Int32 → Int32 → Int32 → Int32 → Option (Int32)) (hK4 : ∀ (x1 : Int32) (x2 : Int32), zJ dm p l e rm_X7_whose s m args below meth c cX7_whose 5 yX7_whose.cls z cells slots (wm z gx) (fn (fun _ => True) (fun _ => g) oi) .ireturn Q 4 [(0, .ref (za z 77 0)), (1, .int x1), (2, .int x2)] [] g (K4 x1 x2)) (hK17 : ∀ (x1 : Int32) (x2 : Int32) (x3 : Int32) (x4 : Int32), zJ dm p l e rm_X7_whose s m args below meth c cX7_whose 5 yX7_whose.cls z cells slots (wm z gx) (fn (fun _ => True) (fun _ => g) oi) .ireturn Q 17 [(0, .ref (za z 77 0)), (1, .int x1), (2, .int x2), (3, .int x3), (4, .int x4)] [] g (K17 x1 x2 x3 x4)) (x1 : Int32) (x2 : Int32) (x4 : Int32) (s0 : Int32) : zJ dm p l e rm_X7_whose s m args below meth c cX7_whose 5 yX7_whose.cls z cells slots (wm z gx) (fn (fun _ => True) (fun _ => g) oi) .ireturn Q 83 [(0, .ref (za z 77 0)), (1, .int x1), (2, .int x2), (4, .int x4)] [.int s0] g (m_X7_whose_B83 g K4 K17 x1 x2 x4 s0) := by
  refine j_eq (M2 := K17 x1 x2 s0 (x4 + (nI 1))) rfl ?_
  refine j_istore_n (q := 84) (n := 3) (lv' := [(3, .int s0), (0, .ref (za z 77 0)), (1, .int x1), (2, .int x2), (4, .int x4)]) dX7_whose_83 rfl (Nat.le_of_ble_eq_true rfl) rfl rfl ?_
  refine j_iinc (q := 87) (n := 4) (i := 4) (v := x4 + (nI 1)) (lv' := [(4, .int (x4 + (nI 1))), (3, .int s0), (0, .ref (za z 77 0)), (1, .int x1), (2, .int x2)]) dX7_whose_84 rfl rfl (Nat.le_of_ble_eq_true rfl) rfl rfl ?_
  refine j_goto (tgt := 17) dX7_whose_87 rfl ?_
  refine j_lv [2, 3, 4, 1, 0] (lv' := [(0, .ref (za z 77 0)), (1, .int x1), (2, .int x2), (3, .int s0), (4, .int (x4 + (nI 1)))]) rfl ?_
  exact hK17 x1 x2 s0 (x4 + (nI 1))
def m_X7_whose_B82 (g : zG) (K4 : Int32 → Int32 → Option (Int32)) (K17 : Int32 → Int32 → Int32 → Int32 → Option (Int32)) (x1 : Int32) (x2 : Int32) (x4 : Int32) : Option (Int32) := m_X7_whose_B83 g K4 K17 x1 x2 x4 (nI 0)
set_option maxRecDepth 100000 in
set_option maxHeartbeats 4000000 in
theorem t_X7_whose_B82 {p : Program} {l : Launch} {e : Env} {s : State} {m : MethodId} {args : Array Value} {below : List Frame} {meth : Method} {c : Code} {cells slots : Nat} {Q : Int32 → State → Prop} (z : zE) (gx : zG) (g : zG) (K4 : Int32 → Int32 → Option (Int32)) (K17 : Int32 → Int32 → Int32 → Int32 → Option (Int32)) (hK4 : ∀ (x1 : Int32) (x2 : Int32), zJ dm p l e rm_X7_whose s m args below meth c cX7_whose 5 yX7_whose.cls z cells slots (wm z gx) (fn (fun _ => True) (fun _ => g) oi) .ireturn Q 4 [(0, .ref (za z 77 0)), (1, .int x1), (2, .int x2)] [] g (K4 x1 x2)) (hK17 : ∀ (x1 : Int32) (x2 : Int32) (x3 : Int32) (x4 : Int32), zJ dm p l e rm_X7_whose s m args below meth c cX7_whose 5 yX7_whose.cls z cells slots (wm z gx) (fn (fun _ => True) (fun _ => g) oi) .ireturn Q 17 [(0, .ref (za z 77 0)), (1, .int x1), (2, .int x2), (3, .int x3), (4, .int x4)] [] g (K17 x1 x2 x3 x4)) (x1 : Int32) (x2 : Int32) (x4 : Int32) : zJ dm p l e rm_X7_whose s m args below meth c cX7_whose 5 yX7_whose.cls z cells slots (wm z gx) (fn (fun _ => True) (fun _ => g) oi) .ireturn Q 82 [(0, .ref (za z 77 0)), (1, .int x1), (2, .int x2), (4, .int x4)] [] g (m_X7_whose_B82 g K4 K17 x1 x2 x4) := by
  refine j_eq (M2 := m_X7_whose_B83 g K4 K17 x1 x2 x4 (nI 0)) rfl ?_
  refine j_iconst (q := 83) (v := (nI 0)) dX7_whose_82 rfl rfl ?_
  exact t_X7_whose_B83 z gx g K4 K17 hK4 hK17 x1 x2 x4 (nI 0)
def m_X7_whose_B75 (g : zG) (K4 : Int32 → Int32 → Option (Int32)) (K17 : Int32 → Int32 → Int32 → Int32 → Option (Int32)) (x1 : Int32) (x2 : Int32) (x4 : Int32) (s0 : Int32) (s1 : Int32) : Option (Int32) := if s1 = s0 then m_X7_whose_B83 g K4 K17 x1 x2 x4 (nI 1) else m_X7_whose_B82 g K4 K17 x1 x2 x4
set_option maxRecDepth 100000 in
set_option maxHeartbeats 4000000 in
theorem t_X7_whose_B75 {p : Program} {l : Launch} {e : Env} {s : State} {m : MethodId} {args : Array Value} {below : List Frame} {meth : Method} {c : Code} {cells slots : Nat} {Q : Int32 → State → Prop} (z : zE) (gx : zG) (g : zG) (K4 : Int32 → Int32 → Option (Int32)) (K17 : Int32 → Int32 → Int32 → Int32 → Option (Int32)) (hK4 : ∀ (x1 : Int32) (x2 : Int32), zJ dm p l e rm_X7_whose s m args below meth c cX7_whose 5 yX7_whose.cls z cells slots (wm z gx) (fn (fun _ => True) (fun _ => g) oi) .ireturn Q 4 [(0, .ref (za z 77 0)), (1, .int x1), (2, .int x2)] [] g (K4 x1 x2)) (hK17 : ∀ (x1 : Int32) (x2 : Int32) (x3 : Int32) (x4 : Int32), zJ dm p l e rm_X7_whose s m args below meth c cX7_whose 5 yX7_whose.cls z cells slots (wm z gx) (fn (fun _ => True) (fun _ => g) oi) .ireturn Q 17 [(0, .ref (za z 77 0)), (1, .int x1), (2, .int x2), (3, .int x3), (4, .int x4)] [] g (K17 x1 x2 x3 x4)) (x1 : Int32) (x2 : Int32) (x4 : Int32) (s0 : Int32) (s1 : Int32) : zJ dm p l e rm_X7_whose s m args below meth c cX7_whose 5 yX7_whose.cls z cells slots (wm z gx) (fn (fun _ => True) (fun _ => g) oi) .ireturn Q 75 [(0, .ref (za z 77 0)), (1, .int x1), (2, .int x2), (4, .int x4)] [.int s0, .int s1] g (m_X7_whose_B75 g K4 K17 x1 x2 x4 s0 s1) := by
  refine j_eq (M2 := if s1 = s0 then m_X7_whose_B83 g K4 K17 x1 x2 x4 (nI 1) else m_X7_whose_B82 g K4 K17 x1 x2 x4) rfl ?_
  refine j_icmp_ne (tgt := 82) (q := 78) dX7_whose_75 rfl rfl ?_ ?_
  · exact t_X7_whose_B82 z gx g K4 K17 hK4 hK17 x1 x2 x4
  · refine j_iconst (q := 79) (v := (nI 1)) dX7_whose_78 rfl rfl ?_
    refine j_goto (tgt := 83) dX7_whose_79 rfl ?_
    exact t_X7_whose_B83 z gx g K4 K17 hK4 hK17 x1 x2 x4 (nI 1)
def m_X7_whose_L17 (g : zG) (K4 : Int32 → Int32 → Option (Int32)) : Nat → Int32 → Int32 → Int32 → Int32 → Option (Int32)
  | 0, _, _, _, _ => none
  | f + 1, x1, x2, x3, x4 => if x4 < (gi g 123 0 0) then if x3 = (nI 0) then m_X7_whose_B82 g K4 (m_X7_whose_L17 g K4 f) x1 x2 x4 else gd (inb ((nI 3) * x4) 18 = true) (gd (inb (((nI 3) * x4) + (nI 1)) 18 = true) ((m_X7_hasInFront g x2 (gi g 107 0 ((nI 3) * x4).toNatClampNeg) (gi g 107 0 (((nI 3) * x4) + (nI 1)).toNatClampNeg)).bind fun r1 => gd (inb (((nI 3) * x4) + (nI 2)) 18 = true) (if (gi g 107 0 (((nI 3) * x4) + (nI 2)).toNatClampNeg) = (nI 1) then m_X7_whose_B75 g K4 (m_X7_whose_L17 g K4 f) x1 x2 x4 (nI 1) r1 else m_X7_whose_B75 g K4 (m_X7_whose_L17 g K4 f) x1 x2 x4 (nI 0) r1))) else m_X7_whose_B90 g K4 x1 x2 x3
set_option maxRecDepth 100000 in
set_option maxHeartbeats 4000000 in
theorem t_X7_whose_L17 {p : Program} {l : Launch} {e : Env} {s : State} {m : MethodId} {args : Array Value} {below : List Frame} {meth : Method} {c : Code} {cells slots : Nat} {Q : Int32 → State → Prop} (z : zE) (gx : zG) (g : zG) (K4 : Int32 → Int32 → Option (Int32)) (hK4 : ∀ (x1 : Int32) (x2 : Int32), zJ dm p l e rm_X7_whose s m args below meth c cX7_whose 5 yX7_whose.cls z cells slots (wm z gx) (fn (fun _ => True) (fun _ => g) oi) .ireturn Q 4 [(0, .ref (za z 77 0)), (1, .int x1), (2, .int x2)] [] g (K4 x1 x2)) : ∀ (f : Nat) (x1 : Int32) (x2 : Int32) (x3 : Int32) (x4 : Int32), zJ dm p l e rm_X7_whose s m args below meth c cX7_whose 5 yX7_whose.cls z cells slots (wm z gx) (fn (fun _ => True) (fun _ => g) oi) .ireturn Q 17 [(0, .ref (za z 77 0)), (1, .int x1), (2, .int x2), (3, .int x3), (4, .int x4)] [] g (m_X7_whose_L17 g K4 f x1 x2 x3 x4) := by
  intro f
  induction f with
  | zero => intro x1 x2 x3 x4; exact j_none
  | succ f ih =>
    intro x1 x2 x3 x4
    refine j_eq (M2 := if x4 < (gi g 123 0 0) then if x3 = (nI 0) then m_X7_whose_B82 g K4 (m_X7_whose_L17 g K4 f) x1 x2 x4 else gd (inb ((nI 3) * x4) 18 = true) (gd (inb (((nI 3) * x4) + (nI 1)) 18 = true) ((m_X7_hasInFront g x2 (gi g 107 0 ((nI 3) * x4).toNatClampNeg) (gi g 107 0 (((nI 3) * x4) + (nI 1)).toNatClampNeg)).bind fun r1 => gd (inb (((nI 3) * x4) + (nI 2)) 18 = true) (if (gi g 107 0 (((nI 3) * x4) + (nI 2)).toNatClampNeg) = (nI 1) then m_X7_whose_B75 g K4 (m_X7_whose_L17 g K4 f) x1 x2 x4 (nI 1) r1 else m_X7_whose_B75 g K4 (m_X7_whose_L17 g K4 f) x1 x2 x4 (nI 0) r1))) else m_X7_whose_B90 g K4 x1 x2 x3) rfl ?_
    refine j_iload (q := 19) (i := 4) (n := 4) dX7_whose_17 rfl rfl ?_
    refine j_aload_n (q := 20) (i := 0) (n := 0) dX7_whose_19 rfl rfl rfl ?_
    refine g_X7_seenMany (q := 23) wF_X7_136 (Nat.le_of_ble_eq_true rfl) dX7_whose_20 rfl ?_
    refine j_icmp_ge (tgt := 90) (q := 26) dX7_whose_23 rfl rfl ?_ ?_
    · refine j_lv [0, 1, 2, 3] (lv' := [(0, .ref (za z 77 0)), (1, .int x1), (2, .int x2), (3, .int x3)]) rfl ?_
      exact t_X7_whose_B90 z gx g K4 hK4 x1 x2 x3
    · refine j_iload_n (q := 27) (i := 3) (n := 3) dX7_whose_26 rfl rfl rfl ?_
      refine j_if_eq (tgt := 82) (q := 30) dX7_whose_27 rfl rfl ?_ ?_
      · refine j_lv [0, 1, 2, 4] (lv' := [(0, .ref (za z 77 0)), (1, .int x1), (2, .int x2), (4, .int x4)]) rfl ?_
        exact t_X7_whose_B82 z gx g K4 (m_X7_whose_L17 g K4 f) hK4 ih x1 x2 x4
      · refine j_aload_n (q := 31) (i := 0) (n := 0) dX7_whose_30 rfl rfl rfl ?_
        refine j_iload_n (q := 32) (i := 2) (n := 2) dX7_whose_31 rfl rfl rfl ?_
        refine j_aload_n (q := 33) (i := 0) (n := 0) dX7_whose_32 rfl rfl rfl ?_
        refine g_X7_seen (q := 36) wF_X7_35 (Nat.le_of_ble_eq_true rfl) dX7_whose_33 rfl ?_
        refine j_iconst (q := 37) (v := (nI 3)) dX7_whose_36 rfl rfl ?_
        refine j_iload (q := 39) (i := 4) (n := 4) dX7_whose_37 rfl rfl ?_
        refine j_imul (q := 40) dX7_whose_39 rfl ?_
        refine am_ld (k := 107) (n := 18) (q := 41) isM_107 rfl (Nat.le_of_ble_eq_true rfl) dX7_whose_40 rfl ?_
        refine j_aload_n (q := 42) (i := 0) (n := 0) dX7_whose_41 rfl rfl rfl ?_
        refine g_X7_seen (q := 45) wF_X7_35 (Nat.le_of_ble_eq_true rfl) dX7_whose_42 rfl ?_
        refine j_iconst (q := 46) (v := (nI 3)) dX7_whose_45 rfl rfl ?_
        refine j_iload (q := 48) (i := 4) (n := 4) dX7_whose_46 rfl rfl ?_
        refine j_imul (q := 49) dX7_whose_48 rfl ?_
        refine j_iconst (q := 50) (v := (nI 1)) dX7_whose_49 rfl rfl ?_
        refine j_iadd (q := 51) dX7_whose_50 rfl ?_
        refine am_ld (k := 107) (n := 18) (q := 52) isM_107 rfl (Nat.le_of_ble_eq_true rfl) dX7_whose_51 rfl ?_
        refine j_ci (q := 55) (rn_V (R := rm_X7_whose) (As := [.int x2, .int (gi g 107 0 ((nI 3) * x4).toNatClampNeg), .int (gi g 107 0 (((nI 3) * x4) + (nI 1)).toNatClampNeg)]) (rest := []) (c_X7_hasInFront _ z gx g x2 (gi g 107 0 ((nI 3) * x4).toNatClampNeg) (gi g 107 0 (((nI 3) * x4) + (nI 1)).toNatClampNeg)) cv_X7_hasInFront wM_X7_227 ⟨rfl, rfl⟩ ⟨(Nat.le_of_ble_eq_true rfl), (Nat.le_of_ble_eq_true rfl)⟩ (Nat.le_of_ble_eq_true rfl) rfl rfl rfl (Nat.le_of_ble_eq_true rfl) dX7_whose_52) rfl (fun r1 => ?_)
        refine j_aload_n (q := 56) (i := 0) (n := 0) dX7_whose_55 rfl rfl rfl ?_
        refine g_X7_seen (q := 59) wF_X7_35 (Nat.le_of_ble_eq_true rfl) dX7_whose_56 rfl ?_
        refine j_iconst (q := 60) (v := (nI 3)) dX7_whose_59 rfl rfl ?_
        refine j_iload (q := 62) (i := 4) (n := 4) dX7_whose_60 rfl rfl ?_
        refine j_imul (q := 63) dX7_whose_62 rfl ?_
        refine j_iconst (q := 64) (v := (nI 2)) dX7_whose_63 rfl rfl ?_
        refine j_iadd (q := 65) dX7_whose_64 rfl ?_
        refine am_ld (k := 107) (n := 18) (q := 66) isM_107 rfl (Nat.le_of_ble_eq_true rfl) dX7_whose_65 rfl ?_
        refine j_iconst (q := 67) (v := (nI 1)) dX7_whose_66 rfl rfl ?_
        refine j_icmp_ne (tgt := 74) (q := 70) dX7_whose_67 rfl rfl ?_ ?_
        · refine j_iconst (q := 75) (v := (nI 0)) dX7_whose_74 rfl rfl ?_
          refine j_lv [0, 1, 2, 4] (lv' := [(0, .ref (za z 77 0)), (1, .int x1), (2, .int x2), (4, .int x4)]) rfl ?_
          exact t_X7_whose_B75 z gx g K4 (m_X7_whose_L17 g K4 f) hK4 ih x1 x2 x4 (nI 0) r1
        · refine j_iconst (q := 71) (v := (nI 1)) dX7_whose_70 rfl rfl ?_
          refine j_goto (tgt := 75) dX7_whose_71 rfl ?_
          refine j_lv [0, 1, 2, 4] (lv' := [(0, .ref (za z 77 0)), (1, .int x1), (2, .int x2), (4, .int x4)]) rfl ?_
          exact t_X7_whose_B75 z gx g K4 (m_X7_whose_L17 g K4 f) hK4 ih x1 x2 x4 (nI 1) r1
def m_X7_whose_L4 (g : zG) : Nat → Int32 → Int32 → Option (Int32)
  | 0, _, _ => none
  | f + 1, x1, x2 => if x2 < (gi g 120 0 0) then m_X7_whose_L17 g (m_X7_whose_L4 g f) FU x1 x2 (nI 1) (nI 0) else some x1
set_option maxRecDepth 100000 in
set_option maxHeartbeats 4000000 in
theorem t_X7_whose_L4 {p : Program} {l : Launch} {e : Env} {s : State} {m : MethodId} {args : Array Value} {below : List Frame} {meth : Method} {c : Code} {cells slots : Nat} {Q : Int32 → State → Prop} (z : zE) (gx : zG) (g : zG) : ∀ (f : Nat) (x1 : Int32) (x2 : Int32), zJ dm p l e rm_X7_whose s m args below meth c cX7_whose 5 yX7_whose.cls z cells slots (wm z gx) (fn (fun _ => True) (fun _ => g) oi) .ireturn Q 4 [(0, .ref (za z 77 0)), (1, .int x1), (2, .int x2)] [] g (m_X7_whose_L4 g f x1 x2) := by
  intro f
  induction f with
  | zero => intro x1 x2; exact j_none
  | succ f ih =>
    intro x1 x2
    refine j_eq (M2 := if x2 < (gi g 120 0 0) then m_X7_whose_L17 g (m_X7_whose_L4 g f) FU x1 x2 (nI 1) (nI 0) else some x1) rfl ?_
    refine j_iload_n (q := 5) (i := 2) (n := 2) dX7_whose_4 rfl rfl rfl ?_
    refine j_aload_n (q := 6) (i := 0) (n := 0) dX7_whose_5 rfl rfl rfl ?_
    refine g_X7_jobs (q := 9) wF_X7_66 (Nat.le_of_ble_eq_true rfl) dX7_whose_6 rfl ?_
    refine j_icmp_ge (tgt := 110) (q := 12) dX7_whose_9 rfl rfl ?_ ?_
    · refine j_iload_n (q := 111) (i := 1) (n := 1) dX7_whose_110 rfl rfl rfl ?_
      exact j_ret (x := x1) dX7_whose_111 ⟨trivial, rfl, rfl⟩
    · refine j_iconst (q := 13) (v := (nI 1)) dX7_whose_12 rfl rfl ?_
      refine j_istore_n (q := 14) (n := 3) (lv' := [(3, .int (nI 1)), (0, .ref (za z 77 0)), (1, .int x1), (2, .int x2)]) dX7_whose_13 rfl (Nat.le_of_ble_eq_true rfl) rfl rfl ?_
      refine j_iconst (q := 15) (v := (nI 0)) dX7_whose_14 rfl rfl ?_
      refine j_istore (q := 17) (n := 4) (lv' := [(4, .int (nI 0)), (3, .int (nI 1)), (0, .ref (za z 77 0)), (1, .int x1), (2, .int x2)]) dX7_whose_15 (Nat.le_of_ble_eq_true rfl) rfl rfl ?_
      refine j_lv [2, 3, 4, 1, 0] (lv' := [(0, .ref (za z 77 0)), (1, .int x1), (2, .int x2), (3, .int (nI 1)), (4, .int (nI 0))]) rfl ?_
      exact t_X7_whose_L17 z gx g (m_X7_whose_L4 g f) ih FU x1 x2 (nI 1) (nI 0)
def m_X7_whose (g : zG) : Option (Int32) := m_X7_whose_L4 g FU (nI 0) (nI 0)
set_option maxRecDepth 100000 in
set_option maxHeartbeats 4000000 in
theorem c_X7_whose (l : Launch) (z : zE) (gx : zG) (g : zG) : ∀ x, m_X7_whose g = some x → Ms dm l yX7_whose cX7_whose 5 (some .int) rm_X7_whose z [.ref (za z 77 0)] ((wm z gx) g) (oi x) ((wm z gx) ((fun _ => g) x)) := by
  refine ms_of (Wf := (wm z gx)) (ri := .ireturn) (out := oi) (nxt := (fun _ => g)) (ok := (fun _ => True)) (lv := [(0, .ref (za z 77 0))]) (by decide) ⟨rfl, rfl⟩ (Nat.le_of_ble_eq_true rfl) rfl (en_i (out := fun x => x)) (fun p e s m below meth c => ?_)
  refine j_eq (M2 := m_X7_whose_L4 g FU (nI 0) (nI 0)) rfl ?_
  refine j_iconst (q := 1) (v := (nI 0)) dX7_whose_0 rfl rfl ?_
  refine j_istore_n (q := 2) (n := 1) (lv' := [(1, .int (nI 0)), (0, .ref (za z 77 0))]) dX7_whose_1 rfl (Nat.le_of_ble_eq_true rfl) rfl rfl ?_
  refine j_iconst (q := 3) (v := (nI 0)) dX7_whose_2 rfl rfl ?_
  refine j_istore_n (q := 4) (n := 2) (lv' := [(2, .int (nI 0)), (1, .int (nI 0)), (0, .ref (za z 77 0))]) dX7_whose_3 rfl (Nat.le_of_ble_eq_true rfl) rfl rfl ?_
  refine j_lv [2, 1, 0] (lv' := [(0, .ref (za z 77 0)), (1, .int (nI 0)), (2, .int (nI 0))]) rfl ?_
  exact t_X7_whose_L4 z gx g FU (nI 0) (nI 0)
-- CopierJobsModel.look()I
abbrev rm_X7_look : Room := { frames := 5, cells := 0, slots := 0, locals := 112 }
theorem cv_X7_look : CV yX7_look cX7_look 9 (some .int) 0 := ⟨wC_X7_look, wI_X7_look, wS_X7_look, wZ_X7, by decide +kernel⟩
def m_X7_look_B165 (g : zG) (K40 : Int32 → Int32 → Int32 → Int32 → Int32 → Option (Int32)) (K50 : Int32 → Int32 → Int32 → Int32 → Int32 → Int32 → Option (Int32)) (x1 : Int32) (x2 : Int32) (x3 : Int32) (x5 : Int32) (x6 : Int32) (s0 : Int32) : Option (Int32) := K50 x1 x2 x3 s0 x5 (x6 + (nI 1))
set_option maxRecDepth 100000 in
set_option maxHeartbeats 4000000 in
theorem t_X7_look_B165 {p : Program} {l : Launch} {e : Env} {s : State} {m : MethodId} {args : Array Value} {below : List Frame} {meth : Method} {c : Code} {cells slots : Nat} {Q : Int32 → State → Prop} (z : zE) (gx : zG) (g : zG) (K40 : Int32 → Int32 → Int32 → Int32 → Int32 → Option (Int32)) (K50 : Int32 → Int32 → Int32 → Int32 → Int32 → Int32 → Option (Int32)) (hK40 : ∀ (x1 : Int32) (x2 : Int32) (x3 : Int32) (x4 : Int32) (x5 : Int32), zJ dm p l e rm_X7_look s m args below meth c cX7_look 9 yX7_look.cls z cells slots (wm z gx) (fn (fun _ => True) (fun _ => g) oi) .ireturn Q 40 [(0, .ref (za z 77 0)), (1, .int x1), (2, .int x2), (3, .int x3), (4, .int x4), (5, .int x5)] [] g (K40 x1 x2 x3 x4 x5)) (hK50 : ∀ (x1 : Int32) (x2 : Int32) (x3 : Int32) (x4 : Int32) (x5 : Int32) (x6 : Int32), zJ dm p l e rm_X7_look s m args below meth c cX7_look 9 yX7_look.cls z cells slots (wm z gx) (fn (fun _ => True) (fun _ => g) oi) .ireturn Q 50 [(0, .ref (za z 77 0)), (1, .int x1), (2, .int x2), (3, .int x3), (4, .int x4), (5, .int x5), (6, .int x6)] [] g (K50 x1 x2 x3 x4 x5 x6)) (x1 : Int32) (x2 : Int32) (x3 : Int32) (x5 : Int32) (x6 : Int32) (s0 : Int32) : zJ dm p l e rm_X7_look s m args below meth c cX7_look 9 yX7_look.cls z cells slots (wm z gx) (fn (fun _ => True) (fun _ => g) oi) .ireturn Q 165 [(0, .ref (za z 77 0)), (1, .int x1), (2, .int x2), (3, .int x3), (5, .int x5), (6, .int x6)] [.int s0] g (m_X7_look_B165 g K40 K50 x1 x2 x3 x5 x6 s0) := by
  refine j_eq (M2 := K50 x1 x2 x3 s0 x5 (x6 + (nI 1))) rfl ?_
  refine j_istore (q := 167) (n := 4) (lv' := [(4, .int s0), (0, .ref (za z 77 0)), (1, .int x1), (2, .int x2), (3, .int x3), (5, .int x5), (6, .int x6)]) dX7_look_165 (Nat.le_of_ble_eq_true rfl) rfl rfl ?_
  refine j_iinc (q := 170) (n := 6) (i := 6) (v := x6 + (nI 1)) (lv' := [(6, .int (x6 + (nI 1))), (4, .int s0), (0, .ref (za z 77 0)), (1, .int x1), (2, .int x2), (3, .int x3), (5, .int x5)]) dX7_look_167 rfl rfl (Nat.le_of_ble_eq_true rfl) rfl rfl ?_
  refine j_goto (tgt := 50) dX7_look_170 rfl ?_
  refine j_lv [2, 3, 4, 5, 1, 6, 0] (lv' := [(0, .ref (za z 77 0)), (1, .int x1), (2, .int x2), (3, .int x3), (4, .int s0), (5, .int x5), (6, .int (x6 + (nI 1)))]) rfl ?_
  exact hK50 x1 x2 x3 s0 x5 (x6 + (nI 1))
def m_X7_look_B150 (g : zG) (K40 : Int32 → Int32 → Int32 → Int32 → Int32 → Option (Int32)) (K50 : Int32 → Int32 → Int32 → Int32 → Int32 → Int32 → Option (Int32)) (x1 : Int32) (x2 : Int32) (x4 : Int32) (x5 : Int32) (x6 : Int32) (x8 : Int32) (s0 : Int32) : Option (Int32) := if x8 < x4 then m_X7_look_B165 g K40 K50 x1 x2 s0 x5 x6 x8 else m_X7_look_B165 g K40 K50 x1 x2 s0 x5 x6 x4
set_option maxRecDepth 100000 in
set_option maxHeartbeats 4000000 in
theorem t_X7_look_B150 {p : Program} {l : Launch} {e : Env} {s : State} {m : MethodId} {args : Array Value} {below : List Frame} {meth : Method} {c : Code} {cells slots : Nat} {Q : Int32 → State → Prop} (z : zE) (gx : zG) (g : zG) (K40 : Int32 → Int32 → Int32 → Int32 → Int32 → Option (Int32)) (K50 : Int32 → Int32 → Int32 → Int32 → Int32 → Int32 → Option (Int32)) (hK40 : ∀ (x1 : Int32) (x2 : Int32) (x3 : Int32) (x4 : Int32) (x5 : Int32), zJ dm p l e rm_X7_look s m args below meth c cX7_look 9 yX7_look.cls z cells slots (wm z gx) (fn (fun _ => True) (fun _ => g) oi) .ireturn Q 40 [(0, .ref (za z 77 0)), (1, .int x1), (2, .int x2), (3, .int x3), (4, .int x4), (5, .int x5)] [] g (K40 x1 x2 x3 x4 x5)) (hK50 : ∀ (x1 : Int32) (x2 : Int32) (x3 : Int32) (x4 : Int32) (x5 : Int32) (x6 : Int32), zJ dm p l e rm_X7_look s m args below meth c cX7_look 9 yX7_look.cls z cells slots (wm z gx) (fn (fun _ => True) (fun _ => g) oi) .ireturn Q 50 [(0, .ref (za z 77 0)), (1, .int x1), (2, .int x2), (3, .int x3), (4, .int x4), (5, .int x5), (6, .int x6)] [] g (K50 x1 x2 x3 x4 x5 x6)) (x1 : Int32) (x2 : Int32) (x4 : Int32) (x5 : Int32) (x6 : Int32) (x8 : Int32) (s0 : Int32) : zJ dm p l e rm_X7_look s m args below meth c cX7_look 9 yX7_look.cls z cells slots (wm z gx) (fn (fun _ => True) (fun _ => g) oi) .ireturn Q 150 [(0, .ref (za z 77 0)), (1, .int x1), (2, .int x2), (4, .int x4), (5, .int x5), (6, .int x6), (8, .int x8)] [.int s0] g (m_X7_look_B150 g K40 K50 x1 x2 x4 x5 x6 x8 s0) := by
  refine j_eq (M2 := if x8 < x4 then m_X7_look_B165 g K40 K50 x1 x2 s0 x5 x6 x8 else m_X7_look_B165 g K40 K50 x1 x2 s0 x5 x6 x4) rfl ?_
  refine j_istore_n (q := 151) (n := 3) (lv' := [(3, .int s0), (0, .ref (za z 77 0)), (1, .int x1), (2, .int x2), (4, .int x4), (5, .int x5), (6, .int x6), (8, .int x8)]) dX7_look_150 rfl (Nat.le_of_ble_eq_true rfl) rfl rfl ?_
  refine j_iload (q := 153) (i := 7) (n := 8) dX7_look_151 rfl rfl ?_
  refine j_iload (q := 155) (i := 4) (n := 4) dX7_look_153 rfl rfl ?_
  refine j_icmp_ge (tgt := 163) (q := 158) dX7_look_155 rfl rfl ?_ ?_
  · refine j_iload (q := 165) (i := 4) (n := 4) dX7_look_163 rfl rfl ?_
    refine j_lv [1, 2, 3, 0, 5, 6] (lv' := [(0, .ref (za z 77 0)), (1, .int x1), (2, .int x2), (3, .int s0), (5, .int x5), (6, .int x6)]) rfl ?_
    exact t_X7_look_B165 z gx g K40 K50 hK40 hK50 x1 x2 s0 x5 x6 x4
  · refine j_iload (q := 160) (i := 7) (n := 8) dX7_look_158 rfl rfl ?_
    refine j_goto (tgt := 165) dX7_look_160 rfl ?_
    refine j_lv [1, 2, 3, 0, 5, 6] (lv' := [(0, .ref (za z 77 0)), (1, .int x1), (2, .int x2), (3, .int s0), (5, .int x5), (6, .int x6)]) rfl ?_
    exact t_X7_look_B165 z gx g K40 K50 hK40 hK50 x1 x2 s0 x5 x6 x8
def m_X7_look_B129 (g : zG) (K40 : Int32 → Int32 → Int32 → Int32 → Int32 → Option (Int32)) (K50 : Int32 → Int32 → Int32 → Int32 → Int32 → Int32 → Option (Int32)) (x1 : Int32) (x2 : Int32) (x3 : Int32) (x4 : Int32) (x5 : Int32) (x6 : Int32) (s0 : Int32) : Option (Int32) := if s0 < x4 then m_X7_look_B150 g K40 K50 x1 x2 x4 x5 x6 s0 (((nI 10) * x5) + x6) else m_X7_look_B150 g K40 K50 x1 x2 x4 x5 x6 s0 x3
set_option maxRecDepth 100000 in
set_option maxHeartbeats 4000000 in
theorem t_X7_look_B129 {p : Program} {l : Launch} {e : Env} {s : State} {m : MethodId} {args : Array Value} {below : List Frame} {meth : Method} {c : Code} {cells slots : Nat} {Q : Int32 → State → Prop} (z : zE) (gx : zG) (g : zG) (K40 : Int32 → Int32 → Int32 → Int32 → Int32 → Option (Int32)) (K50 : Int32 → Int32 → Int32 → Int32 → Int32 → Int32 → Option (Int32)) (hK40 : ∀ (x1 : Int32) (x2 : Int32) (x3 : Int32) (x4 : Int32) (x5 : Int32), zJ dm p l e rm_X7_look s m args below meth c cX7_look 9 yX7_look.cls z cells slots (wm z gx) (fn (fun _ => True) (fun _ => g) oi) .ireturn Q 40 [(0, .ref (za z 77 0)), (1, .int x1), (2, .int x2), (3, .int x3), (4, .int x4), (5, .int x5)] [] g (K40 x1 x2 x3 x4 x5)) (hK50 : ∀ (x1 : Int32) (x2 : Int32) (x3 : Int32) (x4 : Int32) (x5 : Int32) (x6 : Int32), zJ dm p l e rm_X7_look s m args below meth c cX7_look 9 yX7_look.cls z cells slots (wm z gx) (fn (fun _ => True) (fun _ => g) oi) .ireturn Q 50 [(0, .ref (za z 77 0)), (1, .int x1), (2, .int x2), (3, .int x3), (4, .int x4), (5, .int x5), (6, .int x6)] [] g (K50 x1 x2 x3 x4 x5 x6)) (x1 : Int32) (x2 : Int32) (x3 : Int32) (x4 : Int32) (x5 : Int32) (x6 : Int32) (s0 : Int32) : zJ dm p l e rm_X7_look s m args below meth c cX7_look 9 yX7_look.cls z cells slots (wm z gx) (fn (fun _ => True) (fun _ => g) oi) .ireturn Q 129 [(0, .ref (za z 77 0)), (1, .int x1), (2, .int x2), (3, .int x3), (4, .int x4), (5, .int x5), (6, .int x6)] [.int s0] g (m_X7_look_B129 g K40 K50 x1 x2 x3 x4 x5 x6 s0) := by
  refine j_eq (M2 := if s0 < x4 then m_X7_look_B150 g K40 K50 x1 x2 x4 x5 x6 s0 (((nI 10) * x5) + x6) else m_X7_look_B150 g K40 K50 x1 x2 x4 x5 x6 s0 x3) rfl ?_
  refine j_istore (q := 131) (n := 8) (lv' := [(8, .int s0), (0, .ref (za z 77 0)), (1, .int x1), (2, .int x2), (3, .int x3), (4, .int x4), (5, .int x5), (6, .int x6)]) dX7_look_129 (Nat.le_of_ble_eq_true rfl) rfl rfl ?_
  refine j_iload (q := 133) (i := 0) (n := 8) dX7_look_131 rfl rfl ?_
  refine j_iload (q := 135) (i := 5) (n := 4) dX7_look_133 rfl rfl ?_
  refine j_icmp_ge (tgt := 149) (q := 138) dX7_look_135 rfl rfl ?_ ?_
  · refine j_iload_n (q := 150) (i := 4) (n := 3) dX7_look_149 rfl rfl rfl ?_
    refine j_lv [1, 2, 3, 5, 6, 7, 0] (lv' := [(0, .ref (za z 77 0)), (1, .int x1), (2, .int x2), (4, .int x4), (5, .int x5), (6, .int x6), (8, .int s0)]) rfl ?_
    exact t_X7_look_B150 z gx g K40 K50 hK40 hK50 x1 x2 x4 x5 x6 s0 x3
  · refine j_bipush (q := 140) (v := (nI 10)) dX7_look_138 rfl rfl ?_
    refine j_iload (q := 142) (i := 6) (n := 5) dX7_look_140 rfl rfl ?_
    refine j_imul (q := 143) dX7_look_142 rfl ?_
    refine j_iload (q := 145) (i := 7) (n := 6) dX7_look_143 rfl rfl ?_
    refine j_iadd (q := 146) dX7_look_145 rfl ?_
    refine j_goto (tgt := 150) dX7_look_146 rfl ?_
    refine j_lv [1, 2, 3, 5, 6, 7, 0] (lv' := [(0, .ref (za z 77 0)), (1, .int x1), (2, .int x2), (4, .int x4), (5, .int x5), (6, .int x6), (8, .int s0)]) rfl ?_
    exact t_X7_look_B150 z gx g K40 K50 hK40 hK50 x1 x2 x4 x5 x6 s0 (((nI 10) * x5) + x6)
def m_X7_look_B111 (g : zG) (K40 : Int32 → Int32 → Int32 → Int32 → Int32 → Option (Int32)) (K50 : Int32 → Int32 → Int32 → Int32 → Int32 → Int32 → Option (Int32)) (x1 : Int32) (x2 : Int32) (x3 : Int32) (x4 : Int32) (x5 : Int32) (x6 : Int32) (x7 : Int32) : Option (Int32) := if (x2 - x7) < x7 then m_X7_look_B129 g K40 K50 x1 x2 x3 x4 x5 x6 x7 else m_X7_look_B129 g K40 K50 x1 x2 x3 x4 x5 x6 (x2 - x7)
set_option maxRecDepth 100000 in
set_option maxHeartbeats 4000000 in
theorem t_X7_look_B111 {p : Program} {l : Launch} {e : Env} {s : State} {m : MethodId} {args : Array Value} {below : List Frame} {meth : Method} {c : Code} {cells slots : Nat} {Q : Int32 → State → Prop} (z : zE) (gx : zG) (g : zG) (K40 : Int32 → Int32 → Int32 → Int32 → Int32 → Option (Int32)) (K50 : Int32 → Int32 → Int32 → Int32 → Int32 → Int32 → Option (Int32)) (hK40 : ∀ (x1 : Int32) (x2 : Int32) (x3 : Int32) (x4 : Int32) (x5 : Int32), zJ dm p l e rm_X7_look s m args below meth c cX7_look 9 yX7_look.cls z cells slots (wm z gx) (fn (fun _ => True) (fun _ => g) oi) .ireturn Q 40 [(0, .ref (za z 77 0)), (1, .int x1), (2, .int x2), (3, .int x3), (4, .int x4), (5, .int x5)] [] g (K40 x1 x2 x3 x4 x5)) (hK50 : ∀ (x1 : Int32) (x2 : Int32) (x3 : Int32) (x4 : Int32) (x5 : Int32) (x6 : Int32), zJ dm p l e rm_X7_look s m args below meth c cX7_look 9 yX7_look.cls z cells slots (wm z gx) (fn (fun _ => True) (fun _ => g) oi) .ireturn Q 50 [(0, .ref (za z 77 0)), (1, .int x1), (2, .int x2), (3, .int x3), (4, .int x4), (5, .int x5), (6, .int x6)] [] g (K50 x1 x2 x3 x4 x5 x6)) (x1 : Int32) (x2 : Int32) (x3 : Int32) (x4 : Int32) (x5 : Int32) (x6 : Int32) (x7 : Int32) : zJ dm p l e rm_X7_look s m args below meth c cX7_look 9 yX7_look.cls z cells slots (wm z gx) (fn (fun _ => True) (fun _ => g) oi) .ireturn Q 111 [(0, .ref (za z 77 0)), (1, .int x1), (2, .int x2), (3, .int x3), (4, .int x4), (5, .int x5), (6, .int x6), (7, .int x7)] [] g (m_X7_look_B111 g K40 K50 x1 x2 x3 x4 x5 x6 x7) := by
  refine j_eq (M2 := if (x2 - x7) < x7 then m_X7_look_B129 g K40 K50 x1 x2 x3 x4 x5 x6 x7 else m_X7_look_B129 g K40 K50 x1 x2 x3 x4 x5 x6 (x2 - x7)) rfl ?_
  refine j_iload (q := 113) (i := 7) (n := 7) dX7_look_111 rfl rfl ?_
  refine j_iload_n (q := 114) (i := 2) (n := 2) dX7_look_113 rfl rfl rfl ?_
  refine j_iload (q := 116) (i := 7) (n := 7) dX7_look_114 rfl rfl ?_
  refine j_isub (q := 117) dX7_look_116 rfl ?_
  refine j_icmp_le (tgt := 125) (q := 120) dX7_look_117 rfl rfl ?_ ?_
  · refine j_iload_n (q := 126) (i := 2) (n := 2) dX7_look_125 rfl rfl rfl ?_
    refine j_iload (q := 128) (i := 7) (n := 7) dX7_look_126 rfl rfl ?_
    refine j_isub (q := 129) dX7_look_128 rfl ?_
    refine j_lv [0, 1, 2, 3, 4, 5, 6] (lv' := [(0, .ref (za z 77 0)), (1, .int x1), (2, .int x2), (3, .int x3), (4, .int x4), (5, .int x5), (6, .int x6)]) rfl ?_
    exact t_X7_look_B129 z gx g K40 K50 hK40 hK50 x1 x2 x3 x4 x5 x6 (x2 - x7)
  · refine j_iload (q := 122) (i := 7) (n := 7) dX7_look_120 rfl rfl ?_
    refine j_goto (tgt := 129) dX7_look_122 rfl ?_
    refine j_lv [0, 1, 2, 3, 4, 5, 6] (lv' := [(0, .ref (za z 77 0)), (1, .int x1), (2, .int x2), (3, .int x3), (4, .int x4), (5, .int x5), (6, .int x6)]) rfl ?_
    exact t_X7_look_B129 z gx g K40 K50 hK40 hK50 x1 x2 x3 x4 x5 x6 x7
def m_X7_look_B102 (g : zG) (K40 : Int32 → Int32 → Int32 → Int32 → Int32 → Option (Int32)) (K50 : Int32 → Int32 → Int32 → Int32 → Int32 → Int32 → Option (Int32)) (K63 : Int32 → Int32 → Int32 → Int32 → Int32 → Int32 → Int32 → Int32 → Option (Int32)) (x1 : Int32) (x2 : Int32) (x3 : Int32) (x4 : Int32) (x5 : Int32) (x6 : Int32) (x8 : Int32) (s0 : Int32) (s1 : Int32) : Option (Int32) := K63 x1 x2 x3 x4 x5 x6 (s1 + s0) (x8 + (nI 1))
set_option maxRecDepth 100000 in
set_option maxHeartbeats 4000000 in
theorem t_X7_look_B102 {p : Program} {l : Launch} {e : Env} {s : State} {m : MethodId} {args : Array Value} {below : List Frame} {meth : Method} {c : Code} {cells slots : Nat} {Q : Int32 → State → Prop} (z : zE) (gx : zG) (g : zG) (K40 : Int32 → Int32 → Int32 → Int32 → Int32 → Option (Int32)) (K50 : Int32 → Int32 → Int32 → Int32 → Int32 → Int32 → Option (Int32)) (K63 : Int32 → Int32 → Int32 → Int32 → Int32 → Int32 → Int32 → Int32 → Option (Int32)) (hK40 : ∀ (x1 : Int32) (x2 : Int32) (x3 : Int32) (x4 : Int32) (x5 : Int32), zJ dm p l e rm_X7_look s m args below meth c cX7_look 9 yX7_look.cls z cells slots (wm z gx) (fn (fun _ => True) (fun _ => g) oi) .ireturn Q 40 [(0, .ref (za z 77 0)), (1, .int x1), (2, .int x2), (3, .int x3), (4, .int x4), (5, .int x5)] [] g (K40 x1 x2 x3 x4 x5)) (hK50 : ∀ (x1 : Int32) (x2 : Int32) (x3 : Int32) (x4 : Int32) (x5 : Int32) (x6 : Int32), zJ dm p l e rm_X7_look s m args below meth c cX7_look 9 yX7_look.cls z cells slots (wm z gx) (fn (fun _ => True) (fun _ => g) oi) .ireturn Q 50 [(0, .ref (za z 77 0)), (1, .int x1), (2, .int x2), (3, .int x3), (4, .int x4), (5, .int x5), (6, .int x6)] [] g (K50 x1 x2 x3 x4 x5 x6)) (hK63 : ∀ (x1 : Int32) (x2 : Int32) (x3 : Int32) (x4 : Int32) (x5 : Int32) (x6 : Int32) (x7 : Int32) (x8 : Int32), zJ dm p l e rm_X7_look s m args below meth c cX7_look 9 yX7_look.cls z cells slots (wm z gx) (fn (fun _ => True) (fun _ => g) oi) .ireturn Q 63 [(0, .ref (za z 77 0)), (1, .int x1), (2, .int x2), (3, .int x3), (4, .int x4), (5, .int x5), (6, .int x6), (7, .int x7), (8, .int x8)] [] g (K63 x1 x2 x3 x4 x5 x6 x7 x8)) (x1 : Int32) (x2 : Int32) (x3 : Int32) (x4 : Int32) (x5 : Int32) (x6 : Int32) (x8 : Int32) (s0 : Int32) (s1 : Int32) : zJ dm p l e rm_X7_look s m args below meth c cX7_look 9 yX7_look.cls z cells slots (wm z gx) (fn (fun _ => True) (fun _ => g) oi) .ireturn Q 102 [(0, .ref (za z 77 0)), (1, .int x1), (2, .int x2), (3, .int x3), (4, .int x4), (5, .int x5), (6, .int x6), (8, .int x8)] [.int s0, .int s1] g (m_X7_look_B102 g K40 K50 K63 x1 x2 x3 x4 x5 x6 x8 s0 s1) := by
  refine j_eq (M2 := K63 x1 x2 x3 x4 x5 x6 (s1 + s0) (x8 + (nI 1))) rfl ?_
  refine j_iadd (q := 103) dX7_look_102 rfl ?_
  refine j_istore (q := 105) (n := 7) (lv' := [(7, .int (s1 + s0)), (0, .ref (za z 77 0)), (1, .int x1), (2, .int x2), (3, .int x3), (4, .int x4), (5, .int x5), (6, .int x6), (8, .int x8)]) dX7_look_103 (Nat.le_of_ble_eq_true rfl) rfl rfl ?_
  refine j_iinc (q := 108) (n := 8) (i := 8) (v := x8 + (nI 1)) (lv' := [(8, .int (x8 + (nI 1))), (7, .int (s1 + s0)), (0, .ref (za z 77 0)), (1, .int x1), (2, .int x2), (3, .int x3), (4, .int x4), (5, .int x5), (6, .int x6)]) dX7_look_105 rfl rfl (Nat.le_of_ble_eq_true rfl) rfl rfl ?_
  refine j_goto (tgt := 63) dX7_look_108 rfl ?_
  refine j_lv [2, 3, 4, 5, 6, 7, 8, 1, 0] (lv' := [(0, .ref (za z 77 0)), (1, .int x1), (2, .int x2), (3, .int x3), (4, .int x4), (5, .int x5), (6, .int x6), (7, .int (s1 + s0)), (8, .int (x8 + (nI 1)))]) rfl ?_
  exact hK63 x1 x2 x3 x4 x5 x6 (s1 + s0) (x8 + (nI 1))
def m_X7_look_B101 (g : zG) (K40 : Int32 → Int32 → Int32 → Int32 → Int32 → Option (Int32)) (K50 : Int32 → Int32 → Int32 → Int32 → Int32 → Int32 → Option (Int32)) (K63 : Int32 → Int32 → Int32 → Int32 → Int32 → Int32 → Int32 → Int32 → Option (Int32)) (x1 : Int32) (x2 : Int32) (x3 : Int32) (x4 : Int32) (x5 : Int32) (x6 : Int32) (x8 : Int32) (s0 : Int32) : Option (Int32) := m_X7_look_B102 g K40 K50 K63 x1 x2 x3 x4 x5 x6 x8 (nI 0) s0
set_option maxRecDepth 100000 in
set_option maxHeartbeats 4000000 in
theorem t_X7_look_B101 {p : Program} {l : Launch} {e : Env} {s : State} {m : MethodId} {args : Array Value} {below : List Frame} {meth : Method} {c : Code} {cells slots : Nat} {Q : Int32 → State → Prop} (z : zE) (gx : zG) (g : zG) (K40 : Int32 → Int32 → Int32 → Int32 → Int32 → Option (Int32)) (K50 : Int32 → Int32 → Int32 → Int32 → Int32 → Int32 → Option (Int32)) (K63 : Int32 → Int32 → Int32 → Int32 → Int32 → Int32 → Int32 → Int32 → Option (Int32)) (hK40 : ∀ (x1 : Int32) (x2 : Int32) (x3 : Int32) (x4 : Int32) (x5 : Int32), zJ dm p l e rm_X7_look s m args below meth c cX7_look 9 yX7_look.cls z cells slots (wm z gx) (fn (fun _ => True) (fun _ => g) oi) .ireturn Q 40 [(0, .ref (za z 77 0)), (1, .int x1), (2, .int x2), (3, .int x3), (4, .int x4), (5, .int x5)] [] g (K40 x1 x2 x3 x4 x5)) (hK50 : ∀ (x1 : Int32) (x2 : Int32) (x3 : Int32) (x4 : Int32) (x5 : Int32) (x6 : Int32), zJ dm p l e rm_X7_look s m args below meth c cX7_look 9 yX7_look.cls z cells slots (wm z gx) (fn (fun _ => True) (fun _ => g) oi) .ireturn Q 50 [(0, .ref (za z 77 0)), (1, .int x1), (2, .int x2), (3, .int x3), (4, .int x4), (5, .int x5), (6, .int x6)] [] g (K50 x1 x2 x3 x4 x5 x6)) (hK63 : ∀ (x1 : Int32) (x2 : Int32) (x3 : Int32) (x4 : Int32) (x5 : Int32) (x6 : Int32) (x7 : Int32) (x8 : Int32), zJ dm p l e rm_X7_look s m args below meth c cX7_look 9 yX7_look.cls z cells slots (wm z gx) (fn (fun _ => True) (fun _ => g) oi) .ireturn Q 63 [(0, .ref (za z 77 0)), (1, .int x1), (2, .int x2), (3, .int x3), (4, .int x4), (5, .int x5), (6, .int x6), (7, .int x7), (8, .int x8)] [] g (K63 x1 x2 x3 x4 x5 x6 x7 x8)) (x1 : Int32) (x2 : Int32) (x3 : Int32) (x4 : Int32) (x5 : Int32) (x6 : Int32) (x8 : Int32) (s0 : Int32) : zJ dm p l e rm_X7_look s m args below meth c cX7_look 9 yX7_look.cls z cells slots (wm z gx) (fn (fun _ => True) (fun _ => g) oi) .ireturn Q 101 [(0, .ref (za z 77 0)), (1, .int x1), (2, .int x2), (3, .int x3), (4, .int x4), (5, .int x5), (6, .int x6), (8, .int x8)] [.int s0] g (m_X7_look_B101 g K40 K50 K63 x1 x2 x3 x4 x5 x6 x8 s0) := by
  refine j_eq (M2 := m_X7_look_B102 g K40 K50 K63 x1 x2 x3 x4 x5 x6 x8 (nI 0) s0) rfl ?_
  refine j_iconst (q := 102) (v := (nI 0)) dX7_look_101 rfl rfl ?_
  exact t_X7_look_B102 z gx g K40 K50 K63 hK40 hK50 hK63 x1 x2 x3 x4 x5 x6 x8 (nI 0) s0
def m_X7_look_L63 (g : zG) (K40 : Int32 → Int32 → Int32 → Int32 → Int32 → Option (Int32)) (K50 : Int32 → Int32 → Int32 → Int32 → Int32 → Int32 → Option (Int32)) : Nat → Int32 → Int32 → Int32 → Int32 → Int32 → Int32 → Int32 → Int32 → Option (Int32)
  | 0, _, _, _, _, _, _, _, _ => none
  | f + 1, x1, x2, x3, x4, x5, x6, x7, x8 => if x8 < (gi g 120 0 0) then if ((x1 >>> (x8 &&& 31)) &&& (nI 1)) = (nI 1) then (m_X7_hasInFront g x8 x5 x6).bind fun r2 => if r2 = (nI 0) then m_X7_look_B101 g K40 K50 (m_X7_look_L63 g K40 K50 f) x1 x2 x3 x4 x5 x6 x8 x7 else m_X7_look_B102 g K40 K50 (m_X7_look_L63 g K40 K50 f) x1 x2 x3 x4 x5 x6 x8 (nI 1) x7 else m_X7_look_B101 g K40 K50 (m_X7_look_L63 g K40 K50 f) x1 x2 x3 x4 x5 x6 x8 x7 else m_X7_look_B111 g K40 K50 x1 x2 x3 x4 x5 x6 x7
set_option maxRecDepth 100000 in
set_option maxHeartbeats 4000000 in
theorem t_X7_look_L63 {p : Program} {l : Launch} {e : Env} {s : State} {m : MethodId} {args : Array Value} {below : List Frame} {meth : Method} {c : Code} {cells slots : Nat} {Q : Int32 → State → Prop} (z : zE) (gx : zG) (g : zG) (K40 : Int32 → Int32 → Int32 → Int32 → Int32 → Option (Int32)) (K50 : Int32 → Int32 → Int32 → Int32 → Int32 → Int32 → Option (Int32)) (hK40 : ∀ (x1 : Int32) (x2 : Int32) (x3 : Int32) (x4 : Int32) (x5 : Int32), zJ dm p l e rm_X7_look s m args below meth c cX7_look 9 yX7_look.cls z cells slots (wm z gx) (fn (fun _ => True) (fun _ => g) oi) .ireturn Q 40 [(0, .ref (za z 77 0)), (1, .int x1), (2, .int x2), (3, .int x3), (4, .int x4), (5, .int x5)] [] g (K40 x1 x2 x3 x4 x5)) (hK50 : ∀ (x1 : Int32) (x2 : Int32) (x3 : Int32) (x4 : Int32) (x5 : Int32) (x6 : Int32), zJ dm p l e rm_X7_look s m args below meth c cX7_look 9 yX7_look.cls z cells slots (wm z gx) (fn (fun _ => True) (fun _ => g) oi) .ireturn Q 50 [(0, .ref (za z 77 0)), (1, .int x1), (2, .int x2), (3, .int x3), (4, .int x4), (5, .int x5), (6, .int x6)] [] g (K50 x1 x2 x3 x4 x5 x6)) : ∀ (f : Nat) (x1 : Int32) (x2 : Int32) (x3 : Int32) (x4 : Int32) (x5 : Int32) (x6 : Int32) (x7 : Int32) (x8 : Int32), zJ dm p l e rm_X7_look s m args below meth c cX7_look 9 yX7_look.cls z cells slots (wm z gx) (fn (fun _ => True) (fun _ => g) oi) .ireturn Q 63 [(0, .ref (za z 77 0)), (1, .int x1), (2, .int x2), (3, .int x3), (4, .int x4), (5, .int x5), (6, .int x6), (7, .int x7), (8, .int x8)] [] g (m_X7_look_L63 g K40 K50 f x1 x2 x3 x4 x5 x6 x7 x8) := by
  intro f
  induction f with
  | zero => intro x1 x2 x3 x4 x5 x6 x7 x8; exact j_none
  | succ f ih =>
    intro x1 x2 x3 x4 x5 x6 x7 x8
    refine j_eq (M2 := if x8 < (gi g 120 0 0) then if ((x1 >>> (x8 &&& 31)) &&& (nI 1)) = (nI 1) then (m_X7_hasInFront g x8 x5 x6).bind fun r2 => if r2 = (nI 0) then m_X7_look_B101 g K40 K50 (m_X7_look_L63 g K40 K50 f) x1 x2 x3 x4 x5 x6 x8 x7 else m_X7_look_B102 g K40 K50 (m_X7_look_L63 g K40 K50 f) x1 x2 x3 x4 x5 x6 x8 (nI 1) x7 else m_X7_look_B101 g K40 K50 (m_X7_look_L63 g K40 K50 f) x1 x2 x3 x4 x5 x6 x8 x7 else m_X7_look_B111 g K40 K50 x1 x2 x3 x4 x5 x6 x7) rfl ?_
    refine j_iload (q := 65) (i := 8) (n := 8) dX7_look_63 rfl rfl ?_
    refine j_aload_n (q := 66) (i := 0) (n := 0) dX7_look_65 rfl rfl rfl ?_
    refine g_X7_jobs (q := 69) wF_X7_66 (Nat.le_of_ble_eq_true rfl) dX7_look_66 rfl ?_
    refine j_icmp_ge (tgt := 111) (q := 72) dX7_look_69 rfl rfl ?_ ?_
    · refine j_lv [0, 1, 2, 3, 4, 5, 6, 7] (lv' := [(0, .ref (za z 77 0)), (1, .int x1), (2, .int x2), (3, .int x3), (4, .int x4), (5, .int x5), (6, .int x6), (7, .int x7)]) rfl ?_
      exact t_X7_look_B111 z gx g K40 K50 hK40 hK50 x1 x2 x3 x4 x5 x6 x7
    · refine j_iload (q := 74) (i := 7) (n := 7) dX7_look_72 rfl rfl ?_
      refine j_iload_n (q := 75) (i := 1) (n := 1) dX7_look_74 rfl rfl rfl ?_
      refine j_iload (q := 77) (i := 8) (n := 8) dX7_look_75 rfl rfl ?_
      refine j_ishr (q := 78) dX7_look_77 rfl ?_
      refine j_iconst (q := 79) (v := (nI 1)) dX7_look_78 rfl rfl ?_
      refine j_iand (q := 80) dX7_look_79 rfl ?_
      refine j_iconst (q := 81) (v := (nI 1)) dX7_look_80 rfl rfl ?_
      refine j_icmp_ne (tgt := 101) (q := 84) dX7_look_81 rfl rfl ?_ ?_
      · refine j_lv [0, 1, 2, 3, 4, 5, 6, 8] (lv' := [(0, .ref (za z 77 0)), (1, .int x1), (2, .int x2), (3, .int x3), (4, .int x4), (5, .int x5), (6, .int x6), (8, .int x8)]) rfl ?_
        exact t_X7_look_B101 z gx g K40 K50 (m_X7_look_L63 g K40 K50 f) hK40 hK50 ih x1 x2 x3 x4 x5 x6 x8 x7
      · refine j_aload_n (q := 85) (i := 0) (n := 0) dX7_look_84 rfl rfl rfl ?_
        refine j_iload (q := 87) (i := 8) (n := 8) dX7_look_85 rfl rfl ?_
        refine j_iload (q := 89) (i := 5) (n := 5) dX7_look_87 rfl rfl ?_
        refine j_iload (q := 91) (i := 6) (n := 6) dX7_look_89 rfl rfl ?_
        refine j_ci (q := 94) (rn_V (R := rm_X7_look) (As := [.int x8, .int x5, .int x6]) (rest := [.int x7]) (c_X7_hasInFront _ z gx g x8 x5 x6) cv_X7_hasInFront wM_X7_227 ⟨rfl, rfl⟩ ⟨(Nat.le_of_ble_eq_true rfl), (Nat.le_of_ble_eq_true rfl)⟩ (Nat.le_of_ble_eq_true rfl) rfl rfl rfl (Nat.le_of_ble_eq_true rfl) dX7_look_91) rfl (fun r2 => ?_)
        refine j_if_eq (tgt := 101) (q := 97) dX7_look_94 rfl rfl ?_ ?_
        · refine j_lv [0, 1, 2, 3, 4, 5, 6, 8] (lv' := [(0, .ref (za z 77 0)), (1, .int x1), (2, .int x2), (3, .int x3), (4, .int x4), (5, .int x5), (6, .int x6), (8, .int x8)]) rfl ?_
          exact t_X7_look_B101 z gx g K40 K50 (m_X7_look_L63 g K40 K50 f) hK40 hK50 ih x1 x2 x3 x4 x5 x6 x8 x7
        · refine j_iconst (q := 98) (v := (nI 1)) dX7_look_97 rfl rfl ?_
          refine j_goto (tgt := 102) dX7_look_98 rfl ?_
          refine j_lv [0, 1, 2, 3, 4, 5, 6, 8] (lv' := [(0, .ref (za z 77 0)), (1, .int x1), (2, .int x2), (3, .int x3), (4, .int x4), (5, .int x5), (6, .int x6), (8, .int x8)]) rfl ?_
          exact t_X7_look_B102 z gx g K40 K50 (m_X7_look_L63 g K40 K50 f) hK40 hK50 ih x1 x2 x3 x4 x5 x6 x8 (nI 1) x7
def m_X7_look_L50 (g : zG) (K40 : Int32 → Int32 → Int32 → Int32 → Int32 → Option (Int32)) : Nat → Int32 → Int32 → Int32 → Int32 → Int32 → Int32 → Option (Int32)
  | 0, _, _, _, _, _, _ => none
  | f + 1, x1, x2, x3, x4, x5, x6 => if (nI 9) < x6 then K40 x1 x2 x3 x4 (x5 + (nI 1)) else m_X7_look_L63 g K40 (m_X7_look_L50 g K40 f) FU x1 x2 x3 x4 x5 x6 (nI 0) (nI 0)
set_option maxRecDepth 100000 in
set_option maxHeartbeats 4000000 in
theorem t_X7_look_L50 {p : Program} {l : Launch} {e : Env} {s : State} {m : MethodId} {args : Array Value} {below : List Frame} {meth : Method} {c : Code} {cells slots : Nat} {Q : Int32 → State → Prop} (z : zE) (gx : zG) (g : zG) (K40 : Int32 → Int32 → Int32 → Int32 → Int32 → Option (Int32)) (hK40 : ∀ (x1 : Int32) (x2 : Int32) (x3 : Int32) (x4 : Int32) (x5 : Int32), zJ dm p l e rm_X7_look s m args below meth c cX7_look 9 yX7_look.cls z cells slots (wm z gx) (fn (fun _ => True) (fun _ => g) oi) .ireturn Q 40 [(0, .ref (za z 77 0)), (1, .int x1), (2, .int x2), (3, .int x3), (4, .int x4), (5, .int x5)] [] g (K40 x1 x2 x3 x4 x5)) : ∀ (f : Nat) (x1 : Int32) (x2 : Int32) (x3 : Int32) (x4 : Int32) (x5 : Int32) (x6 : Int32), zJ dm p l e rm_X7_look s m args below meth c cX7_look 9 yX7_look.cls z cells slots (wm z gx) (fn (fun _ => True) (fun _ => g) oi) .ireturn Q 50 [(0, .ref (za z 77 0)), (1, .int x1), (2, .int x2), (3, .int x3), (4, .int x4), (5, .int x5), (6, .int x6)] [] g (m_X7_look_L50 g K40 f x1 x2 x3 x4 x5 x6) := by
  intro f
  induction f with
  | zero => intro x1 x2 x3 x4 x5 x6; exact j_none
  | succ f ih =>
    intro x1 x2 x3 x4 x5 x6
    refine j_eq (M2 := if (nI 9) < x6 then K40 x1 x2 x3 x4 (x5 + (nI 1)) else m_X7_look_L63 g K40 (m_X7_look_L50 g K40 f) FU x1 x2 x3 x4 x5 x6 (nI 0) (nI 0)) rfl ?_
    refine j_iload (q := 52) (i := 6) (n := 6) dX7_look_50 rfl rfl ?_
    refine j_bipush (q := 54) (v := (nI 9)) dX7_look_52 rfl rfl ?_
    refine j_icmp_gt (tgt := 173) (q := 57) dX7_look_54 rfl rfl ?_ ?_
    · refine j_iinc (q := 176) (n := 5) (i := 5) (v := x5 + (nI 1)) (lv' := [(5, .int (x5 + (nI 1))), (0, .ref (za z 77 0)), (1, .int x1), (2, .int x2), (3, .int x3), (4, .int x4), (6, .int x6)]) dX7_look_173 rfl rfl (Nat.le_of_ble_eq_true rfl) rfl rfl ?_
      refine j_goto (tgt := 40) dX7_look_176 rfl ?_
      refine j_lv [1, 2, 3, 4, 5, 0] (lv' := [(0, .ref (za z 77 0)), (1, .int x1), (2, .int x2), (3, .int x3), (4, .int x4), (5, .int (x5 + (nI 1)))]) rfl ?_
      exact hK40 x1 x2 x3 x4 (x5 + (nI 1))
    · refine j_iconst (q := 58) (v := (nI 0)) dX7_look_57 rfl rfl ?_
      refine j_istore (q := 60) (n := 7) (lv' := [(7, .int (nI 0)), (0, .ref (za z 77 0)), (1, .int x1), (2, .int x2), (3, .int x3), (4, .int x4), (5, .int x5), (6, .int x6)]) dX7_look_58 (Nat.le_of_ble_eq_true rfl) rfl rfl ?_
      refine j_iconst (q := 61) (v := (nI 0)) dX7_look_60 rfl rfl ?_
      refine j_istore (q := 63) (n := 8) (lv' := [(8, .int (nI 0)), (7, .int (nI 0)), (0, .ref (za z 77 0)), (1, .int x1), (2, .int x2), (3, .int x3), (4, .int x4), (5, .int x5), (6, .int x6)]) dX7_look_61 (Nat.le_of_ble_eq_true rfl) rfl rfl ?_
      refine j_lv [2, 3, 4, 5, 6, 7, 8, 1, 0] (lv' := [(0, .ref (za z 77 0)), (1, .int x1), (2, .int x2), (3, .int x3), (4, .int x4), (5, .int x5), (6, .int x6), (7, .int (nI 0)), (8, .int (nI 0))]) rfl ?_
      exact t_X7_look_L63 z gx g K40 (m_X7_look_L50 g K40 f) hK40 ih FU x1 x2 x3 x4 x5 x6 (nI 0) (nI 0)
def m_X7_look_L40 (g : zG) : Nat → Int32 → Int32 → Int32 → Int32 → Int32 → Option (Int32)
  | 0, _, _, _, _, _ => none
  | f + 1, x1, x2, x3, x4, x5 => if x5 < (nI 81) then m_X7_look_L50 g (m_X7_look_L40 g f) FU x1 x2 x3 x4 x5 (nI 1) else some x3
set_option maxRecDepth 100000 in
set_option maxHeartbeats 4000000 in
theorem t_X7_look_L40 {p : Program} {l : Launch} {e : Env} {s : State} {m : MethodId} {args : Array Value} {below : List Frame} {meth : Method} {c : Code} {cells slots : Nat} {Q : Int32 → State → Prop} (z : zE) (gx : zG) (g : zG) : ∀ (f : Nat) (x1 : Int32) (x2 : Int32) (x3 : Int32) (x4 : Int32) (x5 : Int32), zJ dm p l e rm_X7_look s m args below meth c cX7_look 9 yX7_look.cls z cells slots (wm z gx) (fn (fun _ => True) (fun _ => g) oi) .ireturn Q 40 [(0, .ref (za z 77 0)), (1, .int x1), (2, .int x2), (3, .int x3), (4, .int x4), (5, .int x5)] [] g (m_X7_look_L40 g f x1 x2 x3 x4 x5) := by
  intro f
  induction f with
  | zero => intro x1 x2 x3 x4 x5; exact j_none
  | succ f ih =>
    intro x1 x2 x3 x4 x5
    refine j_eq (M2 := if x5 < (nI 81) then m_X7_look_L50 g (m_X7_look_L40 g f) FU x1 x2 x3 x4 x5 (nI 1) else some x3) rfl ?_
    refine j_iload (q := 42) (i := 5) (n := 5) dX7_look_40 rfl rfl ?_
    refine j_bipush (q := 44) (v := (nI 81)) dX7_look_42 rfl rfl ?_
    refine j_icmp_ge (tgt := 179) (q := 47) dX7_look_44 rfl rfl ?_ ?_
    · refine j_iload_n (q := 180) (i := 3) (n := 3) dX7_look_179 rfl rfl rfl ?_
      exact j_ret (x := x3) dX7_look_180 ⟨trivial, rfl, rfl⟩
    · refine j_iconst (q := 48) (v := (nI 1)) dX7_look_47 rfl rfl ?_
      refine j_istore (q := 50) (n := 6) (lv' := [(6, .int (nI 1)), (0, .ref (za z 77 0)), (1, .int x1), (2, .int x2), (3, .int x3), (4, .int x4), (5, .int x5)]) dX7_look_48 (Nat.le_of_ble_eq_true rfl) rfl rfl ?_
      refine j_lv [1, 2, 3, 4, 5, 6, 0] (lv' := [(0, .ref (za z 77 0)), (1, .int x1), (2, .int x2), (3, .int x3), (4, .int x4), (5, .int x5), (6, .int (nI 1))]) rfl ?_
      exact t_X7_look_L50 z gx g (m_X7_look_L40 g f) ih FU x1 x2 x3 x4 x5 (nI 1)
def m_X7_look_B31 (g : zG) (x1 : Int32) (x2 : Int32) : Option (Int32) := m_X7_look_L40 g FU x1 x2 (-9) x2 (nI 0)
set_option maxRecDepth 100000 in
set_option maxHeartbeats 4000000 in
theorem t_X7_look_B31 {p : Program} {l : Launch} {e : Env} {s : State} {m : MethodId} {args : Array Value} {below : List Frame} {meth : Method} {c : Code} {cells slots : Nat} {Q : Int32 → State → Prop} (z : zE) (gx : zG) (g : zG) (x1 : Int32) (x2 : Int32) : zJ dm p l e rm_X7_look s m args below meth c cX7_look 9 yX7_look.cls z cells slots (wm z gx) (fn (fun _ => True) (fun _ => g) oi) .ireturn Q 31 [(0, .ref (za z 77 0)), (1, .int x1), (2, .int x2)] [] g (m_X7_look_B31 g x1 x2) := by
  refine j_eq (M2 := m_X7_look_L40 g FU x1 x2 (-9) x2 (nI 0)) rfl ?_
  refine j_bipush (q := 33) (v := (-9)) dX7_look_31 rfl rfl ?_
  refine j_istore_n (q := 34) (n := 3) (lv' := [(3, .int (-9)), (0, .ref (za z 77 0)), (1, .int x1), (2, .int x2)]) dX7_look_33 rfl (Nat.le_of_ble_eq_true rfl) rfl rfl ?_
  refine j_iload_n (q := 35) (i := 3) (n := 2) dX7_look_34 rfl rfl rfl ?_
  refine j_istore (q := 37) (n := 4) (lv' := [(4, .int x2), (3, .int (-9)), (0, .ref (za z 77 0)), (1, .int x1), (2, .int x2)]) dX7_look_35 (Nat.le_of_ble_eq_true rfl) rfl rfl ?_
  refine j_iconst (q := 38) (v := (nI 0)) dX7_look_37 rfl rfl ?_
  refine j_istore (q := 40) (n := 5) (lv' := [(5, .int (nI 0)), (4, .int x2), (3, .int (-9)), (0, .ref (za z 77 0)), (1, .int x1), (2, .int x2)]) dX7_look_38 (Nat.le_of_ble_eq_true rfl) rfl rfl ?_
  refine j_lv [3, 4, 5, 2, 1, 0] (lv' := [(0, .ref (za z 77 0)), (1, .int x1), (2, .int x2), (3, .int (-9)), (4, .int x2), (5, .int (nI 0))]) rfl ?_
  exact t_X7_look_L40 z gx g FU x1 x2 (-9) x2 (nI 0)
def m_X7_look_L9 (g : zG) : Nat → Int32 → Int32 → Int32 → Option (Int32)
  | 0, _, _, _ => none
  | f + 1, x1, x2, x3 => if x3 < (gi g 120 0 0) then bd (x2 + ((x1 >>> (x3 &&& 31)) &&& (nI 1))) fun v3 => m_X7_look_L9 g f x1 v3 (x3 + (nI 1)) else m_X7_look_B31 g x1 x2
set_option maxRecDepth 100000 in
set_option maxHeartbeats 4000000 in
theorem t_X7_look_L9 {p : Program} {l : Launch} {e : Env} {s : State} {m : MethodId} {args : Array Value} {below : List Frame} {meth : Method} {c : Code} {cells slots : Nat} {Q : Int32 → State → Prop} (z : zE) (gx : zG) (g : zG) : ∀ (f : Nat) (x1 : Int32) (x2 : Int32) (x3 : Int32), zJ dm p l e rm_X7_look s m args below meth c cX7_look 9 yX7_look.cls z cells slots (wm z gx) (fn (fun _ => True) (fun _ => g) oi) .ireturn Q 9 [(0, .ref (za z 77 0)), (1, .int x1), (2, .int x2), (3, .int x3)] [] g (m_X7_look_L9 g f x1 x2 x3) := by
  intro f
  induction f with
  | zero => intro x1 x2 x3; exact j_none
  | succ f ih =>
    intro x1 x2 x3
    refine j_eq (M2 := if x3 < (gi g 120 0 0) then bd (x2 + ((x1 >>> (x3 &&& 31)) &&& (nI 1))) fun v3 => m_X7_look_L9 g f x1 v3 (x3 + (nI 1)) else m_X7_look_B31 g x1 x2) rfl ?_
    refine j_iload_n (q := 10) (i := 3) (n := 3) dX7_look_9 rfl rfl rfl ?_
    refine j_aload_n (q := 11) (i := 0) (n := 0) dX7_look_10 rfl rfl rfl ?_
    refine g_X7_jobs (q := 14) wF_X7_66 (Nat.le_of_ble_eq_true rfl) dX7_look_11 rfl ?_
    refine j_icmp_ge (tgt := 31) (q := 17) dX7_look_14 rfl rfl ?_ ?_
    · refine j_lv [0, 1, 2] (lv' := [(0, .ref (za z 77 0)), (1, .int x1), (2, .int x2)]) rfl ?_
      exact t_X7_look_B31 z gx g x1 x2
    · refine j_iload_n (q := 18) (i := 2) (n := 2) dX7_look_17 rfl rfl rfl ?_
      refine j_iload_n (q := 19) (i := 1) (n := 1) dX7_look_18 rfl rfl rfl ?_
      refine j_iload_n (q := 20) (i := 3) (n := 3) dX7_look_19 rfl rfl rfl ?_
      refine j_ishr (q := 21) dX7_look_20 rfl ?_
      refine j_iconst (q := 22) (v := (nI 1)) dX7_look_21 rfl rfl ?_
      refine j_iand (q := 23) dX7_look_22 rfl ?_
      refine j_iadd (q := 24) dX7_look_23 rfl ?_
      refine j_top (fun v3 => ?_)
      refine j_istore_n (q := 25) (n := 2) (lv' := [(2, .int v3), (0, .ref (za z 77 0)), (1, .int x1), (3, .int x3)]) dX7_look_24 rfl (Nat.le_of_ble_eq_true rfl) rfl rfl ?_
      refine j_iinc (q := 28) (n := 3) (i := 3) (v := x3 + (nI 1)) (lv' := [(3, .int (x3 + (nI 1))), (2, .int v3), (0, .ref (za z 77 0)), (1, .int x1)]) dX7_look_25 rfl rfl (Nat.le_of_ble_eq_true rfl) rfl rfl ?_
      refine j_goto (tgt := 9) dX7_look_28 rfl ?_
      refine j_lv [2, 3, 1, 0] (lv' := [(0, .ref (za z 77 0)), (1, .int x1), (2, .int v3), (3, .int (x3 + (nI 1)))]) rfl ?_
      exact ih x1 v3 (x3 + (nI 1))
def m_X7_look (g : zG) : Option (Int32) := (m_X7_whose g).bind fun r1 => m_X7_look_L9 g FU r1 (nI 0) (nI 0)
set_option maxRecDepth 100000 in
set_option maxHeartbeats 4000000 in
theorem c_X7_look (l : Launch) (z : zE) (gx : zG) (g : zG) : ∀ x, m_X7_look g = some x → Ms dm l yX7_look cX7_look 9 (some .int) rm_X7_look z [.ref (za z 77 0)] ((wm z gx) g) (oi x) ((wm z gx) ((fun _ => g) x)) := by
  refine ms_of (Wf := (wm z gx)) (ri := .ireturn) (out := oi) (nxt := (fun _ => g)) (ok := (fun _ => True)) (lv := [(0, .ref (za z 77 0))]) (by decide) ⟨rfl, rfl⟩ (Nat.le_of_ble_eq_true rfl) rfl (en_i (out := fun x => x)) (fun p e s m below meth c => ?_)
  refine j_eq (M2 := (m_X7_whose g).bind fun r1 => m_X7_look_L9 g FU r1 (nI 0) (nI 0)) rfl ?_
  refine j_aload_n (q := 1) (i := 0) (n := 0) dX7_look_0 rfl rfl rfl ?_
  refine j_ci (q := 4) (rn_V (R := rm_X7_look) (As := []) (rest := []) (c_X7_whose _ z gx g) cv_X7_whose wM_X7_231 ⟨rfl, rfl⟩ ⟨(Nat.le_of_ble_eq_true rfl), (Nat.le_of_ble_eq_true rfl)⟩ (Nat.le_of_ble_eq_true rfl) rfl rfl rfl (Nat.le_of_ble_eq_true rfl) dX7_look_1) rfl (fun r1 => ?_)
  refine j_istore_n (q := 5) (n := 1) (lv' := [(1, .int r1), (0, .ref (za z 77 0))]) dX7_look_4 rfl (Nat.le_of_ble_eq_true rfl) rfl rfl ?_
  refine j_iconst (q := 6) (v := (nI 0)) dX7_look_5 rfl rfl ?_
  refine j_istore_n (q := 7) (n := 2) (lv' := [(2, .int (nI 0)), (1, .int r1), (0, .ref (za z 77 0))]) dX7_look_6 rfl (Nat.le_of_ble_eq_true rfl) rfl rfl ?_
  refine j_iconst (q := 8) (v := (nI 0)) dX7_look_7 rfl rfl ?_
  refine j_istore_n (q := 9) (n := 3) (lv' := [(3, .int (nI 0)), (2, .int (nI 0)), (1, .int r1), (0, .ref (za z 77 0))]) dX7_look_8 rfl (Nat.le_of_ble_eq_true rfl) rfl rfl ?_
  refine j_lv [3, 2, 1, 0] (lv' := [(0, .ref (za z 77 0)), (1, .int r1), (2, .int (nI 0)), (3, .int (nI 0))]) rfl ?_
  exact t_X7_look_L9 z gx g FU r1 (nI 0) (nI 0)
-- CopierJobsModel.asJob(I)I
abbrev rm_X7_asJob : Room := { frames := 0, cells := 0, slots := 0, locals := 0 }
theorem cv_X7_asJob : CV yX7_asJob cX7_asJob 2 (some .int) 1 := ⟨wC_X7_asJob, wI_X7_asJob, wS_X7_asJob, wZ_X7, by decide +kernel⟩
def m_X7_asJob (g : zG) (a0 : Int32) : Option (Int32 × zG) := bd (ul g 0 ((gl g 0) + 1)) fun g1 => gd (inb a0 6 = true) (some (gi g1 100 0 a0.toNatClampNeg, g1))
set_option maxRecDepth 100000 in
set_option maxHeartbeats 4000000 in
theorem c_X7_asJob (l : Launch) (z : zE) (gx : zG) (g : zG) (a0 : Int32) : ∀ x, m_X7_asJob g a0 = some x → Ms dm l yX7_asJob cX7_asJob 2 (some .int) rm_X7_asJob z [.ref (za z 77 0), .int a0] ((wm z gx) g) (osi x) ((wm z gx) ((fun x => x.2) x)) := by
  refine ms_of (Wf := (wm z gx)) (ri := .ireturn) (out := osi) (nxt := (fun x => x.2)) (ok := (fun _ => True)) (lv := [(0, .ref (za z 77 0)), (1, .int a0)]) (by decide) ⟨rfl, rfl⟩ (Nat.le_of_ble_eq_true rfl) rfl (en_i (out := fun x : Int32 × zG => x.1)) (fun p e s m below meth c => ?_)
  refine j_eq (M2 := bd (ul g 0 ((gl g 0) + 1)) fun g1 => gd (inb a0 6 = true) (some (gi g1 100 0 a0.toNatClampNeg, g1))) rfl ?_
  refine j_aload_n (q := 1) (i := 0) (n := 0) dX7_asJob_0 rfl rfl rfl ?_
  refine j_dup (q := 2) dX7_asJob_1 rfl rfl ?_
  refine g_X7_trace (q := 5) wF_X7_234 (Nat.le_of_ble_eq_true rfl) dX7_asJob_2 rfl ?_
  refine j_lconst (q := 6) (v := 1) dX7_asJob_5 rfl rfl ?_
  refine j_ladd (q := 7) dX7_asJob_6 rfl ?_
  refine p_X7_trace (q := 10) dm_le wF_X7_234 (Nat.le_of_ble_eq_true rfl) dX7_asJob_7 rfl (fun g1 => ?_)
  refine j_aload_n (q := 11) (i := 0) (n := 0) dX7_asJob_10 rfl rfl rfl ?_
  refine g_X7_pages (q := 14) wF_X7_7 (Nat.le_of_ble_eq_true rfl) dX7_asJob_11 rfl ?_
  refine j_iload_n (q := 15) (i := 1) (n := 1) dX7_asJob_14 rfl rfl rfl ?_
  refine am_ld (k := 100) (n := 6) (q := 16) isM_100 rfl (Nat.le_of_ble_eq_true rfl) dX7_asJob_15 rfl ?_
  exact j_ret (x := (gi g1 100 0 a0.toNatClampNeg, g1)) dX7_asJob_16 ⟨trivial, rfl, rfl⟩
-- CopierJobsModel.asMemo(I)I
abbrev rm_X7_asMemo : Room := { frames := 1, cells := 0, slots := 0, locals := 21 }
theorem cv_X7_asMemo : CV yX7_asMemo cX7_asMemo 2 (some .int) 1 := ⟨wC_X7_asMemo, wI_X7_asMemo, wS_X7_asMemo, wZ_X7, by decide +kernel⟩
def m_X7_asMemo (g : zG) (a0 : Int32) : Option (Int32 × zG) := bd (ul g 0 ((gl g 0) + 10)) fun g1 => sb (m_X7_asJob g1 a0) fun r2 g3 => gd (inb a0 6 = true) (some (r2 + (gi g3 101 0 a0.toNatClampNeg), g3))
set_option maxRecDepth 100000 in
set_option maxHeartbeats 4000000 in
theorem c_X7_asMemo (l : Launch) (z : zE) (gx : zG) (g : zG) (a0 : Int32) : ∀ x, m_X7_asMemo g a0 = some x → Ms dm l yX7_asMemo cX7_asMemo 2 (some .int) rm_X7_asMemo z [.ref (za z 77 0), .int a0] ((wm z gx) g) (osi x) ((wm z gx) ((fun x => x.2) x)) := by
  refine ms_of (Wf := (wm z gx)) (ri := .ireturn) (out := osi) (nxt := (fun x => x.2)) (ok := (fun _ => True)) (lv := [(0, .ref (za z 77 0)), (1, .int a0)]) (by decide) ⟨rfl, rfl⟩ (Nat.le_of_ble_eq_true rfl) rfl (en_i (out := fun x : Int32 × zG => x.1)) (fun p e s m below meth c => ?_)
  refine j_eq (M2 := bd (ul g 0 ((gl g 0) + 10)) fun g1 => sb (m_X7_asJob g1 a0) fun r2 g3 => gd (inb a0 6 = true) (some (r2 + (gi g3 101 0 a0.toNatClampNeg), g3))) rfl ?_
  refine j_aload_n (q := 1) (i := 0) (n := 0) dX7_asMemo_0 rfl rfl rfl ?_
  refine j_dup (q := 2) dX7_asMemo_1 rfl rfl ?_
  refine g_X7_trace (q := 5) wF_X7_234 (Nat.le_of_ble_eq_true rfl) dX7_asMemo_2 rfl ?_
  refine j_ldc2 (q := 8) (v := 10) dX7_asMemo_5 wW_X7_238 rfl ?_
  refine j_ladd (q := 9) dX7_asMemo_8 rfl ?_
  refine p_X7_trace (q := 12) dm_le wF_X7_234 (Nat.le_of_ble_eq_true rfl) dX7_asMemo_9 rfl (fun g1 => ?_)
  refine j_aload_n (q := 13) (i := 0) (n := 0) dX7_asMemo_12 rfl rfl rfl ?_
  refine j_iload_n (q := 14) (i := 1) (n := 1) dX7_asMemo_13 rfl rfl rfl ?_
  refine j_ss (q := 17) (rn_V (R := rm_X7_asMemo) (As := [.int a0]) (rest := []) (c_X7_asJob _ z gx g1 a0) cv_X7_asJob wM_X7_240 ⟨rfl, rfl⟩ ⟨(Nat.le_of_ble_eq_true rfl), (Nat.le_of_ble_eq_true rfl)⟩ (Nat.le_of_ble_eq_true rfl) rfl rfl rfl (Nat.le_of_ble_eq_true rfl) dX7_asMemo_14) rfl (fun r2 g3 => ?_)
  refine j_aload_n (q := 18) (i := 0) (n := 0) dX7_asMemo_17 rfl rfl rfl ?_
  refine g_X7_copies (q := 21) wF_X7_13 (Nat.le_of_ble_eq_true rfl) dX7_asMemo_18 rfl ?_
  refine j_iload_n (q := 22) (i := 1) (n := 1) dX7_asMemo_21 rfl rfl rfl ?_
  refine am_ld (k := 101) (n := 6) (q := 23) isM_101 rfl (Nat.le_of_ble_eq_true rfl) dX7_asMemo_22 rfl ?_
  refine j_iadd (q := 24) dX7_asMemo_23 rfl ?_
  exact j_ret (x := (r2 + (gi g3 101 0 a0.toNatClampNeg), g3)) dX7_asMemo_24 ⟨trivial, rfl, rfl⟩
-- CopierJobsModel.asReport(I)I
abbrev rm_X7_asReport : Room := { frames := 1, cells := 0, slots := 0, locals := 21 }
theorem cv_X7_asReport : CV yX7_asReport cX7_asReport 2 (some .int) 1 := ⟨wC_X7_asReport, wI_X7_asReport, wS_X7_asReport, wZ_X7, by decide +kernel⟩
def m_X7_asReport (g : zG) (a0 : Int32) : Option (Int32 × zG) := bd (ul g 0 ((gl g 0) + 100)) fun g1 => sb (m_X7_asJob g1 a0) fun r2 g3 => gd (inb ((nI 19) + a0) 31 = true) (some (r2 - (gi g3 105 0 ((nI 19) + a0).toNatClampNeg), g3))
set_option maxRecDepth 100000 in
set_option maxHeartbeats 4000000 in
theorem c_X7_asReport (l : Launch) (z : zE) (gx : zG) (g : zG) (a0 : Int32) : ∀ x, m_X7_asReport g a0 = some x → Ms dm l yX7_asReport cX7_asReport 2 (some .int) rm_X7_asReport z [.ref (za z 77 0), .int a0] ((wm z gx) g) (osi x) ((wm z gx) ((fun x => x.2) x)) := by
  refine ms_of (Wf := (wm z gx)) (ri := .ireturn) (out := osi) (nxt := (fun x => x.2)) (ok := (fun _ => True)) (lv := [(0, .ref (za z 77 0)), (1, .int a0)]) (by decide) ⟨rfl, rfl⟩ (Nat.le_of_ble_eq_true rfl) rfl (en_i (out := fun x : Int32 × zG => x.1)) (fun p e s m below meth c => ?_)
  refine j_eq (M2 := bd (ul g 0 ((gl g 0) + 100)) fun g1 => sb (m_X7_asJob g1 a0) fun r2 g3 => gd (inb ((nI 19) + a0) 31 = true) (some (r2 - (gi g3 105 0 ((nI 19) + a0).toNatClampNeg), g3))) rfl ?_
  refine j_aload_n (q := 1) (i := 0) (n := 0) dX7_asReport_0 rfl rfl rfl ?_
  refine j_dup (q := 2) dX7_asReport_1 rfl rfl ?_
  refine g_X7_trace (q := 5) wF_X7_234 (Nat.le_of_ble_eq_true rfl) dX7_asReport_2 rfl ?_
  refine j_ldc2 (q := 8) (v := 100) dX7_asReport_5 wW_X7_243 rfl ?_
  refine j_ladd (q := 9) dX7_asReport_8 rfl ?_
  refine p_X7_trace (q := 12) dm_le wF_X7_234 (Nat.le_of_ble_eq_true rfl) dX7_asReport_9 rfl (fun g1 => ?_)
  refine j_aload_n (q := 13) (i := 0) (n := 0) dX7_asReport_12 rfl rfl rfl ?_
  refine j_iload_n (q := 14) (i := 1) (n := 1) dX7_asReport_13 rfl rfl rfl ?_
  refine j_ss (q := 17) (rn_V (R := rm_X7_asReport) (As := [.int a0]) (rest := []) (c_X7_asJob _ z gx g1 a0) cv_X7_asJob wM_X7_240 ⟨rfl, rfl⟩ ⟨(Nat.le_of_ble_eq_true rfl), (Nat.le_of_ble_eq_true rfl)⟩ (Nat.le_of_ble_eq_true rfl) rfl rfl rfl (Nat.le_of_ble_eq_true rfl) dX7_asReport_14) rfl (fun r2 g3 => ?_)
  refine j_aload_n (q := 18) (i := 0) (n := 0) dX7_asReport_17 rfl rfl rfl ?_
  refine g_X7_st (q := 21) wF_X7_29 (Nat.le_of_ble_eq_true rfl) dX7_asReport_18 rfl ?_
  refine j_bipush (q := 23) (v := (nI 19)) dX7_asReport_21 rfl rfl ?_
  refine j_iload_n (q := 24) (i := 1) (n := 1) dX7_asReport_23 rfl rfl rfl ?_
  refine j_iadd (q := 25) dX7_asReport_24 rfl ?_
  refine am_ld (k := 105) (n := 31) (q := 26) isM_105 rfl (Nat.le_of_ble_eq_true rfl) dX7_asReport_25 rfl ?_
  refine j_isub (q := 27) dX7_asReport_26 rfl ?_
  exact j_ret (x := (r2 - (gi g3 105 0 ((nI 19) + a0).toNatClampNeg), g3)) dX7_asReport_27 ⟨trivial, rfl, rfl⟩
-- CopierJobsModel.asNotice(I)I
abbrev rm_X7_asNotice : Room := { frames := 2, cells := 0, slots := 0, locals := 42 }
theorem cv_X7_asNotice : CV yX7_asNotice cX7_asNotice 2 (some .int) 1 := ⟨wC_X7_asNotice, wI_X7_asNotice, wS_X7_asNotice, wZ_X7, by decide +kernel⟩
def m_X7_asNotice (g : zG) (a0 : Int32) : Option (Int32 × zG) := bd (ul g 0 ((gl g 0) + 1000)) fun g1 => sb (m_X7_asMemo g1 a0) fun r2 g3 => some ((nI 2) * r2, g3)
set_option maxRecDepth 100000 in
set_option maxHeartbeats 4000000 in
theorem c_X7_asNotice (l : Launch) (z : zE) (gx : zG) (g : zG) (a0 : Int32) : ∀ x, m_X7_asNotice g a0 = some x → Ms dm l yX7_asNotice cX7_asNotice 2 (some .int) rm_X7_asNotice z [.ref (za z 77 0), .int a0] ((wm z gx) g) (osi x) ((wm z gx) ((fun x => x.2) x)) := by
  refine ms_of (Wf := (wm z gx)) (ri := .ireturn) (out := osi) (nxt := (fun x => x.2)) (ok := (fun _ => True)) (lv := [(0, .ref (za z 77 0)), (1, .int a0)]) (by decide) ⟨rfl, rfl⟩ (Nat.le_of_ble_eq_true rfl) rfl (en_i (out := fun x : Int32 × zG => x.1)) (fun p e s m below meth c => ?_)
  refine j_eq (M2 := bd (ul g 0 ((gl g 0) + 1000)) fun g1 => sb (m_X7_asMemo g1 a0) fun r2 g3 => some ((nI 2) * r2, g3)) rfl ?_
  refine j_aload_n (q := 1) (i := 0) (n := 0) dX7_asNotice_0 rfl rfl rfl ?_
  refine j_dup (q := 2) dX7_asNotice_1 rfl rfl ?_
  refine g_X7_trace (q := 5) wF_X7_234 (Nat.le_of_ble_eq_true rfl) dX7_asNotice_2 rfl ?_
  refine j_ldc2 (q := 8) (v := 1000) dX7_asNotice_5 wW_X7_245 rfl ?_
  refine j_ladd (q := 9) dX7_asNotice_8 rfl ?_
  refine p_X7_trace (q := 12) dm_le wF_X7_234 (Nat.le_of_ble_eq_true rfl) dX7_asNotice_9 rfl (fun g1 => ?_)
  refine j_iconst (q := 13) (v := (nI 2)) dX7_asNotice_12 rfl rfl ?_
  refine j_aload_n (q := 14) (i := 0) (n := 0) dX7_asNotice_13 rfl rfl rfl ?_
  refine j_iload_n (q := 15) (i := 1) (n := 1) dX7_asNotice_14 rfl rfl rfl ?_
  refine j_ss (q := 18) (rn_V (R := rm_X7_asNotice) (As := [.int a0]) (rest := [.int (nI 2)]) (c_X7_asMemo _ z gx g1 a0) cv_X7_asMemo wM_X7_247 ⟨rfl, rfl⟩ ⟨(Nat.le_of_ble_eq_true rfl), (Nat.le_of_ble_eq_true rfl)⟩ (Nat.le_of_ble_eq_true rfl) rfl rfl rfl (Nat.le_of_ble_eq_true rfl) dX7_asNotice_15) rfl (fun r2 g3 => ?_)
  refine j_imul (q := 19) dX7_asNotice_18 rfl ?_
  exact j_ret (x := ((nI 2) * r2, g3)) dX7_asNotice_19 ⟨trivial, rfl, rfl⟩
-- CopierJobsModel.asLedger(I)I
abbrev rm_X7_asLedger : Room := { frames := 2, cells := 0, slots := 0, locals := 42 }
theorem cv_X7_asLedger : CV yX7_asLedger cX7_asLedger 2 (some .int) 1 := ⟨wC_X7_asLedger, wI_X7_asLedger, wS_X7_asLedger, wZ_X7, by decide +kernel⟩
def m_X7_asLedger (g : zG) (a0 : Int32) : Option (Int32 × zG) := bd (ul g 0 ((gl g 0) + 10000)) fun g1 => sb (m_X7_asReport g1 a0) fun r2 g3 => some (r2 + a0, g3)
set_option maxRecDepth 100000 in
set_option maxHeartbeats 4000000 in
theorem c_X7_asLedger (l : Launch) (z : zE) (gx : zG) (g : zG) (a0 : Int32) : ∀ x, m_X7_asLedger g a0 = some x → Ms dm l yX7_asLedger cX7_asLedger 2 (some .int) rm_X7_asLedger z [.ref (za z 77 0), .int a0] ((wm z gx) g) (osi x) ((wm z gx) ((fun x => x.2) x)) := by
  refine ms_of (Wf := (wm z gx)) (ri := .ireturn) (out := osi) (nxt := (fun x => x.2)) (ok := (fun _ => True)) (lv := [(0, .ref (za z 77 0)), (1, .int a0)]) (by decide) ⟨rfl, rfl⟩ (Nat.le_of_ble_eq_true rfl) rfl (en_i (out := fun x : Int32 × zG => x.1)) (fun p e s m below meth c => ?_)
  refine j_eq (M2 := bd (ul g 0 ((gl g 0) + 10000)) fun g1 => sb (m_X7_asReport g1 a0) fun r2 g3 => some (r2 + a0, g3)) rfl ?_
  refine j_aload_n (q := 1) (i := 0) (n := 0) dX7_asLedger_0 rfl rfl rfl ?_
  refine j_dup (q := 2) dX7_asLedger_1 rfl rfl ?_
  refine g_X7_trace (q := 5) wF_X7_234 (Nat.le_of_ble_eq_true rfl) dX7_asLedger_2 rfl ?_
  refine j_ldc2 (q := 8) (v := 10000) dX7_asLedger_5 wW_X7_250 rfl ?_
  refine j_ladd (q := 9) dX7_asLedger_8 rfl ?_
  refine p_X7_trace (q := 12) dm_le wF_X7_234 (Nat.le_of_ble_eq_true rfl) dX7_asLedger_9 rfl (fun g1 => ?_)
  refine j_aload_n (q := 13) (i := 0) (n := 0) dX7_asLedger_12 rfl rfl rfl ?_
  refine j_iload_n (q := 14) (i := 1) (n := 1) dX7_asLedger_13 rfl rfl rfl ?_
  refine j_ss (q := 17) (rn_V (R := rm_X7_asLedger) (As := [.int a0]) (rest := []) (c_X7_asReport _ z gx g1 a0) cv_X7_asReport wM_X7_252 ⟨rfl, rfl⟩ ⟨(Nat.le_of_ble_eq_true rfl), (Nat.le_of_ble_eq_true rfl)⟩ (Nat.le_of_ble_eq_true rfl) rfl rfl rfl (Nat.le_of_ble_eq_true rfl) dX7_asLedger_14) rfl (fun r2 g3 => ?_)
  refine j_iload_n (q := 18) (i := 1) (n := 1) dX7_asLedger_17 rfl rfl rfl ?_
  refine j_iadd (q := 19) dX7_asLedger_18 rfl ?_
  exact j_ret (x := (r2 + a0, g3)) dX7_asLedger_19 ⟨trivial, rfl, rfl⟩
-- CopierJobsModel.asFlyer(I)I
abbrev rm_X7_asFlyer : Room := { frames := 1, cells := 0, slots := 0, locals := 21 }
theorem cv_X7_asFlyer : CV yX7_asFlyer cX7_asFlyer 2 (some .int) 1 := ⟨wC_X7_asFlyer, wI_X7_asFlyer, wS_X7_asFlyer, wZ_X7, by decide +kernel⟩
def m_X7_asFlyer (g : zG) (a0 : Int32) : Option (Int32 × zG) := bd (ul g 0 ((gl g 0) + 100000)) fun g1 => sb (m_X7_asJob g1 a0) fun r2 g3 => gd (inb (nI 0) 31 = true) (some (r2 + (gi g3 105 0 (nI 0).toNatClampNeg), g3))
set_option maxRecDepth 100000 in
set_option maxHeartbeats 4000000 in
theorem c_X7_asFlyer (l : Launch) (z : zE) (gx : zG) (g : zG) (a0 : Int32) : ∀ x, m_X7_asFlyer g a0 = some x → Ms dm l yX7_asFlyer cX7_asFlyer 2 (some .int) rm_X7_asFlyer z [.ref (za z 77 0), .int a0] ((wm z gx) g) (osi x) ((wm z gx) ((fun x => x.2) x)) := by
  refine ms_of (Wf := (wm z gx)) (ri := .ireturn) (out := osi) (nxt := (fun x => x.2)) (ok := (fun _ => True)) (lv := [(0, .ref (za z 77 0)), (1, .int a0)]) (by decide) ⟨rfl, rfl⟩ (Nat.le_of_ble_eq_true rfl) rfl (en_i (out := fun x : Int32 × zG => x.1)) (fun p e s m below meth c => ?_)
  refine j_eq (M2 := bd (ul g 0 ((gl g 0) + 100000)) fun g1 => sb (m_X7_asJob g1 a0) fun r2 g3 => gd (inb (nI 0) 31 = true) (some (r2 + (gi g3 105 0 (nI 0).toNatClampNeg), g3))) rfl ?_
  refine j_aload_n (q := 1) (i := 0) (n := 0) dX7_asFlyer_0 rfl rfl rfl ?_
  refine j_dup (q := 2) dX7_asFlyer_1 rfl rfl ?_
  refine g_X7_trace (q := 5) wF_X7_234 (Nat.le_of_ble_eq_true rfl) dX7_asFlyer_2 rfl ?_
  refine j_ldc2 (q := 8) (v := 100000) dX7_asFlyer_5 wW_X7_255 rfl ?_
  refine j_ladd (q := 9) dX7_asFlyer_8 rfl ?_
  refine p_X7_trace (q := 12) dm_le wF_X7_234 (Nat.le_of_ble_eq_true rfl) dX7_asFlyer_9 rfl (fun g1 => ?_)
  refine j_aload_n (q := 13) (i := 0) (n := 0) dX7_asFlyer_12 rfl rfl rfl ?_
  refine j_iload_n (q := 14) (i := 1) (n := 1) dX7_asFlyer_13 rfl rfl rfl ?_
  refine j_ss (q := 17) (rn_V (R := rm_X7_asFlyer) (As := [.int a0]) (rest := []) (c_X7_asJob _ z gx g1 a0) cv_X7_asJob wM_X7_240 ⟨rfl, rfl⟩ ⟨(Nat.le_of_ble_eq_true rfl), (Nat.le_of_ble_eq_true rfl)⟩ (Nat.le_of_ble_eq_true rfl) rfl rfl rfl (Nat.le_of_ble_eq_true rfl) dX7_asFlyer_14) rfl (fun r2 g3 => ?_)
  refine j_aload_n (q := 18) (i := 0) (n := 0) dX7_asFlyer_17 rfl rfl rfl ?_
  refine g_X7_st (q := 21) wF_X7_29 (Nat.le_of_ble_eq_true rfl) dX7_asFlyer_18 rfl ?_
  refine j_iconst (q := 22) (v := (nI 0)) dX7_asFlyer_21 rfl rfl ?_
  refine am_ld (k := 105) (n := 31) (q := 23) isM_105 rfl (Nat.le_of_ble_eq_true rfl) dX7_asFlyer_22 rfl ?_
  refine j_iadd (q := 24) dX7_asFlyer_23 rfl ?_
  exact j_ret (x := (r2 + (gi g3 105 0 (nI 0).toNatClampNeg), g3)) dX7_asFlyer_24 ⟨trivial, rfl, rfl⟩
-- CopierJobsModel.mark(II)I
abbrev rm_X7_mark : Room := { frames := 3, cells := 0, slots := 0, locals := 63 }
theorem cv_X7_mark : CV yX7_mark cX7_mark 3 (some .int) 2 := ⟨wC_X7_mark, wI_X7_mark, wS_X7_mark, wZ_X7, by decide +kernel⟩
def m_X7_mark (g : zG) (a0 : Int32) (a1 : Int32) : Option (Int32 × zG) := (m_X7_in (Int32.toInt64 a0) 0 5).bind fun r1 => if r1 = (nI 0) then some ((-1000000), g) else (m_X7_isJob g a1).bind fun r2 => if r2 = (nI 0) then some ((-1000000), g) else if a0 = (nI 0) then (sb (m_X7_asJob g a1) fun r3 g4 => some (r3, g4)) else if a0 = (nI 1) then (sb (m_X7_asMemo g a1) fun r7 g8 => some (r7, g8)) else if a0 = (nI 2) then (sb (m_X7_asReport g a1) fun r11 g12 => some (r11, g12)) else if a0 = (nI 3) then (sb (m_X7_asNotice g a1) fun r15 g16 => some (r15, g16)) else if a0 = (nI 4) then (sb (m_X7_asLedger g a1) fun r19 g20 => some (r19, g20)) else (sb (m_X7_asFlyer g a1) fun r23 g24 => some (r23, g24))
set_option maxRecDepth 100000 in
set_option maxHeartbeats 4000000 in
theorem c_X7_mark (l : Launch) (z : zE) (gx : zG) (g : zG) (a0 : Int32) (a1 : Int32) : ∀ x, m_X7_mark g a0 a1 = some x → Ms dm l yX7_mark cX7_mark 3 (some .int) rm_X7_mark z [.ref (za z 77 0), .int a0, .int a1] ((wm z gx) g) (osi x) ((wm z gx) ((fun x => x.2) x)) := by
  refine ms_of (Wf := (wm z gx)) (ri := .ireturn) (out := osi) (nxt := (fun x => x.2)) (ok := (fun _ => True)) (lv := [(0, .ref (za z 77 0)), (1, .int a0), (2, .int a1)]) (by decide) ⟨rfl, rfl⟩ (Nat.le_of_ble_eq_true rfl) rfl (en_i (out := fun x : Int32 × zG => x.1)) (fun p e s m below meth c => ?_)
  refine j_eq (M2 := (m_X7_in (Int32.toInt64 a0) 0 5).bind fun r1 => if r1 = (nI 0) then some ((-1000000), g) else (m_X7_isJob g a1).bind fun r2 => if r2 = (nI 0) then some ((-1000000), g) else if a0 = (nI 0) then (sb (m_X7_asJob g a1) fun r3 g4 => some (r3, g4)) else if a0 = (nI 1) then (sb (m_X7_asMemo g a1) fun r7 g8 => some (r7, g8)) else if a0 = (nI 2) then (sb (m_X7_asReport g a1) fun r11 g12 => some (r11, g12)) else if a0 = (nI 3) then (sb (m_X7_asNotice g a1) fun r15 g16 => some (r15, g16)) else if a0 = (nI 4) then (sb (m_X7_asLedger g a1) fun r19 g20 => some (r19, g20)) else (sb (m_X7_asFlyer g a1) fun r23 g24 => some (r23, g24))) rfl ?_
  refine j_iload_n (q := 1) (i := 1) (n := 1) dX7_mark_0 rfl rfl rfl ?_
  refine j_i2l (q := 2) dX7_mark_1 rfl ?_
  refine j_lconst (q := 3) (v := 0) dX7_mark_2 rfl rfl ?_
  refine j_ldc2 (q := 6) (v := 5) dX7_mark_3 wW_X7_257 rfl ?_
  refine j_ci (q := 9) (rn_S (R := rm_X7_mark) (As := [.long (Int32.toInt64 a0), .long 0, .long 5]) (rest := []) (c_X7_in _ z gx g (Int32.toInt64 a0) 0 5) cv_X7_in wM_X7_62 ⟨rfl, rfl⟩ ⟨(Nat.le_of_ble_eq_true rfl), (Nat.le_of_ble_eq_true rfl)⟩ rfl (Nat.le_of_ble_eq_true rfl) dX7_mark_6) rfl (fun r1 => ?_)
  refine j_if_eq (tgt := 20) (q := 12) dX7_mark_9 rfl rfl ?_ ?_
  · refine j_ldcw (q := 23) (v := (-1000000)) dX7_mark_20 wV_X7_259 rfl ?_
    exact j_ret (x := ((-1000000), g)) dX7_mark_23 ⟨trivial, rfl, rfl⟩
  · refine j_aload_n (q := 13) (i := 0) (n := 0) dX7_mark_12 rfl rfl rfl ?_
    refine j_iload_n (q := 14) (i := 2) (n := 2) dX7_mark_13 rfl rfl rfl ?_
    refine j_ci (q := 17) (rn_V (R := rm_X7_mark) (As := [.int a1]) (rest := []) (c_X7_isJob _ z gx g a1) cv_X7_isJob wM_X7_156 ⟨rfl, rfl⟩ ⟨(Nat.le_of_ble_eq_true rfl), (Nat.le_of_ble_eq_true rfl)⟩ (Nat.le_of_ble_eq_true rfl) rfl rfl rfl (Nat.le_of_ble_eq_true rfl) dX7_mark_14) rfl (fun r2 => ?_)
    refine j_if_ne (tgt := 24) (q := 20) dX7_mark_17 rfl rfl ?_ ?_
    · refine j_iload_n (q := 25) (i := 1) (n := 1) dX7_mark_24 rfl rfl rfl ?_
      refine j_case (v := (nI 0)) ?_ (fun h6 => ?_)
      · refine j_tableIn (tgt := 60) dX7_mark_25 (by decide) (by decide) rfl rfl ?_
        refine j_aload_n (q := 61) (i := 0) (n := 0) dX7_mark_60 rfl rfl rfl ?_
        refine j_iload_n (q := 62) (i := 2) (n := 2) dX7_mark_61 rfl rfl rfl ?_
        refine j_ss (q := 65) (rn_V (R := rm_X7_mark) (As := [.int a1]) (rest := []) (c_X7_asJob _ z gx g a1) cv_X7_asJob wM_X7_240 ⟨rfl, rfl⟩ ⟨(Nat.le_of_ble_eq_true rfl), (Nat.le_of_ble_eq_true rfl)⟩ (Nat.le_of_ble_eq_true rfl) rfl rfl rfl (Nat.le_of_ble_eq_true rfl) dX7_mark_62) rfl (fun r3 g4 => ?_)
        exact j_ret (x := (r3, g4)) dX7_mark_65 ⟨trivial, rfl, rfl⟩
      refine j_case (v := (nI 1)) ?_ (fun h10 => ?_)
      · refine j_tableIn (tgt := 66) dX7_mark_25 (by decide) (by decide) rfl rfl ?_
        refine j_aload_n (q := 67) (i := 0) (n := 0) dX7_mark_66 rfl rfl rfl ?_
        refine j_iload_n (q := 68) (i := 2) (n := 2) dX7_mark_67 rfl rfl rfl ?_
        refine j_ss (q := 71) (rn_V (R := rm_X7_mark) (As := [.int a1]) (rest := []) (c_X7_asMemo _ z gx g a1) cv_X7_asMemo wM_X7_247 ⟨rfl, rfl⟩ ⟨(Nat.le_of_ble_eq_true rfl), (Nat.le_of_ble_eq_true rfl)⟩ (Nat.le_of_ble_eq_true rfl) rfl rfl rfl (Nat.le_of_ble_eq_true rfl) dX7_mark_68) rfl (fun r7 g8 => ?_)
        exact j_ret (x := (r7, g8)) dX7_mark_71 ⟨trivial, rfl, rfl⟩
      refine j_case (v := (nI 2)) ?_ (fun h14 => ?_)
      · refine j_tableIn (tgt := 72) dX7_mark_25 (by decide) (by decide) rfl rfl ?_
        refine j_aload_n (q := 73) (i := 0) (n := 0) dX7_mark_72 rfl rfl rfl ?_
        refine j_iload_n (q := 74) (i := 2) (n := 2) dX7_mark_73 rfl rfl rfl ?_
        refine j_ss (q := 77) (rn_V (R := rm_X7_mark) (As := [.int a1]) (rest := []) (c_X7_asReport _ z gx g a1) cv_X7_asReport wM_X7_252 ⟨rfl, rfl⟩ ⟨(Nat.le_of_ble_eq_true rfl), (Nat.le_of_ble_eq_true rfl)⟩ (Nat.le_of_ble_eq_true rfl) rfl rfl rfl (Nat.le_of_ble_eq_true rfl) dX7_mark_74) rfl (fun r11 g12 => ?_)
        exact j_ret (x := (r11, g12)) dX7_mark_77 ⟨trivial, rfl, rfl⟩
      refine j_case (v := (nI 3)) ?_ (fun h18 => ?_)
      · refine j_tableIn (tgt := 78) dX7_mark_25 (by decide) (by decide) rfl rfl ?_
        refine j_aload_n (q := 79) (i := 0) (n := 0) dX7_mark_78 rfl rfl rfl ?_
        refine j_iload_n (q := 80) (i := 2) (n := 2) dX7_mark_79 rfl rfl rfl ?_
        refine j_ss (q := 83) (rn_V (R := rm_X7_mark) (As := [.int a1]) (rest := []) (c_X7_asNotice _ z gx g a1) cv_X7_asNotice wM_X7_260 ⟨rfl, rfl⟩ ⟨(Nat.le_of_ble_eq_true rfl), (Nat.le_of_ble_eq_true rfl)⟩ (Nat.le_of_ble_eq_true rfl) rfl rfl rfl (Nat.le_of_ble_eq_true rfl) dX7_mark_80) rfl (fun r15 g16 => ?_)
        exact j_ret (x := (r15, g16)) dX7_mark_83 ⟨trivial, rfl, rfl⟩
      refine j_case (v := (nI 4)) ?_ (fun h22 => ?_)
      · refine j_tableIn (tgt := 84) dX7_mark_25 (by decide) (by decide) rfl rfl ?_
        refine j_aload_n (q := 85) (i := 0) (n := 0) dX7_mark_84 rfl rfl rfl ?_
        refine j_iload_n (q := 86) (i := 2) (n := 2) dX7_mark_85 rfl rfl rfl ?_
        refine j_ss (q := 89) (rn_V (R := rm_X7_mark) (As := [.int a1]) (rest := []) (c_X7_asLedger _ z gx g a1) cv_X7_asLedger wM_X7_263 ⟨rfl, rfl⟩ ⟨(Nat.le_of_ble_eq_true rfl), (Nat.le_of_ble_eq_true rfl)⟩ (Nat.le_of_ble_eq_true rfl) rfl rfl rfl (Nat.le_of_ble_eq_true rfl) dX7_mark_86) rfl (fun r19 g20 => ?_)
        exact j_ret (x := (r19, g20)) dX7_mark_89 ⟨trivial, rfl, rfl⟩
      refine j_tableOut (tgt := 90) dX7_mark_25 (by have e0 := q_ne (n := 0) h6 rfl; have e1 := q_ne (n := 1) h10 rfl; have e2 := q_ne (n := 2) h14 rfl; have e3 := q_ne (n := 3) h18 rfl; have e4 := q_ne (n := 4) h22 rfl; omega) rfl ?_
      refine j_aload_n (q := 91) (i := 0) (n := 0) dX7_mark_90 rfl rfl rfl ?_
      refine j_iload_n (q := 92) (i := 2) (n := 2) dX7_mark_91 rfl rfl rfl ?_
      refine j_ss (q := 95) (rn_V (R := rm_X7_mark) (As := [.int a1]) (rest := []) (c_X7_asFlyer _ z gx g a1) cv_X7_asFlyer wM_X7_266 ⟨rfl, rfl⟩ ⟨(Nat.le_of_ble_eq_true rfl), (Nat.le_of_ble_eq_true rfl)⟩ (Nat.le_of_ble_eq_true rfl) rfl rfl rfl (Nat.le_of_ble_eq_true rfl) dX7_mark_92) rfl (fun r23 g24 => ?_)
      exact j_ret (x := (r23, g24)) dX7_mark_95 ⟨trivial, rfl, rfl⟩
    · refine j_ldcw (q := 23) (v := (-1000000)) dX7_mark_20 wV_X7_259 rfl ?_
      exact j_ret (x := ((-1000000), g)) dX7_mark_23 ⟨trivial, rfl, rfl⟩
-- CopierJobsModel.keep(I)I
abbrev rm_X7_keep : Room := { frames := 2, cells := 0, slots := 0, locals := 45 }
theorem cv_X7_keep : CV yX7_keep cX7_keep 4 (some .int) 1 := ⟨wC_X7_keep, wI_X7_keep, wS_X7_keep, wZ_X7, by decide +kernel⟩
def m_X7_keep_B75 (a0 : Int32) (g : zG) (x2 : Int32) : Option (Int32 × zG) := gd (inb ((x2 + (nI 342)) - (nI 1)) 684 = true) (bd (ui g 112 0 ((x2 + (nI 342)) - (nI 1)).toNatClampNeg (gi g 122 0 0)) fun g2 => gd (inb a0 2 = true) (bd (ui g2 113 0 a0.toNatClampNeg (nI 1)) fun g3 => gd (inb (nI 0) 31 = true) (some (gi g3 105 0 (nI 0).toNatClampNeg, g3))))
set_option maxRecDepth 100000 in
set_option maxHeartbeats 4000000 in
theorem t_X7_keep_B75 {p : Program} {l : Launch} {e : Env} {s : State} {m : MethodId} {args : Array Value} {below : List Frame} {meth : Method} {c : Code} {cells slots : Nat} {Q : (Int32 × zG) → State → Prop} (z : zE) (gx : zG) (a0 : Int32) (g : zG) (x2 : Int32) : zJ dm p l e rm_X7_keep s m args below meth c cX7_keep 4 yX7_keep.cls z cells slots (wm z gx) (fn (fun _ => True) (fun x => x.2) osi) .ireturn Q 75 [(0, .ref (za z 77 0)), (1, .int a0), (2, .int x2)] [] g (m_X7_keep_B75 a0 g x2) := by
  refine j_eq (M2 := gd (inb ((x2 + (nI 342)) - (nI 1)) 684 = true) (bd (ui g 112 0 ((x2 + (nI 342)) - (nI 1)).toNatClampNeg (gi g 122 0 0)) fun g2 => gd (inb a0 2 = true) (bd (ui g2 113 0 a0.toNatClampNeg (nI 1)) fun g3 => gd (inb (nI 0) 31 = true) (some (gi g3 105 0 (nI 0).toNatClampNeg, g3))))) rfl ?_
  refine j_aload_n (q := 76) (i := 0) (n := 0) dX7_keep_75 rfl rfl rfl ?_
  refine g_X7_images (q := 79) wF_X7_50 (Nat.le_of_ble_eq_true rfl) dX7_keep_76 rfl ?_
  refine j_iload_n (q := 80) (i := 2) (n := 2) dX7_keep_79 rfl rfl rfl ?_
  refine j_sipush (q := 83) (v := (nI 342)) dX7_keep_80 rfl rfl ?_
  refine j_iadd (q := 84) dX7_keep_83 rfl ?_
  refine j_iconst (q := 85) (v := (nI 1)) dX7_keep_84 rfl rfl ?_
  refine j_isub (q := 86) dX7_keep_85 rfl ?_
  refine j_aload_n (q := 87) (i := 0) (n := 0) dX7_keep_86 rfl rfl rfl ?_
  refine g_X7_undoMany (q := 90) wF_X7_133 (Nat.le_of_ble_eq_true rfl) dX7_keep_87 rfl ?_
  refine am_st (k := 112) (n := 684) (q := 91) dm_le isM_112 rfl (Nat.le_of_ble_eq_true rfl) dX7_keep_90 rfl (fun g2 => ?_)
  refine j_aload_n (q := 92) (i := 0) (n := 0) dX7_keep_91 rfl rfl rfl ?_
  refine g_X7_isKept (q := 95) wF_X7_53 (Nat.le_of_ble_eq_true rfl) dX7_keep_92 rfl ?_
  refine j_iload_n (q := 96) (i := 1) (n := 1) dX7_keep_95 rfl rfl rfl ?_
  refine j_iconst (q := 97) (v := (nI 1)) dX7_keep_96 rfl rfl ?_
  refine am_st (k := 113) (n := 2) (q := 98) dm_le isM_113 rfl (Nat.le_of_ble_eq_true rfl) dX7_keep_97 rfl (fun g3 => ?_)
  refine j_aload_n (q := 99) (i := 0) (n := 0) dX7_keep_98 rfl rfl rfl ?_
  refine g_X7_st (q := 102) wF_X7_29 (Nat.le_of_ble_eq_true rfl) dX7_keep_99 rfl ?_
  refine j_iconst (q := 103) (v := (nI 0)) dX7_keep_102 rfl rfl ?_
  refine am_ld (k := 105) (n := 31) (q := 104) isM_105 rfl (Nat.le_of_ble_eq_true rfl) dX7_keep_103 rfl ?_
  exact j_ret (x := (gi g3 105 0 (nI 0).toNatClampNeg, g3)) dX7_keep_104 ⟨trivial, rfl, rfl⟩
def m_X7_keep_L45 (a0 : Int32) : Nat → zG → Int32 → Int32 → Option (Int32 × zG)
  | 0, _, _, _ => none
  | f + 1, g, x2, x3 => if x3 < (nI 310) then gd (inb x3 310 = true) (gd (inb ((x2 + (nI 31)) + x3) 684 = true) (bd (ui g 112 0 ((x2 + (nI 31)) + x3).toNatClampNeg (gi g 106 0 x3.toNatClampNeg)) fun g4 => m_X7_keep_L45 a0 f g4 x2 (x3 + (nI 1)))) else m_X7_keep_B75 a0 g x2
set_option maxRecDepth 100000 in
set_option maxHeartbeats 4000000 in
theorem t_X7_keep_L45 {p : Program} {l : Launch} {e : Env} {s : State} {m : MethodId} {args : Array Value} {below : List Frame} {meth : Method} {c : Code} {cells slots : Nat} {Q : (Int32 × zG) → State → Prop} (z : zE) (gx : zG) (a0 : Int32) : ∀ (f : Nat) (g : zG) (x2 : Int32) (x3 : Int32), zJ dm p l e rm_X7_keep s m args below meth c cX7_keep 4 yX7_keep.cls z cells slots (wm z gx) (fn (fun _ => True) (fun x => x.2) osi) .ireturn Q 45 [(0, .ref (za z 77 0)), (1, .int a0), (2, .int x2), (3, .int x3)] [] g (m_X7_keep_L45 a0 f g x2 x3) := by
  intro f
  induction f with
  | zero => intro g x2 x3; exact j_none
  | succ f ih =>
    intro g x2 x3
    refine j_eq (M2 := if x3 < (nI 310) then gd (inb x3 310 = true) (gd (inb ((x2 + (nI 31)) + x3) 684 = true) (bd (ui g 112 0 ((x2 + (nI 31)) + x3).toNatClampNeg (gi g 106 0 x3.toNatClampNeg)) fun g4 => m_X7_keep_L45 a0 f g4 x2 (x3 + (nI 1)))) else m_X7_keep_B75 a0 g x2) rfl ?_
    refine j_iload_n (q := 46) (i := 3) (n := 3) dX7_keep_45 rfl rfl rfl ?_
    refine j_sipush (q := 49) (v := (nI 310)) dX7_keep_46 rfl rfl ?_
    refine j_icmp_ge (tgt := 75) (q := 52) dX7_keep_49 rfl rfl ?_ ?_
    · refine j_lv [0, 1, 2] (lv' := [(0, .ref (za z 77 0)), (1, .int a0), (2, .int x2)]) rfl ?_
      exact t_X7_keep_B75 z gx a0 g x2
    · refine j_aload_n (q := 53) (i := 0) (n := 0) dX7_keep_52 rfl rfl rfl ?_
      refine g_X7_images (q := 56) wF_X7_50 (Nat.le_of_ble_eq_true rfl) dX7_keep_53 rfl ?_
      refine j_iload_n (q := 57) (i := 2) (n := 2) dX7_keep_56 rfl rfl rfl ?_
      refine j_bipush (q := 59) (v := (nI 31)) dX7_keep_57 rfl rfl ?_
      refine j_iadd (q := 60) dX7_keep_59 rfl ?_
      refine j_iload_n (q := 61) (i := 3) (n := 3) dX7_keep_60 rfl rfl rfl ?_
      refine j_iadd (q := 62) dX7_keep_61 rfl ?_
      refine j_aload_n (q := 63) (i := 0) (n := 0) dX7_keep_62 rfl rfl rfl ?_
      refine g_X7_past (q := 66) wF_X7_32 (Nat.le_of_ble_eq_true rfl) dX7_keep_63 rfl ?_
      refine j_iload_n (q := 67) (i := 3) (n := 3) dX7_keep_66 rfl rfl rfl ?_
      refine am_ld (k := 106) (n := 310) (q := 68) isM_106 rfl (Nat.le_of_ble_eq_true rfl) dX7_keep_67 rfl ?_
      refine am_st (k := 112) (n := 684) (q := 69) dm_le isM_112 rfl (Nat.le_of_ble_eq_true rfl) dX7_keep_68 rfl (fun g4 => ?_)
      refine j_iinc (q := 72) (n := 3) (i := 3) (v := x3 + (nI 1)) (lv' := [(3, .int (x3 + (nI 1))), (0, .ref (za z 77 0)), (1, .int a0), (2, .int x2)]) dX7_keep_69 rfl rfl (Nat.le_of_ble_eq_true rfl) rfl rfl ?_
      refine j_goto (tgt := 45) dX7_keep_72 rfl ?_
      refine j_lv [1, 2, 3, 0] (lv' := [(0, .ref (za z 77 0)), (1, .int a0), (2, .int x2), (3, .int (x3 + (nI 1)))]) rfl ?_
      exact ih g4 x2 (x3 + (nI 1))
def m_X7_keep_L17 (a0 : Int32) : Nat → zG → Int32 → Int32 → Option (Int32 × zG)
  | 0, _, _, _ => none
  | f + 1, g, x2, x3 => if x3 < (nI 31) then gd (inb x3 31 = true) (gd (inb (x2 + x3) 684 = true) (bd (ui g 112 0 (x2 + x3).toNatClampNeg (gi g 105 0 x3.toNatClampNeg)) fun g5 => m_X7_keep_L17 a0 f g5 x2 (x3 + (nI 1)))) else m_X7_keep_L45 a0 FU g x2 (nI 0)
set_option maxRecDepth 100000 in
set_option maxHeartbeats 4000000 in
theorem t_X7_keep_L17 {p : Program} {l : Launch} {e : Env} {s : State} {m : MethodId} {args : Array Value} {below : List Frame} {meth : Method} {c : Code} {cells slots : Nat} {Q : (Int32 × zG) → State → Prop} (z : zE) (gx : zG) (a0 : Int32) : ∀ (f : Nat) (g : zG) (x2 : Int32) (x3 : Int32), zJ dm p l e rm_X7_keep s m args below meth c cX7_keep 4 yX7_keep.cls z cells slots (wm z gx) (fn (fun _ => True) (fun x => x.2) osi) .ireturn Q 17 [(0, .ref (za z 77 0)), (1, .int a0), (2, .int x2), (3, .int x3)] [] g (m_X7_keep_L17 a0 f g x2 x3) := by
  intro f
  induction f with
  | zero => intro g x2 x3; exact j_none
  | succ f ih =>
    intro g x2 x3
    refine j_eq (M2 := if x3 < (nI 31) then gd (inb x3 31 = true) (gd (inb (x2 + x3) 684 = true) (bd (ui g 112 0 (x2 + x3).toNatClampNeg (gi g 105 0 x3.toNatClampNeg)) fun g5 => m_X7_keep_L17 a0 f g5 x2 (x3 + (nI 1)))) else m_X7_keep_L45 a0 FU g x2 (nI 0)) rfl ?_
    refine j_iload_n (q := 18) (i := 3) (n := 3) dX7_keep_17 rfl rfl rfl ?_
    refine j_bipush (q := 20) (v := (nI 31)) dX7_keep_18 rfl rfl ?_
    refine j_icmp_ge (tgt := 43) (q := 23) dX7_keep_20 rfl rfl ?_ ?_
    · refine j_iconst (q := 44) (v := (nI 0)) dX7_keep_43 rfl rfl ?_
      refine j_istore_n (q := 45) (n := 3) (lv' := [(3, .int (nI 0)), (0, .ref (za z 77 0)), (1, .int a0), (2, .int x2)]) dX7_keep_44 rfl (Nat.le_of_ble_eq_true rfl) rfl rfl ?_
      refine j_lv [1, 2, 3, 0] (lv' := [(0, .ref (za z 77 0)), (1, .int a0), (2, .int x2), (3, .int (nI 0))]) rfl ?_
      exact t_X7_keep_L45 z gx a0 FU g x2 (nI 0)
    · refine j_aload_n (q := 24) (i := 0) (n := 0) dX7_keep_23 rfl rfl rfl ?_
      refine g_X7_images (q := 27) wF_X7_50 (Nat.le_of_ble_eq_true rfl) dX7_keep_24 rfl ?_
      refine j_iload_n (q := 28) (i := 2) (n := 2) dX7_keep_27 rfl rfl rfl ?_
      refine j_iload_n (q := 29) (i := 3) (n := 3) dX7_keep_28 rfl rfl rfl ?_
      refine j_iadd (q := 30) dX7_keep_29 rfl ?_
      refine j_aload_n (q := 31) (i := 0) (n := 0) dX7_keep_30 rfl rfl rfl ?_
      refine g_X7_st (q := 34) wF_X7_29 (Nat.le_of_ble_eq_true rfl) dX7_keep_31 rfl ?_
      refine j_iload_n (q := 35) (i := 3) (n := 3) dX7_keep_34 rfl rfl rfl ?_
      refine am_ld (k := 105) (n := 31) (q := 36) isM_105 rfl (Nat.le_of_ble_eq_true rfl) dX7_keep_35 rfl ?_
      refine am_st (k := 112) (n := 684) (q := 37) dm_le isM_112 rfl (Nat.le_of_ble_eq_true rfl) dX7_keep_36 rfl (fun g5 => ?_)
      refine j_iinc (q := 40) (n := 3) (i := 3) (v := x3 + (nI 1)) (lv' := [(3, .int (x3 + (nI 1))), (0, .ref (za z 77 0)), (1, .int a0), (2, .int x2)]) dX7_keep_37 rfl rfl (Nat.le_of_ble_eq_true rfl) rfl rfl ?_
      refine j_goto (tgt := 17) dX7_keep_40 rfl ?_
      refine j_lv [1, 2, 3, 0] (lv' := [(0, .ref (za z 77 0)), (1, .int a0), (2, .int x2), (3, .int (x3 + (nI 1)))]) rfl ?_
      exact ih g5 x2 (x3 + (nI 1))
def m_X7_keep (g : zG) (a0 : Int32) : Option (Int32 × zG) := (m_X7_isPart a0).bind fun r1 => if r1 = (nI 0) then some ((-1), g) else m_X7_keep_L17 a0 FU g ((nI 342) * a0) (nI 0)
set_option maxRecDepth 100000 in
set_option maxHeartbeats 4000000 in
theorem c_X7_keep (l : Launch) (z : zE) (gx : zG) (g : zG) (a0 : Int32) : ∀ x, m_X7_keep g a0 = some x → Ms dm l yX7_keep cX7_keep 4 (some .int) rm_X7_keep z [.ref (za z 77 0), .int a0] ((wm z gx) g) (osi x) ((wm z gx) ((fun x => x.2) x)) := by
  refine ms_of (Wf := (wm z gx)) (ri := .ireturn) (out := osi) (nxt := (fun x => x.2)) (ok := (fun _ => True)) (lv := [(0, .ref (za z 77 0)), (1, .int a0)]) (by decide) ⟨rfl, rfl⟩ (Nat.le_of_ble_eq_true rfl) rfl (en_i (out := fun x : Int32 × zG => x.1)) (fun p e s m below meth c => ?_)
  refine j_eq (M2 := (m_X7_isPart a0).bind fun r1 => if r1 = (nI 0) then some ((-1), g) else m_X7_keep_L17 a0 FU g ((nI 342) * a0) (nI 0)) rfl ?_
  refine j_iload_n (q := 1) (i := 1) (n := 1) dX7_keep_0 rfl rfl rfl ?_
  refine j_ci (q := 4) (rn_S (R := rm_X7_keep) (As := [.int a0]) (rest := []) (c_X7_isPart _ z gx g a0) cv_X7_isPart wM_X7_202 ⟨rfl, rfl⟩ ⟨(Nat.le_of_ble_eq_true rfl), (Nat.le_of_ble_eq_true rfl)⟩ rfl (Nat.le_of_ble_eq_true rfl) dX7_keep_1) rfl (fun r1 => ?_)
  refine j_if_ne (tgt := 9) (q := 7) dX7_keep_4 rfl rfl ?_ ?_
  · refine j_sipush (q := 12) (v := (nI 342)) dX7_keep_9 rfl rfl ?_
    refine j_iload_n (q := 13) (i := 1) (n := 1) dX7_keep_12 rfl rfl rfl ?_
    refine j_imul (q := 14) dX7_keep_13 rfl ?_
    refine j_istore_n (q := 15) (n := 2) (lv' := [(2, .int ((nI 342) * a0)), (0, .ref (za z 77 0)), (1, .int a0)]) dX7_keep_14 rfl (Nat.le_of_ble_eq_true rfl) rfl rfl ?_
    refine j_iconst (q := 16) (v := (nI 0)) dX7_keep_15 rfl rfl ?_
    refine j_istore_n (q := 17) (n := 3) (lv' := [(3, .int (nI 0)), (2, .int ((nI 342) * a0)), (0, .ref (za z 77 0)), (1, .int a0)]) dX7_keep_16 rfl (Nat.le_of_ble_eq_true rfl) rfl rfl ?_
    refine j_lv [2, 3, 1, 0] (lv' := [(0, .ref (za z 77 0)), (1, .int a0), (2, .int ((nI 342) * a0)), (3, .int (nI 0))]) rfl ?_
    exact t_X7_keep_L17 z gx a0 FU g ((nI 342) * a0) (nI 0)
  · refine j_iconst (q := 8) (v := (-1)) dX7_keep_7 rfl rfl ?_
    exact j_ret (x := ((-1), g)) dX7_keep_8 ⟨trivial, rfl, rfl⟩
-- CopierJobsModel.back(I)I
abbrev rm_X7_back : Room := { frames := 2, cells := 0, slots := 0, locals := 45 }
theorem cv_X7_back : CV yX7_back cX7_back 4 (some .int) 1 := ⟨wC_X7_back, wI_X7_back, wS_X7_back, wZ_X7, by decide +kernel⟩
def m_X7_back_B87 (a0 : Int32) (g : zG) (x2 : Int32) : Option (Int32 × zG) := gd (inb ((x2 + (nI 342)) - (nI 1)) 684 = true) (bd (ui g 122 0 0 (gi g 112 0 ((x2 + (nI 342)) - (nI 1)).toNatClampNeg)) fun g2 => gd (inb (nI 0) 31 = true) (some (gi g2 105 0 (nI 0).toNatClampNeg, g2)))
set_option maxRecDepth 100000 in
set_option maxHeartbeats 4000000 in
theorem t_X7_back_B87 {p : Program} {l : Launch} {e : Env} {s : State} {m : MethodId} {args : Array Value} {below : List Frame} {meth : Method} {c : Code} {cells slots : Nat} {Q : (Int32 × zG) → State → Prop} (z : zE) (gx : zG) (a0 : Int32) (g : zG) (x2 : Int32) : zJ dm p l e rm_X7_back s m args below meth c cX7_back 4 yX7_back.cls z cells slots (wm z gx) (fn (fun _ => True) (fun x => x.2) osi) .ireturn Q 87 [(0, .ref (za z 77 0)), (2, .int x2)] [] g (m_X7_back_B87 a0 g x2) := by
  refine j_eq (M2 := gd (inb ((x2 + (nI 342)) - (nI 1)) 684 = true) (bd (ui g 122 0 0 (gi g 112 0 ((x2 + (nI 342)) - (nI 1)).toNatClampNeg)) fun g2 => gd (inb (nI 0) 31 = true) (some (gi g2 105 0 (nI 0).toNatClampNeg, g2)))) rfl ?_
  refine j_aload_n (q := 88) (i := 0) (n := 0) dX7_back_87 rfl rfl rfl ?_
  refine j_aload_n (q := 89) (i := 0) (n := 0) dX7_back_88 rfl rfl rfl ?_
  refine g_X7_images (q := 92) wF_X7_50 (Nat.le_of_ble_eq_true rfl) dX7_back_89 rfl ?_
  refine j_iload_n (q := 93) (i := 1) (n := 2) dX7_back_92 rfl rfl rfl ?_
  refine j_sipush (q := 96) (v := (nI 342)) dX7_back_93 rfl rfl ?_
  refine j_iadd (q := 97) dX7_back_96 rfl ?_
  refine j_iconst (q := 98) (v := (nI 1)) dX7_back_97 rfl rfl ?_
  refine j_isub (q := 99) dX7_back_98 rfl ?_
  refine am_ld (k := 112) (n := 684) (q := 100) isM_112 rfl (Nat.le_of_ble_eq_true rfl) dX7_back_99 rfl ?_
  refine p_X7_undoMany (q := 103) dm_le wF_X7_133 (Nat.le_of_ble_eq_true rfl) dX7_back_100 rfl (fun g2 => ?_)
  refine j_aload_n (q := 104) (i := 0) (n := 0) dX7_back_103 rfl rfl rfl ?_
  refine g_X7_st (q := 107) wF_X7_29 (Nat.le_of_ble_eq_true rfl) dX7_back_104 rfl ?_
  refine j_iconst (q := 108) (v := (nI 0)) dX7_back_107 rfl rfl ?_
  refine am_ld (k := 105) (n := 31) (q := 109) isM_105 rfl (Nat.le_of_ble_eq_true rfl) dX7_back_108 rfl ?_
  exact j_ret (x := (gi g2 105 0 (nI 0).toNatClampNeg, g2)) dX7_back_109 ⟨trivial, rfl, rfl⟩
def m_X7_back_L57 (a0 : Int32) : Nat → zG → Int32 → Int32 → Option (Int32 × zG)
  | 0, _, _, _ => none
  | f + 1, g, x2, x3 => if x3 < (nI 310) then gd (inb ((x2 + (nI 31)) + x3) 684 = true) (gd (inb x3 310 = true) (bd (ui g 106 0 x3.toNatClampNeg (gi g 112 0 ((x2 + (nI 31)) + x3).toNatClampNeg)) fun g3 => m_X7_back_L57 a0 f g3 x2 (x3 + (nI 1)))) else m_X7_back_B87 a0 g x2
set_option maxRecDepth 100000 in
set_option maxHeartbeats 4000000 in
theorem t_X7_back_L57 {p : Program} {l : Launch} {e : Env} {s : State} {m : MethodId} {args : Array Value} {below : List Frame} {meth : Method} {c : Code} {cells slots : Nat} {Q : (Int32 × zG) → State → Prop} (z : zE) (gx : zG) (a0 : Int32) : ∀ (f : Nat) (g : zG) (x2 : Int32) (x3 : Int32), zJ dm p l e rm_X7_back s m args below meth c cX7_back 4 yX7_back.cls z cells slots (wm z gx) (fn (fun _ => True) (fun x => x.2) osi) .ireturn Q 57 [(0, .ref (za z 77 0)), (2, .int x2), (3, .int x3)] [] g (m_X7_back_L57 a0 f g x2 x3) := by
  intro f
  induction f with
  | zero => intro g x2 x3; exact j_none
  | succ f ih =>
    intro g x2 x3
    refine j_eq (M2 := if x3 < (nI 310) then gd (inb ((x2 + (nI 31)) + x3) 684 = true) (gd (inb x3 310 = true) (bd (ui g 106 0 x3.toNatClampNeg (gi g 112 0 ((x2 + (nI 31)) + x3).toNatClampNeg)) fun g3 => m_X7_back_L57 a0 f g3 x2 (x3 + (nI 1)))) else m_X7_back_B87 a0 g x2) rfl ?_
    refine j_iload_n (q := 58) (i := 2) (n := 3) dX7_back_57 rfl rfl rfl ?_
    refine j_sipush (q := 61) (v := (nI 310)) dX7_back_58 rfl rfl ?_
    refine j_icmp_ge (tgt := 87) (q := 64) dX7_back_61 rfl rfl ?_ ?_
    · refine j_lv [0, 1] (lv' := [(0, .ref (za z 77 0)), (2, .int x2)]) rfl ?_
      exact t_X7_back_B87 z gx a0 g x2
    · refine j_aload_n (q := 65) (i := 0) (n := 0) dX7_back_64 rfl rfl rfl ?_
      refine g_X7_past (q := 68) wF_X7_32 (Nat.le_of_ble_eq_true rfl) dX7_back_65 rfl ?_
      refine j_iload_n (q := 69) (i := 2) (n := 3) dX7_back_68 rfl rfl rfl ?_
      refine j_aload_n (q := 70) (i := 0) (n := 0) dX7_back_69 rfl rfl rfl ?_
      refine g_X7_images (q := 73) wF_X7_50 (Nat.le_of_ble_eq_true rfl) dX7_back_70 rfl ?_
      refine j_iload_n (q := 74) (i := 1) (n := 2) dX7_back_73 rfl rfl rfl ?_
      refine j_bipush (q := 76) (v := (nI 31)) dX7_back_74 rfl rfl ?_
      refine j_iadd (q := 77) dX7_back_76 rfl ?_
      refine j_iload_n (q := 78) (i := 2) (n := 3) dX7_back_77 rfl rfl rfl ?_
      refine j_iadd (q := 79) dX7_back_78 rfl ?_
      refine am_ld (k := 112) (n := 684) (q := 80) isM_112 rfl (Nat.le_of_ble_eq_true rfl) dX7_back_79 rfl ?_
      refine am_st (k := 106) (n := 310) (q := 81) dm_le isM_106 rfl (Nat.le_of_ble_eq_true rfl) dX7_back_80 rfl (fun g3 => ?_)
      refine j_iinc (q := 84) (n := 3) (i := 2) (v := x3 + (nI 1)) (lv' := [(3, .int (x3 + (nI 1))), (0, .ref (za z 77 0)), (2, .int x2)]) dX7_back_81 rfl rfl (Nat.le_of_ble_eq_true rfl) rfl rfl ?_
      refine j_goto (tgt := 57) dX7_back_84 rfl ?_
      refine j_lv [1, 2, 0] (lv' := [(0, .ref (za z 77 0)), (2, .int x2), (3, .int (x3 + (nI 1)))]) rfl ?_
      exact ih g3 x2 (x3 + (nI 1))
def m_X7_back_L29 (a0 : Int32) : Nat → zG → Int32 → Int32 → Option (Int32 × zG)
  | 0, _, _, _ => none
  | f + 1, g, x2, x3 => if x3 < (nI 31) then gd (inb (x2 + x3) 684 = true) (gd (inb x3 31 = true) (bd (ui g 105 0 x3.toNatClampNeg (gi g 112 0 (x2 + x3).toNatClampNeg)) fun g4 => m_X7_back_L29 a0 f g4 x2 (x3 + (nI 1)))) else m_X7_back_L57 a0 FU g x2 (nI 0)
set_option maxRecDepth 100000 in
set_option maxHeartbeats 4000000 in
theorem t_X7_back_L29 {p : Program} {l : Launch} {e : Env} {s : State} {m : MethodId} {args : Array Value} {below : List Frame} {meth : Method} {c : Code} {cells slots : Nat} {Q : (Int32 × zG) → State → Prop} (z : zE) (gx : zG) (a0 : Int32) : ∀ (f : Nat) (g : zG) (x2 : Int32) (x3 : Int32), zJ dm p l e rm_X7_back s m args below meth c cX7_back 4 yX7_back.cls z cells slots (wm z gx) (fn (fun _ => True) (fun x => x.2) osi) .ireturn Q 29 [(0, .ref (za z 77 0)), (2, .int x2), (3, .int x3)] [] g (m_X7_back_L29 a0 f g x2 x3) := by
  intro f
  induction f with
  | zero => intro g x2 x3; exact j_none
  | succ f ih =>
    intro g x2 x3
    refine j_eq (M2 := if x3 < (nI 31) then gd (inb (x2 + x3) 684 = true) (gd (inb x3 31 = true) (bd (ui g 105 0 x3.toNatClampNeg (gi g 112 0 (x2 + x3).toNatClampNeg)) fun g4 => m_X7_back_L29 a0 f g4 x2 (x3 + (nI 1)))) else m_X7_back_L57 a0 FU g x2 (nI 0)) rfl ?_
    refine j_iload_n (q := 30) (i := 2) (n := 3) dX7_back_29 rfl rfl rfl ?_
    refine j_bipush (q := 32) (v := (nI 31)) dX7_back_30 rfl rfl ?_
    refine j_icmp_ge (tgt := 55) (q := 35) dX7_back_32 rfl rfl ?_ ?_
    · refine j_iconst (q := 56) (v := (nI 0)) dX7_back_55 rfl rfl ?_
      refine j_istore_n (q := 57) (n := 3) (lv' := [(3, .int (nI 0)), (0, .ref (za z 77 0)), (2, .int x2)]) dX7_back_56 rfl (Nat.le_of_ble_eq_true rfl) rfl rfl ?_
      refine j_lv [1, 2, 0] (lv' := [(0, .ref (za z 77 0)), (2, .int x2), (3, .int (nI 0))]) rfl ?_
      exact t_X7_back_L57 z gx a0 FU g x2 (nI 0)
    · refine j_aload_n (q := 36) (i := 0) (n := 0) dX7_back_35 rfl rfl rfl ?_
      refine g_X7_st (q := 39) wF_X7_29 (Nat.le_of_ble_eq_true rfl) dX7_back_36 rfl ?_
      refine j_iload_n (q := 40) (i := 2) (n := 3) dX7_back_39 rfl rfl rfl ?_
      refine j_aload_n (q := 41) (i := 0) (n := 0) dX7_back_40 rfl rfl rfl ?_
      refine g_X7_images (q := 44) wF_X7_50 (Nat.le_of_ble_eq_true rfl) dX7_back_41 rfl ?_
      refine j_iload_n (q := 45) (i := 1) (n := 2) dX7_back_44 rfl rfl rfl ?_
      refine j_iload_n (q := 46) (i := 2) (n := 3) dX7_back_45 rfl rfl rfl ?_
      refine j_iadd (q := 47) dX7_back_46 rfl ?_
      refine am_ld (k := 112) (n := 684) (q := 48) isM_112 rfl (Nat.le_of_ble_eq_true rfl) dX7_back_47 rfl ?_
      refine am_st (k := 105) (n := 31) (q := 49) dm_le isM_105 rfl (Nat.le_of_ble_eq_true rfl) dX7_back_48 rfl (fun g4 => ?_)
      refine j_iinc (q := 52) (n := 3) (i := 2) (v := x3 + (nI 1)) (lv' := [(3, .int (x3 + (nI 1))), (0, .ref (za z 77 0)), (2, .int x2)]) dX7_back_49 rfl rfl (Nat.le_of_ble_eq_true rfl) rfl rfl ?_
      refine j_goto (tgt := 29) dX7_back_52 rfl ?_
      refine j_lv [1, 2, 0] (lv' := [(0, .ref (za z 77 0)), (2, .int x2), (3, .int (x3 + (nI 1)))]) rfl ?_
      exact ih g4 x2 (x3 + (nI 1))
def m_X7_back (g : zG) (a0 : Int32) : Option (Int32 × zG) := (m_X7_isPart a0).bind fun r1 => if r1 = (nI 0) then some ((-1), g) else gd (inb a0 2 = true) (if (gi g 113 0 a0.toNatClampNeg) = (nI 0) then some ((-2), g) else m_X7_back_L29 a0 FU g ((nI 342) * a0) (nI 0))
set_option maxRecDepth 100000 in
set_option maxHeartbeats 4000000 in
theorem c_X7_back (l : Launch) (z : zE) (gx : zG) (g : zG) (a0 : Int32) : ∀ x, m_X7_back g a0 = some x → Ms dm l yX7_back cX7_back 4 (some .int) rm_X7_back z [.ref (za z 77 0), .int a0] ((wm z gx) g) (osi x) ((wm z gx) ((fun x => x.2) x)) := by
  refine ms_of (Wf := (wm z gx)) (ri := .ireturn) (out := osi) (nxt := (fun x => x.2)) (ok := (fun _ => True)) (lv := [(0, .ref (za z 77 0)), (1, .int a0)]) (by decide) ⟨rfl, rfl⟩ (Nat.le_of_ble_eq_true rfl) rfl (en_i (out := fun x : Int32 × zG => x.1)) (fun p e s m below meth c => ?_)
  refine j_eq (M2 := (m_X7_isPart a0).bind fun r1 => if r1 = (nI 0) then some ((-1), g) else gd (inb a0 2 = true) (if (gi g 113 0 a0.toNatClampNeg) = (nI 0) then some ((-2), g) else m_X7_back_L29 a0 FU g ((nI 342) * a0) (nI 0))) rfl ?_
  refine j_iload_n (q := 1) (i := 1) (n := 1) dX7_back_0 rfl rfl rfl ?_
  refine j_ci (q := 4) (rn_S (R := rm_X7_back) (As := [.int a0]) (rest := []) (c_X7_isPart _ z gx g a0) cv_X7_isPart wM_X7_202 ⟨rfl, rfl⟩ ⟨(Nat.le_of_ble_eq_true rfl), (Nat.le_of_ble_eq_true rfl)⟩ rfl (Nat.le_of_ble_eq_true rfl) dX7_back_1) rfl (fun r1 => ?_)
  refine j_if_ne (tgt := 9) (q := 7) dX7_back_4 rfl rfl ?_ ?_
  · refine j_aload_n (q := 10) (i := 0) (n := 0) dX7_back_9 rfl rfl rfl ?_
    refine g_X7_isKept (q := 13) wF_X7_53 (Nat.le_of_ble_eq_true rfl) dX7_back_10 rfl ?_
    refine j_iload_n (q := 14) (i := 1) (n := 1) dX7_back_13 rfl rfl rfl ?_
    refine am_ld (k := 113) (n := 2) (q := 15) isM_113 rfl (Nat.le_of_ble_eq_true rfl) dX7_back_14 rfl ?_
    refine j_if_ne (tgt := 21) (q := 18) dX7_back_15 rfl rfl ?_ ?_
    · refine j_sipush (q := 24) (v := (nI 342)) dX7_back_21 rfl rfl ?_
      refine j_iload_n (q := 25) (i := 1) (n := 1) dX7_back_24 rfl rfl rfl ?_
      refine j_imul (q := 26) dX7_back_25 rfl ?_
      refine j_istore_n (q := 27) (n := 2) (lv' := [(2, .int ((nI 342) * a0)), (0, .ref (za z 77 0)), (1, .int a0)]) dX7_back_26 rfl (Nat.le_of_ble_eq_true rfl) rfl rfl ?_
      refine j_iconst (q := 28) (v := (nI 0)) dX7_back_27 rfl rfl ?_
      refine j_istore_n (q := 29) (n := 3) (lv' := [(3, .int (nI 0)), (2, .int ((nI 342) * a0)), (0, .ref (za z 77 0)), (1, .int a0)]) dX7_back_28 rfl (Nat.le_of_ble_eq_true rfl) rfl rfl ?_
      refine j_lv [2, 1, 0] (lv' := [(0, .ref (za z 77 0)), (2, .int ((nI 342) * a0)), (3, .int (nI 0))]) rfl ?_
      exact t_X7_back_L29 z gx a0 FU g ((nI 342) * a0) (nI 0)
    · refine j_bipush (q := 20) (v := (-2)) dX7_back_18 rfl rfl ?_
      exact j_ret (x := ((-2), g)) dX7_back_20 ⟨trivial, rfl, rfl⟩
  · refine j_iconst (q := 8) (v := (-1)) dX7_back_7 rfl rfl ?_
    exact j_ret (x := ((-1), g)) dX7_back_8 ⟨trivial, rfl, rfl⟩
-- CopierJobsModel.count(I)I
abbrev rm_X7_count : Room := { frames := 0, cells := 0, slots := 0, locals := 0 }
theorem cv_X7_count : CV yX7_count cX7_count 2 (some .int) 1 := ⟨wC_X7_count, wI_X7_count, wS_X7_count, wZ_X7, by decide +kernel⟩
def m_X7_count (g : zG) (a0 : Int32) : Option (Int32) := if a0 = (nI 0) then (some (gi g 121 0 0)) else if a0 = (nI 1) then (some (gi g 120 0 0)) else if a0 = (nI 2) then (some (gi g 123 0 0)) else if a0 = (nI 3) then (some (gi g 122 0 0)) else if a0 = (nI 4) then (some (gi g 124 0 0)) else (some (-1))
set_option maxRecDepth 100000 in
set_option maxHeartbeats 4000000 in
theorem c_X7_count (l : Launch) (z : zE) (gx : zG) (g : zG) (a0 : Int32) : ∀ x, m_X7_count g a0 = some x → Ms dm l yX7_count cX7_count 2 (some .int) rm_X7_count z [.ref (za z 77 0), .int a0] ((wm z gx) g) (oi x) ((wm z gx) ((fun _ => g) x)) := by
  refine ms_of (Wf := (wm z gx)) (ri := .ireturn) (out := oi) (nxt := (fun _ => g)) (ok := (fun _ => True)) (lv := [(0, .ref (za z 77 0)), (1, .int a0)]) (by decide) ⟨rfl, rfl⟩ (Nat.le_of_ble_eq_true rfl) rfl (en_i (out := fun x => x)) (fun p e s m below meth c => ?_)
  refine j_eq (M2 := if a0 = (nI 0) then (some (gi g 121 0 0)) else if a0 = (nI 1) then (some (gi g 120 0 0)) else if a0 = (nI 2) then (some (gi g 123 0 0)) else if a0 = (nI 3) then (some (gi g 122 0 0)) else if a0 = (nI 4) then (some (gi g 124 0 0)) else (some (-1))) rfl ?_
  refine j_iload_n (q := 1) (i := 1) (n := 1) dX7_count_0 rfl rfl rfl ?_
  refine j_case (v := (nI 0)) ?_ (fun h1 => ?_)
  · refine j_tableIn (tgt := 36) dX7_count_1 (by decide) (by decide) rfl rfl ?_
    refine j_aload_n (q := 37) (i := 0) (n := 0) dX7_count_36 rfl rfl rfl ?_
    refine g_X7_bins (q := 40) wF_X7_25 (Nat.le_of_ble_eq_true rfl) dX7_count_37 rfl ?_
    exact j_ret (x := gi g 121 0 0) dX7_count_40 ⟨trivial, rfl, rfl⟩
  refine j_case (v := (nI 1)) ?_ (fun h2 => ?_)
  · refine j_tableIn (tgt := 41) dX7_count_1 (by decide) (by decide) rfl rfl ?_
    refine j_aload_n (q := 42) (i := 0) (n := 0) dX7_count_41 rfl rfl rfl ?_
    refine g_X7_jobs (q := 45) wF_X7_66 (Nat.le_of_ble_eq_true rfl) dX7_count_42 rfl ?_
    exact j_ret (x := gi g 120 0 0) dX7_count_45 ⟨trivial, rfl, rfl⟩
  refine j_case (v := (nI 2)) ?_ (fun h3 => ?_)
  · refine j_tableIn (tgt := 46) dX7_count_1 (by decide) (by decide) rfl rfl ?_
    refine j_aload_n (q := 47) (i := 0) (n := 0) dX7_count_46 rfl rfl rfl ?_
    refine g_X7_seenMany (q := 50) wF_X7_136 (Nat.le_of_ble_eq_true rfl) dX7_count_47 rfl ?_
    exact j_ret (x := gi g 123 0 0) dX7_count_50 ⟨trivial, rfl, rfl⟩
  refine j_case (v := (nI 3)) ?_ (fun h4 => ?_)
  · refine j_tableIn (tgt := 51) dX7_count_1 (by decide) (by decide) rfl rfl ?_
    refine j_aload_n (q := 52) (i := 0) (n := 0) dX7_count_51 rfl rfl rfl ?_
    refine g_X7_undoMany (q := 55) wF_X7_133 (Nat.le_of_ble_eq_true rfl) dX7_count_52 rfl ?_
    exact j_ret (x := gi g 122 0 0) dX7_count_55 ⟨trivial, rfl, rfl⟩
  refine j_case (v := (nI 4)) ?_ (fun h5 => ?_)
  · refine j_tableIn (tgt := 56) dX7_count_1 (by decide) (by decide) rfl rfl ?_
    refine j_aload_n (q := 57) (i := 0) (n := 0) dX7_count_56 rfl rfl rfl ?_
    refine g_X7_length (q := 60) wF_X7_71 (Nat.le_of_ble_eq_true rfl) dX7_count_57 rfl ?_
    exact j_ret (x := gi g 124 0 0) dX7_count_60 ⟨trivial, rfl, rfl⟩
  refine j_tableOut (tgt := 61) dX7_count_1 (by have e0 := q_ne (n := 0) h1 rfl; have e1 := q_ne (n := 1) h2 rfl; have e2 := q_ne (n := 2) h3 rfl; have e3 := q_ne (n := 3) h4 rfl; have e4 := q_ne (n := 4) h5 rfl; omega) rfl ?_
  refine j_iconst (q := 62) (v := (-1)) dX7_count_61 rfl rfl ?_
  exact j_ret (x := (-1)) dX7_count_62 ⟨trivial, rfl, rfl⟩
-- CopierJobsModel.trace()J
abbrev rm_X7_trace : Room := { frames := 0, cells := 0, slots := 0, locals := 0 }
theorem cv_X7_trace : CV yX7_trace cX7_trace 1 (some .long) 0 := ⟨wC_X7_trace, wI_X7_trace, wS_X7_trace, wZ_X7, by decide +kernel⟩
def m_X7_trace (g : zG) : Option (Int64) := some (gl g 0)
set_option maxRecDepth 100000 in
set_option maxHeartbeats 4000000 in
theorem c_X7_trace (l : Launch) (z : zE) (gx : zG) (g : zG) : ∀ x, m_X7_trace g = some x → Ms dm l yX7_trace cX7_trace 1 (some .long) rm_X7_trace z [.ref (za z 77 0)] ((wm z gx) g) (ol x) ((wm z gx) ((fun _ => g) x)) := by
  refine ms_of (Wf := (wm z gx)) (ri := .lreturn) (out := ol) (nxt := (fun _ => g)) (ok := (fun _ => True)) (lv := [(0, .ref (za z 77 0))]) (by decide) ⟨rfl, rfl⟩ (Nat.le_of_ble_eq_true rfl) rfl (en_l (out := fun x => x)) (fun p e s m below meth c => ?_)
  refine j_eq (M2 := some (gl g 0)) rfl ?_
  refine j_aload_n (q := 1) (i := 0) (n := 0) dX7_trace_0 rfl rfl rfl ?_
  refine g_X7_trace (q := 4) wF_X7_234 (Nat.le_of_ble_eq_true rfl) dX7_trace_1 rfl ?_
  exact j_ret (x := gl g 0) dX7_trace_4 ⟨trivial, rfl, rfl⟩
