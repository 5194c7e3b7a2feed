/-! worlds of less extent: a plan alone (d1), the class alone (d2) -/
def d1 (k : Nat) : Nat := if k = 16 then 1 else if k = 17 then 1 else if k = 71 then 6 else if k = 73 then 1 else if k = 81 then 1 else 0
def d2 (k : Nat) : Nat := if k = 4 then 34 else if k = 5 then 34 else if k = 6 then 34 else if k = 7 then 34 else if k = 8 then 34 else if k = 16 then 2 else if k = 17 then 2 else if k = 41 then 1 else if k = 42 then 1 else if k = 43 then 1 else if k = 44 then 1 else if k = 55 then 1 else if k = 60 then 1 else if k = 70 then 3 else if k = 71 then 12 else if k = 72 then 34 else if k = 73 then 2 else if k = 74 then 1 else if k = 75 then 1 else if k = 76 then 1 else if k = 80 then 3 else if k = 81 then 2 else if k = 82 then 1 else 0
theorem d1_le : ∀ k, d1 k ≤ dm k := by
  intro k
  by_cases h16 : k = 16
  · subst h16; exact Nat.le_of_ble_eq_true rfl
  by_cases h17 : k = 17
  · subst h17; exact Nat.le_of_ble_eq_true rfl
  by_cases h71 : k = 71
  · subst h71; exact Nat.le_of_ble_eq_true rfl
  by_cases h73 : k = 73
  · subst h73; exact Nat.le_of_ble_eq_true rfl
  by_cases h81 : k = 81
  · subst h81; exact Nat.le_of_ble_eq_true rfl
  simp only [d1, if_neg h16, if_neg h17, if_neg h71, if_neg h73, if_neg h81]
  exact Nat.zero_le _
theorem d2_le : ∀ k, d2 k ≤ dm k := by
  intro k
  by_cases h4 : k = 4
  · subst h4; exact Nat.le_of_ble_eq_true rfl
  by_cases h5 : k = 5
  · subst h5; exact Nat.le_of_ble_eq_true rfl
  by_cases h6 : k = 6
  · subst h6; exact Nat.le_of_ble_eq_true rfl
  by_cases h7 : k = 7
  · subst h7; exact Nat.le_of_ble_eq_true rfl
  by_cases h8 : k = 8
  · subst h8; exact Nat.le_of_ble_eq_true rfl
  by_cases h16 : k = 16
  · subst h16; exact Nat.le_of_ble_eq_true rfl
  by_cases h17 : k = 17
  · subst h17; exact Nat.le_of_ble_eq_true rfl
  by_cases h41 : k = 41
  · subst h41; exact Nat.le_of_ble_eq_true rfl
  by_cases h42 : k = 42
  · subst h42; exact Nat.le_of_ble_eq_true rfl
  by_cases h43 : k = 43
  · subst h43; exact Nat.le_of_ble_eq_true rfl
  by_cases h44 : k = 44
  · subst h44; exact Nat.le_of_ble_eq_true rfl
  by_cases h55 : k = 55
  · subst h55; exact Nat.le_of_ble_eq_true rfl
  by_cases h60 : k = 60
  · subst h60; exact Nat.le_of_ble_eq_true rfl
  by_cases h70 : k = 70
  · subst h70; exact Nat.le_of_ble_eq_true rfl
  by_cases h71 : k = 71
  · subst h71; exact Nat.le_of_ble_eq_true rfl
  by_cases h72 : k = 72
  · subst h72; exact Nat.le_of_ble_eq_true rfl
  by_cases h73 : k = 73
  · subst h73; exact Nat.le_of_ble_eq_true rfl
  by_cases h74 : k = 74
  · subst h74; exact Nat.le_of_ble_eq_true rfl
  by_cases h75 : k = 75
  · subst h75; exact Nat.le_of_ble_eq_true rfl
  by_cases h76 : k = 76
  · subst h76; exact Nat.le_of_ble_eq_true rfl
  by_cases h80 : k = 80
  · subst h80; exact Nat.le_of_ble_eq_true rfl
  by_cases h81 : k = 81
  · subst h81; exact Nat.le_of_ble_eq_true rfl
  by_cases h82 : k = 82
  · subst h82; exact Nat.le_of_ble_eq_true rfl
  simp only [d2, if_neg h4, if_neg h5, if_neg h6, if_neg h7, if_neg h8, if_neg h16, if_neg h17, if_neg h41, if_neg h42, if_neg h43, if_neg h44, if_neg h55, if_neg h60, if_neg h70, if_neg h71, if_neg h72, if_neg h73, if_neg h74, if_neg h75, if_neg h76, if_neg h80, if_neg h81, if_neg h82]
  exact Nat.zero_le _
theorem d1_cases {k i : Nat} (h : i < d1 k) : k = 16 ∨ k = 17 ∨ k = 71 ∨ k = 73 ∨ k = 81 := by
  apply Classical.byContradiction; intro hn
  simp only [not_or] at hn
  obtain ⟨h16, h17, h71, h73, h81⟩ := hn
  simp only [d1, if_neg h16, if_neg h17, if_neg h71, if_neg h73, if_neg h81] at h
  exact Nat.not_lt_zero _ h
theorem d2_cases {k i : Nat} (h : i < d2 k) : k = 4 ∨ k = 5 ∨ k = 6 ∨ k = 7 ∨ k = 8 ∨ k = 16 ∨ k = 17 ∨ k = 41 ∨ k = 42 ∨ k = 43 ∨ k = 44 ∨ k = 55 ∨ k = 60 ∨ k = 70 ∨ k = 71 ∨ k = 72 ∨ k = 73 ∨ k = 74 ∨ k = 75 ∨ k = 76 ∨ k = 80 ∨ k = 81 ∨ k = 82 := by
  apply Classical.byContradiction; intro hn
  simp only [not_or] at hn
  obtain ⟨h4, h5, h6, h7, h8, h16, h17, h41, h42, h43, h44, h55, h60, h70, h71, h72, h73, h74, h75, h76, h80, h81, h82⟩ := hn
  simp only [d2, if_neg h4, if_neg h5, if_neg h6, if_neg h7, if_neg h8, if_neg h16, if_neg h17, if_neg h41, if_neg h42, if_neg h43, if_neg h44, if_neg h55, if_neg h60, if_neg h70, if_neg h71, if_neg h72, if_neg h73, if_neg h74, if_neg h75, if_neg h76, if_neg h80, if_neg h81, if_neg h82] at h
  exact Nat.not_lt_zero _ h
theorem d2_now {c : Nat} (h : c < d2 70) : 11 * c < d2 72 := by
  have h1 : c < 3 := h
  show 11 * c < 34
  omega
set_option maxRecDepth 100000 in
set_option maxHeartbeats 4000000 in
theorem t1_J7_fill_53178_L5 {p : Program} {l : Launch} {e : Env} {s : State} {m : MethodId} {args : Array Value} {below : List Frame} {meth : Method} {c : Code} {cells slots : Nat} {Q : zG → State → Prop} (z : zE) (gm : zG) (k0 n0 : Nat) (a1 : Int32) (hk0 : isX k0) (gk0 : n0 < d1 k0) : ∀ (f : Nat) (g : zG) (x2 : Int32) (x3 : Int32), zJ d1 p l e rm_J7_fill_53178 s m args below meth c cJ7_fill_53178 4 yJ7_fill_53178.cls z cells slots (wx z gm) (fn (fun _ => True) (fun x => x) osv) .return_ Q 5 [(0, .ref (za z k0 n0)), (1, .int a1), (2, .int x2), (3, .int x3)] [] g (m_J7_fill_53178_L5 k0 n0 a1 f g x2 x3) := by
  intro f
  induction f with
  | zero => intro g x2 x3; exact j_none
  | succ f ih =>
    intro g x2 x3
    refine j_eq (M2 := if x2 < x3 then gd (inb x2 (ln k0) = true) (bd (ui g k0 n0 x2.toNatClampNeg a1) fun g1 => m_J7_fill_53178_L5 k0 n0 a1 f g1 (x2 + (nI 1)) x3) else some g) rfl ?_
    refine j_iload_n (q := 6) (i := 2) (n := 2) dJ7_fill_53178_5 rfl rfl rfl ?_
    refine j_iload_n (q := 7) (i := 3) (n := 3) dJ7_fill_53178_6 rfl rfl rfl ?_
    refine j_icmp_ge (tgt := 20) (q := 10) dJ7_fill_53178_7 rfl rfl ?_ ?_
    · exact j_ret (x := g) dJ7_fill_53178_20 ⟨trivial, rfl, rfl⟩
    · refine j_aload_n (q := 11) (i := 0) (n := 0) dJ7_fill_53178_10 rfl rfl rfl ?_
      refine j_iload_n (q := 12) (i := 2) (n := 2) dJ7_fill_53178_11 rfl rfl rfl ?_
      refine j_iload_n (q := 13) (i := 1) (n := 1) dJ7_fill_53178_12 rfl rfl rfl ?_
      refine ax_st (q := 14) d1_le hk0 rfl gk0 dJ7_fill_53178_13 rfl (fun g1 => ?_)
      refine j_iinc (q := 17) (n := 2) (i := 2) (v := x2 + (nI 1)) (lv' := [(2, .int (x2 + (nI 1))), (0, .ref (za z k0 n0)), (1, .int a1), (3, .int x3)]) dJ7_fill_53178_14 rfl rfl (Nat.le_of_ble_eq_true rfl) rfl rfl ?_
      refine j_goto (tgt := 5) dJ7_fill_53178_17 rfl ?_
      refine j_lv [1, 2, 0, 3] (lv' := [(0, .ref (za z k0 n0)), (1, .int a1), (2, .int (x2 + (nI 1))), (3, .int x3)]) rfl ?_
      exact ih g1 (x2 + (nI 1)) x3
set_option maxRecDepth 100000 in
set_option maxHeartbeats 4000000 in
theorem c1_J7_fill_53178 (l : Launch) (z : zE) (gm : zG) (g : zG) (k0 n0 : Nat) (hk0 : isX k0) (gk0 : n0 < d1 k0) (a1 : Int32) : ∀ x, m_J7_fill_53178 g k0 n0 a1 = some x → Ms d1 l yJ7_fill_53178 cJ7_fill_53178 4 (none) rm_J7_fill_53178 z [.ref (za z k0 n0), .int a1] ((wx z gm) g) (osv x) ((wx z gm) ((fun x => x) x)) := by
  refine ms_of (Wf := (wx z gm)) (ri := .return_) (out := osv) (nxt := (fun x => x)) (ok := (fun _ => True)) (lv := [(0, .ref (za z k0 n0)), (1, .int a1)]) (by decide) ⟨rfl, rfl⟩ (Nat.le_of_ble_eq_true rfl) rfl (en_v ) (fun p e s m below meth c => ?_)
  refine j_eq (M2 := m_J7_fill_53178_L5 k0 n0 a1 FU g (nI 0) (nI (ln k0))) rfl ?_
  refine j_iconst (q := 1) (v := (nI 0)) dJ7_fill_53178_0 rfl rfl ?_
  refine j_istore_n (q := 2) (n := 2) (lv' := [(2, .int (nI 0)), (0, .ref (za z k0 n0)), (1, .int a1)]) dJ7_fill_53178_1 rfl (Nat.le_of_ble_eq_true rfl) rfl rfl ?_
  refine j_aload_n (q := 3) (i := 1) (n := 0) dJ7_fill_53178_2 rfl rfl rfl ?_
  refine ax_len (v := nI (ln k0)) (q := 4) hk0 rfl gk0 dJ7_fill_53178_3 rfl ?_
  refine j_istore_n (q := 5) (n := 3) (lv' := [(3, .int (nI (ln k0))), (2, .int (nI 0)), (0, .ref (za z k0 n0)), (1, .int a1)]) dJ7_fill_53178_4 rfl (Nat.le_of_ble_eq_true rfl) rfl rfl ?_
  refine j_lv [2, 3, 1, 0] (lv' := [(0, .ref (za z k0 n0)), (1, .int a1), (2, .int (nI 0)), (3, .int (nI (ln k0)))]) rfl ?_
  exact t1_J7_fill_53178_L5 z gm k0 n0 a1 hk0 gk0 FU g (nI 0) (nI (ln k0))

set_option maxRecDepth 100000 in
set_option maxHeartbeats 4000000 in
theorem c1_X3_untell (l : Launch) (z : zE) (gm : zG) (g : zG) (p0 : Nat) (hp0 : p0 < d1 73) : ∀ x, m_X3_untell g p0 = some x → Ms d1 l yX3_untell cX3_untell 1 (none) rm_X3_untell z [.ref (za z 73 p0)] ((wx z gm) g) (osv x) ((wx z gm) ((fun x => x) x)) := by
  refine ms_of (Wf := (wx z gm)) (ri := .return_) (out := osv) (nxt := (fun x => x)) (ok := (fun _ => True)) (lv := [(0, .ref (za z 73 p0))]) (by decide) ⟨rfl, rfl⟩ (Nat.le_of_ble_eq_true rfl) rfl (en_v ) (fun p e s m below meth c => ?_)
  refine j_eq (M2 := (m_J7_fill_53178 g 16 p0 (nI 20)).bind fun g1 => bd (ui g1 10 p0 0 (nI 200)) fun g2 => bd (ui g2 11 p0 0 (nI 4)) fun g3 => bd (ui g3 12 p0 0 (nI 0)) fun g4 => gd (isb (nI 0) = true) (bd (ui g4 13 p0 0 (nI 0)) fun g5 => gd (isb (nI 0) = true) (bd (ui g5 14 p0 0 (nI 0)) fun g6 => gd (isb (nI 0) = true) (bd (ui g6 15 p0 0 (nI 0)) fun g7 => some g7)))) rfl ?_
  refine j_aload_n (q := 1) (i := 0) (n := 0) dX3_untell_0 rfl rfl rfl ?_
  refine g_X3_trays (q := 4) wF_X3_9 hp0 dX3_untell_1 rfl ?_
  refine j_bipush (q := 6) (v := (nI 20)) dX3_untell_4 rfl rfl ?_
  refine j_sv (q := 9) (rn_S (R := rm_X3_untell) (As := [.ref (za z 16 p0), .int (nI 20)]) (rest := []) (c1_J7_fill_53178 _ z gm g 16 p0 isX_16 hp0 (nI 20)) cv_J7_fill_53178 wM_X3_31 ⟨rfl, rfl⟩ ⟨(Nat.le_of_ble_eq_true rfl), (Nat.le_of_ble_eq_true rfl)⟩ rfl (Nat.le_of_ble_eq_true rfl) dX3_untell_6) rfl (fun g1 => ?_)
  refine j_aload_n (q := 10) (i := 0) (n := 0) dX3_untell_9 rfl rfl rfl ?_
  refine j_sipush (q := 13) (v := (nI 200)) dX3_untell_10 rfl rfl ?_
  refine p_X3_toner (q := 16) d1_le wF_X3_37 hp0 dX3_untell_13 rfl (fun g2 => ?_)
  refine j_aload_n (q := 17) (i := 0) (n := 0) dX3_untell_16 rfl rfl rfl ?_
  refine j_iconst (q := 18) (v := (nI 4)) dX3_untell_17 rfl rfl ?_
  refine p_X3_bins (q := 21) d1_le wF_X3_41 hp0 dX3_untell_18 rfl (fun g3 => ?_)
  refine j_aload_n (q := 22) (i := 0) (n := 0) dX3_untell_21 rfl rfl rfl ?_
  refine j_iconst (q := 23) (v := (nI 0)) dX3_untell_22 rfl rfl ?_
  refine p_X3_jobCount (q := 26) d1_le wF_X3_44 hp0 dX3_untell_23 rfl (fun g4 => ?_)
  refine j_aload_n (q := 27) (i := 0) (n := 0) dX3_untell_26 rfl rfl rfl ?_
  refine j_iconst (q := 28) (v := (nI 0)) dX3_untell_27 rfl rfl ?_
  refine p_X3_traysTold (q := 31) d1_le wF_X3_47 hp0 dX3_untell_28 rfl (fun g5 => ?_)
  refine j_aload_n (q := 32) (i := 0) (n := 0) dX3_untell_31 rfl rfl rfl ?_
  refine j_iconst (q := 33) (v := (nI 0)) dX3_untell_32 rfl rfl ?_
  refine p_X3_tonerTold (q := 36) d1_le wF_X3_51 hp0 dX3_untell_33 rfl (fun g6 => ?_)
  refine j_aload_n (q := 37) (i := 0) (n := 0) dX3_untell_36 rfl rfl rfl ?_
  refine j_iconst (q := 38) (v := (nI 0)) dX3_untell_37 rfl rfl ?_
  refine p_X3_binsTold (q := 41) d1_le wF_X3_54 hp0 dX3_untell_38 rfl (fun g7 => ?_)
  exact j_ret (x := g7) dX3_untell_41 ⟨trivial, rfl, rfl⟩

set_option maxRecDepth 100000 in
set_option maxHeartbeats 4000000 in
theorem t2_J7_fill_53178_L5 {p : Program} {l : Launch} {e : Env} {s : State} {m : MethodId} {args : Array Value} {below : List Frame} {meth : Method} {c : Code} {cells slots : Nat} {Q : zG → State → Prop} (z : zE) (gm : zG) (k0 n0 : Nat) (a1 : Int32) (hk0 : isX k0) (gk0 : n0 < d2 k0) : ∀ (f : Nat) (g : zG) (x2 : Int32) (x3 : Int32), zJ d2 p l e rm_J7_fill_53178 s m args below meth c cJ7_fill_53178 4 yJ7_fill_53178.cls z cells slots (wx z gm) (fn (fun _ => True) (fun x => x) osv) .return_ Q 5 [(0, .ref (za z k0 n0)), (1, .int a1), (2, .int x2), (3, .int x3)] [] g (m_J7_fill_53178_L5 k0 n0 a1 f g x2 x3) := by
  intro f
  induction f with
  | zero => intro g x2 x3; exact j_none
  | succ f ih =>
    intro g x2 x3
    refine j_eq (M2 := if x2 < x3 then gd (inb x2 (ln k0) = true) (bd (ui g k0 n0 x2.toNatClampNeg a1) fun g1 => m_J7_fill_53178_L5 k0 n0 a1 f g1 (x2 + (nI 1)) x3) else some g) rfl ?_
    refine j_iload_n (q := 6) (i := 2) (n := 2) dJ7_fill_53178_5 rfl rfl rfl ?_
    refine j_iload_n (q := 7) (i := 3) (n := 3) dJ7_fill_53178_6 rfl rfl rfl ?_
    refine j_icmp_ge (tgt := 20) (q := 10) dJ7_fill_53178_7 rfl rfl ?_ ?_
    · exact j_ret (x := g) dJ7_fill_53178_20 ⟨trivial, rfl, rfl⟩
    · refine j_aload_n (q := 11) (i := 0) (n := 0) dJ7_fill_53178_10 rfl rfl rfl ?_
      refine j_iload_n (q := 12) (i := 2) (n := 2) dJ7_fill_53178_11 rfl rfl rfl ?_
      refine j_iload_n (q := 13) (i := 1) (n := 1) dJ7_fill_53178_12 rfl rfl rfl ?_
      refine ax_st (q := 14) d2_le hk0 rfl gk0 dJ7_fill_53178_13 rfl (fun g1 => ?_)
      refine j_iinc (q := 17) (n := 2) (i := 2) (v := x2 + (nI 1)) (lv' := [(2, .int (x2 + (nI 1))), (0, .ref (za z k0 n0)), (1, .int a1), (3, .int x3)]) dJ7_fill_53178_14 rfl rfl (Nat.le_of_ble_eq_true rfl) rfl rfl ?_
      refine j_goto (tgt := 5) dJ7_fill_53178_17 rfl ?_
      refine j_lv [1, 2, 0, 3] (lv' := [(0, .ref (za z k0 n0)), (1, .int a1), (2, .int (x2 + (nI 1))), (3, .int x3)]) rfl ?_
      exact ih g1 (x2 + (nI 1)) x3
set_option maxRecDepth 100000 in
set_option maxHeartbeats 4000000 in
theorem c2_J7_fill_53178 (l : Launch) (z : zE) (gm : zG) (g : zG) (k0 n0 : Nat) (hk0 : isX k0) (gk0 : n0 < d2 k0) (a1 : Int32) : ∀ x, m_J7_fill_53178 g k0 n0 a1 = some x → Ms d2 l yJ7_fill_53178 cJ7_fill_53178 4 (none) rm_J7_fill_53178 z [.ref (za z k0 n0), .int a1] ((wx z gm) g) (osv x) ((wx z gm) ((fun x => x) x)) := by
  refine ms_of (Wf := (wx z gm)) (ri := .return_) (out := osv) (nxt := (fun x => x)) (ok := (fun _ => True)) (lv := [(0, .ref (za z k0 n0)), (1, .int a1)]) (by decide) ⟨rfl, rfl⟩ (Nat.le_of_ble_eq_true rfl) rfl (en_v ) (fun p e s m below meth c => ?_)
  refine j_eq (M2 := m_J7_fill_53178_L5 k0 n0 a1 FU g (nI 0) (nI (ln k0))) rfl ?_
  refine j_iconst (q := 1) (v := (nI 0)) dJ7_fill_53178_0 rfl rfl ?_
  refine j_istore_n (q := 2) (n := 2) (lv' := [(2, .int (nI 0)), (0, .ref (za z k0 n0)), (1, .int a1)]) dJ7_fill_53178_1 rfl (Nat.le_of_ble_eq_true rfl) rfl rfl ?_
  refine j_aload_n (q := 3) (i := 1) (n := 0) dJ7_fill_53178_2 rfl rfl rfl ?_
  refine ax_len (v := nI (ln k0)) (q := 4) hk0 rfl gk0 dJ7_fill_53178_3 rfl ?_
  refine j_istore_n (q := 5) (n := 3) (lv' := [(3, .int (nI (ln k0))), (2, .int (nI 0)), (0, .ref (za z k0 n0)), (1, .int a1)]) dJ7_fill_53178_4 rfl (Nat.le_of_ble_eq_true rfl) rfl rfl ?_
  refine j_lv [2, 3, 1, 0] (lv' := [(0, .ref (za z k0 n0)), (1, .int a1), (2, .int (nI 0)), (3, .int (nI (ln k0)))]) rfl ?_
  exact t2_J7_fill_53178_L5 z gm k0 n0 a1 hk0 gk0 FU g (nI 0) (nI (ln k0))

set_option maxRecDepth 100000 in
set_option maxHeartbeats 4000000 in
theorem t2_X6_copyRow_L2 {p : Program} {l : Launch} {e : Env} {s : State} {m : MethodId} {args : Array Value} {below : List Frame} {meth : Method} {c : Code} {cells slots : Nat} {Q : zG → State → Prop} (z : zE) (gm : zG) (k0 n0 : Nat) (k1 n1 : Nat) (hk0 : isX k0) (gk0 : n0 < d2 k0) (hk1 : isX k1) (gk1 : n1 < d2 k1) : ∀ (f : Nat) (g : zG) (x2 : Int32), zJ d2 p l e rm_X6_copyRow s m args below meth c cX6_copyRow 3 yX6_copyRow.cls z cells slots (wx z gm) (fn (fun _ => True) (fun x => x) osv) .return_ Q 2 [(0, .ref (za z k0 n0)), (1, .ref (za z k1 n1)), (2, .int x2)] [] g (m_X6_copyRow_L2 k0 n0 k1 n1 f g x2) := by
  intro f
  induction f with
  | zero => intro g x2; exact j_none
  | succ f ih =>
    intro g x2
    refine j_eq (M2 := if x2 < (nI (ln k0)) then if x2 < (nI (ln k1)) then gd (inb x2 (ln k0) = true) (gd (inb x2 (ln k1) = true) (bd (ui g k1 n1 x2.toNatClampNeg (gi g k0 n0 x2.toNatClampNeg)) fun g1 => m_X6_copyRow_L2 k0 n0 k1 n1 f g1 (x2 + (nI 1)))) else some g else some g) rfl ?_
    refine j_iload_n (q := 3) (i := 2) (n := 2) dX6_copyRow_2 rfl rfl rfl ?_
    refine j_aload_n (q := 4) (i := 0) (n := 0) dX6_copyRow_3 rfl rfl rfl ?_
    refine ax_len (v := nI (ln k0)) (q := 5) hk0 rfl gk0 dX6_copyRow_4 rfl ?_
    refine j_icmp_ge (tgt := 26) (q := 8) dX6_copyRow_5 rfl rfl ?_ ?_
    · exact j_ret (x := g) dX6_copyRow_26 ⟨trivial, rfl, rfl⟩
    · refine j_iload_n (q := 9) (i := 2) (n := 2) dX6_copyRow_8 rfl rfl rfl ?_
      refine j_aload_n (q := 10) (i := 1) (n := 1) dX6_copyRow_9 rfl rfl rfl ?_
      refine ax_len (v := nI (ln k1)) (q := 11) hk1 rfl gk1 dX6_copyRow_10 rfl ?_
      refine j_icmp_ge (tgt := 26) (q := 14) dX6_copyRow_11 rfl rfl ?_ ?_
      · exact j_ret (x := g) dX6_copyRow_26 ⟨trivial, rfl, rfl⟩
      · refine j_aload_n (q := 15) (i := 1) (n := 1) dX6_copyRow_14 rfl rfl rfl ?_
        refine j_iload_n (q := 16) (i := 2) (n := 2) dX6_copyRow_15 rfl rfl rfl ?_
        refine j_aload_n (q := 17) (i := 0) (n := 0) dX6_copyRow_16 rfl rfl rfl ?_
        refine j_iload_n (q := 18) (i := 2) (n := 2) dX6_copyRow_17 rfl rfl rfl ?_
        refine ax_ld (q := 19) hk0 rfl gk0 dX6_copyRow_18 rfl ?_
        refine ax_st (q := 20) d2_le hk1 rfl gk1 dX6_copyRow_19 rfl (fun g1 => ?_)
        refine j_iinc (q := 23) (n := 2) (i := 2) (v := x2 + (nI 1)) (lv' := [(2, .int (x2 + (nI 1))), (0, .ref (za z k0 n0)), (1, .ref (za z k1 n1))]) dX6_copyRow_20 rfl rfl (Nat.le_of_ble_eq_true rfl) rfl rfl ?_
        refine j_goto (tgt := 2) dX6_copyRow_23 rfl ?_
        refine j_lv [1, 2, 0] (lv' := [(0, .ref (za z k0 n0)), (1, .ref (za z k1 n1)), (2, .int (x2 + (nI 1)))]) rfl ?_
        exact ih g1 (x2 + (nI 1))
set_option maxRecDepth 100000 in
set_option maxHeartbeats 4000000 in
theorem c2_X6_copyRow (l : Launch) (z : zE) (gm : zG) (g : zG) (k0 n0 : Nat) (hk0 : isX k0) (gk0 : n0 < d2 k0) (k1 n1 : Nat) (hk1 : isX k1) (gk1 : n1 < d2 k1) : ∀ x, m_X6_copyRow g k0 n0 k1 n1 = some x → Ms d2 l yX6_copyRow cX6_copyRow 3 (none) rm_X6_copyRow z [.ref (za z k0 n0), .ref (za z k1 n1)] ((wx z gm) g) (osv x) ((wx z gm) ((fun x => x) x)) := by
  refine ms_of (Wf := (wx z gm)) (ri := .return_) (out := osv) (nxt := (fun x => x)) (ok := (fun _ => True)) (lv := [(0, .ref (za z k0 n0)), (1, .ref (za z k1 n1))]) (by decide) ⟨rfl, rfl⟩ (Nat.le_of_ble_eq_true rfl) rfl (en_v ) (fun p e s m below meth c => ?_)
  refine j_eq (M2 := m_X6_copyRow_L2 k0 n0 k1 n1 FU g (nI 0)) rfl ?_
  refine j_iconst (q := 1) (v := (nI 0)) dX6_copyRow_0 rfl rfl ?_
  refine j_istore_n (q := 2) (n := 2) (lv' := [(2, .int (nI 0)), (0, .ref (za z k0 n0)), (1, .ref (za z k1 n1))]) dX6_copyRow_1 rfl (Nat.le_of_ble_eq_true rfl) rfl rfl ?_
  refine j_lv [1, 2, 0] (lv' := [(0, .ref (za z k0 n0)), (1, .ref (za z k1 n1)), (2, .int (nI 0))]) rfl ?_
  exact t2_X6_copyRow_L2 z gm k0 n0 k1 n1 hk0 gk0 hk1 gk1 FU g (nI 0)
set_option maxRecDepth 100000 in
set_option maxHeartbeats 4000000 in
theorem t2_X2_begin_B50 {p : Program} {l : Launch} {e : Env} {s : State} {m : MethodId} {args : Array Value} {below : List Frame} {meth : Method} {c : Code} {cells slots : Nat} {Q : zG → State → Prop} (z : zE) (gm : zG) (i0 : Nat) (p0 : Nat) (hi0 : i0 < d2 72) (hp0 : p0 < d2 73) (g : zG) : zJ d2 p l e rm_X2_begin s m args below meth c cX2_begin 3 yX2_begin.cls z cells slots (wx z gm) (fn (fun _ => True) (fun x => x) osv) .return_ Q 50 [(0, .ref (za z 72 i0)), (1, .ref (za z 73 p0))] [] g (m_X2_begin_B50 i0 p0 g) := by
  refine j_eq (M2 := (m_J7_fill_53178 g 5 i0 (nI 0)).bind fun g5 => (m_J7_fill_53178 g5 6 i0 (-9)).bind fun g6 => (m_X6_copyRow g6 16 p0 7 i0).bind fun g7 => (m_J7_fill_53178 g7 8 i0 (nI 0)).bind fun g8 => some g8) rfl ?_
  refine j_aload_n (q := 51) (i := 0) (n := 0) dX2_begin_50 rfl rfl rfl ?_
  refine g_X2_made (q := 54) wF_X2_15 hi0 dX2_begin_51 rfl ?_
  refine j_iconst (q := 55) (v := (nI 0)) dX2_begin_54 rfl rfl ?_
  refine j_sv (q := 58) (rn_S (R := rm_X2_begin) (As := [.ref (za z 5 i0), .int (nI 0)]) (rest := []) (c2_J7_fill_53178 _ z gm g 5 i0 isX_5 hi0 (nI 0)) cv_J7_fill_53178 wM_X2_47 ⟨rfl, rfl⟩ ⟨(Nat.le_of_ble_eq_true rfl), (Nat.le_of_ble_eq_true rfl)⟩ rfl (Nat.le_of_ble_eq_true rfl) dX2_begin_55) rfl (fun g5 => ?_)
  refine j_aload_n (q := 59) (i := 0) (n := 0) dX2_begin_58 rfl rfl rfl ?_
  refine g_X2_ends (q := 62) wF_X2_18 hi0 dX2_begin_59 rfl ?_
  refine j_bipush (q := 64) (v := (-9)) dX2_begin_62 rfl rfl ?_
  refine j_sv (q := 67) (rn_S (R := rm_X2_begin) (As := [.ref (za z 6 i0), .int (-9)]) (rest := []) (c2_J7_fill_53178 _ z gm g5 6 i0 isX_6 hi0 (-9)) cv_J7_fill_53178 wM_X2_47 ⟨rfl, rfl⟩ ⟨(Nat.le_of_ble_eq_true rfl), (Nat.le_of_ble_eq_true rfl)⟩ rfl (Nat.le_of_ble_eq_true rfl) dX2_begin_64) rfl (fun g6 => ?_)
  refine j_aload_n (q := 68) (i := 1) (n := 1) dX2_begin_67 rfl rfl rfl ?_
  refine gN_X3_trays (q := 71) wG_X2_53 hp0 dX2_begin_68 rfl ?_
  refine j_aload_n (q := 72) (i := 0) (n := 0) dX2_begin_71 rfl rfl rfl ?_
  refine g_X2_trays (q := 75) wF_X2_21 hi0 dX2_begin_72 rfl ?_
  refine j_sv (q := 78) (rn_N (R := rm_X2_begin) (As := [.ref (za z 16 p0), .ref (za z 7 i0)]) (rest := []) (c2_X6_copyRow _ z gm g6 16 p0 isX_16 hp0 7 i0 isX_7 hi0) cv_X6_copyRow wO_X2_54 ⟨rfl, rfl⟩ ⟨(Nat.le_of_ble_eq_true rfl), (Nat.le_of_ble_eq_true rfl)⟩ rfl (Nat.le_of_ble_eq_true rfl) dX2_begin_75) rfl (fun g7 => ?_)
  refine j_aload_n (q := 79) (i := 0) (n := 0) dX2_begin_78 rfl rfl rfl ?_
  refine g_X2_bins (q := 82) wF_X2_24 hi0 dX2_begin_79 rfl ?_
  refine j_iconst (q := 83) (v := (nI 0)) dX2_begin_82 rfl rfl ?_
  refine j_sv (q := 86) (rn_S (R := rm_X2_begin) (As := [.ref (za z 8 i0), .int (nI 0)]) (rest := []) (c2_J7_fill_53178 _ z gm g7 8 i0 isX_8 hi0 (nI 0)) cv_J7_fill_53178 wM_X2_47 ⟨rfl, rfl⟩ ⟨(Nat.le_of_ble_eq_true rfl), (Nat.le_of_ble_eq_true rfl)⟩ rfl (Nat.le_of_ble_eq_true rfl) dX2_begin_83) rfl (fun g8 => ?_)
  exact j_ret (x := g8) dX2_begin_86 ⟨trivial, rfl, rfl⟩
set_option maxRecDepth 100000 in
set_option maxHeartbeats 4000000 in
theorem t2_X2_begin_L28 {p : Program} {l : Launch} {e : Env} {s : State} {m : MethodId} {args : Array Value} {below : List Frame} {meth : Method} {c : Code} {cells slots : Nat} {Q : zG → State → Prop} (z : zE) (gm : zG) (i0 : Nat) (p0 : Nat) (hi0 : i0 < d2 72) (hp0 : p0 < d2 73) : ∀ (f : Nat) (g : zG) (x2 : Int32), zJ d2 p l e rm_X2_begin s m args below meth c cX2_begin 3 yX2_begin.cls z cells slots (wx z gm) (fn (fun _ => True) (fun x => x) osv) .return_ Q 28 [(0, .ref (za z 72 i0)), (1, .ref (za z 73 p0)), (2, .int x2)] [] g (m_X2_begin_L28 i0 p0 f g x2) := by
  intro f
  induction f with
  | zero => intro g x2; exact j_none
  | succ f ih =>
    intro g x2
    refine j_eq (M2 := if x2 < (nI 6) then gd (inb x2 6 = true) (bd (ui g 4 i0 x2.toNatClampNeg x2) fun g9 => m_X2_begin_L28 i0 p0 f g9 (x2 + (nI 1))) else m_X2_begin_B50 i0 p0 g) rfl ?_
    refine j_iload_n (q := 29) (i := 2) (n := 2) dX2_begin_28 rfl rfl rfl ?_
    refine j_aload_n (q := 30) (i := 0) (n := 0) dX2_begin_29 rfl rfl rfl ?_
    refine g_X2_queue (q := 33) wF_X2_9 hi0 dX2_begin_30 rfl ?_
    refine ax_len (k := 4) (v := nI 6) (q := 34) isX_4 rfl hi0 dX2_begin_33 rfl ?_
    refine j_icmp_ge (tgt := 50) (q := 37) dX2_begin_34 rfl rfl ?_ ?_
    · refine j_lv [0, 1] (lv' := [(0, .ref (za z 72 i0)), (1, .ref (za z 73 p0))]) rfl ?_
      exact t2_X2_begin_B50 z gm i0 p0 hi0 hp0 g
    · refine j_aload_n (q := 38) (i := 0) (n := 0) dX2_begin_37 rfl rfl rfl ?_
      refine g_X2_queue (q := 41) wF_X2_9 hi0 dX2_begin_38 rfl ?_
      refine j_iload_n (q := 42) (i := 2) (n := 2) dX2_begin_41 rfl rfl rfl ?_
      refine j_iload_n (q := 43) (i := 2) (n := 2) dX2_begin_42 rfl rfl rfl ?_
      refine ax_st (k := 4) (n := 6) (q := 44) d2_le isX_4 rfl hi0 dX2_begin_43 rfl (fun g9 => ?_)
      refine j_iinc (q := 47) (n := 2) (i := 2) (v := x2 + (nI 1)) (lv' := [(2, .int (x2 + (nI 1))), (0, .ref (za z 72 i0)), (1, .ref (za z 73 p0))]) dX2_begin_44 rfl rfl (Nat.le_of_ble_eq_true rfl) rfl rfl ?_
      refine j_goto (tgt := 28) dX2_begin_47 rfl ?_
      refine j_lv [1, 2, 0] (lv' := [(0, .ref (za z 72 i0)), (1, .ref (za z 73 p0)), (2, .int (x2 + (nI 1)))]) rfl ?_
      exact ih g9 (x2 + (nI 1))
set_option maxRecDepth 100000 in
set_option maxHeartbeats 4000000 in
theorem c2_X2_begin (l : Launch) (z : zE) (gm : zG) (g : zG) (i0 : Nat) (hi0 : i0 < d2 72) (p0 : Nat) (hp0 : p0 < d2 73) : ∀ x, m_X2_begin g i0 p0 = some x → Ms d2 l yX2_begin cX2_begin 3 (none) rm_X2_begin z [.ref (za z 72 i0), .ref (za z 73 p0)] ((wx z gm) g) (osv x) ((wx z gm) ((fun x => x) x)) := by
  refine ms_of (Wf := (wx z gm)) (ri := .return_) (out := osv) (nxt := (fun x => x)) (ok := (fun _ => True)) (lv := [(0, .ref (za z 72 i0)), (1, .ref (za z 73 p0))]) (by decide) ⟨rfl, rfl⟩ (Nat.le_of_ble_eq_true rfl) rfl (en_v ) (fun p e s m below meth c => ?_)
  refine j_eq (M2 := bd (ui g 0 i0 0 (nI 0)) fun g1 => bd (ui g1 1 i0 0 (gi g1 10 p0 0)) fun g2 => gd (isb (nI 0) = true) (bd (ui g2 2 i0 0 (nI 0)) fun g3 => bd (ui g3 3 i0 0 (gi g3 12 p0 0)) fun g4 => m_X2_begin_L28 i0 p0 FU g4 (nI 0))) rfl ?_
  refine j_aload_n (q := 1) (i := 0) (n := 0) dX2_begin_0 rfl rfl rfl ?_
  refine j_iconst (q := 2) (v := (nI 0)) dX2_begin_1 rfl rfl ?_
  refine p_X2_tick (q := 5) d2_le wF_X2_27 hi0 dX2_begin_2 rfl (fun g1 => ?_)
  refine j_aload_n (q := 6) (i := 0) (n := 0) dX2_begin_5 rfl rfl rfl ?_
  refine j_aload_n (q := 7) (i := 1) (n := 1) dX2_begin_6 rfl rfl rfl ?_
  refine gN_X3_toner (q := 10) wG_X2_31 hp0 dX2_begin_7 rfl ?_
  refine p_X2_toner (q := 13) d2_le wF_X2_36 hi0 dX2_begin_10 rfl (fun g2 => ?_)
  refine j_aload_n (q := 14) (i := 0) (n := 0) dX2_begin_13 rfl rfl rfl ?_
  refine j_iconst (q := 15) (v := (nI 0)) dX2_begin_14 rfl rfl ?_
  refine p_X2_half (q := 18) d2_le wF_X2_37 hi0 dX2_begin_15 rfl (fun g3 => ?_)
  refine j_aload_n (q := 19) (i := 0) (n := 0) dX2_begin_18 rfl rfl rfl ?_
  refine j_aload_n (q := 20) (i := 1) (n := 1) dX2_begin_19 rfl rfl rfl ?_
  refine gN_X3_jobCount (q := 23) wG_X2_41 hp0 dX2_begin_20 rfl ?_
  refine p_X2_queued (q := 26) d2_le wF_X2_44 hi0 dX2_begin_23 rfl (fun g4 => ?_)
  refine j_iconst (q := 27) (v := (nI 0)) dX2_begin_26 rfl rfl ?_
  refine j_istore_n (q := 28) (n := 2) (lv' := [(2, .int (nI 0)), (0, .ref (za z 72 i0)), (1, .ref (za z 73 p0))]) dX2_begin_27 rfl (Nat.le_of_ble_eq_true rfl) rfl rfl ?_
  refine j_lv [1, 2, 0] (lv' := [(0, .ref (za z 72 i0)), (1, .ref (za z 73 p0)), (2, .int (nI 0))]) rfl ?_
  exact t2_X2_begin_L28 z gm i0 p0 hi0 hp0 FU g4 (nI 0)
set_option maxRecDepth 100000 in
set_option maxHeartbeats 4000000 in
theorem c2_X0_begin (l : Launch) (z : zE) (gm : zG) (g : zG) (c0 : Nat) (hc0 : c0 < d2 70) (p0 : Nat) (hp0 : p0 < d2 73) : ∀ x, m_X0_begin g c0 p0 = some x → Ms d2 l yX0_begin cX0_begin 2 (none) rm_X0_begin z [.ref (za z 70 c0), .ref (za z 73 p0)] ((wx z gm) g) (osv x) ((wx z gm) ((fun x => x) x)) := by
  refine ms_of (Wf := (wx z gm)) (ri := .return_) (out := osv) (nxt := (fun x => x)) (ok := (fun _ => True)) (lv := [(0, .ref (za z 70 c0)), (1, .ref (za z 73 p0))]) (by decide) ⟨rfl, rfl⟩ (Nat.le_of_ble_eq_true rfl) rfl (en_v ) (fun p e s m below meth c => ?_)
  refine j_eq (M2 := (m_X2_begin g (11 * c0) p0).bind fun g1 => bd (ui g1 30 c0 0 (nI 0)) fun g2 => bd (ui g2 31 c0 0 (nI 0)) fun g3 => some g3) rfl ?_
  refine j_aload_n (q := 1) (i := 0) (n := 0) dX0_begin_0 rfl rfl rfl ?_
  refine g_X0_now (q := 4) wF_X0_12 hc0 dX0_begin_1 rfl ?_
  refine j_aload_n (q := 5) (i := 1) (n := 1) dX0_begin_4 rfl rfl rfl ?_
  refine j_sv (q := 8) (rn_V (R := rm_X0_begin) (As := [.ref (za z 73 p0)]) (rest := []) (c2_X2_begin _ z gm g (11 * c0) (d2_now hc0) p0 hp0) cv_X2_begin wM_X0_22 ⟨rfl, rfl⟩ ⟨(Nat.le_of_ble_eq_true rfl), (Nat.le_of_ble_eq_true rfl)⟩ (d2_now hc0) rfl rfl rfl (Nat.le_of_ble_eq_true rfl) dX0_begin_5) rfl (fun g1 => ?_)
  refine j_aload_n (q := 9) (i := 0) (n := 0) dX0_begin_8 rfl rfl rfl ?_
  refine j_iconst (q := 10) (v := (nI 0)) dX0_begin_9 rfl rfl ?_
  refine p_X0_oldest (q := 13) d2_le wF_X0_26 hc0 dX0_begin_10 rfl (fun g2 => ?_)
  refine j_aload_n (q := 14) (i := 0) (n := 0) dX0_begin_13 rfl rfl rfl ?_
  refine j_iconst (q := 15) (v := (nI 0)) dX0_begin_14 rfl rfl ?_
  refine p_X0_knownCount (q := 18) d2_le wF_X0_30 hc0 dX0_begin_15 rfl (fun g3 => ?_)
  exact j_ret (x := g3) dX0_begin_18 ⟨trivial, rfl, rfl⟩
