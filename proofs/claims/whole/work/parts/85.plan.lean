/-! the constructor of Plan -/
/-- a call of a method that makes nothing -/
theorem w_run {p : Program} {l : Launch} {e : Env} {R : Room} {s : State} {m : MethodId} {args : Array Value} {below : List Frame} {meth : Method} {c : Code} {H : Heap} {locs : List Loc} {cells slots pc : Nat} {Q : State → Prop} {ls : Array Slot} {stk rest : List Value} {δ : Nat → Nat} {z : zE} {v : Option Value} {C' : Nat → Nat → va_E} {arr : Array Value} (hrun : va_Run p l e R s m args below meth c H locs cells slots 0 0 (F0 m pc ls stk) rest (QW δ z v C' arr) (zA z)) (hS : va_S (zA z) s.heap H locs) (kk : ∀ (H1 : Heap) (locs1 : List Loc), Wd δ z C' H1 → va_S (zA z) s.heap H1 locs1 → W p l e R s m args below meth c H1 locs1 cells slots Q (F0 m (pc + 3) ls (v.toList ++ rest))) : W p l e R s m args below meth c H locs cells slots Q (F0 m pc ls stk) := by
  intro T hT X
  obtain ⟨v', st₀, t, T', L, h0, X', hL, e1, e2, ⟨hv, hw1, hz, hk1⟩, stp⟩ := hrun T hT X
  cases hv
  have hS' : va_S (zA z) s.heap T'.heap (locs ++ L) := by
    rw [e1]
    refine ⟨Nat.le_trans hS.1 (by rw [← h0]; exact hz), fun q h1 h2 => ?_, fun l9 hl9 => ?_⟩
    · rw [hk1 q (by rw [h0]; exact Nat.lt_of_lt_of_le h1 hS.1) h2, h0]; exact hS.2.1 q h1 h2
    · rcases List.mem_append.mp hl9 with h | h
      · exact hS.2.2 l9 h
      · exact hL l9 h
  obtain ⟨t9, a1, b1⟩ := kk T'.heap (locs ++ L) (by rw [e1]; exact hw1) hS' T' rfl X'
  exact ⟨t9, stp t9 a1, b1⟩
theorem cell_i {cA : ClassId} {n : Nat} {f g : Nat → Int32} (h : ∀ j, j < n → f j = g j) : vp_cell cA (n, .inl f) = vp_cell cA (n, .inl g) := by
  rw [vp_cell_i, vp_cell_i]
  unfold arrV
  have : (fun j : Fin n => Value.int (f j.val)) = fun j : Fin n => Value.int (g j.val) := by
    funext j; rw [h j.val j.isLt]
  rw [this]
abbrev jb : va_E := .inr (1, [.int (nI 1), .int (nI 1), .int (nI 0), .int (nI 0), .int (nI 0), .int (nI 1), .int (nI 1)])
def jbs : Nat → List va_E
  | 0 => []
  | k + 1 => jbs k ++ [jb]
theorem jbs_len : ∀ k, (jbs k).length = k := by
  intro k
  induction k with
  | zero => rfl
  | succ k ih =>
    show (jbs k ++ [jb]).length = _
    rw [List.length_append, ih]; rfl
def ar3 (z : zE) (b k : Nat) : va_E := .inl (zc z 3, 6, .inr (.inr (.inr (.inr (fun j => if j < k then some (b + j) else none)))))
theorem ar3_0 (b : Nat) : (fun j => if j < 0 then some (b + j) else (none : Option Nat)) = fun _ => none := by
  funext j; rw [if_neg (Nat.not_lt_zero j)]
theorem ar3_s (b k n : Nat) (hn : n = k) : va_up (fun j => if j < k then some (b + j) else (none : Option Nat)) n (some (b + k)) = fun j => if j < k + 1 then some (b + j) else none := by
  subst hn
  funext j
  unfold va_up
  by_cases h : j = n
  · rw [if_pos h, if_pos (by omega), h]
  · rw [if_neg h]
    show (if j < n then some (b + j) else none) = _
    by_cases h2 : j < n
    · rw [if_pos h2, if_pos (by omega)]
    · rw [if_neg h2, if_neg (by omega)]
theorem ar3_z (b : Nat) : (fun j => if j < 6 then some (b + (6 * 0 + j)) else (none : Option Nat)) = fun j => if j < 6 then some (b + j) else none := by
  funext j; rw [Nat.mul_zero, Nat.zero_add]
abbrev z_X3 : va_E := .inr (3, [.null, .int (nI 0), .int (nI 0), .null, .int (nI 0), .null, .int (nI 0), .int (nI 0), .int (nI 0)])
def L_X3 (z : zE) (a k : Nat) : List va_E := .inr (3, [.ref (a + 1), .int (nI 0), .int (nI 0), .ref (a + 2), .int (nI 0), .ref (a + 3), .int (nI 0), .int (nI 0), .int (nI 0)]) :: ia z 3 :: ar3 z (a + 4) k :: ia z 5 :: jbs k
def f_X3 (z : zE) (a : Nat) : List va_E := .inr (3, [.ref (a + 1), .int (nI 200), .int (nI 4), .ref (a + 2), .int (nI 0), .ref (a + 3), .int (nI 0), .int (nI 0), .int (nI 0)]) :: .inl (zc z 0, 3, .inl (fun _ => nI 20)) :: ar3 z (a + 4) 6 :: ia z 5 :: jbs 6
theorem L_X3_len (z : zE) (a k : Nat) : (L_X3 z a k).length = 4 + k := by
  show (jbs k).length + 1 + 1 + 1 + 1 = _
  rw [jbs_len]; omega
abbrev rm_X3_init : Room := { frames := 5, cells := 9, slots := 56, locals := 200 }
theorem ci_X3 : CI yX3_init cX3_init 2 := ⟨wC_X3_init, wI_X3_init, wZ_X3, rfl, by decide +kernel⟩
theorem d_X1 : ∀ j, j < 7 → defaultValue (tyX1 j) = vp_V [.int (nI 0), .int (nI 0), .int (nI 0), .int (nI 0), .int (nI 0), .int (nI 0), .int (nI 0)] j := fun j hj => by
  rcases (show j = 0 ∨ j = 1 ∨ j = 2 ∨ j = 3 ∨ j = 4 ∨ j = 5 ∨ j = 6 by omega) with rfl | rfl | rfl | rfl | rfl | rfl | rfl <;> rfl
/-- a plan's own addresses -/
def zP (z : zE) (a : Nat) : zE := (z.1, z.2.1, z.2.2.1, fun k i => if 200 ≤ k then za z k i else if k = 73 then a else if k = 16 then a + 1 else if k = 81 then a + 2 else if k = 17 then a + 3 else a + 4 + i, a)
def g00 : zG := (fun f _ _ => if f = 20 then nI 1 else if f = 21 then nI 1 else if f = 25 then nI 1 else if f = 26 then nI 1 else nI 0, fun _ => 0, fun n => n)
theorem zP_I (z : zE) (a : Nat) : zI d1 (zP z a) := by
  intro k i k' i' hi hi' h
  rcases d1_cases hi with rfl | rfl | rfl | rfl | rfl <;> rcases d1_cases hi' with rfl | rfl | rfl | rfl | rfl
  · have h1 : i < 1 := hi
    have h2 : i' < 1 := hi'
    have h3 : a + 1 = a + 1 := h
    omega
  · have h1 : i < 1 := hi
    have h2 : i' < 1 := hi'
    have h3 : a + 1 = a + 3 := h
    omega
  · have h1 : i < 1 := hi
    have h2 : i' < 6 := hi'
    have h3 : a + 1 = a + 4 + i' := h
    omega
  · have h1 : i < 1 := hi
    have h2 : i' < 1 := hi'
    have h3 : a + 1 = a := h
    omega
  · have h1 : i < 1 := hi
    have h2 : i' < 1 := hi'
    have h3 : a + 1 = a + 2 := h
    omega
  · have h1 : i < 1 := hi
    have h2 : i' < 1 := hi'
    have h3 : a + 3 = a + 1 := h
    omega
  · have h1 : i < 1 := hi
    have h2 : i' < 1 := hi'
    have h3 : a + 3 = a + 3 := h
    omega
  · have h1 : i < 1 := hi
    have h2 : i' < 6 := hi'
    have h3 : a + 3 = a + 4 + i' := h
    omega
  · have h1 : i < 1 := hi
    have h2 : i' < 1 := hi'
    have h3 : a + 3 = a := h
    omega
  · have h1 : i < 1 := hi
    have h2 : i' < 1 := hi'
    have h3 : a + 3 = a + 2 := h
    omega
  · have h1 : i < 6 := hi
    have h2 : i' < 1 := hi'
    have h3 : a + 4 + i = a + 1 := h
    omega
  · have h1 : i < 6 := hi
    have h2 : i' < 1 := hi'
    have h3 : a + 4 + i = a + 3 := h
    omega
  · have h1 : i < 6 := hi
    have h2 : i' < 6 := hi'
    have h3 : a + 4 + i = a + 4 + i' := h
    omega
  · have h1 : i < 6 := hi
    have h2 : i' < 1 := hi'
    have h3 : a + 4 + i = a := h
    omega
  · have h1 : i < 6 := hi
    have h2 : i' < 1 := hi'
    have h3 : a + 4 + i = a + 2 := h
    omega
  · have h1 : i < 1 := hi
    have h2 : i' < 1 := hi'
    have h3 : a = a + 1 := h
    omega
  · have h1 : i < 1 := hi
    have h2 : i' < 1 := hi'
    have h3 : a = a + 3 := h
    omega
  · have h1 : i < 1 := hi
    have h2 : i' < 6 := hi'
    have h3 : a = a + 4 + i' := h
    omega
  · have h1 : i < 1 := hi
    have h2 : i' < 1 := hi'
    have h3 : a = a := h
    omega
  · have h1 : i < 1 := hi
    have h2 : i' < 1 := hi'
    have h3 : a = a + 2 := h
    omega
  · have h1 : i < 1 := hi
    have h2 : i' < 1 := hi'
    have h3 : a + 2 = a + 1 := h
    omega
  · have h1 : i < 1 := hi
    have h2 : i' < 1 := hi'
    have h3 : a + 2 = a + 3 := h
    omega
  · have h1 : i < 1 := hi
    have h2 : i' < 6 := hi'
    have h3 : a + 2 = a + 4 + i' := h
    omega
  · have h1 : i < 1 := hi
    have h2 : i' < 1 := hi'
    have h3 : a + 2 = a := h
    omega
  · have h1 : i < 1 := hi
    have h2 : i' < 1 := hi'
    have h3 : a + 2 = a + 2 := h
    omega
theorem zP_C {z : zE} {a : Nat} {s : State} (h : Cz z s) (ha : zN z ≤ a) (hs : a ≤ s.heap.size) : Cx d1 (zP z a) s :=
  ⟨h.1, h.2.1, zP_I z a, hs, fun k h1 h2 => by
    have e : za (zP z a) k 0 = za z k 0 := if_pos h1
    rw [e]
    exact ⟨(h.2.2.1 k h1 h2).1.narrow (fun q hq => Nat.le_trans ha hq), (h.2.2.1 k h1 h2).2.narrow (fun q hq => Nat.le_trans ha hq)⟩⟩
theorem zP_81 (z : zE) (a : Nat) (x m : zG) : cel (zP z a) x m 81 0 = ar3 z (a + 4) 6 := by
  show (Sum.inl (zc z 3, 6, Sum.inr (Sum.inr (Sum.inr (Sum.inr (fun j => if j < 6 then some (a + 4 + (6 * 0 + j)) else (none : Option Nat)))))) : va_E) = _
  rw [ar3_z]
  rfl
theorem zP_W {z : zE} {a : Nat} {H : Heap} (h : BL z a (L_X3 z a 6) H) : Wd d1 (zP z a) (wx (zP z a) g00 g00) H := by
  intro k i hi
  rcases d1_cases hi with rfl | rfl | rfl | rfl | rfl
  · have h1 : i < 1 := hi
    obtain rfl : i = 0 := by omega
    exact ⟨h.2 1 _ rfl, Nat.le_add_right a 1⟩
  · have h1 : i < 1 := hi
    obtain rfl : i = 0 := by omega
    exact ⟨h.2 3 _ rfl, Nat.le_add_right a 3⟩
  · have h1 : i < 6 := hi
    rcases (show i = 0 ∨ i = 1 ∨ i = 2 ∨ i = 3 ∨ i = 4 ∨ i = 5 by omega) with rfl | rfl | rfl | rfl | rfl | rfl
    · exact ⟨h.2 4 _ rfl, Nat.le_add_right a 4⟩
    · exact ⟨h.2 5 _ rfl, Nat.le_add_right a 5⟩
    · exact ⟨h.2 6 _ rfl, Nat.le_add_right a 6⟩
    · exact ⟨h.2 7 _ rfl, Nat.le_add_right a 7⟩
    · exact ⟨h.2 8 _ rfl, Nat.le_add_right a 8⟩
    · exact ⟨h.2 9 _ rfl, Nat.le_add_right a 9⟩
  · have h1 : i < 1 := hi
    obtain rfl : i = 0 := by omega
    exact ⟨h.2 0 _ rfl, Nat.le_refl a⟩
  · have h1 : i < 1 := hi
    obtain rfl : i = 0 := by omega
    refine ⟨?_, Nat.le_add_right a 2⟩
    show va_at _ _ (_, cel (zP z a) g00 g00 81 0) H
    rw [zP_81]
    exact h.2 2 _ rfl
/-- behind untell -/
def g01 : zG := ui (ui (ui (ui (ui (ui (ur g00 16 0 3 (fun _ => nI 20)) 10 0 0 (nI 200)) 11 0 0 (nI 4)) 12 0 0 (nI 0)) 13 0 0 (nI 0)) 14 0 0 (nI 0)) 15 0 0 (nI 0)
theorem g01_e : m_X3_untell g00 0 = some g01 := by
  unfold m_X3_untell
  rw [x_fill (n := 3) rfl (by omega), bi_e, bd_e, bd_e, bd_e, gd_isb (by omega), bd_e, gd_isb (by omega), bd_e, gd_isb (by omega), bd_e]
  rfl
theorem zP_B {z : zE} {a : Nat} {H : Heap} (h : Wd d1 (zP z a) (wx (zP z a) g00 g01) H) (hs : H.size ≤ a + 10) : BL z a (f_X3 z a) H := by
  have h5 : a + 9 < H.size := (h 71 5 (Nat.le_of_ble_eq_true rfl)).1.lt
  refine ⟨by show H.size = a + 10; omega, fun i e hi => ?_⟩
  have hl : i < 10 := (List.getElem?_eq_some_iff.mp hi).1
  rcases (show i = 0 ∨ i = 1 ∨ i = 2 ∨ i = 3 ∨ i = 4 ∨ i = 5 ∨ i = 6 ∨ i = 7 ∨ i = 8 ∨ i = 9 by omega) with rfl | rfl | rfl | rfl | rfl | rfl | rfl | rfl | rfl | rfl
  · cases hi; exact (h 73 0 (Nat.le_of_ble_eq_true rfl)).1
  · cases hi
    have h1 : H[a + 1]? = some (vp_cell (zc z 0) (3, .inl (gi g01 16 0))) := (h 16 0 (Nat.le_of_ble_eq_true rfl)).1
    show H[a + 1]? = some (vp_cell (zc z 0) (3, .inl (fun _ => nI 20)))
    rw [h1, cell_i (g := fun _ => nI 20) (fun j hj => ?_)]
    show (if 16 = 16 ∧ 0 = 0 ∧ j < 3 then nI 20 else _) = nI 20
    rw [if_pos ⟨rfl, rfl, hj⟩]
  · cases hi
    have h1 := (h 81 0 (Nat.le_of_ble_eq_true rfl)).1
    have e1 : wx (zP z a) g00 g01 81 0 = ar3 z (a + 4) 6 := zP_81 z a g01 g00
    rw [e1] at h1
    exact h1
  · cases hi; exact (h 17 0 (Nat.le_of_ble_eq_true rfl)).1
  · cases hi; exact (h 71 0 (Nat.le_of_ble_eq_true rfl)).1
  · cases hi; exact (h 71 1 (Nat.le_of_ble_eq_true rfl)).1
  · cases hi; exact (h 71 2 (Nat.le_of_ble_eq_true rfl)).1
  · cases hi; exact (h 71 3 (Nat.le_of_ble_eq_true rfl)).1
  · cases hi; exact (h 71 4 (Nat.le_of_ble_eq_true rfl)).1
  · cases hi; exact (h 71 5 (Nat.le_of_ble_eq_true rfl)).1
set_option maxRecDepth 100000 in
set_option maxHeartbeats 4000000 in
theorem l_X3_init (l : Launch) (z : zE) (a : Nat) (p : Program) (e : Env) (s : State) (m : MethodId) (below : List Frame) (meth : Method) (c : Code) (hin2 : meth.name = "<init>") (hr : meth.sig.returnType = none) (hk : meth.locks = false) (hsz : s.heap.size = a + 1) : ∀ (n k : Nat), k + n = 6 → bJ p l e rm_X3_init s m #[.ref a] below meth c cX3_init 2 yX3_init.cls z a (3 + k) (14 + 7 * k) (MQ below (QB z a (f_X3 z a)) #[.ref a] s 9 56 (bA a)) 32 [(1, .int (nI k)), (0, .ref a)] [] (L_X3 z a k) := by
  intro n
  induction n with
  | zero =>
    intro k hkn
    have : k = 6 := by omega
    subst this
    refine k_iload (q := 33) (i := 0) (n := 1) dX3_init_32 rfl rfl rfl ?_
    refine k_aload (q := 34) (i := 1) (n := 0) dX3_init_33 rfl rfl rfl ?_
    refine k_get (q := 37) (ci := 3) (f := 3) (i0 := 0) (v := .ref (a + 2)) rfl hin_X3 (Nat.le_of_ble_eq_true rfl) wF_X3_17 rfl rfl rfl dX3_init_34 rfl ?_
    refine k_alen (q := 38) (t0 := 3) (i0 := 2) (v := nI 6) rfl rfl rfl rfl dX3_init_37 rfl ?_
    refine k_cmp_ge (q := 41) (tgt := 60) dX3_init_38 rfl rfl (fun _ => ?_) (fun h => absurd (Int32.le_refl _) h)
    refine k_aload (q := 61) (i := 1) (n := 0) dX3_init_60 rfl rfl rfl ?_
    intro hF H locs ls hB hS hl
    have hX : FX d1 p rm_X3_init s m #[.ref a] c cX3_init 2 yX3_init.cls (zP z a) 9 56 := ⟨hF.1, zP_C hF.2.1 hF.2.2 (by omega), (Nat.le_of_ble_eq_true rfl), (Nat.le_of_ble_eq_true rfl)⟩
    obtain ⟨arr, hrun⟩ := rn_V (δ := d1) (e := e) (below := below) (meth := meth) (R := rm_X3_init) (Wf := wx (zP z a) g00) (g := g00) (k := 73) (i := 0) (As := []) (rest := []) (M := m_X3_untell g00 0) (out := osv) (nxt := fun x => x) (c1_X3_untell l (zP z a) g00 g00 0 (Nat.le_of_ble_eq_true rfl)) cv_X3_untell wM_X3_28 ⟨rfl, rfl⟩ ⟨(Nat.le_of_ble_eq_true rfl), (Nat.le_of_ble_eq_true rfl)⟩ (Nat.le_of_ble_eq_true rfl) (cel_73 (zP z a) g00 g00 0) rfl rfl (Nat.le_of_ble_eq_true rfl) dX3_init_61 hX g01 g01_e H locs ls (zP_W hB) hS hl.1
    refine w_run hrun hS (fun H1 locs1 hW1 hS1 => ?_)
    refine w_size (fun hsz1 => ?_)
    have hB1 : BL z a (f_X3 z a) H1 := zP_B hW1 (by rw [hsz] at hsz1; omega)
    exact W.vret hF.1.1 hF.1.2.1 hr (fun t ht _ => ⟨rfl, by rw [ht]; exact hB1, va_S.F hS1 ht⟩) hS1.2.2 dX3_init_64 hk
  | succ n ih =>
    intro k hkn
    refine k_iload (q := 33) (i := 0) (n := 1) dX3_init_32 rfl rfl rfl ?_
    refine k_aload (q := 34) (i := 1) (n := 0) dX3_init_33 rfl rfl rfl ?_
    refine k_get (q := 37) (ci := 3) (f := 3) (i0 := 0) (v := .ref (a + 2)) rfl hin_X3 (Nat.le_of_ble_eq_true rfl) wF_X3_17 rfl rfl rfl dX3_init_34 rfl ?_
    refine k_alen (q := 38) (t0 := 3) (i0 := 2) (v := nI 6) rfl rfl rfl rfl dX3_init_37 rfl ?_
    refine k_cmp_ge (q := 41) (tgt := 60) dX3_init_38 rfl rfl (fun h => absurd h (nI_nl2 (by omega) (by omega))) (fun _ => ?_)
    refine k_aload (q := 42) (i := 1) (n := 0) dX3_init_41 rfl rfl rfl ?_
    refine k_get (q := 45) (ci := 3) (f := 3) (i0 := 0) (v := .ref (a + 2)) rfl hin_X3 (Nat.le_of_ble_eq_true rfl) wF_X3_17 rfl rfl rfl dX3_init_42 rfl ?_
    refine k_iload (q := 46) (i := 0) (n := 1) dX3_init_45 rfl rfl rfl ?_
    refine k_new (q := 49) (ci := 1) (v := a + 4 + k) rfl hin_X1 tyX1 tyX1_ok wK_X3_15 wU_X1 wZ_X1 d_X1 (by show 3 + k + 1 ≤ 9; omega) (by show 14 + 7 * k + 7 ≤ 56; omega) dX3_init_46 rfl (by rw [L_X3_len]; omega) ?_
    refine k_dup (q := 50) dX3_init_49 rfl ?_
    refine k_ctorN (q := 53) (c_X1_init l z) ci_X1 wO_X3_27 ⟨rfl, rfl⟩ ⟨(Nat.le_of_ble_eq_true rfl), (Nat.le_of_ble_eq_true rfl)⟩ (Nat.le_of_ble_eq_true rfl) ⟨by show 3 + k + 1 + 0 ≤ 9; omega, by show 14 + 7 * k + 7 + 0 ≤ 56; omega⟩ dX3_init_50 (by rw [L_X3_len]; omega) rfl ?_
    refine k_ast (q := 54) (t0 := 3) (ci := 1) (i0 := 2) (j0 := 4 + k) (cs' := L_X3 z a (k + 1)) rfl rfl rfl rfl (by rw [List.getElem?_append_right (by rw [L_X3_len]; omega), L_X3_len, Nat.sub_self]; rfl) (by omega) (vp_in_nI (by omega) (by omega)) dX3_init_53 rfl ?_ ?_
    · show Sum.inr (3, [Value.ref (a + 1), Value.int (nI 0), Value.int (nI 0), Value.ref (a + 2), Value.int (nI 0), Value.ref (a + 3), Value.int (nI 0), Value.int (nI 0), Value.int (nI 0)]) :: ia z 3 :: (Sum.inl (zc z 3, 6, Sum.inr (Sum.inr (Sum.inr (Sum.inr (va_up (fun j => if j < k then some (a + 4 + j) else (none : Option Nat)) (nI k).toNatClampNeg (some (a + 4 + k)))))))) :: ia z 5 :: (jbs k ++ f_X1 z (a + 4 + k)) = _
      rw [ar3_s (a + 4) k _ (nI_clamp (by omega))]
      rfl
    refine k_iinc (q := 57) (n := 1) (i := 0) (v := nI (k + 1)) (lv' := [(1, .int (nI (k + 1))), (0, .ref a)]) dX3_init_54 rfl (by show nI k + nI 1 = _; exact n_add k 1) (Nat.le_of_ble_eq_true rfl) rfl rfl ?_
    refine k_goto (tgt := 32) dX3_init_57 rfl ?_
    exact k_widen (by omega) (by omega) (ih (k + 1) (by omega))
set_option maxRecDepth 100000 in
set_option maxHeartbeats 4000000 in
theorem c_X3_init (l : Launch) (z : zE) : Ct l yX3_init cX3_init 2 rm_X3_init z z_X3 (f_X3 z) 9 56 := by
  refine ct_of (by decide) rfl (Nat.le_of_ble_eq_true rfl) (fun a ha p e s m below meth c hin2 hr hk hsz => ?_)
  refine k_aload (q := 1) (i := 0) (n := 0) dX3_init_0 rfl rfl rfl ?_
  refine k_obj (q := 4) wM_X3_3 (Nat.le_of_ble_eq_true rfl) (Nat.le_of_ble_eq_true rfl) dX3_init_1 rfl ?_
  refine k_aload (q := 5) (i := 0) (n := 0) dX3_init_4 rfl rfl rfl ?_
  refine k_iconst (q := 6) (v := nI 3) dX3_init_5 rfl rfl ?_
  refine k_newa (q := 8) (N := 3) (v := a + 1) (nI_pos (Nat.le_of_ble_eq_true rfl)) (nI_clamp (Nat.le_of_ble_eq_true rfl)) (Nat.le_of_ble_eq_true rfl) (Nat.le_of_ble_eq_true rfl) (Nat.le_of_ble_eq_true rfl) dX3_init_6 rfl rfl ?_
  refine k_putF (q := 11) (ci := 3) (f := 0) (i0 := 0) (cs' := .inr (3, [.ref (a + 1), .int (nI 0), .int (nI 0), .null, .int (nI 0), .null, .int (nI 0), .int (nI 0), .int (nI 0)]) :: [ia z 3]) hin2 rfl hin_X3 tyX3 tyX3_ok nmX3 (Nat.le_of_ble_eq_true rfl) rfl rfl (tyX3_ok 0 (Nat.le_of_ble_eq_true rfl)) wF_X3_9 rfl rfl (Nat.le_of_ble_eq_true rfl) rfl rfl dX3_init_8 rfl rfl ?_
  refine k_aload (q := 12) (i := 0) (n := 0) dX3_init_11 rfl rfl rfl ?_
  refine k_bipush (q := 14) (v := nI 6) dX3_init_12 rfl rfl ?_
  refine k_newq (q := 17) (t0 := 3) (N := 6) (v := a + 2) rfl wK_X3_15 (fun U h => h.2.2.2.2.1) (nI_pos (Nat.le_of_ble_eq_true rfl)) (nI_clamp (Nat.le_of_ble_eq_true rfl)) (Nat.le_of_ble_eq_true rfl) (Nat.le_of_ble_eq_true rfl) (Nat.le_of_ble_eq_true rfl) dX3_init_14 rfl rfl ?_
  refine k_putF (q := 20) (ci := 3) (f := 3) (i0 := 0) (cs' := .inr (3, [.ref (a + 1), .int (nI 0), .int (nI 0), .ref (a + 2), .int (nI 0), .null, .int (nI 0), .int (nI 0), .int (nI 0)]) :: [ia z 3, .inl (zc z 3, 6, .inr (.inr (.inr (.inr (fun _ => none)))))]) hin2 rfl hin_X3 tyX3 tyX3_ok nmX3 (Nat.le_of_ble_eq_true rfl) rfl rfl (tyX3_ok 3 (Nat.le_of_ble_eq_true rfl)) wF_X3_17 rfl rfl (Nat.le_of_ble_eq_true rfl) rfl rfl dX3_init_17 rfl rfl ?_
  refine k_aload (q := 21) (i := 0) (n := 0) dX3_init_20 rfl rfl rfl ?_
  refine k_getsN (q := 24) (k0 := 200) (Nat.le_of_ble_eq_true rfl) (Nat.le_of_ble_eq_true rfl) wG_X3_21 dX3_init_21 rfl ?_
  refine k_slen (q := 25) (k0 := 200) (Nat.le_of_ble_eq_true rfl) (Nat.le_of_ble_eq_true rfl) dX3_init_24 rfl ?_
  refine k_newa (q := 27) (N := 5) (v := a + 3) (nI_pos (n := 5) (Nat.le_of_ble_eq_true rfl)) (nI_clamp (n := 5) (Nat.le_of_ble_eq_true rfl)) (Nat.le_of_ble_eq_true rfl) (Nat.le_of_ble_eq_true rfl) (Nat.le_of_ble_eq_true rfl) dX3_init_25 rfl rfl ?_
  refine k_putF (q := 30) (ci := 3) (f := 5) (i0 := 0) (cs' := .inr (3, [.ref (a + 1), .int (nI 0), .int (nI 0), .ref (a + 2), .int (nI 0), .ref (a + 3), .int (nI 0), .int (nI 0), .int (nI 0)]) :: [ia z 3, .inl (zc z 3, 6, .inr (.inr (.inr (.inr (fun _ => none))))), ia z 5]) hin2 rfl hin_X3 tyX3 tyX3_ok nmX3 (Nat.le_of_ble_eq_true rfl) rfl rfl (tyX3_ok 5 (Nat.le_of_ble_eq_true rfl)) wF_X3_24 rfl rfl (Nat.le_of_ble_eq_true rfl) rfl rfl dX3_init_27 rfl rfl ?_
  refine k_iconst (q := 31) (v := nI 0) dX3_init_30 rfl rfl ?_
  refine k_istore (q := 32) (n := 1) (lv' := [(1, .int (nI 0)), (0, .ref a)]) dX3_init_31 rfl (Nat.le_of_ble_eq_true rfl) rfl rfl ?_
  refine k_cs (cs' := L_X3 z a 0) (by unfold L_X3 ar3; rw [ar3_0]; rfl) ?_
  exact l_X3_init l z a p e s m below meth c hin2 hr hk hsz 6 0 rfl
