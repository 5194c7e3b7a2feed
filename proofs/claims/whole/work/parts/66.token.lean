/-! office: the next token on both sides -/
def PTx : Nat → Nat → Prop := fun f a => 51 ≤ f ∧ f ≤ 54 ∧ a = 0
def PTm : Nat → Nat → Prop := fun f _ => 125 ≤ f ∧ f ≤ 128
def isL (c : Nat) : Prop := 97 ≤ c ∧ c ≤ 122
def isD (c : Nat) : Prop := 48 ≤ c ∧ c ≤ 57
section TOKEN
variable {x m : zG} {q s tl : Nat} {tx : Nat → Nat}
theorem RT.ft {x' m' : zG} (h : RT x m tl tx) (hx : Fr PTx x x') (hm : Fr PTm m m') : RT x' m' tl tx :=
  h.fr hx ⟨fun q => by have := q.1; omega, fun q => by have := q.2.1; omega⟩ hm ⟨fun q => by have := q.1; omega, fun q => by have := q.1; omega⟩
theorem xL_t {c : Nat} (h : isL c) : m_X5_isLetter (nI c) = some (nI 1) := by
  obtain ⟨h1, h2⟩ := h
  unfold m_X5_isLetter; rw [lt_f (by omega) (by omega), lt_f (by omega) (by omega)]
theorem xL_f {c : Nat} (hc : c ≤ 255) (h : ¬ isL c) : m_X5_isLetter (nI c) = some (nI 0) := by
  unfold m_X5_isLetter isL at *
  by_cases h1 : c < 97
  · rw [lt_t (by omega) h1]
  · rw [lt_f (by omega) (by omega), lt_t (by omega) (by omega)]
theorem xD_t {c : Nat} (h : isD c) : m_X5_isDigit (nI c) = some (nI 1) := by
  obtain ⟨h1, h2⟩ := h
  unfold m_X5_isDigit; rw [lt_f (by omega) (by omega), lt_f (by omega) (by omega)]
theorem xD_f {c : Nat} (hc : c ≤ 255) (h : ¬ isD c) : m_X5_isDigit (nI c) = some (nI 0) := by
  unfold m_X5_isDigit isD at *
  by_cases h1 : c < 48
  · rw [lt_t (by omega) h1]
  · rw [lt_f (by omega) (by omega), lt_t (by omega) (by omega)]
theorem mL_t {c : Nat} (h : isL c) : m_X7_in (Int32.toInt64 (nI c)) 97 122 = some (nI 1) := m_in_t (l := 97) (h := 122) rfl rfl (by have := h.2; omega) h.1 h.2
theorem mL_f {c : Nat} (hc : c ≤ 255) (h : ¬ isL c) : m_X7_in (Int32.toInt64 (nI c)) 97 122 = some (nI 0) := m_in_f (by
  have e1 : (97 : Int64).toInt = 97 := rfl
  have e2 : (122 : Int64).toInt = 122 := rfl
  unfold isL at h
  rw [nI_toInt (by omega), e1, e2]; omega)
theorem mD_t {c : Nat} (h : isD c) : m_X7_in (Int32.toInt64 (nI c)) 48 57 = some (nI 1) := m_in_t (l := 48) (h := 57) rfl rfl (by have := h.2; omega) h.1 h.2
theorem mD_f {c : Nat} (hc : c ≤ 255) (h : ¬ isD c) : m_X7_in (Int32.toInt64 (nI c)) 48 57 = some (nI 0) := m_in_f (by
  have e1 : (48 : Int64).toInt = 48 := rfl
  have e2 : (57 : Int64).toInt = 57 := rfl
  unfold isD at h
  rw [nI_toInt (by omega), e1, e2]; omega)
theorem mL_e : m_X7_in (Int32.toInt64 (-1)) 97 122 = some (nI 0) := m_in_f (Or.inl (by decide))
theorem mD_e : m_X7_in (Int32.toInt64 (-1)) 48 57 = some (nI 0) := m_in_f (Or.inl (by decide))
theorem let_t (hT : RT x m tl tx) (hm : gi m 125 0 0 = nI q) (hq : q < tl) : m_X7_letter m = some (nI (tx q)) := by
  obtain ⟨t1, t2, t3, t4⟩ := hT
  unfold m_X7_letter
  rw [hm, t3, lt_t (by omega) hq, gd_inb (by omega) (by omega), n_cl (by omega), (t4 q hq).2.1]
theorem let_f (hT : RT x m tl tx) (hm : gi m 125 0 0 = nI q) (hq : tl ≤ q) (h2 : q < 1000) : m_X7_letter m = some (-1) := by
  obtain ⟨t1, t2, t3, t4⟩ := hT
  unfold m_X7_letter
  rw [hm, t3, lt_f (by omega) hq]
theorem e32_f : ¬ ((-1 : Int32) = nI 32) := by decide
theorem skL : ∀ (c q f f' : Nat) (x m : zG), q + c = tl → c < f → c < f' → RT x m tl tx → gi x 51 0 0 = nI q → gi m 125 0 0 = nI q → ∃ q1 x1 m1, q ≤ q1 ∧ q1 ≤ tl ∧ m_X5_readToken_L0 f x = m_X5_readToken_B40 x1 ∧ m_X7_next_L0 f' m = m_X7_next_B22 m1 ∧ gi x1 51 0 0 = nI q1 ∧ gi m1 125 0 0 = nI q1 ∧ Fr PTx x x1 ∧ Fr PTm m m1 := by
  intro c
  induction c with
  | zero =>
    intro q f f' x m hc hf hf' hT hx hm
    obtain ⟨f, rfl⟩ : ∃ g, f = g + 1 := ⟨f - 1, by omega⟩
    obtain ⟨f', rfl⟩ : ∃ g, f' = g + 1 := ⟨f' - 1, by omega⟩
    have t1 := hT.1
    unfold m_X5_readToken_L0 m_X7_next_L0
    rw [hx, hT.2.1, lt_f (by omega) (by omega), let_f hT hm (by omega) (by omega), bi_e, if_neg e32_f]
    exact ⟨q, x, m, by omega, by omega, rfl, rfl, hx, hm, Fr.rf, Fr.rf⟩
  | succ c ih =>
    intro q f f' x m hc hf hf' hT hx hm
    obtain ⟨f, rfl⟩ : ∃ g, f = g + 1 := ⟨f - 1, by omega⟩
    obtain ⟨f', rfl⟩ : ∃ g, f' = g + 1 := ⟨f' - 1, by omega⟩
    obtain ⟨t1, t2, t3, t4⟩ := id hT
    obtain ⟨c1, c2, c3⟩ := t4 q (by omega)
    unfold m_X5_readToken_L0 m_X7_next_L0
    rw [hx, t2, lt_t (by omega) (by omega), x_at (k := 55) (n := 120) rfl (by omega) (by omega) (by omega), c1, bi_e, let_t hT hm (by omega), bi_e]
    by_cases h : tx q = 32
    · rw [eq_t h, eq_t h, bd_e, bd_e, n_add, hm, n_add]
      have F1 : Fr PTx x (ui x 51 0 0 (nI (q + 1))) := Fr.rf.ui ⟨by omega, by omega, rfl⟩
      have F2 : Fr PTm m (ui m 125 0 0 (nI (q + 1))) := Fr.rf.ui ⟨by omega, by omega⟩
      obtain ⟨q1, x1, m1, a1, a2, a3, a4, a5, a6, a7, a8⟩ := ih (q + 1) f f' _ _ (by omega) (by omega) (by omega) (hT.ft F1 F2) (gi_s _ _ _ _ _) (gi_s _ _ _ _ _)
      exact ⟨q1, x1, m1, by omega, a2, a3, a4, a5, a6, F1.tr a7, F2.tr a8⟩
    · rw [eq_f (by omega) (by omega) h, eq_f (by omega) (by omega) h]
      exact ⟨q, x, m, by omega, by omega, rfl, rfl, hx, hm, Fr.rf, Fr.rf⟩
def P51 : Nat → Nat → Prop := fun f a => f = 51 ∧ a = 0
def P125 : Nat → Nat → Prop := fun f _ => f = 125
theorem P51_T {f a : Nat} (h : P51 f a) : PTx f a := ⟨by have := h.1; omega, by have := h.1; omega, h.2⟩
theorem P125_T {f a : Nat} (h : P125 f a) : PTm f a := ⟨by have : f = 125 := h; omega, by have : f = 125 := h; omega⟩
theorem ltL : ∀ (c q f f' : Nat) (x m : zG), q + c = tl → c < f → c < f' → RT x m tl tx → gi x 51 0 0 = nI q → gi m 125 0 0 = nI q → ∃ q1 x1 m1, q ≤ q1 ∧ q1 ≤ tl ∧ (q < tl → isL (tx q) → q < q1) ∧ m_X5_readLetters_L0 f x = m_X5_readLetters_B41 x1 ∧ m_X7_readLetters_L8 f' m = m_X7_readLetters_B38 m1 ∧ gi x1 51 0 0 = nI q1 ∧ gi m1 125 0 0 = nI q1 ∧ Fr P51 x x1 ∧ Fr P125 m m1 := by
  intro c
  induction c with
  | zero =>
    intro q f f' x m hc hf hf' hT hx hm
    obtain ⟨f, rfl⟩ : ∃ g, f = g + 1 := ⟨f - 1, by omega⟩
    obtain ⟨f', rfl⟩ : ∃ g, f' = g + 1 := ⟨f' - 1, by omega⟩
    have t1 := hT.1
    unfold m_X5_readLetters_L0 m_X7_readLetters_L8
    rw [hx, hT.2.1, lt_f (by omega) (by omega), let_f hT hm (by omega) (by omega), bi_e, mL_e, bi_e, eq_t rfl]
    exact ⟨q, x, m, by omega, by omega, fun h => by omega, rfl, rfl, hx, hm, Fr.rf, Fr.rf⟩
  | succ c ih =>
    intro q f f' x m hc hf hf' hT hx hm
    obtain ⟨f, rfl⟩ : ∃ g, f = g + 1 := ⟨f - 1, by omega⟩
    obtain ⟨f', rfl⟩ : ∃ g, f' = g + 1 := ⟨f' - 1, by omega⟩
    obtain ⟨t1, t2, t3, t4⟩ := id hT
    obtain ⟨c1, c2, c3⟩ := t4 q (by omega)
    unfold m_X5_readLetters_L0 m_X7_readLetters_L8
    rw [hx, t2, lt_t (by omega) (by omega), x_at (k := 55) (n := 120) rfl (by omega) (by omega) (by omega), c1, bi_e, let_t hT hm (by omega), bi_e]
    by_cases h : isL (tx q)
    · rw [xL_t h, mL_t h, bi_e, bi_e, eq_f (by omega) (by omega) (by omega), eq_f (by omega) (by omega) (by omega), bd_e, bd_e, n_add, hm, n_add]
      have F1 : Fr P51 x (ui x 51 0 0 (nI (q + 1))) := Fr.rf.ui ⟨rfl, rfl⟩
      have F2 : Fr P125 m (ui m 125 0 0 (nI (q + 1))) := Fr.rf.ui rfl
      obtain ⟨q1, x1, m1, a1, a2, a0, a3, a4, a5, a6, a7, a8⟩ := ih (q + 1) f f' _ _ (by omega) (by omega) (by omega) (hT.ft (F1.wk (fun _ _ => P51_T)) (F2.wk (fun _ _ => P125_T))) (gi_s _ _ _ _ _) (gi_s _ _ _ _ _)
      exact ⟨q1, x1, m1, by omega, a2, fun _ _ => by omega, a3, a4, a5, a6, F1.tr a7, F2.tr a8⟩
    · rw [xL_f c3 h, mL_f c3 h, bi_e, bi_e, eq_t rfl, eq_t rfl]
      exact ⟨q, x, m, by omega, by omega, fun _ h2 => absurd h2 h, rfl, rfl, hx, hm, Fr.rf, Fr.rf⟩
def P5154 : Nat → Nat → Prop := fun f a => (f = 51 ∨ f = 54) ∧ a = 0
def P1258 : Nat → Nat → Prop := fun f _ => f = 125 ∨ f = 128
theorem P5154_T {f a : Nat} (h : P5154 f a) : PTx f a := ⟨by have := h.1; omega, by have := h.1; omega, h.2⟩
theorem P1258_T {f a : Nat} (h : P1258 f a) : PTm f a := ⟨by have : f = 125 ∨ f = 128 := h; omega, by have : f = 125 ∨ f = 128 := h; omega⟩
theorem min_n {a b : Nat} (ha : a < 1000000) (hb : b < 1000000) : m_J9_min_7cf53 (nI a) (nI b) = some (nI (min a b)) := by
  rw [min_e (by omega) (by omega)]
  by_cases h : b < a
  · rw [if_pos h, show min a b = b by omega]
  · rw [if_neg h, show min a b = a by omega]
theorem nuL : ∀ (c q v f f' : Nat) (x m : zG), q + c = tl → c < f → c < f' → RT x m tl tx → gi x 51 0 0 = nI q → gi m 125 0 0 = nI q → gi x 54 0 0 = nI (min 1000 v) → gi m 128 0 0 = nI v → v ≤ 9999 → ∃ q1 v1 x1 m1, q ≤ q1 ∧ q1 ≤ tl ∧ (q < tl → isD (tx q) → q < q1) ∧ v1 ≤ 9999 ∧ m_X5_readNumber_L0 f x = m_X5_readNumber_B73 x1 ∧ m_X7_readNumber_L5 f' m = m_X7_readNumber_B71 m1 ∧ gi x1 51 0 0 = nI q1 ∧ gi m1 125 0 0 = nI q1 ∧ gi x1 54 0 0 = nI (min 1000 v1) ∧ gi m1 128 0 0 = nI v1 ∧ Fr P5154 x x1 ∧ Fr P1258 m m1 := by
  intro c
  induction c with
  | zero =>
    intro q v f f' x m hc hf hf' hT hx hm hvx hvm hv
    obtain ⟨f, rfl⟩ : ∃ g, f = g + 1 := ⟨f - 1, by omega⟩
    obtain ⟨f', rfl⟩ : ∃ g, f' = g + 1 := ⟨f' - 1, by omega⟩
    have t1 := hT.1
    unfold m_X5_readNumber_L0 m_X7_readNumber_L5
    rw [hx, hT.2.1, lt_f (by omega) (by omega), let_f hT hm (by omega) (by omega), bi_e, mD_e, bi_e, eq_t rfl]
    exact ⟨q, v, x, m, by omega, by omega, fun h => by omega, hv, rfl, rfl, hx, hm, hvx, hvm, Fr.rf, Fr.rf⟩
  | succ c ih =>
    intro q v f f' x m hc hf hf' hT hx hm hvx hvm hv
    obtain ⟨f, rfl⟩ : ∃ g, f = g + 1 := ⟨f - 1, by omega⟩
    obtain ⟨f', rfl⟩ : ∃ g, f' = g + 1 := ⟨f' - 1, by omega⟩
    obtain ⟨t1, t2, t3, t4⟩ := id hT
    obtain ⟨c1, c2, c3⟩ := t4 q (by omega)
    unfold m_X5_readNumber_L0 m_X7_readNumber_L5 m_X7_readNumber_B55
    rw [hx, t2, lt_t (by omega) (by omega), x_at (k := 55) (n := 120) rfl (by omega) (by omega) (by omega), c1, let_t hT hm (by omega)]
    simp only [bi_e]
    by_cases h : isD (tx q)
    · obtain ⟨d1, d2⟩ := id h
      have mn := min_n (a := 1000) (b := min 1000 v * 10 + tx q - 48) (by omega) (by omega)
      rw [xD_t h, mD_t h, bi_e, bi_e, eq_f (by omega) (by omega) (by omega), eq_f (by omega) (by omega) (by omega), hvx, hvm, n_mul (min 1000 v) 10, n_add, n_sub (by omega), mn, bi_e, bd_e, bd_e]
      have go : ∀ (w u : Nat), w ≤ 9999 → u = min 1000 w → ∃ q1 v1 x1 m1, q ≤ q1 ∧ q1 ≤ tl ∧ (q < tl → isD (tx q) → q < q1) ∧ v1 ≤ 9999 ∧ m_X5_readNumber_L0 f (ui (ui x 54 0 0 (nI u)) 51 0 0 (gi (ui x 54 0 0 (nI u)) 51 0 0 + nI 1)) = m_X5_readNumber_B73 x1 ∧ m_X7_readNumber_L5 f' (ui (ui m 128 0 0 (nI w)) 125 0 0 (gi (ui m 128 0 0 (nI w)) 125 0 0 + nI 1)) = m_X7_readNumber_B71 m1 ∧ gi x1 51 0 0 = nI q1 ∧ gi m1 125 0 0 = nI q1 ∧ gi x1 54 0 0 = nI (min 1000 v1) ∧ gi m1 128 0 0 = nI v1 ∧ Fr P5154 x x1 ∧ Fr P1258 m m1 := by
        intro w u hw hu
        have g1 : gi (ui x 54 0 0 (nI u)) 51 0 0 = nI q := by rw [gi_ui, if_neg (by omega)]; exact hx
        have g2 : gi (ui m 128 0 0 (nI w)) 125 0 0 = nI q := by rw [gi_ui, if_neg (by omega)]; exact hm
        rw [g1, g2, n_add]
        have F1 : Fr P5154 x (ui (ui x 54 0 0 (nI u)) 51 0 0 (nI (q + 1))) := (Fr.rf.ui ⟨Or.inr rfl, rfl⟩).ui ⟨Or.inl rfl, rfl⟩
        have F2 : Fr P1258 m (ui (ui m 128 0 0 (nI w)) 125 0 0 (nI (q + 1))) := (Fr.rf.ui (Or.inr rfl)).ui (Or.inl rfl)
        obtain ⟨q1, v1, x1, m1, a1, a2, a0, a9, a3, a4, a5, a6, a10, a11, a7, a8⟩ := ih (q + 1) w f f' _ _ (by omega) (by omega) (by omega) (hT.ft (F1.wk (fun _ _ => P5154_T)) (F2.wk (fun _ _ => P1258_T))) (gi_s _ _ _ _ _) (gi_s _ _ _ _ _) (by rw [gi_ui, if_neg (by omega), gi_s, hu]) (by rw [gi_ui, if_neg (by omega), gi_s]) hw
        exact ⟨q1, v1, x1, m1, by omega, a2, fun _ _ => by omega, a9, a3, a4, a5, a6, a10, a11, F1.tr a7, F2.tr a8⟩
      by_cases hv1 : v < 1000
      · rw [lt_t (by omega) hv1, n_mul, n_add (10 * v) (tx q), n_sub (by omega), bd_e, bd_e]
        exact go (10 * v + tx q - 48) _ (by omega) (by omega)
      · rw [lt_f (by omega) (by omega), bd_e, bd_e]
        exact go v _ hv (by omega)
    · rw [xD_f c3 h, mD_f c3 h, bi_e, bi_e, eq_t rfl, eq_t rfl]
      exact ⟨q, v, x, m, by omega, by omega, fun _ h2 => absurd h2 h, hv, rfl, rfl, hx, hm, hvx, hvm, Fr.rf, Fr.rf⟩
end TOKEN
