/-! office: a number, a stop -/
section NUM
variable {x m : zG} {q tl : Nat} {tx : Nat → Nat}
theorem so4_2 {t : Nat} (h : t ≤ 4) : (so4 t = nI 2) = (t = 2) := by
  unfold so4
  by_cases h4 : t = 4
  · rw [if_pos h4]; apply propext; constructor
    · intro e; exact absurd e (by decide)
    · intro e; omega
  · rw [if_neg h4, n_eq (by omega) (by omega)]
theorem so4_3 {t : Nat} (h : t ≤ 4) : (so4 t = nI 3) = (t = 3) := by
  unfold so4
  by_cases h4 : t = 4
  · rw [if_pos h4]; apply propext; constructor
    · intro e; exact absurd e (by decide)
    · intro e; omega
  · rw [if_neg h4, n_eq (by omega) (by omega)]
theorem so4_1 {t : Nat} (h : t ≤ 4) : (so4 t = nI 1) = (t = 1) := by
  unfold so4
  by_cases h4 : t = 4
  · rw [if_pos h4]; apply propext; constructor
    · intro e; exact absurd e (by decide)
    · intro e; omega
  · rw [if_neg h4, n_eq (by omega) (by omega)]
theorem so4_0 {t : Nat} (h : t ≤ 4) : (so4 t = nI 0) = (t = 0) := by
  unfold so4
  by_cases h4 : t = 4
  · rw [if_pos h4]; apply propext; constructor
    · intro e; exact absurd e (by decide)
    · intro e; omega
  · rw [if_neg h4, n_eq (by omega) (by omega)]
/-- where reading stopped -/
def StpR (x m : zG) (tl : Nat) : Prop := ∃ s, s ≤ tl ∧ gi x 53 0 0 = nI s ∧ gi m 126 0 0 = nI s
theorem TKr.stp {s t v q1 : Nat} (h : TKr x m tl q s t v q1) : StpR x m tl := ⟨s, h.1, h.2.2.2.2.2.1, h.2.2.2.2.2.2.1⟩
theorem StpR.fr {x' m' : zG} {P Q : Nat → Nat → Prop} (h : StpR x m tl) (hx : Fr P x x') (hm : Fr Q m m') (h1 : ¬ P 53 0) (h2 : ¬ Q 126 0) : StpR x' m' tl := by
  obtain ⟨s, a, b, c⟩ := h
  exact ⟨s, a, by rw [hx.1 53 0 0 h1]; exact b, by rw [hm.1 126 0 0 h2]; exact c⟩
theorem in_nn {v lo hi : Nat} (hv : v < 1000) (hl : lo < 1000) (hh : hi < 1000) : m_X7_in (Int32.toInt64 (nI v)) (Int32.toInt64 (nI lo)) (Int32.toInt64 (nI hi)) = some (n01 (decide (lo ≤ v ∧ v ≤ hi))) := by
  have e : ∀ k, k < 1000 → (Int32.toInt64 (nI k)).toInt = k := fun k hk => by rw [Int32.toInt_toInt64, nI_toInt (by omega)]
  by_cases h : lo ≤ v ∧ v ≤ hi
  · rw [mi_t (by rw [e lo hl, nI_toInt (by omega)]; omega) (by rw [e hi hh, nI_toInt (by omega)]; omega)]; simp [h, n01]
  · rw [m_in_f (by rw [e lo hl, e hi hh, nI_toInt (by omega)]; omega)]; simp [h, n01]
/-- a number is read, or reading fails -/
theorem num_both {k1 k2 L i lo hi : Nat} (h1 : 200 ≤ k1) (h2 : 200 ≤ k2) (e1 : ln k1 = L) (e2 : ln k2 = L) (hL : L ≤ 5) (hi' : i < L) (s1 : sc k1 i = nI lo) (s2 : sc k2 i = nI hi) (hlo : lo < 1000) (hhi : hi < 1000) (hT : RT x m tl tx) (hq : q ≤ tl) (hx : gi x 51 0 0 = nI q) (hm : gi m 125 0 0 = nI q) : ∃ x1 m1, m_X5_readToken x = some x1 ∧ Fr PTx x x1 ∧ Fr PTm m m1 ∧ StpR x1 m1 tl ∧ ((∃ v q1, q < q1 ∧ q1 ≤ tl ∧ gi x1 51 0 0 = nI q1 ∧ gi m1 125 0 0 = nI q1 ∧ lo ≤ v ∧ v ≤ hi ∧ gi x1 54 0 0 = nI v ∧ gi m1 128 0 0 = nI v ∧ m_X7_takesNumber m (nI lo) (nI hi) = some (nI 1, m1) ∧ ∀ K : Option (Int32 × zG), (if gi x1 52 0 0 = nI 2 then gd (inb (nI i) (ln k1) = true) (if gi x1 54 0 0 < xr x1 k1 0 (nI i).toNatClampNeg then some (nI 0, x1) else (m_X6_at x1 k2 0 (nI i)).bind fun r3 => if r3 < gi x1 54 0 0 then some (nI 0, x1) else K) else some (nI 0, x1)) = K) ∨ (m_X7_takesNumber m (nI lo) (nI hi) = some (nI 0, m1) ∧ ∀ K : Option (Int32 × zG), (if gi x1 52 0 0 = nI 2 then gd (inb (nI i) (ln k1) = true) (if gi x1 54 0 0 < xr x1 k1 0 (nI i).toNatClampNeg then some (nI 0, x1) else (m_X6_at x1 k2 0 (nI i)).bind fun r3 => if r3 < gi x1 54 0 0 then some (nI 0, x1) else K) else some (nI 0, x1)) = some (nI 0, x1))) := by
  obtain ⟨s, t, v, q1, x1, m1, a1, a2, a3, a4, a5⟩ := tok hT hq hx hm
  obtain ⟨b1, b2, b3, b4, b5, b6, b7, b8, b9⟩ := id a3
  refine ⟨x1, m1, a1, a4, a5, a3.stp, ?_⟩
  unfold m_X7_takesNumber
  rw [a2, bi_e, b5, b4]
  have ex : xr x1 k1 0 i = nI lo := by unfold xr; rw [if_pos h1]; exact s1
  by_cases ht : t = 2
  · obtain ⟨c1, c2⟩ := b8 (Or.inr ht)
    obtain ⟨d1, d2, d3, d4⟩ := b9 (by omega)
    rw [if_pos (by rw [so4_2 b2]; exact ht), c2, in_nn (by omega) hlo hhi, bi_e]
    simp only [eq_t ht, e1, gd_inb (show i < 2147483648 by omega) hi', n_cl (show i < 2147483648 by omega), ex, c1, x_at2 h2 e2 (by omega) hi', bi_e, s2]
    by_cases hr : lo ≤ v ∧ v ≤ hi
    · refine Or.inl ⟨v, q1, d1, d2, d3, d4, hr.1, hr.2, rfl, rfl, ?_, fun K => ?_⟩
      · have : decide (lo ≤ v ∧ v ≤ hi) = true := by simp [hr]
        rw [this, n01_t, eq_f (by omega) (by omega) (by omega)]
      · rw [lt_f (by omega) (by omega), lt_f (by omega) (by omega)]
    · refine Or.inr ⟨?_, fun K => ?_⟩
      · have : decide (lo ≤ v ∧ v ≤ hi) = false := by simp [hr]
        rw [this, n01_f, eq_t rfl]
      · by_cases hl : v < lo
        · rw [lt_t (by omega) hl]
        · rw [lt_f (by omega) (by omega), lt_t (by omega) (by omega)]
  · refine Or.inr ⟨?_, fun K => ?_⟩
    · rw [if_neg (by rw [so4_2 b2]; exact ht)]
    · rw [eq_f (by omega) (by omega) ht]
/-- the stop -/
theorem end_both {p k1 n1 k2 n2 : Nat} (hT : RT x m tl tx) (hq : q ≤ tl) (hx : gi x 51 0 0 = nI q) (hm : gi m 125 0 0 = nI q) : ∃ x1 m1, Fr PTx x x1 ∧ Fr PTm m m1 ∧ StpR x1 m1 tl ∧ ((∃ q1, q < q1 ∧ q1 ≤ tl ∧ gi x1 51 0 0 = nI q1 ∧ gi m1 125 0 0 = nI q1 ∧ m_X3_readNumbers_B67 p k1 n1 k2 n2 x = some (nI 1, x1) ∧ m_X7_ends m = some (nI 1, m1)) ∨ (m_X3_readNumbers_B67 p k1 n1 k2 n2 x = some (nI 0, x1) ∧ m_X7_ends m = some (nI 0, m1))) := by
  obtain ⟨s, t, v, q1, x1, m1, a1, a2, a3, a4, a5⟩ := tok hT hq hx hm
  obtain ⟨b1, b2, b3, b4, b5, b6, b7, b8, b9⟩ := id a3
  refine ⟨x1, m1, a4, a5, a3.stp, ?_⟩
  unfold m_X3_readNumbers_B67 m_X7_ends
  rw [a1, a2, bi_e, bi_e, b4, b5]
  by_cases ht : t = 3
  · obtain ⟨d1, d2, d3, d4⟩ := b9 (by omega)
    rw [eq_t ht, if_pos (by rw [so4_3 b2]; exact ht)]
    exact Or.inl ⟨q1, d1, d2, d3, d4, rfl, rfl⟩
  · rw [eq_f (by omega) (by omega) ht, if_neg (by rw [so4_3 b2]; exact ht)]
    exact Or.inr ⟨rfl, rfl⟩
end NUM
