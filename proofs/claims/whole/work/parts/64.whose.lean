/-! whose -/
def hif (J : Nat → Nat → Nat) (j k pg : Nat) : Bool := decide (k < al J j) && decide (frt J j k = pg)
def tst (J : Nat → Nat → Nat) (sv : Nat → Nat → Nat) (j u : Nat) : Bool := hif J j (sv 0 u) (sv 1 u) == decide (sv 2 u = 1)
def fitF (J : Nat → Nat → Nat) (sv : Nat → Nat → Nat) (j : Nat) : Nat → Nat → Bool
  | 0, _ => true
  | c + 1, u => tst J sv j u && fitF J sv j c (u + 1)
theorem fitF_c (J : Nat → Nat → Nat) (sv : Nat → Nat → Nat) (j c u : Nat) : fitF J sv j (c + 1) u = (tst J sv j u && fitF J sv j c (u + 1)) := rfl
def n01 (b : Bool) : Int32 := if b then nI 1 else nI 0
theorem n01_t : n01 true = nI 1 := rfl
theorem n01_f : n01 false = nI 0 := rfl
section WHOSE
variable {x m : zG} {p nj nb j k pg sn : Nat} {J : Nat → Nat → Nat} {N : Nat → Nat} {sv : Nat → Nat → Nat}
theorem frt_in (hB : JB nj nb J) (hj : j < nj) (hk : k < al J j) : 1 ≤ frt J j k ∧ frt J j k ≤ 9 := by
  have hl := lvs_in hB hj
  obtain ⟨a1, a2, a3, a4, a5, a6, a7⟩ := hB.2.2.2 j hj
  have h1 : leaf J j k < lvs J j := by
    unfold leaf
    split
    · exact Nat.mod_lt _ (by omega)
    · unfold al at hk
      exact Nat.div_lt_of_lt_mul (by rw [Nat.mul_comm]; exact hk)
  unfold frt
  by_cases h2 : J 2 j = 1
  · rw [if_pos h2]
    have : lvs J j = (J 0 j + 1) / 2 := by unfold lvs; rw [if_pos h2]
    omega
  · rw [if_neg h2]; omega
theorem m_hif (hB : JB nj nb J) (hM : JM m nj nb J) (hj : j < nj) (hk : k < 1000) (hg : pg < 1000) : m_X7_hasInFront m (nI j) (nI k) (nI pg) = some (n01 (hif J j k pg)) := by
  have ha := al_in hB hj
  unfold m_X7_hasInFront hif
  rw [m_all hB hM hj, bi_e]
  by_cases h : k < al J j
  · have hf := frt_in hB hj h
    rw [lt_t (by omega) h, m_front hB hM hj (by omega), bi_e]
    by_cases h2 : frt J j k = pg
    · rw [eq_t h2]; simp [h, h2, n01]
    · rw [eq_f (by omega) (by omega) h2]; simp [h2, n01]
  · rw [lt_f (by omega) (by omega)]; simp [h, n01]
theorem x_fitL (hB : JB nj nb J) (hX : JX x p nj nb J) (hS : RS x m sn sv) (hj : j < nj) : ∀ (c f u : Nat), u + c = sn → c < f → m_X4_fits_L2 (6 * p + j) x f (nI u) = some (n01 (fitF J sv j c u)) := by
  have h6 := hB.1
  obtain ⟨s1, s2, s3, s4⟩ := hS
  have ha := al_in hB hj
  intro c
  induction c with
  | zero =>
    intro f u hu hf
    obtain ⟨f, rfl⟩ : ∃ g, f = g + 1 := ⟨f - 1, by omega⟩
    unfold m_X4_fits_L2
    rw [s2, lt_f (by omega) (by omega)]; rfl
  | succ c ih =>
    intro f u hu hf
    obtain ⟨f, rfl⟩ : ∃ g, f = g + 1 := ⟨f - 1, by omega⟩
    obtain ⟨v1, v2, v3, v4, v5, v6, v7, v8, v9, v10⟩ := s4 u (by omega)
    unfold m_X4_fits_L2 m_X4_fits_B47 m_X4_fits_B48 m_X4_fits_B69
    rw [s2, lt_t (by omega) (by omega), x_at (k := 41) (n := 6) rfl (by omega) (by omega) (by omega), v1, bi_e, x_at (k := 42) (n := 6) rfl (by omega) (by omega) (by omega), v4, x_at (k := 43) (n := 6) rfl (by omega) (by omega) (by omega), v8, n_add, fitF_c]
    have ih' := ih f (u + 1) (by omega) (by omega)
    have fin : ∀ b : Bool, tst J sv j u = (b == decide (sv 2 u = 1)) → ((some (nI (sv 2 u))).bind fun r3 => if r3 = nI 1 then (if n01 b = nI 1 then m_X4_fits_L2 (6 * p + j) x f (nI (u + 1)) else some (nI 0)) else (if n01 b = nI 0 then m_X4_fits_L2 (6 * p + j) x f (nI (u + 1)) else some (nI 0))) = some (n01 (tst J sv j u && fitF J sv j c (u + 1))) := by
      intro b hb
      rw [bi_e]
      by_cases h2 : sv 2 u = 1
      · rw [eq_t h2]
        cases b with
        | true => rw [n01_t, eq_t rfl, ih', hb]; simp [h2]
        | false => rw [n01_f, eq_f (by omega) (by omega) (by omega), hb]; simp [h2, n01]
      · rw [eq_f (by omega) (by omega) h2]
        cases b with
        | true => rw [n01_t, eq_f (by omega) (by omega) (by omega), hb]; simp [h2, n01]
        | false => rw [n01_f, eq_t rfl, ih', hb]; simp [h2]
    by_cases hk : sv 0 u < al J j
    · have hf := frt_in hB hj hk
      rw [x_hasSheet_t hB hX hj hk, bi_e, eq_f (by omega) (by omega) (by omega), x_front hB hX hj (by omega), bi_e, bi_e]
      by_cases h2 : frt J j (sv 0 u) = sv 1 u
      · rw [eq_t h2]; exact fin true (by unfold tst hif; simp [hk, h2])
      · rw [eq_f (by omega) (by omega) h2]; exact fin false (by unfold tst hif; simp [h2])
    · rw [x_hasSheet_f hB hX hj (Or.inr (by rw [nI_toInt (by omega)]; omega)), bi_e, eq_t rfl]
      exact fin false (by unfold tst hif; simp [hk])
theorem m_fitL {K4 : Int32 → Int32 → Option Int32} {b1 : Int32} (hB : JB nj nb J) (hM : JM m nj nb J) (hS : RS x m sn sv) (hj : j < nj) : ∀ (c f u : Nat) (ok : Bool), u + c = sn → c < f → m_X7_whose_L17 m K4 f b1 (nI j) (n01 ok) (nI u) = m_X7_whose_B90 m K4 b1 (nI j) (n01 (ok && fitF J sv j c u)) := by
  have h6 := hB.1
  obtain ⟨s1, s2, s3, s4⟩ := hS
  intro c
  induction c with
  | zero =>
    intro f u ok hu hf
    obtain ⟨f, rfl⟩ : ∃ g, f = g + 1 := ⟨f - 1, by omega⟩
    unfold m_X7_whose_L17
    rw [s3, lt_f (by omega) (by omega)]
    show _ = m_X7_whose_B90 m K4 b1 (nI j) (n01 (ok && true))
    rw [Bool.and_true]
  | succ c ih =>
    intro f u ok hu hf
    obtain ⟨f, rfl⟩ : ∃ g, f = g + 1 := ⟨f - 1, by omega⟩
    obtain ⟨v1, v2, v3, v4, v5, v6, v7, v8, v9, v10⟩ := s4 u (by omega)
    unfold m_X7_whose_L17 m_X7_whose_B82 m_X7_whose_B75 m_X7_whose_B82 m_X7_whose_B83
    rw [s3, lt_t (by omega) (by omega), n_add, fitF_c]
    cases ok with
    | false =>
      rw [n01_f, eq_t rfl]
      exact ih f (u + 1) false (by omega) (by omega)
    | true =>
      rw [n01_t, eq_f (by omega) (by omega) (by omega), n_mul, n_add, n_add, gd_inb (by omega) (by omega), gd_inb (by omega) (by omega), n_cl (by omega), n_cl (by omega), v2, v5, m_hif hB hM hj (by omega) (by omega), bi_e, gd_inb (by omega) (by omega), n_cl (by omega), v9, Bool.true_and]
      have ih' := fun ok => ih f (u + 1) ok (by omega) (by omega)
      have e : tst J sv j u = (hif J j (sv 0 u) (sv 1 u) == decide (sv 2 u = 1)) := rfl
      by_cases h2 : sv 2 u = 1
      · rw [eq_t h2]
        cases hb : hif J j (sv 0 u) (sv 1 u) with
        | true =>
          have e' : tst J sv j u = true := by rw [e, hb]; simp [h2]
          rw [n01_t, eq_t rfl, e']; exact ih' true
        | false =>
          have e' : tst J sv j u = false := by rw [e, hb]; simp [h2]
          rw [n01_f, eq_f (by omega) (by omega) (by omega), e']; exact ih' false
      · rw [eq_f (by omega) (by omega) h2]
        cases hb : hif J j (sv 0 u) (sv 1 u) with
        | true =>
          have e' : tst J sv j u = false := by rw [e, hb]; simp [h2]
          rw [n01_t, eq_f (by omega) (by omega) (by omega), e']; exact ih' false
        | false =>
          have e' : tst J sv j u = true := by rw [e, hb]; simp [h2]
          rw [n01_f, eq_t rfl, e']; exact ih' true
/-- the jobs that fit, as bits -/
def who (J : Nat → Nat → Nat) (sv : Nat → Nat → Nat) (sn : Nat) : Nat → Nat → Nat → Nat
  | 0, _, W => W
  | c + 1, k, W => who J sv sn c (k + 1) (if fitF J sv k sn 0 then bset W k else W)
theorem who_c (J : Nat → Nat → Nat) (sv : Nat → Nat → Nat) (sn c k W : Nat) : who J sv sn (c + 1) k W = who J sv sn c (k + 1) (if fitF J sv k sn 0 then bset W k else W) := rfl
theorem who_in : ∀ (c k W : Nat), k + c ≤ 6 → W < 64 → who J sv sn c k W < 64 ∧ ∀ r, r < 6 → k + c ≤ r → (who J sv sn c k W).testBit r = W.testBit r := by
  intro c
  induction c with
  | zero => intro k W h1 h2; exact ⟨h2, fun r _ _ => rfl⟩
  | succ c ih =>
    intro k W h1 h2
    rw [who_c]
    by_cases hf : fitF J sv k sn 0 = true
    · rw [if_pos hf]
      obtain ⟨d1, d2, d3⟩ := b_set (P := W) (j := k) h2 (by omega)
      obtain ⟨i1, i2⟩ := ih (k + 1) (bset W k) (by omega) d2
      refine ⟨i1, fun r hr hc => ?_⟩
      rw [i2 r hr (by omega), d3 r hr]
      have : ¬ r = k := by omega
      simp [this]
    · rw [if_neg hf]
      obtain ⟨i1, i2⟩ := ih (k + 1) W (by omega) h2
      exact ⟨i1, fun r hr hc => i2 r hr (by omega)⟩
theorem b_or0 : ∀ P : Fin 64, (nI P.1 ||| nI 0) = nI P.1 := by decide +kernel
theorem x_whoL (hB : JB nj nb J) (hX : JX x p nj nb J) (hS : RS x m sn sv) (hp : p < 2) : ∀ (c f k W : Nat), k + c = nj → c < f → W < 64 → m_X4_fittingOf_L4 p x f (nI W) (nI k) = some (nI (who J sv sn c k W)) := by
  have h6 := hB.1
  intro c
  induction c with
  | zero =>
    intro f k W hk hf hW
    obtain ⟨f, rfl⟩ : ∃ g, f = g + 1 := ⟨f - 1, by omega⟩
    unfold m_X4_fittingOf_L4
    rw [hX.1, lt_f (by omega) (by omega)]; rfl
  | succ c ih =>
    intro f k W hk hf hW
    obtain ⟨f, rfl⟩ : ∃ g, f = g + 1 := ⟨f - 1, by omega⟩
    have ef := x_fitL hB hX hS (show k < nj by omega) sn FU 0 (by omega) (by have := hS.1; show _ < 1000; omega)
    have ef' : m_X4_fits x (6 * p + k) = some (n01 (fitF J sv k sn 0)) := ef
    obtain ⟨d1, d2, d3⟩ := b_set (P := W) (j := k) hW (by omega)
    unfold m_X4_fittingOf_L4 m_X4_fittingOf_B39
    rw [hX.1, lt_t (by omega) (by omega), x_jobAt hB hX (by omega), bi_e, oc_s, gd_71 (by omega), ef', bi_e, n_add, d1, bd_e, who_c]
    cases hf : fitF J sv k sn 0 with
    | true => rw [n01_t, eq_f (by omega) (by omega) (by omega)]; exact ih f (k + 1) _ (by omega) (by omega) d2
    | false => rw [n01_f, eq_t rfl]; exact ih f (k + 1) _ (by omega) (by omega) hW
theorem m_whoL (hB : JB nj nb J) (hM : JM m nj nb J) (hS : RS x m sn sv) : ∀ (c f k W : Nat), k + c = nj → c < f → W < 64 → m_X7_whose_L4 m f (nI W) (nI k) = some (nI (who J sv sn c k W)) := by
  have h6 := hB.1
  intro c
  induction c with
  | zero =>
    intro f k W hk hf hW
    obtain ⟨f, rfl⟩ : ∃ g, f = g + 1 := ⟨f - 1, by omega⟩
    unfold m_X7_whose_L4
    rw [hM.1, lt_f (by omega) (by omega)]; rfl
  | succ c ih =>
    intro f k W hk hf hW
    obtain ⟨f, rfl⟩ : ∃ g, f = g + 1 := ⟨f - 1, by omega⟩
    have ef := m_fitL (K4 := m_X7_whose_L4 m f) (b1 := nI W) hB hM hS (show k < nj by omega) sn FU 0 true (by omega) (by have := hS.1; show _ < 1000; omega)
    obtain ⟨d1, d2, d3⟩ := b_set (P := W) (j := k) hW (by omega)
    have e0 : (nI W ||| nI 0) = nI W := b_or0 ⟨W, hW⟩
    rw [n01_t, Bool.true_and] at ef
    unfold m_X7_whose_L4
    rw [hM.1, lt_t (by omega) (by omega), ef, who_c]
    unfold m_X7_whose_B90 m_X7_whose_B102
    rw [d1, e0, n_add]
    cases hf : fitF J sv k sn 0 with
    | true => rw [n01_t, eq_f (by omega) (by omega) (by omega)]; exact ih f (k + 1) _ (by omega) (by omega) d2
    | false => rw [n01_f, eq_t rfl]; exact ih f (k + 1) _ (by omega) (by omega) hW
theorem who_both (hB : JB nj nb J) (hX : JX x p nj nb J) (hM : JM m nj nb J) (hS : RS x m sn sv) (hp : p < 2) : ∃ W, W < 64 ∧ (∀ r, r < 6 → nj ≤ r → W.testBit r = false) ∧ m_X4_fittingOf x p = some (nI W) ∧ m_X7_whose m = some (nI W) := by
  have h6 := hB.1
  obtain ⟨i1, i2⟩ := who_in (J := J) (sv := sv) (sn := sn) nj 0 0 (by omega) (by omega)
  exact ⟨_, i1, fun r hr hc => by rw [i2 r hr (by omega)]; exact Nat.zero_testBit r, x_whoL hB hX hS hp nj FU 0 0 (by omega) (by show _ < 1000; omega) (by omega), m_whoL hB hM hS nj FU 0 0 (by omega) (by show _ < 1000; omega) (by omega)⟩
theorem s_whose (hR : Rl x m) : Sr (m_X6_whose x) (m_X7_whose m) := by
  obtain ⟨p, nj, nb, J, N, un, U, tl, tx, sn, sv, ⟨hp, hg, -, hB, hX, hM⟩, hC, hI, hT, hS, ht⟩ := hR
  obtain ⟨W, h1, h2, h3, h4⟩ := who_both hB hX hM hS hp
  refine ⟨nI W, ?_, h4⟩
  unfold m_X6_whose
  rw [hg, gd_73 hp, h3, bi_e]
end WHOSE
