/-! odds -/
def chN (A n : Nat) : Nat := if n = 1 then A else if n = 2 then A * (A - 1) / 2 else if n = 3 then A * (A - 1) * (A - 2) / 6 else A * (A - 1) * (A - 2) * (A - 3) / 24
theorem ch_xF : ∀ A : Fin 82, ∀ n : Fin 5, 1 ≤ n.1 → m_X6_choose (nI A.1) (nI n.1) = some (nI (chN A.1 n.1)) ∧ chN A.1 n.1 < 2000000 ∧ (n.1 ≤ A.1 → 0 < chN A.1 n.1) ∧ (A.1 < n.1 → chN A.1 n.1 = 0) := by decide +kernel
theorem ch_mF : ∀ A : Fin 82, ∀ n : Fin 5, 1 ≤ n.1 → n.1 ≤ A.1 → m_X7_choose (nI A.1) (nI n.1) = some (lN (chN A.1 n.1)) := by decide +kernel
theorem ch_leF : ∀ A : Fin 82, ∀ n : Fin 5, ∀ c : Fin 10, chN (A.1 - c.1) n.1 ≤ chN A.1 n.1 := by decide +kernel
def eu : Nat → Nat → Nat → Nat
  | 0, a, _ => a
  | s + 1, a, b => if b = 0 then a else eu s b (a % b)
def est : Nat → Nat → Nat → Prop
  | 0, _, b => b = 0
  | s + 1, a, b => b = 0 ∨ est s b (a % b)
theorem est_z : ∀ s a, est s a 0 := by
  intro s a; cases s with
  | zero => rfl
  | succ s => exact Or.inl rfl
theorem est_k : ∀ k a b, b < 2 ^ k → est (2 * k) a b := by
  intro k
  induction k with
  | zero => intro a b h; have : b = 0 := by omega
            subst this; exact est_z _ _
  | succ k ih =>
    intro a b h
    show est (2 * k + 1 + 1) a b
    by_cases hb : b = 0
    · exact Or.inl hb
    · refine Or.inr ?_
      by_cases hr : a % b = 0
      · rw [hr]; exact est_z _ _
      · refine Or.inr (ih _ _ ?_)
        have h1 : a % b < b := Nat.mod_lt _ (by omega)
        have h2 : b % (a % b) < a % b := Nat.mod_lt _ (by omega)
        have h3 := Nat.div_add_mod b (a % b)
        have h4 : 1 ≤ b / (a % b) := Nat.div_pos (by omega) (by omega)
        have h5 : (a % b) * 1 ≤ (a % b) * (b / (a % b)) := Nat.mul_le_mul_left _ h4
        have h6 : 2 ^ (k + 1) = 2 * 2 ^ k := Nat.pow_succ' 
        omega
theorem eu_pos : ∀ s a b, 0 < a ∨ 0 < b → est s a b → 0 < eu s a b := by
  intro s
  induction s with
  | zero => intro a b h1 h2; have : b = 0 := h2; show 0 < a; omega
  | succ s ih =>
    intro a b h1 h2
    unfold eu
    by_cases hb : b = 0
    · rw [if_pos hb]; omega
    · rw [if_neg hb]
      rcases h2 with h2 | h2
      · exact absurd h2 hb
      · exact ih _ _ (Or.inl (by omega)) h2
theorem eu_lt : ∀ s a b c, a < c → b < c → eu s a b < c := by
  intro s
  induction s with
  | zero => intro a b c h1 h2; exact h1
  | succ s ih =>
    intro a b c h1 h2
    unfold eu
    by_cases hb : b = 0
    · rw [if_pos hb]; omega
    · rw [if_neg hb]; exact ih _ _ _ h2 (by have := Nat.mod_lt a (show b > 0 by omega); omega)
section ODDS
variable {x m : zG} {p nj nb j : Nat} {J : Nat → Nat → Nat} {N : Nat → Nat} {a0 a1 a2 a3 : Int32}
theorem x_euL : ∀ (s f t a b : Nat), est s a b → s < f → t + s ≤ 50 → a < 2000000 → b < 2000000 → m_X6_commonDivisor_L13 a0 a1 f (nI a) (nI b) (nI t) = some (nI (eu s a b)) := by
  intro s
  induction s with
  | zero =>
    intro f t a b h1 hf ht ha hb
    obtain ⟨f, rfl⟩ : ∃ g, f = g + 1 := ⟨f - 1, by omega⟩
    have h1' : b = 0 := h1
    unfold m_X6_commonDivisor_L13
    by_cases h : t < 50
    · rw [lt_t (by omega) h, eq_t h1']; rfl
    · rw [lt_f (by omega) (by omega)]; rfl
  | succ s ih =>
    intro f t a b h1 hf ht ha hb
    obtain ⟨f, rfl⟩ : ∃ g, f = g + 1 := ⟨f - 1, by omega⟩
    unfold m_X6_commonDivisor_L13 eu
    rw [lt_t (by omega) (by omega)]
    by_cases h0 : b = 0
    · rw [eq_t h0, if_pos h0]
    · rcases h1 with h1 | h1
      · exact absurd h1 h0
      · rw [eq_f (by omega) (by omega) h0, if_neg h0, gd_nz (by omega) (by omega), n_rem (by omega) (by omega) (by omega), n_add]
        exact ih f (t + 1) b (a % b) h1 (by omega) (by omega) hb (by have := Nat.mod_lt a (show b > 0 by omega); omega)
theorem gd_lz {b : Nat} {ρ : Type} {M : Option ρ} (hb : b < 2000000) (h0 : ¬ b = 0) : gd (¬ lN b = 0) M = M := gd_t (fun q => h0 ((pk_lEQ (b := 0) (by omega) (by omega)).mp q))
theorem m_euL {u v : Int64} : ∀ (s f a b : Nat), est s a b → s < f → a < 2000000 → b < 2000000 → m_X7_odds_L103 a0 a1 a2 a3 m f u v (lN a) (lN b) = m_X7_odds_B128 a0 a1 a2 a3 m u v (lN (eu s a b)) := by
  have hz : ∀ b, b < 2000000 → (lg_cmp (lN b) 0 = nI 0) = (b = 0) := fun b hb => by
    have e1 : (lg_cmp (lN b) 0 = nI 0) = (lN b = 0) := (in_cmp (lN b) 0).2.2
    rw [e1]
    exact propext (pk_lEQ (b := 0) (by omega) (by omega))
  intro s
  induction s with
  | zero =>
    intro f a b h1 hf ha hb
    obtain ⟨f, rfl⟩ : ∃ g, f = g + 1 := ⟨f - 1, by omega⟩
    have h1' : b = 0 := h1
    unfold m_X7_odds_L103
    rw [if_pos (by rw [hz b hb]; exact h1')]; rfl
  | succ s ih =>
    intro f a b h1 hf ha hb
    obtain ⟨f, rfl⟩ : ∃ g, f = g + 1 := ⟨f - 1, by omega⟩
    unfold m_X7_odds_L103 eu
    by_cases h0 : b = 0
    · rw [if_pos (by rw [hz b hb]; exact h0), if_pos h0]
    · rcases h1 with h1 | h1
      · exact absurd h1 h0
      · rw [if_neg (by rw [hz b hb]; exact h0), if_neg h0, gd_lz hb h0, pk_lRem (by omega) (by omega) (by omega)]
        exact ih f b (a % b) h1 (by omega) hb (by have := Nat.mod_lt a (show b > 0 by omega); omega)
theorem abs_n {a : Nat} (h : a < 2147483648) : m_J9_abs_0f7a4 (nI a) = some (nI a) := by
  unfold m_J9_abs_0f7a4
  rw [lt_f h (by omega)]
theorem s_odds (hR : Rl x m) (a b c d : Int32) : Sr (m_X6_odds x a b c d) (m_X7_odds m a b c d) := by
  obtain ⟨p, nj, nb, J, N, un, U, tl, tx, sn, sv, ⟨hp, hg, -, hB, hX, hM⟩, hC, hI, hT, hS, ht⟩ := hR
  have h6 := hB.1
  have e4 : (4 : Int64).toInt = 4 := rfl
  unfold m_X6_odds m_X7_odds
  rw [hg, gd_73 hp]
  rcases job_arg hB hX hM a with ⟨j, hj, rfl⟩ | ⟨h1, h2⟩
  rotate_left
  · rw [h1, bi_e, oc_n, h2, bi_e, eq_t rfl]; exact ⟨_, rfl, rfl⟩
  rw [x_jobAt hB hX hj, bi_e, oc_s, gd_71 (by omega), m_isJob hB hM hj, bi_e, eq_f (by omega) (by omega) (by omega)]
  by_cases q1 : b.toInt < 1
  · rw [il_t (by omega) (by omega), m_in_f (Or.inl (by rw [l1]; omega)), bi_e, eq_t rfl]; exact ⟨_, rfl, rfl⟩
  rw [il_f (by omega) (by omega)]
  by_cases q2 : 4 < b.toInt
  · rw [ir_t (by omega) (by omega), m_in_f (Or.inr (by rw [e4]; omega)), bi_e, eq_t rfl]; exact ⟨_, rfl, rfl⟩
  rw [ir_f (by omega) (by omega), mi_t (by rw [l1]; omega) (by rw [e4]; omega), bi_e, eq_f (by omega) (by omega) (by omega)]
  obtain ⟨n, -, rfl, hn⟩ := n_of (a := b) (by omega)
  rw [hn] at q1 q2
  rcases page_arg hB hX hM hj c with ⟨pg, g1, g2, rfl, g3, g4⟩ | ⟨g3, g4⟩
  rotate_left
  · rw [g3, g4, bi_e, bi_e, eq_t rfl, eq_t rfl]; exact ⟨_, rfl, rfl⟩
  rw [g3, g4, bi_e, bi_e, eq_f (by omega) (by omega) (by omega), eq_f (by omega) (by omega) (by omega)]
  by_cases q3 : d.toInt < 0
  · rw [il_t (by omega) (by omega), m_isPart_f (Or.inl q3), bi_e, eq_t rfl]; exact ⟨_, rfl, rfl⟩
  rw [il_f (by omega) (by omega)]
  by_cases q4 : 1 < d.toInt
  · rw [ir_t (by omega) (by omega), m_isPart_f (Or.inr q4), bi_e, eq_t rfl]; exact ⟨_, rfl, rfl⟩
  have ha := al_in hB hj
  obtain ⟨b1, b2, b3, b4, b5, b6, b7⟩ := hB.2.2.2 j hj
  obtain ⟨a1, a2, a3, a4, a5, a6, a7⟩ := hX.2.2 j hj
  obtain ⟨d1, d2, d3, d4, d5⟩ := hM.2.2 j hj
  rw [ir_f (by omega) (by omega), m_isPart_t (by omega) (by omega), bi_e, eq_f (by omega) (by omega) (by omega), x_all hX hj, m_all hB hM hj, bi_e, bi_e]
  by_cases q5 : al J j < n
  · rw [lt_t (by omega) q5, bi_e, lt_t (by omega) q5]; exact ⟨_, rfl, rfl⟩
  have hle : J 1 j ≤ al J j := by
    have hl := lvs_in hB hj
    unfold al
    have : 1 * J 1 j ≤ lvs J j * J 1 j := Nat.mul_le_mul_right _ hl.1
    omega
  obtain ⟨s1, s2, s3, s4⟩ := ch_xF ⟨al J j, by omega⟩ ⟨n, by omega⟩ (by show 1 ≤ n; omega)
  obtain ⟨t1, t2, t3, t4⟩ := ch_xF ⟨al J j - J 1 j, by omega⟩ ⟨n, by omega⟩ (by show 1 ≤ n; omega)
  have u1 := ch_mF ⟨al J j, by omega⟩ ⟨n, by omega⟩ (by show 1 ≤ n; omega) (by show n ≤ al J j; omega)
  have u2 := ch_mF ⟨al J j - J 1 j, by omega⟩ ⟨n, by omega⟩ (by show 1 ≤ n; omega)
  have hts := ch_leF ⟨al J j, by omega⟩ ⟨n, by omega⟩ ⟨J 1 j, by omega⟩
  simp only at s1 s2 s3 s4 t1 t2 t3 t4 u1 u2 hts
  have s3' := s3 (by omega)
  simp only [bi_e]
  rw [lt_f (by omega) (by omega), lt_f (by omega) (by omega), s1, bi_e, a2, n_sub hle, t1, bi_e, u1, bi_e, gd_inb (by omega) (by omega), n_cl (by omega), d2, n_sub hle, bd_e]
  have em : (if nI (al J j - J 1 j) < nI n then m_X7_odds_B92 (nI j) (nI n) (nI pg) d m (lN (chN (al J j) n)) 0 (lN (chN (al J j) n)) else (m_X7_choose (nI (al J j - J 1 j)) (nI n)).bind fun r8 => m_X7_odds_B92 (nI j) (nI n) (nI pg) d m (lN (chN (al J j) n)) r8 (lN (chN (al J j) n))) = m_X7_odds_B92 (nI j) (nI n) (nI pg) d m (lN (chN (al J j) n)) (lN (chN (al J j - J 1 j) n)) (lN (chN (al J j) n)) := by
    by_cases hv : al J j - J 1 j < n
    · rw [lt_t (by omega) hv, t4 hv]; rfl
    · rw [lt_f (by omega) (by omega), u2 (by omega), bi_e]
  rw [em]
  generalize chN (al J j) n = S at s2 s3' hts ⊢
  generalize chN (al J j - J 1 j) n = T at t2 hts ⊢
  have hE := est_k 21 (S - T) S (by have : (2 : Nat) ^ 21 = 2097152 := by decide
                                    omega)
  have hpos := eu_pos _ _ _ (Or.inr s3') hE
  have hlt := eu_lt 42 (S - T) S 2000000 (by omega) s2
  have x1 : m_X6_commonDivisor (nI S - nI T) (nI S) = some (nI (eu 42 (S - T) S)) := by
    unfold m_X6_commonDivisor
    rw [n_sub hts, abs_n (by omega), bi_e, abs_n (by omega), bi_e]
    exact x_euL 42 FU 0 _ _ hE (by show _ < 1000; omega) (by omega) (by omega) s2
  have m1 : m_X7_odds_B92 (nI j) (nI n) (nI pg) d m (lN S) (lN T) (lN S) = m_X7_odds_B128 (nI j) (nI n) (nI pg) d m (lN S) (lN (S - T)) (lN (eu 42 (S - T) S)) := by
    unfold m_X7_odds_B92
    rw [lN_sub hts]
    exact m_euL 42 FU _ _ hE (by show _ < 1000; omega) (by omega) s2
  rw [x1, m1, bi_e]
  have hpos' : 0 < eu 42 (S - T) S := hpos
  unfold m_X7_odds_B128
  generalize eu 42 (S - T) S = D at hpos' hlt ⊢
  rw [lt_t (by omega) hpos', n_sub hts, gd_nz (by omega) hpos', gd_nz (by omega) hpos', gd_lz hlt (by omega), gd_lz hlt (by omega), n_div (by omega) hpos' (by omega), n_div (by omega) hpos' (by omega), pk_lDiv (by omega) hpos' (by omega), pk_lDiv (by omega) hpos' (by omega), lN_i, lN_i]
  by_cases h0 : d = nI 0
  · rw [if_pos h0]; exact ⟨_, rfl, rfl⟩
  · rw [if_neg h0]; exact ⟨_, rfl, rfl⟩
end ODDS
