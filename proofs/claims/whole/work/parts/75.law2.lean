/-! the law's mirror answers 1 -/
theorem law_c : ∀ L : Fin 5, (nI L.1 - nI 5).toInt = (L.1 : Int) - 5 := by decide
theorem law_lt {L i : Nat} (hL : L ≤ 2560) (hi : i ≤ 3000) : (nI L - nI 5 < nI i) = (L < i + 5) := by
  by_cases h : L < 5
  · have h1 := law_c ⟨L, h⟩
    simp only at h1
    apply propext
    constructor
    · intro; omega
    · intro; exact Int32.lt_iff_toInt_lt.mpr (by rw [h1, nI_toInt (by omega)]; omega)
  · rw [n_sub (by omega), n_lt (by omega) (by omega)]
    apply propext
    omega
set_option maxRecDepth 100000 in
set_option maxHeartbeats 4000000 in
theorem law_1 {xs : Nat → Int32} {L : Nat} (hL : L ≤ 2560) : ∀ (c i f : Nat) (x m : zG), L ≤ i + 5 * c → i ≤ L → c < f → Rl x m → m_L_law xs L f x m (nI i) = some (nI 1) := by
  intro c
  induction c with
  | zero =>
    intro i f x m h1 h2 h3 hR
    obtain ⟨f, rfl⟩ : ∃ g, f = g + 1 := ⟨f - 1, by omega⟩
    unfold m_L_law
    rw [if_pos (by rw [law_lt hL (by omega)]; omega)]
  | succ c ih =>
    intro i f x m h1 h2 h3 hR
    obtain ⟨f, rfl⟩ : ∃ g, f = g + 1 := ⟨f - 1, by omega⟩
    unfold m_L_law
    by_cases hi : L < i + 5
    · rw [if_pos (by rw [law_lt hL (by omega)]; exact hi)]
    rw [if_neg (by rw [law_lt hL (by omega)]; exact hi)]
    have ih' : ∀ x m, Rl x m → m_L_law xs L f x m (nI i + nI 5) = some (nI 1) := fun x m h => by
      rw [n_add]; exact ih (i + 5) f x m (by omega) (by omega) (by omega) h
    have g0 : ∀ {ρ : Type} (M : Option ρ), gd (inb (nI i) L = true) M = M := fun M => gd_inb (by omega) (by omega)
    have g1 : ∀ {ρ : Type} (M : Option ρ), gd (inb (nI i + nI 1) L = true) M = M := fun M => by rw [n_add]; exact gd_inb (by omega) (by omega)
    have g2 : ∀ {ρ : Type} (M : Option ρ), gd (inb (nI i + nI 2) L = true) M = M := fun M => by rw [n_add]; exact gd_inb (by omega) (by omega)
    have g3 : ∀ {ρ : Type} (M : Option ρ), gd (inb (nI i + nI 3) L = true) M = M := fun M => by rw [n_add]; exact gd_inb (by omega) (by omega)
    have g4 : ∀ {ρ : Type} (M : Option ρ), gd (inb (nI i + nI 4) L = true) M = M := fun M => by rw [n_add]; exact gd_inb (by omega) (by omega)
    simp only [g0, g1, g2, g3, g4, bd_e]
    generalize xs (nI i + nI 1).toNatClampNeg = a1
    generalize xs (nI i + nI 2).toNatClampNeg = a2
    generalize xs (nI i + nI 3).toNatClampNeg = a3
    generalize xs (nI i + nI 4).toNatClampNeg = a4
    generalize (xs (nI i).toNatClampNeg &&& nI 31) = v
    clear g0 g1 g2 g3 g4 ih
    by_cases q0 : v = nI 0
    · rw [if_pos q0]
      obtain ⟨r, x', m', e1, e2, e3⟩ := s_type hR a1
      rw [e1, sb_e, e2, sb_e, if_pos rfl]
      exact ih' x' m' e3
    rw [if_neg q0]
    by_cases q1 : v = nI 1
    · rw [if_pos q1]
      obtain ⟨r, x', m', e1, e2, e3⟩ := s_clear hR 
      rw [e1, sb_e, e2, sb_e, if_pos rfl]
      exact ih' x' m' e3
    rw [if_neg q1]
    by_cases q2 : v = nI 2
    · rw [if_pos q2]
      obtain ⟨r, x', m', e1, e2, e3⟩ := s_office hR 
      rw [e1, sb_e, e2, sb_e, if_pos rfl]
      exact ih' x' m' e3
    rw [if_neg q2]
    by_cases q3 : v = nI 3
    · rw [if_pos q3]
      obtain ⟨r, x', m', e1, e2, e3⟩ := s_job hR a1 a2
      rw [e1, sb_e, e2, sb_e, if_pos rfl]
      exact ih' x' m' e3
    rw [if_neg q3]
    by_cases q4 : v = nI 4
    · rw [if_pos q4]
      obtain ⟨r, e1, e2⟩ := s_sheet hR a1 a2 a3
      rw [e1, bi_e, e2, bi_e, if_pos rfl]
      exact ih' x m hR
    rw [if_neg q4]
    by_cases q5 : v = nI 5
    · rw [if_pos q5]
      obtain ⟨r, e1, e2⟩ := s_where hR a1 a2 a3
      rw [e1, bi_e, e2, bi_e, if_pos rfl]
      exact ih' x m hR
    rw [if_neg q5]
    by_cases q6 : v = nI 6
    · rw [if_pos q6]
      obtain ⟨r, e1, e2⟩ := s_tray hR a1 a2
      rw [e1, bi_e, e2, bi_e, if_pos rfl]
      exact ih' x m hR
    rw [if_neg q6]
    by_cases q7 : v = nI 7
    · rw [if_pos q7]
      obtain ⟨r, e1, e2⟩ := s_bin hR a1
      rw [e1, bi_e, e2, bi_e, if_pos rfl]
      exact ih' x m hR
    rw [if_neg q7]
    by_cases q8 : v = nI 8
    · rw [if_pos q8]
      obtain ⟨r, x', m', e1, e2, e3⟩ := s_ticks hR a1
      rw [e1, sb_e, e2, sb_e, if_pos rfl]
      exact ih' x' m' e3
    rw [if_neg q8]
    by_cases q9 : v = nI 9
    · rw [if_pos q9]
      obtain ⟨r, x', m', e1, e2, e3⟩ := s_ahead hR a1
      rw [e1, sb_e, e2, sb_e, if_pos rfl]
      exact ih' x' m' e3
    rw [if_neg q9]
    by_cases q10 : v = nI 10
    · rw [if_pos q10]
      obtain ⟨r, x', m', e1, e2, e3⟩ := s_breaks hR a1
      rw [e1, sb_e, e2, sb_e, if_pos rfl]
      exact ih' x' m' e3
    rw [if_neg q10]
    by_cases q11 : v = nI 11
    · rw [if_pos q11]
      obtain ⟨r, x', m', e1, e2, e3⟩ := s_fills hR a1 a2
      rw [e1, sb_e, e2, sb_e, if_pos rfl]
      exact ih' x' m' e3
    rw [if_neg q11]
    by_cases q12 : v = nI 12
    · rw [if_pos q12]
      obtain ⟨r, x', m', e1, e2, e3⟩ := s_toner hR a1
      rw [e1, sb_e, e2, sb_e, if_pos rfl]
      exact ih' x' m' e3
    rw [if_neg q12]
    by_cases q13 : v = nI 13
    · rw [if_pos q13]
      obtain ⟨r, x', m', e1, e2, e3⟩ := s_empties hR a1
      rw [e1, sb_e, e2, sb_e, if_pos rfl]
      exact ih' x' m' e3
    rw [if_neg q13]
    by_cases q14 : v = nI 14
    · rw [if_pos q14]
      obtain ⟨r, x', m', e1, e2, e3⟩ := s_undo hR 
      rw [e1, sb_e, e2, sb_e, if_pos rfl]
      exact ih' x' m' e3
    rw [if_neg q14]
    by_cases q15 : v = nI 15
    · rw [if_pos q15]
      obtain ⟨r, e1, e2⟩ := s_now hR a1
      rw [e1, bi_e, e2, bi_e, if_pos rfl]
      exact ih' x m hR
    rw [if_neg q15]
    by_cases q16 : v = nI 16
    · rw [if_pos q16]
      obtain ⟨r, e1, e2⟩ := s_soon hR a1
      rw [e1, bi_e, e2, bi_e, if_pos rfl]
      exact ih' x m hR
    rw [if_neg q16]
    by_cases q17 : v = nI 17
    · rw [if_pos q17]
      obtain ⟨r, e1, e2⟩ := s_odds hR a1 a2 a3 a4
      rw [e1, bi_e, e2, bi_e, if_pos rfl]
      exact ih' x m hR
    rw [if_neg q17]
    by_cases q18 : v = nI 18
    · rw [if_pos q18]
      obtain ⟨r, x', m', e1, e2, e3⟩ := s_sees hR a1 a2 a3
      rw [e1, sb_e, e2, sb_e, if_pos rfl]
      exact ih' x' m' e3
    rw [if_neg q18]
    by_cases q19 : v = nI 19
    · rw [if_pos q19]
      obtain ⟨r, x', m', e1, e2, e3⟩ := s_forget hR 
      rw [e1, sb_e, e2, sb_e, if_pos rfl]
      exact ih' x' m' e3
    rw [if_neg q19]
    by_cases q20 : v = nI 20
    · rw [if_pos q20]
      obtain ⟨r, e1, e2⟩ := s_whose hR 
      rw [e1, bi_e, e2, bi_e, if_pos rfl]
      exact ih' x m hR
    rw [if_neg q20]
    by_cases q21 : v = nI 21
    · rw [if_pos q21]
      obtain ⟨r, x', e1, e2, e3⟩ := s_look hR
      rw [e1, sb_e, e2, bi_e, if_pos rfl]
      exact ih' x' m e3
    rw [if_neg q21]
    by_cases q22 : v = nI 22
    · rw [if_pos q22]
      obtain ⟨r, x', m', e1, e2, e3⟩ := s_mark hR a1 a2
      rw [e1, sb_e, e2, sb_e, if_pos rfl]
      exact ih' x' m' e3
    rw [if_neg q22]
    by_cases q23 : v = nI 23
    · rw [if_pos q23]
      obtain ⟨r, x', m', e1, e2, e3⟩ := s_keep hR a1
      rw [e1, sb_e, e2, sb_e, if_pos rfl]
      exact ih' x' m' e3
    rw [if_neg q23]
    by_cases q24 : v = nI 24
    · rw [if_pos q24]
      obtain ⟨r, x', m', e1, e2, e3⟩ := s_back hR a1
      rw [e1, sb_e, e2, sb_e, if_pos rfl]
      exact ih' x' m' e3
    rw [if_neg q24]
    by_cases q25 : v = nI 25
    · rw [if_pos q25]
      obtain ⟨r, e1, e2⟩ := s_count hR a1
      rw [e1, bi_e, e2, bi_e, if_pos rfl]
      exact ih' x m hR
    rw [if_neg q25]
    by_cases q26 : v = nI 26
    · rw [if_pos q26]
      obtain ⟨r, e1, e2⟩ := s_trace hR
      have h0 : lg_cmp r r = nI 0 := Eq.mpr (in_cmp r r).2.2 rfl
      rw [e1, bi_e, e2, bi_e, if_pos h0]
      exact ih' x m hR
    rw [if_neg q26]
    exact ih' x m hR
