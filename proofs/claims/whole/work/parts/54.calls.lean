/-! sheet, where, bin; toner, fills, empties, undo, ticks, breaks -/
section CALLS54
variable {x m : zG} {p nj nb : Nat} {J : Nat → Nat → Nat}
theorem job_arg (hB : JB nj nb J) (hX : JX x p nj nb J) (hM : JM m nj nb J) (a : Int32) : (∃ j, j < nj ∧ a = nI j) ∨ (m_X3_jobAt x p a = some none ∧ m_X7_isJob m a = some (nI 0)) := by
  rcases n_cases a with h | ⟨j, hj, rfl⟩
  · exact Or.inr ⟨x_jobAt_neg h, m_isJob_neg hB hM h⟩
  · by_cases hjn : j < nj
    · exact Or.inl ⟨j, hjn, rfl⟩
    · exact Or.inr ⟨x_jobAt_big hB hX (by omega) hj, m_isJob_big hB hM (by omega) hj⟩
theorem i_sub {a b : Nat} (ha : a < 1000000) (hb : b < 1000000) : (Int32.toInt64 (nI a - nI b)).toInt = (a : Int) - b := by
  rw [Int32.toInt_toInt64, pk_sub_toInt (by omega) (by omega)]
theorem x_hasSheet_t {j k : Nat} (hB : JB nj nb J) (hX : JX x p nj nb J) (hj : j < nj) (hk : k < al J j) : m_X1_hasSheet x (6 * p + j) (nI k) = some (nI 1) := by
  have := al_in hB hj
  unfold m_X1_hasSheet
  rw [lt_f (by omega) (by omega), x_all hX hj, bi_e, lt_t (by omega) hk]
theorem x_hasSheet_f {j : Nat} {a : Int32} (hB : JB nj nb J) (hX : JX x p nj nb J) (hj : j < nj) (hk : a.toInt < 0 ∨ (al J j : Int) ≤ a.toInt) : m_X1_hasSheet x (6 * p + j) a = some (nI 0) := by
  have := al_in hB hj
  unfold m_X1_hasSheet
  by_cases h : a.toInt < 0
  · rw [il_t (by omega) (by omega)]
  · rw [il_f (by omega) (by omega), x_all hX hj, bi_e, il_f (by omega) (by omega)]
theorem s_sheet (hR : Rl x m) (a b c : Int32) : Sr (m_X6_sheet x a b c) (m_X7_sheet m a b c) := by
  obtain ⟨p, nj, nb, J, N, un, U, tl, tx, sn, sv, ⟨hp, hg, -, hB, hX, hM⟩, hC, hI, hT, hS, ht⟩ := hR
  unfold m_X6_sheet m_X7_sheet
  rw [hg, gd_73 hp]
  rcases job_arg hB hX hM a with ⟨j, hj, rfl⟩ | ⟨h1, h2⟩
  · have h6 := hB.1
    have ha := al_in hB hj
    rw [x_jobAt hB hX hj, m_isJob hB hM hj, bi_e, bi_e, oc_s, gd_71 (by omega), eq_f (by omega) (by omega) (by omega), m_all hB hM hj, bi_e]
    by_cases hk : b.toInt < 0 ∨ (al J j : Int) ≤ b.toInt
    · rw [x_hasSheet_f hB hX hj hk, bi_e, eq_t rfl, m_in_f (by rw [l0, i_sub (by omega) (by omega)]; omega), bi_e, eq_t rfl]; exact ⟨_, rfl, rfl⟩
    · obtain ⟨k, -, rfl, hk2⟩ := n_of (a := b) (by omega)
      rw [x_hasSheet_t hB hX hj (by omega), bi_e, eq_f (by omega) (by omega) (by omega), mi_t (by rw [l0]; omega) (by rw [i_sub (by omega) (by omega)]; omega), bi_e, eq_f (by omega) (by omega) (by omega)]
      by_cases c0 : c = nI 0
      · rw [if_pos c0, if_pos c0, x_copy hB hX hj (by omega), m_copy hB hM hj (by omega)]; exact ⟨_, rfl, rfl⟩
      rw [if_neg c0, if_neg c0]
      by_cases c1 : c = nI 1
      · rw [if_pos c1, if_pos c1, x_front hB hX hj (by omega), m_front hB hM hj (by omega)]; exact ⟨_, rfl, rfl⟩
      rw [if_neg c1, if_neg c1]
      by_cases c2 : c = nI 2
      · rw [if_pos c2, if_pos c2, x_back hB hX hj (by omega), m_back hB hM hj (by omega)]; exact ⟨_, rfl, rfl⟩
      rw [if_neg c2, if_neg c2]
      by_cases c3 : c = nI 3
      · rw [if_pos c3, if_pos c3, gd_73 hp, x_bin hB hX hj (by omega), m_bin hB hM hj (by omega)]; exact ⟨_, rfl, rfl⟩
      rw [if_neg c3, if_neg c3]
      exact ⟨_, rfl, rfl⟩
  · rw [h1, h2, bi_e, bi_e, oc_n, eq_t rfl]; exact ⟨_, rfl, rfl⟩
theorem page_arg {j : Nat} (hB : JB nj nb J) (hX : JX x p nj nb J) (hM : JM m nj nb J) (hj : j < nj) (b : Int32) : (∃ k, 1 ≤ k ∧ k ≤ J 0 j ∧ b = nI k ∧ m_X1_hasPage x (6 * p + j) b = some (nI 1) ∧ m_X7_isPage m (nI j) b = some (nI 1)) ∨ (m_X1_hasPage x (6 * p + j) b = some (nI 0) ∧ m_X7_isPage m (nI j) b = some (nI 0)) := by
  obtain ⟨a1, a2, a3, a4, a5, a6, a7⟩ := hX.2.2 j hj
  obtain ⟨d1, d2, d3, d4, d5⟩ := hM.2.2 j hj
  obtain ⟨b1, b2, b3, b4, b5, b6, b7⟩ := hB.2.2.2 j hj
  have h6 := hB.1
  have e : (Int32.toInt64 (nI (J 0 j))).toInt = J 0 j := by rw [Int32.toInt_toInt64, nI_toInt (by omega)]
  unfold m_X1_hasPage m_X7_isPage
  rw [a1, gd_inb (by omega) (by omega), n_cl (by omega), d1]
  by_cases h : b.toInt < 1
  · rw [il_t (by omega) (by omega), m_in_f (Or.inl (by rw [l1]; omega)), bi_e, gd_isb (by omega)]; exact Or.inr ⟨rfl, rfl⟩
  · obtain ⟨k, hk, rfl, hk2⟩ := n_of (a := b) (by omega)
    by_cases h2 : J 0 j < k
    · rw [il_f (by omega) (by omega), lt_t (by omega) h2, m_in_f (Or.inr (by rw [e]; omega)), bi_e, gd_isb (by omega)]; exact Or.inr ⟨rfl, rfl⟩
    · rw [il_f (by omega) (by omega), lt_f (by omega) (by omega), mi_t (by rw [l1]; omega) (by rw [e]; omega), bi_e, gd_isb (by omega)]; exact Or.inl ⟨k, by omega, by omega, rfl, rfl, rfl⟩
theorem s_where (hR : Rl x m) (a b c : Int32) : Sr (m_X6_where x a b c) (m_X7_where m a b c) := by
  obtain ⟨p, nj, nb, J, N, un, U, tl, tx, sn, sv, ⟨hp, hg, -, hB, hX, hM⟩, hC, hI, hT, hS, ht⟩ := hR
  unfold m_X6_where m_X7_where
  rw [hg, gd_73 hp]
  rcases job_arg hB hX hM a with ⟨j, hj, rfl⟩ | ⟨h1, h2⟩
  · have h6 := hB.1
    obtain ⟨a1, a2, a3, a4, a5, a6, a7⟩ := hX.2.2 j hj
    obtain ⟨d1, d2, d3, d4, d5⟩ := hM.2.2 j hj
    obtain ⟨b1, b2, b3, b4, b5, b6, b7⟩ := hB.2.2.2 j hj
    have hl := lvs_in hB hj
    rw [x_jobAt hB hX hj, m_isJob hB hM hj, bi_e, bi_e, oc_s, gd_71 (by omega), eq_f (by omega) (by omega) (by omega)]
    rcases page_arg hB hX hM hj b with ⟨k, k1, k2, rfl, h1, h2⟩ | ⟨h1, h2⟩
    · rw [h1, h2, bi_e, bi_e, eq_f (by omega) (by omega) (by omega), eq_f (by omega) (by omega) (by omega), gd_inb (by omega) (by omega), n_cl (by omega), d2, a2]
      by_cases hc : c.toInt < 0
      · rw [il_t (by omega) (by omega), m_in_f (Or.inl (by rw [l0]; omega)), bi_e, eq_t rfl]; exact ⟨_, rfl, rfl⟩
      obtain ⟨y, hyb, rfl, hy⟩ := n_of (a := c) (by omega)
      rw [il_f (by omega) (by omega)]
      by_cases hy2 : y < J 1 j
      · rw [lt_t (by omega) hy2, mi_t (by rw [l0]; omega) (by rw [i_sub (by omega) (by omega)]; omega), bi_e, eq_f (by omega) (by omega) (by omega), gd_inb (by omega) (by omega), d3]
        unfold m_X1_sheetWith m_X1_sheetWith_B18 m_X7_where_B58
        rw [m_leaves hB hM hj, a2, a3, a4, a6, n_cl (by omega), d2, d4, n_sub (by omega)]
        by_cases hb : J 2 j = 1
        · rw [eq_f (by omega) (by omega) (by omega), eq_t hb, gd_n2, gd_n2, n_div (by omega) (by omega) (by omega)]
          by_cases hs : J 3 j = 1
          · rw [eq_f (by omega) (by omega) (by omega), eq_t hs, gd_inb (by omega) (by omega)]; exact ⟨_, rfl, rfl⟩
          · rw [eq_t (by omega), eq_f (by omega) (by omega) hs, gd_inb (by omega) (by omega), gd_inb (by omega) (by omega)]; exact ⟨_, rfl, rfl⟩
        · rw [eq_t (by omega), eq_f (by omega) (by omega) hb]
          by_cases hs : J 3 j = 1
          · rw [eq_f (by omega) (by omega) (by omega), eq_t hs, gd_inb (by omega) (by omega)]; exact ⟨_, rfl, rfl⟩
          · rw [eq_t (by omega), eq_f (by omega) (by omega) hs, gd_inb (by omega) (by omega), gd_inb (by omega) (by omega)]; exact ⟨_, rfl, rfl⟩
      · rw [lt_f (by omega) (by omega), m_in_f (Or.inr (by rw [i_sub (by omega) (by omega)]; omega)), bi_e, eq_t rfl]; exact ⟨_, rfl, rfl⟩
    · rw [h1, h2, bi_e, bi_e, eq_t rfl, eq_t rfl]; exact ⟨_, rfl, rfl⟩
  · rw [h1, h2, bi_e, bi_e, oc_n, eq_t rfl]; exact ⟨_, rfl, rfl⟩
theorem bin_arg (hB : JB nj nb J) (hX : JX x p nj nb J) (hM : JM m nj nb J) (a : Int32) : (∃ b, b < nb ∧ a = nI b ∧ m_X3_hasBin x p a = some (nI 1) ∧ m_X7_in (Int32.toInt64 a) 0 (Int32.toInt64 ((gi m 121 0 0) - (nI 1))) = some (nI 1)) ∨ (m_X3_hasBin x p a = some (nI 0) ∧ m_X7_in (Int32.toInt64 a) 0 (Int32.toInt64 ((gi m 121 0 0) - (nI 1))) = some (nI 0)) := by
  obtain ⟨c1, c2, c3, c4⟩ := hB
  unfold m_X3_hasBin
  rw [hX.2.1, hM.2.1]
  by_cases h : a.toInt < 0
  · rw [il_t (by omega) (by omega), m_in_f (Or.inl (by rw [l0]; omega))]; exact Or.inr ⟨rfl, rfl⟩
  · obtain ⟨b, hbb, rfl, hb⟩ := n_of (a := a) (by omega)
    rw [il_f (by omega) (by omega)]
    by_cases h2 : b < nb
    · rw [lt_t (by omega) h2, mi_t (by rw [l0]; omega) (by rw [i_sub (by omega) (by omega)]; omega)]; exact Or.inl ⟨b, h2, rfl, rfl, rfl⟩
    · rw [lt_f (by omega) (by omega), m_in_f (Or.inr (by rw [i_sub (by omega) (by omega)]; omega))]; exact Or.inr ⟨rfl, rfl⟩
theorem s_bin (hR : Rl x m) (a : Int32) : Sr (m_X6_bin x a) (m_X7_bin m a) := by
  obtain ⟨p, nj, nb, J, N, un, U, tl, tx, sn, sv, ⟨hp, hg, -, hB, hX, hM⟩, hC, hI, hT, hS, ht⟩ := hR
  obtain ⟨c1, c2, c3, c4⟩ := id hB
  unfold m_X6_bin m_X7_bin
  rw [hg, gd_73 hp]
  rcases bin_arg hB hX hM a with ⟨b, hb, rfl, h1, h2⟩ | ⟨h1, h2⟩
  · rw [h1, h2, bi_e, bi_e, eq_f (by omega) (by omega) (by omega), eq_f (by omega) (by omega) (by omega), x_at (k := 8) (n := 6) rfl (by omega) (by omega) (by omega), hC.1.1.2.2.2.2.2.2.2.2 b (by omega), n_add, gd_inb (by omega) (by omega), n_cl (by omega), hC.2.1.1.z (by omega)]; exact ⟨_, rfl, rfl⟩
  · rw [h1, h2, bi_e, bi_e, eq_t rfl, eq_t rfl]; exact ⟨_, rfl, rfl⟩
end CALLS54
