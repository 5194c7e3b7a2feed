/-! mark -/
theorem x_at2 {g : zG} {k i j n : Nat} (hk : 200 ≤ k) (hn : ln k = n) (hn2 : n < 2147483648) (hj : j < n) : m_X6_at g k i (nI j) = some (sc k j) := by
  unfold m_X6_at
  rw [hn]
  simp (disch := omega) only [lt_f, lt_t, gd_inb, n_cl, xr, if_pos hk]
abbrev tr (g : zG) (v : Int64) : zG := ul g 0 (gl g 0 + v)
section MARK
variable {x m : zG} {p nj nb j q l f i : Nat} {J : Nat → Nat → Nat} {N : Nat → Nat} {a2 : Int32}
theorem x_wo {k : Nat} (h0 : 0 < k) (hk : k < 6) (hl : l < 6) : m_X6_worthAs (f + 1) x (nI k) q a2 (nI l) = sb (m_X6_worthAs f (tr x (sc 209 k).toInt64) (sc 208 k) q a2 (nI l + nI 1)) fun r3 g4 => if nI k = nI 1 then some (r3 + gi g4 21 q 0, g4) else if nI k = nI 2 then (m_X2_madeOf g4 0 a2).bind fun r7 => some (r3 - r7, g4) else if nI k = nI 3 then some (r3 * nI 2, g4) else if nI k = nI 4 then some (r3 + a2, g4) else if nI k = nI 5 then some (r3 + gi g4 0 0 0, g4) else some (r3, g4) := by
  show (if nI l < nI 6 then _ else _) = _
  rw [lt_t (by omega) (by omega), lt_f (by omega) (by omega), lt_t (by omega) (by omega), x_at2 (n := 6) (by omega) rfl (by omega) hk, bi_e, bd_e, eq_f (by omega) (by omega) (by omega), show ln 208 = 6 from rfl, gd_inb (by omega) (by omega), n_cl (by omega)]
theorem x_w0 (hl : l < 6) : m_X6_worthAs (f + 1) x (nI 0) q a2 (nI l) = some (gi x 20 q 0, tr x 1) := by
  show (if nI l < nI 6 then _ else _) = _
  rw [lt_t (by omega) (by omega), lt_f (by omega) (by omega), lt_t (by omega) (by omega), x_at2 (n := 6) (by omega) rfl (by omega) (by omega), bi_e, bd_e, eq_t rfl]
  rfl
theorem s20_1 : sc 208 1 = nI 0 := rfl
theorem s20_2 : sc 208 2 = nI 0 := rfl
theorem s20_3 : sc 208 3 = nI 1 := rfl
theorem s20_4 : sc 208 4 = nI 2 := rfl
theorem s20_5 : sc 208 5 = nI 0 := rfl
theorem x_w1 (hl : l < 5) : m_X6_worthAs (f + 2) x (nI 1) q a2 (nI l) = some (gi x 20 q 0 + gi x 21 q 0, tr (tr x 10) 1) := by
  rw [x_wo (by omega) (by omega) (by omega), s20_1, n_add, x_w0 (by omega), sb_e, eq_t rfl]; rfl
theorem x_w2 (hS : SX x 0 N) (hj : j < 6) (hl : l < 5) : m_X6_worthAs (f + 2) x (nI 2) q (nI j) (nI l) = some (gi x 20 q 0 - nI (N (19 + j)), tr (tr x 100) 1) := by
  rw [x_wo (by omega) (by omega) (by omega), s20_2, n_add, x_w0 (by omega), sb_e, eq_f (by omega) (by omega) (by omega), eq_t rfl]
  unfold m_X2_madeOf
  rw [x_at (k := 5) (n := 6) rfl (by omega) (by omega) hj, bi_e]
  have := hS.2.2.2.2.2.1 j hj
  show some (_ - gi x 5 0 j, _) = _
  rw [this]; rfl
theorem x_w3 : m_X6_worthAs (f + 3) x (nI 3) q a2 (nI 0) = some ((gi x 20 q 0 + gi x 21 q 0) * nI 2, tr (tr (tr x 1000) 10) 1) := by
  rw [x_wo (by omega) (by omega) (by omega), s20_3, n_add, x_w1 (by omega), sb_e, eq_f (by omega) (by omega) (by omega), eq_f (by omega) (by omega) (by omega), eq_t rfl]; rfl
theorem x_w4 (hS : SX x 0 N) (hj : j < 6) : m_X6_worthAs (f + 3) x (nI 4) q (nI j) (nI 0) = some (gi x 20 q 0 - nI (N (19 + j)) + nI j, tr (tr (tr x 10000) 100) 1) := by
  have hS' : SX (tr x (sc 209 4).toInt64) 0 N := hS
  rw [x_wo (by omega) (by omega) (by omega), s20_4, n_add, x_w2 hS' hj (by omega), sb_e, eq_f (by omega) (by omega) (by omega), eq_f (by omega) (by omega) (by omega), eq_f (by omega) (by omega) (by omega), eq_t rfl]; rfl
theorem x_w5 : m_X6_worthAs (f + 2) x (nI 5) q a2 (nI 0) = some (gi x 20 q 0 + gi x 0 0 0, tr (tr x 100000) 1) := by
  rw [x_wo (by omega) (by omega) (by omega), s20_5, n_add, x_w0 (by omega), sb_e, eq_f (by omega) (by omega) (by omega), eq_f (by omega) (by omega) (by omega), eq_f (by omega) (by omega) (by omega), eq_f (by omega) (by omega) (by omega), eq_t rfl]; rfl
theorem m_w0 (hj : j < 6) : m_X7_asJob m (nI j) = some (gi m 100 0 j, tr m 1) := by
  unfold m_X7_asJob
  rw [bd_e, gd_inb (by omega) (by omega), n_cl (by omega)]; rfl
theorem m_w1 (hj : j < 6) : m_X7_asMemo m (nI j) = some (gi m 100 0 j + gi m 101 0 j, tr (tr m 10) 1) := by
  unfold m_X7_asMemo
  rw [bd_e, m_w0 hj, sb_e, gd_inb (by omega) (by omega), n_cl (by omega)]; rfl
theorem m_w2 (hj : j < 6) : m_X7_asReport m (nI j) = some (gi m 100 0 j - gi m 105 0 (19 + j), tr (tr m 100) 1) := by
  unfold m_X7_asReport
  rw [bd_e, m_w0 hj, sb_e, n_add, gd_inb (by omega) (by omega), n_cl (by omega)]; rfl
theorem m_w3 (hj : j < 6) : m_X7_asNotice m (nI j) = some (nI 2 * (gi m 100 0 j + gi m 101 0 j), tr (tr (tr m 1000) 10) 1) := by
  unfold m_X7_asNotice
  rw [bd_e, m_w1 hj, sb_e]; rfl
theorem m_w4 (hj : j < 6) : m_X7_asLedger m (nI j) = some (gi m 100 0 j - gi m 105 0 (19 + j) + nI j, tr (tr (tr m 10000) 100) 1) := by
  unfold m_X7_asLedger
  rw [bd_e, m_w2 hj, sb_e]; rfl
theorem m_w5 (hj : j < 6) : m_X7_asFlyer m (nI j) = some (gi m 100 0 j + gi m 105 0 0, tr (tr m 100000) 1) := by
  unfold m_X7_asFlyer
  rw [bd_e, m_w0 hj, sb_e, gd_inb (by omega) (by omega), n_cl (by omega)]; rfl
theorem Rl.ul (hR : Rl x m) {u v : Int64} (h : u = v) : Rl (ul x 0 u) (ul m 0 v) := by
  obtain ⟨p, nj, nb, J, N, un, U, tl, tx, sn, sv, hP, hC, hI, hT, hS, ht⟩ := hR
  exact ⟨p, nj, nb, J, N, un, U, tl, tx, sn, sv, hP, hC, hI, hT, hS, h⟩
theorem Rl.gl (hR : Rl x m) : gl x 0 = gl m 0 := by
  obtain ⟨p, nj, nb, J, N, un, U, tl, tx, sn, sv, hP, hC, hI, hT, hS, ht⟩ := hR
  exact ht
theorem Rl.tr (hR : Rl x m) (v : Int64) : Rl (tr x v) (tr m v) := hR.ul (by rw [hR.gl])
theorem s_mark (hR : Rl x m) (a b : Int32) : Sm (m_X6_mark x a b) (m_X7_mark m a b) := by
  obtain ⟨p, nj, nb, J, N, un, U, tl, tx, sn, sv, ⟨hp, hg, -, hB, hX, hM⟩, hC, hI, hT, hS, ht⟩ := id hR
  have h6 := hB.1
  have e5 : (5 : Int64).toInt = 5 := rfl
  unfold m_X6_mark m_X7_mark
  rw [hg, gd_73 hp]
  rcases job_arg hB hX hM b with ⟨j, hj, rfl⟩ | ⟨h1, h2⟩
  · rw [x_jobAt hB hX hj, bi_e, oc_s, gd_71 (by omega), m_isJob hB hM hj, bi_e]
    rcases n_cases a with h | ⟨k, hk, rfl⟩
    · rw [if_pos h, m_in_f (Or.inl (by have := toInt_neg h; rw [l0]; omega)), bi_e, eq_t rfl]
      exact ⟨_, _, _, rfl, rfl, hR⟩
    · rw [lt_f (by omega) (by omega)]
      by_cases h5 : 5 < k
      · rw [lt_f (by omega) (by omega), m_in_f (Or.inr (by rw [nI_toInt hk, e5]; omega)), bi_e, eq_t rfl]
        exact ⟨_, _, _, rfl, rfl, hR⟩
      · rw [lt_t (by omega) (by omega), m_in_t (l := 0) (h := 5) rfl rfl hk (by omega) (by omega), bi_e, eq_f (by omega) (by omega) (by omega), eq_f (by omega) (by omega) (by omega)]
        obtain ⟨a1, a2, a3, a4, a5, a6, a7⟩ := hX.2.2 j hj
        obtain ⟨d1, d2, d3, d4, d5⟩ := hM.2.2 j hj
        have hc := hC.1.1
        have hm := hC.2.1.1
        have hj6 : j < 6 := by omega
        have k6 : k = 0 ∨ k = 1 ∨ k = 2 ∨ k = 3 ∨ k = 4 ∨ k = 5 := by omega
        rcases k6 with rfl | rfl | rfl | rfl | rfl | rfl
        · rw [x_w0 (by omega), m_w0 hj6, eq_t rfl, a1, d1]
          exact ⟨_, _, _, rfl, rfl, hR.tr 1⟩
        · rw [x_w1 (by omega), m_w1 hj6, eq_f (by omega) (by omega) (by omega), eq_t rfl, a1, d1, a2, d2]
          exact ⟨_, _, _, rfl, rfl, (hR.tr 10).tr 1⟩
        · rw [x_w2 hc hj6 (by omega), m_w2 hj6, eq_f (by omega) (by omega) (by omega), eq_f (by omega) (by omega) (by omega), eq_t rfl, a1, d1, hm.z (by omega)]
          exact ⟨_, _, _, rfl, rfl, (hR.tr 100).tr 1⟩
        · rw [x_w3, m_w3 hj6, eq_f (by omega) (by omega) (by omega), eq_f (by omega) (by omega) (by omega), eq_f (by omega) (by omega) (by omega), eq_t rfl, a1, d1, a2, d2, Int32.mul_comm (nI 2)]
          exact ⟨_, _, _, rfl, rfl, ((hR.tr 1000).tr 10).tr 1⟩
        · rw [x_w4 hc hj6, m_w4 hj6, eq_f (by omega) (by omega) (by omega), eq_f (by omega) (by omega) (by omega), eq_f (by omega) (by omega) (by omega), eq_f (by omega) (by omega) (by omega), eq_t rfl, a1, d1, hm.z (by omega)]
          exact ⟨_, _, _, rfl, rfl, ((hR.tr 10000).tr 100).tr 1⟩
        · rw [x_w5, m_w5 hj6, eq_f (by omega) (by omega) (by omega), eq_f (by omega) (by omega) (by omega), eq_f (by omega) (by omega) (by omega), eq_f (by omega) (by omega) (by omega), eq_f (by omega) (by omega) (by omega), a1, d1, hm.z (by omega), hc.1]
          exact ⟨_, _, _, rfl, rfl, (hR.tr 100000).tr 1⟩
  · rw [h1, bi_e, oc_n, h2]
    have : (m_X7_in (Int32.toInt64 a) 0 5).bind (fun r1 => if r1 = nI 0 then some ((-1000000 : Int32), m) else some ((-1000000 : Int32), m)) = some (-1000000, m) := by
      unfold m_X7_in
      split
      · rw [bi_e, eq_t rfl]
      · split
        · rw [bi_e, eq_t rfl]
        · rw [bi_e, eq_f (by omega) (by omega) (by omega)]
    exact ⟨_, _, _, rfl, this, hR⟩
end MARK
