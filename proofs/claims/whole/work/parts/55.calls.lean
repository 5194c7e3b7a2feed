/-! toner, fills, empties, undo, ticks, breaks, ahead, keep, back -/
section CALLS55
variable {x m : zG} {p nj nb un un' : Nat} {J : Nat → Nat → Nat} {N N' : Nat → Nat} {U : Nat → Nat → Nat}
theorem PNow0_PCo {f a : Nat} (h : PNow 0 f a) : PCo 0 f a := Or.inl ⟨h.1, by have := h.2; omega, by have := h.2; omega⟩
/-- both remember; then the snapshot alone changes -/
theorem both_note (hP : RP x m p nj nb J) (hC : RC x m nj J N un U) : ∃ x1 m1, m_X0_remember x 0 = some x1 ∧ m_X7_note m = some m1 ∧ RC x1 m1 nj J N (psn un) (psU un U N) ∧ Fr (PCo 0) x x1 ∧ Fr PUn m m1 := by
  obtain ⟨h1, h2, h3⟩ := hC
  have h6 := hP.2.2.2.1.1
  obtain ⟨x1, a1, a2, a3⟩ := x_remember h1 (h3.2.1.sm h6) h3.1 (by omega)
  obtain ⟨m1, b1, b2, b3⟩ := m_note h2 h3.1
  exact ⟨x1, m1, a1, b1, ⟨a2, b2, h3.ps⟩, a3, b3⟩
theorem RC.snap {x1 m1 : zG} (hC : RC x m nj J N un U) (hx : Fr (PNow 0) x x1) (hm : Fr P105 m m1) (h1 : SX x1 0 N') (h2 : SM m1 105 0 N') (hw : WN nj J N') (h0 : N' 0 ≤ 9999) : RC x1 m1 nj J N' un U := by
  obtain ⟨⟨hS, h31, old, ho, h30, hU⟩, ⟨g1, g2, g3⟩, c1, c2, c3, c4⟩ := hC
  refine ⟨⟨h1, by rw [hx.1 31 0 0 (PNow_far (by omega))]; exact h31, old, ho, by rw [hx.1 30 0 0 (PNow_far (by omega))]; exact h30, fun u hu => (hU u hu).fr hx (fun f _ q => by have := q.2; omega)⟩, ⟨h2, by rw [hm.1 122 0 0 (by unfold P105; omega)]; exact g2, fun u hu => (g3 u hu).fr hm (by unfold P105; omega)⟩, c1, hw, h0, c4⟩
theorem PUn_PCm {f a : Nat} (h : PUn f a) : PCm f a := by unfold PUn at h; unfold PCm; omega
theorem P105_PCm {f a : Nat} (h : P105 f a) : PCm f a := by unfold P105 at h; unfold PCm; omega
theorem WN.u1 {v : Nat} (h : WN nj J N) (hv : v ≤ 999) : WN nj J (upN N 1 v) := by
  obtain ⟨w1, w2, w3, w4, w5, w6, w7, w8, w9, w10⟩ := h
  have e : ∀ d, ¬ d = 1 → upN N 1 v d = N d := fun d hd => upN_n hd
  refine ⟨by rw [upN_s]; exact hv, by rw [e 2 (by omega)]; exact w2, by rw [e 3 (by omega)]; exact w3, fun t ht => by rw [e _ (by omega)]; exact w4 t ht, fun t ht => by rw [e _ (by omega)]; exact w5 t ht, fun t ht => ?_, fun a b ha hb => ?_, fun t ht => by rw [e _ (by omega)]; exact w8 t ht, fun t ht => ?_, fun t ht => ?_⟩
  · rw [e 3 (by omega)] at ht; rw [e _ (by omega)]; exact w6 t ht
  · rw [e 3 (by omega)] at ha hb; rw [e _ (by omega), e _ (by omega)]; exact w7 a b ha hb
  · rw [e 3 (by omega)] at ht; rw [e (13 + t) (by omega), e _ (by omega)]; exact w9 t ht
  · by_cases h0 : t = 1
    · subst h0; rw [upN_s]; omega
    · rw [e _ h0]; exact w10 t ht
theorem WN.u4 {t v : Nat} (h : WN nj J N) (ht : t < 3) (hv : v ≤ 99) : WN nj J (upN N (4 + t) v) := by
  obtain ⟨w1, w2, w3, w4, w5, w6, w7, w8, w9, w10⟩ := h
  have e : ∀ d, ¬ d = 4 + t → upN N (4 + t) v d = N d := fun d hd => upN_n hd
  refine ⟨by rw [e 1 (by omega)]; exact w1, by rw [e 2 (by omega)]; exact w2, by rw [e 3 (by omega)]; exact w3, fun s hs => ?_, fun s hs => by rw [e _ (by omega)]; exact w5 s hs, fun s hs => ?_, fun a b ha hb => ?_, fun s hs => by rw [e _ (by omega)]; exact w8 s hs, fun s hs => ?_, fun s hs => ?_⟩
  · by_cases h0 : s = t
    · subst h0; rw [upN_s]; exact hv
    · rw [e _ (by omega)]; exact w4 s hs
  · rw [e 3 (by omega)] at hs; rw [e _ (by omega)]; exact w6 s hs
  · rw [e 3 (by omega)] at ha hb; rw [e _ (by omega), e _ (by omega)]; exact w7 a b ha hb
  · rw [e 3 (by omega)] at hs; rw [e (13 + s) (by omega), e _ (by omega)]; exact w9 s hs
  · by_cases h0 : s = 4 + t
    · subst h0; rw [upN_s]; omega
    · rw [e _ h0]; exact w10 s hs
theorem WN.u7 {t v : Nat} (h : WN nj J N) (ht : t < 6) (hv : v ≤ 20) : WN nj J (upN N (7 + t) v) := by
  obtain ⟨w1, w2, w3, w4, w5, w6, w7, w8, w9, w10⟩ := h
  have e : ∀ d, ¬ d = 7 + t → upN N (7 + t) v d = N d := fun d hd => upN_n hd
  refine ⟨by rw [e 1 (by omega)]; exact w1, by rw [e 2 (by omega)]; exact w2, by rw [e 3 (by omega)]; exact w3, fun s hs => by rw [e _ (by omega)]; exact w4 s hs, fun s hs => ?_, fun s hs => ?_, fun a b ha hb => ?_, fun s hs => by rw [e _ (by omega)]; exact w8 s hs, fun s hs => ?_, fun s hs => ?_⟩
  · by_cases h0 : s = t
    · subst h0; rw [upN_s]; exact hv
    · rw [e _ (by omega)]; exact w5 s hs
  · rw [e 3 (by omega)] at hs; rw [e _ (by omega)]; exact w6 s hs
  · rw [e 3 (by omega)] at ha hb; rw [e _ (by omega), e _ (by omega)]; exact w7 a b ha hb
  · rw [e 3 (by omega)] at hs; rw [e (13 + s) (by omega), e _ (by omega)]; exact w9 s hs
  · by_cases h0 : s = 7 + t
    · subst h0; rw [upN_s]; omega
    · rw [e _ h0]; exact w10 s hs
theorem min_e {a b : Nat} (ha : a < 2147483648) (hb : b < 2147483648) : m_J9_min_7cf53 (nI a) (nI b) = some (nI (if b < a then b else a)) := by
  unfold m_J9_min_7cf53
  by_cases h : b < a
  · rw [lt_t ha h, if_pos h]
  · rw [lt_f hb (by omega), if_neg h]
theorem max_e {a b : Nat} (ha : a < 2147483648) (hb : b < 2147483648) : m_J9_max_7cf53 (nI a) (nI b) = some (nI (if a < b then b else a)) := by
  unfold m_J9_max_7cf53
  by_cases h : a < b
  · rw [lt_t hb h, if_pos h]
  · rw [lt_f ha (by omega), if_neg h]
theorem s_toner (hR : Rl x m) (a : Int32) : Sm (m_X6_toner x a) (m_X7_toner m a) := by
  obtain ⟨p, nj, nb, J, N, un, U, tl, tx, sn, sv, hP, hC, hI, hT, hS, ht⟩ := id hR
  obtain ⟨w1, w2, w3, w4, w5, w6, w7, w8, w9, w10⟩ := id hC.2.2.2.1
  have h6 := hP.2.2.2.1.1
  have e999 : (999 : Int64).toInt = 999 := rfl
  unfold m_X6_toner m_X7_toner
  by_cases q1 : a.toInt < 1
  · rw [il_t (by omega) (by omega), m_in_f (Or.inl (by rw [l1]; omega)), bi_e, eq_t rfl]; exact ⟨_, x, m, rfl, rfl, hR⟩
  rw [il_f (by omega) (by omega)]
  by_cases q2 : 999 < a.toInt
  · rw [ir_t (by omega) (by omega), m_in_f (Or.inr (by rw [e999]; omega)), bi_e, eq_t rfl]; exact ⟨_, x, m, rfl, rfl, hR⟩
  rw [ir_f (by omega) (by omega), mi_t (by rw [l1]; omega) (by rw [e999]; omega), bi_e, eq_f (by omega) (by omega) (by omega)]
  obtain ⟨n, -, rfl, hn⟩ := n_of (a := a) (by omega)
  rw [hC.1.1.2.1, gd_inb (by omega) (by omega), n_cl (a := 1) (by omega), hC.2.1.1.z (by omega)]
  by_cases hf : N 1 = 999
  · rw [lt_f (by omega) (by omega), eq_t hf]; exact ⟨_, x, m, rfl, rfl, hR⟩
  · rw [lt_t (by omega) (by omega), eq_f (by omega) (by omega) hf]
    obtain ⟨x1, m1, e1, e2, e3, e4, e5⟩ := both_note hP hC
    rw [e1, e2, bi_e, bi_e, e3.1.1.2.1, gd_inb (by omega) (by omega), e3.2.1.1.z (by omega), n_add, min_e (by omega) (by omega), bi_e, bd_e, bd_e]
    have key : ∀ v, v ≤ 999 → Rl (ui x1 1 0 0 (nI v)) (ui m1 105 0 1 (nI v)) := fun v hv => by
      have Fx : Fr (PNow 0) x1 (ui x1 1 0 0 (nI v)) := Fr.rf.ui ⟨by omega, rfl⟩
      have Fm : Fr P105 m1 (ui m1 105 0 1 (nI v)) := Fr.rf.ui rfl
      exact Rl.course hP hI hT hS ht (e4.tr (Fx.wk (fun f a h => PNow0_PCo h))) ((e5.wk (fun f a h => PUn_PCm h)).tr (Fm.wk (fun f a h => P105_PCm h))) (e3.snap Fx Fm (e3.1.1.u1 (by omega)) e3.2.1.1.up0 (hC.2.2.2.1.u1 hv) (by rw [upN_n (by omega)]; exact hC.2.2.2.2.1))
    by_cases hv : 999 < N 1 + n
    · rw [if_neg (by omega), lt_t (by omega) hv, gd_inb (by omega) (by omega), bd_e, gd_inb (by omega) (by omega), gi_s, gi_s]
      exact ⟨_, _, _, rfl, rfl, key 999 (by omega)⟩
    · rw [lt_f (by omega) (by omega), gd_inb (by omega) (by omega), bd_e, gd_inb (by omega) (by omega), gi_s, gi_s]
      have : (if N 1 + n < 999 then N 1 + n else 999) = N 1 + n := by split <;> omega
      rw [this]
      exact ⟨_, _, _, rfl, rfl, key _ (by omega)⟩
theorem s_fills (hR : Rl x m) (a b : Int32) : Sm (m_X6_fills x a b) (m_X7_fills m a b) := by
  obtain ⟨p, nj, nb, J, N, un, U, tl, tx, sn, sv, hP, hC, hI, hT, hS, ht⟩ := id hR
  obtain ⟨w1, w2, w3, w4, w5, w6, w7, w8, w9, w10⟩ := id hC.2.2.2.1
  have h6 := hP.2.2.2.1.1
  have e99 : (99 : Int64).toInt = 99 := rfl
  have e2' : (2 : Int64).toInt = 2 := rfl
  unfold m_X6_fills m_X7_fills
  by_cases q1 : a.toInt < 0
  · rw [il_t (by omega) (by omega), m_in_f (Or.inl (by rw [l0]; omega)), bi_e, eq_t rfl]; exact ⟨_, x, m, rfl, rfl, hR⟩
  rw [il_f (by omega) (by omega)]
  by_cases q2 : 3 ≤ a.toInt
  · rw [il_f (by omega) (by omega), m_in_f (Or.inr (by rw [e2']; omega)), bi_e, eq_t rfl]; exact ⟨_, x, m, rfl, rfl, hR⟩
  rw [il_t (by omega) (by omega), mi_t (by rw [l0]; omega) (by rw [e2']; omega), bi_e, eq_f (by omega) (by omega) (by omega)]
  by_cases q3 : b.toInt < 1
  · rw [il_t (by omega) (by omega), m_in_f (Or.inl (by rw [l1]; omega)), bi_e, eq_t rfl]; exact ⟨_, x, m, rfl, rfl, hR⟩
  rw [il_f (by omega) (by omega)]
  by_cases q4 : 99 < b.toInt
  · rw [ir_t (by omega) (by omega), m_in_f (Or.inr (by rw [e99]; omega)), bi_e, eq_t rfl]; exact ⟨_, x, m, rfl, rfl, hR⟩
  rw [ir_f (by omega) (by omega), mi_t (by rw [l1]; omega) (by rw [e99]; omega), bi_e, eq_f (by omega) (by omega) (by omega)]
  obtain ⟨t, -, rfl, ht3⟩ := n_of (a := a) (by omega)
  obtain ⟨n, -, rfl, hn⟩ := n_of (a := b) (by omega)
  have hw4 := w4 t (by omega)
  rw [x_at (k := 7) (n := 3) rfl (by omega) (by omega) (by omega), hC.1.1.2.2.2.2.2.2.2.1 t (by omega), bi_e, n_add 4 t, gd_inb (by omega) (by omega), n_cl (a := 4 + t) (by omega), hC.2.1.1.z (by omega)]
  by_cases hf : N (4 + t) = 99
  · rw [lt_f (by omega) (by omega), eq_t hf]; exact ⟨_, x, m, rfl, rfl, hR⟩
  · rw [lt_t (by omega) (by omega), eq_f (by omega) (by omega) hf]
    obtain ⟨x1, m1, e1, e2, e3, e4, e5⟩ := both_note hP hC
    rw [e1, e2, bi_e, bi_e, gd_inb (by omega) (by omega), e3.2.1.1.z (by omega), n_add, min_e (by omega) (by omega), bi_e, bd_e, x_put (k := 7) (n := 3) rfl (by omega) (by omega), bi_e, x_at (k := 7) (n := 3) rfl (by omega) (by omega) (by omega), gi_s, bi_e]
    have key : ∀ v, v ≤ 99 → Rl (ui x1 7 0 t (nI v)) (ui m1 105 0 (4 + t) (nI v)) := fun v hv => by
      have Fx : Fr (PNow 0) x1 (ui x1 7 0 t (nI v)) := Fr.rf.ui ⟨by omega, rfl⟩
      have Fm : Fr P105 m1 (ui m1 105 0 (4 + t) (nI v)) := Fr.rf.ui rfl
      exact Rl.course hP hI hT hS ht (e4.tr (Fx.wk (fun f a h => PNow0_PCo h))) ((e5.wk (fun f a h => PUn_PCm h)).tr (Fm.wk (fun f a h => P105_PCm h))) (e3.snap Fx Fm (e3.1.1.u7 (by omega) (by omega)) e3.2.1.1.up0 (hC.2.2.2.1.u4 (by omega) hv) (by rw [upN_n (by omega)]; exact hC.2.2.2.2.1))
    by_cases hv : 99 < N (4 + t) + n
    · rw [if_neg (by omega), lt_t (by omega) hv, gd_inb (by omega) (by omega), bd_e, gd_inb (by omega) (by omega), gi_s]
      exact ⟨_, _, _, rfl, rfl, key 99 (by omega)⟩
    · rw [lt_f (by omega) (by omega), gd_inb (by omega) (by omega), bd_e, gd_inb (by omega) (by omega), gi_s]
      have : (if N (4 + t) + n < 99 then N (4 + t) + n else 99) = N (4 + t) + n := by split <;> omega
      rw [this]
      exact ⟨_, _, _, rfl, rfl, key _ (by omega)⟩
theorem s_empties (hR : Rl x m) (a : Int32) : Sm (m_X6_empties x a) (m_X7_empties m a) := by
  obtain ⟨p, nj, nb, J, N, un, U, tl, tx, sn, sv, hP, hC, hI, hT, hS, ht⟩ := id hR
  obtain ⟨hp, hg, -, hB, hX, hM⟩ := id hP
  obtain ⟨w1, w2, w3, w4, w5, w6, w7, w8, w9, w10⟩ := id hC.2.2.2.1
  obtain ⟨c1, c2, c3, c4⟩ := id hB
  unfold m_X6_empties m_X7_empties
  rw [hg, gd_73 hp]
  rcases bin_arg hB hX hM a with ⟨b, hb, rfl, h1, h2⟩ | ⟨h1, h2⟩
  · have hw5 := w5 b (by omega)
    rw [h1, h2, bi_e, bi_e, eq_f (by omega) (by omega) (by omega), eq_f (by omega) (by omega) (by omega), x_at (k := 8) (n := 6) rfl (by omega) (by omega) (by omega), hC.1.1.2.2.2.2.2.2.2.2 b (by omega), bi_e, n_add, gd_inb (by omega) (by omega), n_cl (a := 7 + b) (by omega), hC.2.1.1.z (by omega), bd_e]
    by_cases h0 : N (7 + b) = 0
    · rw [eq_t h0, eq_t h0]; exact ⟨_, x, m, rfl, rfl, hR⟩
    · rw [eq_f (by omega) (by omega) h0, eq_f (by omega) (by omega) h0]
      obtain ⟨x1, m1, e1, e2, e3, e4, e5⟩ := both_note hP hC
      rw [e1, e2, bi_e, bi_e, x_put (k := 8) (n := 6) rfl (by omega) (by omega), bi_e, gd_inb (by omega) (by omega), bd_e]
      have Fx : Fr (PNow 0) x1 (ui x1 8 0 b (nI 0)) := Fr.rf.ui ⟨by omega, rfl⟩
      have Fm : Fr P105 m1 (ui m1 105 0 (7 + b) (nI 0)) := Fr.rf.ui rfl
      exact ⟨_, _, _, rfl, rfl, Rl.course hP hI hT hS ht (e4.tr (Fx.wk (fun f a h => PNow0_PCo h))) ((e5.wk (fun f a h => PUn_PCm h)).tr (Fm.wk (fun f a h => P105_PCm h))) (e3.snap Fx Fm (e3.1.1.u8 (by omega) (by omega)) e3.2.1.1.up0 (hC.2.2.2.1.u7 (by omega) (by omega)) (by rw [upN_n (by omega)]; exact hC.2.2.2.2.1))⟩
  · rw [h1, h2, bi_e, bi_e, eq_t rfl, eq_t rfl]; exact ⟨_, x, m, rfl, rfl, hR⟩
theorem s_undo (hR : Rl x m) : Sm (m_X6_undo x) (m_X7_undo m) := by
  obtain ⟨p, nj, nb, J, N, un, U, tl, tx, sn, sv, hP, hC, hI, hT, hS, ht⟩ := id hR
  have h6 := hP.2.2.2.1.1
  obtain ⟨h1, h2, h3, h4, h5, h7⟩ := id hC
  unfold m_X6_undo
  rw [h1.2.1]
  by_cases h0 : un = 0
  · unfold m_X7_undo
    rw [eq_t h0, h2.2.1, eq_t h0]; exact ⟨_, x, m, rfl, rfl, hR⟩
  · obtain ⟨q1, q2⟩ := h7 (un - 1) (by omega)
    obtain ⟨x1, a1, a2, a3⟩ := x_takeBack h1 (q1.sm h6) h3 (by omega) (by omega)
    obtain ⟨m1, b1, b2, b3⟩ := m_undo h2 h3 (by omega)
    rw [eq_f (by omega) (by omega) h0, a1, b1, bi_e, a2.2.1]
    exact ⟨_, _, _, rfl, rfl, Rl.course hP hI hT hS ht a3 b3 ⟨a2, b2, by omega, q1, q2, fun u hu => h7 u (by omega)⟩⟩
end CALLS55
