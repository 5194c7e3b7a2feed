/-! a tick of the class; what a tick keeps -/
section TICKX
variable {x m : zG} {i p nj nb j : Nat} {J : Nat → Nat → Nat} {N : Nat → Nat}
theorem PNow_far {f a : Nat} (hf : 10 ≤ f) : ¬ PNow i f a := fun q => by have := q.1; omega
theorem x_bring (hB : JB nj nb J) (hX : JX x p nj nb J) (hS : SX x i N) (hw : WN nj J N) (hp : p < 2) (h3 : 0 < N 3) (hst : stn nb J N = 0) (h0 : ¬ N 0 = 0) : ∃ x', m_X2_bringSheet x i p (6 * p + N 13) (nI (N 13)) = some x' ∧ SX x' i (if N (19 + N 13) + 1 = al J (N 13) then lvN (upN (brN nb J N) (25 + N 13) (N 0)) 0 else brN nb J N) ∧ Fr (PNow i) x x' := by
  obtain ⟨w1, w2, w3, w4, w5, w6, w7, w8, w9, w10⟩ := id hw
  obtain ⟨s0, s1, s2, s3, s4, s5, s6, s7, s8⟩ := id hS
  have h6 := hB.1
  have hj := w6 0 (by omega)
  have hk9 := w9 0 (by omega)
  rw [Nat.add_zero] at hj hk9
  obtain ⟨b1, b2, b3, b4, b5, b6, b7⟩ := hB.2.2.2 (N 13) hj
  obtain ⟨a1, a2, a3, a4, a5, a6, a7⟩ := hX.2.2 (N 13) hj
  have hk := w8 (N 13) (by omega)
  have hbn := bno_lt (j := N 13) (k := N (19 + N 13)) hB
  have hnb := hB.2.2.1
  have hsd := sds_in (J := J) (j := N 13) (k := N (19 + N 13))
  have hal := al_in hB hj
  have t1 := w4 (J 4 (N 13)) (by omega)
  have t2 := w5 (bno nb J (N 13) (N (19 + N 13))) (by omega)
  have st1 : ¬ N (4 + J 4 (N 13)) = 0 ∧ ¬ N 1 < sds J (N 13) (N (19 + N 13)) := by
    unfold stn at hst
    rw [if_neg (by omega)] at hst
    constructor
    · intro q; rw [if_pos q] at hst; omega
    · intro q
      by_cases q2 : N (4 + J 4 (N 13)) = 0
      · rw [if_pos q2] at hst; omega
      · rw [if_neg q2, if_pos q] at hst; omega
  unfold m_X2_bringSheet m_X2_madeOf
  rw [x_at (k := 5) (n := 6) rfl (by omega) (by omega) (by omega), s5 (N 13) (by omega), bi_e, bi_e, x_bin hB hX hj (by omega), bi_e, gd_isb (by omega), bd_e]
  have S1 := hS.u2 (v := 0) (by omega)
  have F1 : Fr (PNow i) x (ui x 2 i 0 (nI 0)) := Fr.rf.ui ⟨by omega, rfl⟩
  generalize ui x 2 i 0 (nI 0) = g1 at S1 F1 ⊢
  rw [F1.1 24 _ 0 (PNow_far (by omega)), a5, x_at (k := 7) (n := 3) rfl (by omega) (by omega) (by omega), S1.2.2.2.2.2.2.2.1 _ (by omega), upN_n (by omega), bi_e, n_sub (by omega), x_put (k := 7) (n := 3) rfl (by omega) (by omega), bi_e]
  have S2 := S1.u7 (t := J 4 (N 13)) (v := N (4 + J 4 (N 13)) - 1) (by rw [upN_n (by omega)]; omega) (by omega)
  have F2 : Fr (PNow i) x (ui g1 7 i (J 4 (N 13)) (nI (N (4 + J 4 (N 13)) - 1))) := F1.ui ⟨by omega, rfl⟩
  generalize ui g1 7 i (J 4 (N 13)) (nI (N (4 + J 4 (N 13)) - 1)) = g2 at S2 F2 ⊢
  rw [x_sides hB (hX.fr F2 (fun f a h1 h2 => PNow_far h1)) hj (by omega), bi_e, S2.2.1, upN_n (by omega), upN_n (by omega), n_sub (by omega), bd_e]
  have S3 := S2.u1 (v := N 1 - sds J (N 13) (N (19 + N 13))) (by rw [upN_n (by omega), upN_n (by omega)]; omega)
  have F3 : Fr (PNow i) x (ui g2 1 i 0 (nI (N 1 - sds J (N 13) (N (19 + N 13))))) := F2.ui ⟨by omega, rfl⟩
  generalize ui g2 1 i 0 (nI (N 1 - sds J (N 13) (N (19 + N 13)))) = g3 at S3 F3 ⊢
  rw [x_at (k := 8) (n := 6) rfl (by omega) (by omega) (by omega), S3.2.2.2.2.2.2.2.2 _ (by omega), upN_n (by omega), upN_n (by omega), upN_n (by omega), bi_e, n_add, x_put (k := 8) (n := 6) rfl (by omega) (by omega), bi_e]
  have S4 := S3.u8 (t := bno nb J (N 13) (N (19 + N 13))) (v := N (7 + bno nb J (N 13) (N (19 + N 13))) + 1) (by rw [upN_n (by omega), upN_n (by omega), upN_n (by omega)]; omega) (by omega)
  have F4 : Fr (PNow i) x (ui g3 8 i (bno nb J (N 13) (N (19 + N 13))) (nI (N (7 + bno nb J (N 13) (N (19 + N 13))) + 1))) := F3.ui ⟨by omega, rfl⟩
  generalize ui g3 8 i (bno nb J (N 13) (N (19 + N 13))) (nI (N (7 + bno nb J (N 13) (N (19 + N 13))) + 1)) = g4 at S4 F4 ⊢
  rw [n_add, x_put (k := 5) (n := 6) rfl (by omega) (by omega), bi_e]
  have S5 := S4.u5 (t := N 13) (v := N (19 + N 13) + 1) (by rw [upN_n (by omega), upN_n (by omega), upN_n (by omega), upN_n (by omega)]; omega) (by omega)
  have F5 : Fr (PNow i) x (ui g4 5 i (N 13) (nI (N (19 + N 13) + 1))) := F4.ui ⟨by omega, rfl⟩
  have S5 : SX (ui g4 5 i (N 13) (nI (N (19 + N 13) + 1))) i (brN nb J N) := S5
  generalize ui g4 5 i (N 13) (nI (N (19 + N 13) + 1)) = g5 at S5 F5 ⊢
  have eB : ∀ d, ¬ d = 1 → ¬ d = 2 → ¬ (4 ≤ d ∧ d < 13) → ¬ d = 19 + N 13 → brN nb J N d = N d := fun d h1 h2 h4 h5 => by
    unfold brN; rw [upN_n h5, upN_n (by omega), upN_n h1, upN_n (by omega), upN_n h2]
  rw [x_all (hX.fr F5 (fun f a h1 h2 => PNow_far h1)) hj, bi_e]
  by_cases hA : N (19 + N 13) + 1 = al J (N 13)
  · rw [lt_f (by omega) (by omega), if_pos hA, S5.1, eB 0 (by omega) (by omega) (by omega) (by omega), x_put (k := 6) (n := 6) rfl (by omega) (by omega), bi_e]
    have S6 := S5.u6 (t := N 13) (v := N 0) (by rw [eB 3 (by omega) (by omega) (by omega) (by omega)]; omega) (by omega) h0
    have F6 : Fr (PNow i) x (ui g5 6 i (N 13) (nI (N 0))) := F5.ui ⟨by omega, rfl⟩
    generalize ui g5 6 i (N 13) (nI (N 0)) = g6 at S6 F6 ⊢
    generalize hN2 : upN (brN nb J N) (25 + N 13) (N 0) = N2 at S6 ⊢
    have e3 : N2 3 = N 3 := by rw [← hN2, upN_n (by omega), eB 3 (by omega) (by omega) (by omega) (by omega)]
    have e13 : N2 13 = N 13 := by rw [← hN2, upN_n (by omega), eB 13 (by omega) (by omega) (by omega) (by omega)]
    have e2 : N2 2 = 0 := by rw [← hN2, upN_n (by omega)]; unfold brN; rw [upN_n (by omega), upN_n (by omega), upN_n (by omega), upN_n (by omega), upN_s]
    have hb9 : ∀ e, e < 31 → N2 e < 65536 := fun e he => by
      rw [← hN2]; unfold brN upN
      have := w10 e he; have := w10 0 (by omega)
      repeat (first | omega | split)
    have hpl : plc N2 (N 13) = some 0 := by rw [← e13]; exact plc_0 (by omega)
    obtain ⟨x', e1, e4, e5⟩ := x_leave S6 (by omega) hb9 (by have := w10 13 (by omega); omega) hpl
    have eh : hfN N2 0 = N2 := by
      unfold hfN; rw [if_pos rfl]; funext d; unfold upN; split
      · rename_i h; rw [h, e2]
      · rfl
    rw [eh] at e4
    rw [e1, bi_e]
    exact ⟨x', rfl, e4, F6.tr e5⟩
  · rw [lt_t (by omega) (by omega), if_neg hA]
    exact ⟨g5, rfl, S5, F5⟩
theorem x_tick (hB : JB nj nb J) (hX : JX x p nj nb J) (hS : SX x i N) (hw : WN nj J N) (hp : p < 2) (ht : N 0 < 60000) : ∃ x', m_X2_passTick x i p = some (nI (tkN nb J N).1, x') ∧ SX x' i (tkN nb J N).2 ∧ Fr (PNow i) x x' := by
  have h6 := hB.1
  unfold m_X2_passTick tkN
  rw [hS.1, n_add, bd_e]
  have S1 := hS.u0 (v := N 0 + 1) (by have := hw.2.2.1; omega)
  have F1 : Fr (PNow i) x (ui x 0 i 0 (nI (N 0 + 1))) := Fr.rf.ui ⟨by omega, rfl⟩
  have hw1 := hw.t0 (v := N 0 + 1) (by omega)
  generalize ui x 0 i 0 (nI (N 0 + 1)) = g1 at S1 F1 ⊢
  have e0 : ¬ upN N 0 (N 0 + 1) 0 = 0 := by rw [upN_s]; omega
  generalize hN1 : upN N 0 (N 0 + 1) = N1 at S1 hw1 e0 ⊢
  have hX1 : JX g1 p nj nb J := hX.fr F1 (fun f a h1 h2 => PNow_far h1)
  obtain ⟨w1, w2, w3, w4, w5, w6, w7, w8, w9, w10⟩ := id hw1
  unfold tkN1
  rw [x_first S1 hw1 h6, bi_e]
  by_cases h3 : N1 3 = 0
  · rw [if_pos h3, if_pos h3, x_jobAt_9 hX1, bi_e, oc_n]; exact ⟨g1, rfl, S1, F1⟩
  · have hj := w6 0 (by omega)
    rw [Nat.add_zero] at hj
    rw [if_neg h3, if_neg h3, x_jobAt hB hX1 hj, bi_e, oc_s, gd_71 (by omega), x_stands hB hX1 S1 hw1 hp, bi_e]
    have hsl := stn_le (nb := nb) (J := J) (N := N1)
    by_cases hs : stn nb J N1 = 0
    · have hk := w8 (N1 13) (by omega)
      have hsd := sds_in (J := J) (j := N1 13) (k := N1 (19 + N1 13))
      obtain ⟨x', e1, e2, e3⟩ := x_bring hB hX1 S1 hw1 hp (by omega) hs e0
      have fin : (if N1 (19 + N1 13) + 1 = al J (N1 13) then ((1, lvN (upN (brN nb J N1) (25 + N1 13) (N1 0)) 0) : Nat × (Nat → Nat)) else (1, brN nb J N1)) = (1, if N1 (19 + N1 13) + 1 = al J (N1 13) then lvN (upN (brN nb J N1) (25 + N1 13) (N1 0)) 0 else brN nb J N1) := by split <;> rfl
      rw [eq_t hs, if_neg (c := ¬ stn nb J N1 = 0) (by omega), S1.2.2.1, e1]
      simp only [bi_e]
      by_cases hh : N1 2 = 0
      · unfold m_X2_madeOf
        rw [eq_t hh, x_at (k := 5) (n := 6) rfl (by omega) (by omega) (by omega), S1.2.2.2.2.2.1 (N1 13) (by omega), bi_e, bi_e, x_sides hB hX1 hj (by omega), bi_e]
        by_cases h2 : sds J (N1 13) (N1 (19 + N1 13)) = 2
        · rw [eq_t h2, if_pos ⟨h2, hh⟩, gd_isb (by omega), bd_e]
          exact ⟨_, rfl, S1.u2 (by omega), F1.ui ⟨by omega, rfl⟩⟩
        · rw [eq_f (by omega) (by omega) h2, if_neg (fun q => h2 q.1), fin]
          exact ⟨x', rfl, e2, F1.tr e3⟩
      · rw [eq_f (by omega) (by omega) hh, if_neg (fun q => hh q.2), fin]
        exact ⟨x', rfl, e2, F1.tr e3⟩
    · rw [eq_f (by omega) (by omega) hs, if_pos hs]; exact ⟨g1, rfl, S1, F1⟩
end TICKX
