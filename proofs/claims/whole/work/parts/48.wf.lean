/-! what ticks and the rest keep of a snapshot's form -/
section WFN
variable {nj nb j pl : Nat} {J : Nat → Nat → Nat} {N : Nat → Nat}
theorem lvN_lo {d : Nat} (h1 : d < 13) (h2 : ¬ d = 3) (h3 : 0 < N 3) : lvN N pl d = N d := by
  unfold lvN; rw [if_neg h2, if_neg (by omega), if_neg (by omega)]
theorem lvN_hi {d : Nat} (h1 : 19 ≤ d) (h3 : N 3 ≤ 6) : lvN N pl d = N d := by
  unfold lvN; rw [if_neg (by omega), if_neg (by omega), if_neg (by omega)]
theorem lvN_3 : lvN N pl 3 = N 3 - 1 := by unfold lvN; rw [if_pos rfl]
theorem wn_lv (h6 : nj ≤ 6) (hpl : pl < N 3) (w1 : N 1 ≤ 999) (w2 : N 2 ≤ 1) (w3 : N 3 ≤ nj) (w4 : ∀ t, t < 3 → N (4 + t) ≤ 99) (w5 : ∀ b, b < 6 → N (7 + b) ≤ 20) (w6 : ∀ k, k < N 3 → N (13 + k) < nj) (w7 : ∀ a b, a < N 3 → b < N 3 → N (13 + a) = N (13 + b) → a = b) (w8 : ∀ j, j < 6 → N (19 + j) ≤ 81) (w9 : ∀ k, k < N 3 → ¬ k = pl → N (19 + N (13 + k)) < al J (N (13 + k))) (w10 : ∀ e, e < 31 → N e < 65536) : WN nj J (lvN N pl) := by
  have q : ∀ e, e < N 3 - 1 → ∃ k, k < N 3 ∧ ¬ k = pl ∧ lvN N pl (13 + e) = N (13 + k) ∧ k = (if pl ≤ e then e + 1 else e) := by
    intro e he
    rw [lvN_q he]
    by_cases h : pl ≤ e
    · exact ⟨e + 1, by omega, by omega, by rw [if_pos h, show 13 + (e + 1) = 14 + e by omega], by rw [if_pos h]⟩
    · exact ⟨e, by omega, by omega, by rw [if_neg h], by rw [if_neg h]⟩
  refine ⟨?_, ?_, ?_, fun t ht => ?_, fun t ht => ?_, fun t ht => ?_, fun a b ha hb hab => ?_, fun t ht => ?_, fun t ht => ?_, fun t ht => ?_⟩
  · rw [lvN_lo (by omega) (by omega) (by omega)]; exact w1
  · rw [lvN_lo (by omega) (by omega) (by omega)]; exact w2
  · rw [lvN_3]; omega
  · rw [lvN_lo (by omega) (by omega) (by omega)]; exact w4 t ht
  · rw [lvN_lo (by omega) (by omega) (by omega)]; exact w5 t ht
  · rw [lvN_3] at ht
    obtain ⟨k, h1, h2, h3, h4⟩ := q t ht
    rw [h3]; exact w6 k h1
  · rw [lvN_3] at ha hb
    obtain ⟨k, h1, h2, h3, h4⟩ := q a ha
    obtain ⟨k', h1', h2', h3', h4'⟩ := q b hb
    rw [h3, h3'] at hab
    have := w7 k k' h1 h1' hab
    by_cases c1 : pl ≤ a <;> by_cases c2 : pl ≤ b <;> simp only [c1, c2, if_true, if_false] at h4 h4' <;> omega
  · rw [lvN_hi (by omega) (by omega)]; exact w8 t ht
  · rw [lvN_3] at ht
    obtain ⟨k, h1, h2, h3, h4⟩ := q t ht
    have := w6 k h1
    rw [h3, lvN_hi (by omega) (by omega)]; exact w9 k h1 h2
  · unfold lvN
    have := w10 t ht
    have := w10 3 (by omega)
    by_cases c0 : t = 3
    · rw [if_pos c0]; omega
    · rw [if_neg c0]
      by_cases c1 : 13 + pl ≤ t ∧ t < 12 + N 3
      · rw [if_pos c1]; exact w10 (t + 1) (by omega)
      · rw [if_neg c1]; split <;> omega
theorem WN.h2 {v : Nat} (h : WN nj J N) (hv : v ≤ 1) : WN nj J (upN N 2 v) := by
  obtain ⟨w1, w2, w3, w4, w5, w6, w7, w8, w9, w10⟩ := h
  have e : ∀ d, ¬ d = 2 → upN N 2 v d = N d := fun d hd => upN_n hd
  refine ⟨?_, ?_, ?_, fun t ht => ?_, fun t ht => ?_, fun t ht => ?_, fun a b ha hb => ?_, fun t ht => ?_, fun t ht => ?_, fun t ht => ?_⟩
  · rw [e 1 (by omega)]; exact w1
  · rw [upN_s]; exact hv
  · rw [e 3 (by omega)]; exact w3
  · rw [e _ (by omega)]; exact w4 t ht
  · rw [e _ (by omega)]; exact w5 t ht
  · rw [e 3 (by omega)] at ht; rw [e _ (by omega)]; exact w6 t ht
  · rw [e 3 (by omega)] at ha hb; rw [e _ (by omega), e _ (by omega)]; exact w7 a b ha hb
  · rw [e _ (by omega)]; exact w8 t ht
  · rw [e 3 (by omega)] at ht; rw [e (13 + t) (by omega), e _ (by omega)]; exact w9 t ht
  · by_cases h0 : t = 2
    · subst h0; rw [upN_s]; omega
    · rw [e _ h0]; exact w10 t ht
theorem WN.lv (h : WN nj J N) (h6 : nj ≤ 6) (hpl : pl < N 3) : WN nj J (lvN N pl) := by
  obtain ⟨w1, w2, w3, w4, w5, w6, w7, w8, w9, w10⟩ := h
  exact wn_lv h6 hpl w1 w2 w3 w4 w5 w6 w7 w8 (fun k hk _ => w9 k hk) w10
theorem WN.hl (h : WN nj J N) (h6 : nj ≤ 6) (hpl : pl < N 3) : WN nj J (lvN (hfN N pl) pl) := by
  unfold hfN
  split
  · exact (h.h2 (by omega)).lv h6 (by rw [upN_n (by omega)]; exact hpl)
  · exact h.lv h6 hpl
theorem wn_br (hB : JB nj nb J) (hw : WN nj J N) (h3 : 0 < N 3) (hst : stn nb J N = 0) : WN nj J (if N (19 + N 13) + 1 = al J (N 13) then lvN (upN (brN nb J N) (25 + N 13) (N 0)) 0 else brN nb J N) := by
  obtain ⟨w1, w2, w3, w4, w5, w6, w7, w8, w9, w10⟩ := id hw
  have h6 := hB.1
  have hj := w6 0 (by omega)
  have hk9 := w9 0 (by omega)
  rw [Nat.add_zero] at hj hk9
  obtain ⟨b1, b2, b3, b4, b5, b6, b7⟩ := hB.2.2.2 (N 13) hj
  have hk := w8 (N 13) (by omega)
  have hal := al_in hB hj
  have hbn := bno_lt (j := N 13) (k := N (19 + N 13)) hB
  have hnb := hB.2.2.1
  have hsd := sds_in (J := J) (j := N 13) (k := N (19 + N 13))
  have t1 := w4 (J 4 (N 13)) (by omega)
  have t2 := w5 (bno nb J (N 13) (N (19 + N 13))) (by omega)
  have st3 : ¬ N (7 + bno nb J (N 13) (N (19 + N 13))) = 20 := by
    intro q
    unfold stn at hst
    rw [if_neg (by omega)] at hst
    by_cases q1 : N (4 + J 4 (N 13)) = 0
    · rw [if_pos q1] at hst; omega
    · by_cases q2 : N 1 < sds J (N 13) (N (19 + N 13))
      · rw [if_neg q1, if_pos q2] at hst; omega
      · rw [if_neg q1, if_neg q2, if_pos q] at hst; omega
  have eB : ∀ d, ¬ d = 1 → ¬ d = 2 → ¬ (4 ≤ d ∧ d < 13) → ¬ d = 19 + N 13 → brN nb J N d = N d := fun d h1 h2 h4 h5 => by
    unfold brN; rw [upN_n h5, upN_n (by omega), upN_n h1, upN_n (by omega), upN_n h2]
  have B1 : brN nb J N 1 ≤ 999 := by
    unfold brN; rw [upN_n (by omega), upN_n (by omega), upN_s]; omega
  have B2 : brN nb J N 2 ≤ 1 := by
    unfold brN; rw [upN_n (by omega), upN_n (by omega), upN_n (by omega), upN_n (by omega), upN_s]; omega
  have B4 : ∀ t, t < 3 → brN nb J N (4 + t) ≤ 99 := fun t ht => by
    have := w4 t ht
    unfold brN; rw [upN_n (by omega), upN_n (by omega), upN_n (by omega)]
    by_cases c : t = J 4 (N 13)
    · rw [c, upN_s, ← c]; omega
    · rw [upN_n (by omega), upN_n (by omega)]; omega
  have B5 : ∀ t, t < 6 → brN nb J N (7 + t) ≤ 20 := fun t ht => by
    have := w5 t ht
    unfold brN; rw [upN_n (by omega)]
    by_cases c : t = bno nb J (N 13) (N (19 + N 13))
    · rw [← c, upN_s]; rw [← c] at st3; omega
    · rw [upN_n (by omega), upN_n (by omega), upN_n (by omega), upN_n (by omega)]; omega
  have B8 : ∀ t, t < 6 → brN nb J N (19 + t) ≤ 81 := fun t ht => by
    by_cases c : t = N 13
    · rw [c]; unfold brN; rw [upN_s]; omega
    · rw [eB _ (by omega) (by omega) (by omega) (by omega)]; exact w8 t ht
  have B10 : ∀ e, e < 31 → brN nb J N e < 65536 := fun e he => by
    unfold brN upN
    have := w10 e he; have := w10 0 (by omega)
    repeat' split
    all_goals omega
  by_cases hA : N (19 + N 13) + 1 = al J (N 13)
  · rw [if_pos hA]
    have eU : ∀ d, ¬ d = 25 + N 13 → upN (brN nb J N) (25 + N 13) (N 0) d = brN nb J N d := fun d hd => upN_n hd
    have e3 : upN (brN nb J N) (25 + N 13) (N 0) 3 = N 3 := by rw [eU 3 (by omega), eB 3 (by omega) (by omega) (by omega) (by omega)]
    have eQ : ∀ k, k < N 3 → upN (brN nb J N) (25 + N 13) (N 0) (13 + k) = N (13 + k) := fun k hk => by rw [eU _ (by omega), eB _ (by omega) (by omega) (by omega) (by omega)]
    refine wn_lv h6 (by rw [e3]; omega) ?_ ?_ ?_ (fun t ht => ?_) (fun t ht => ?_) (fun t ht => ?_) (fun a b ha hb hab => ?_) (fun t ht => ?_) (fun t ht hne => ?_) (fun t ht => ?_)
    · rw [eU _ (by omega)]; exact B1
    · rw [eU _ (by omega)]; exact B2
    · rw [e3]; exact w3
    · rw [eU _ (by omega)]; exact B4 t ht
    · rw [eU _ (by omega)]; exact B5 t ht
    · rw [e3] at ht; rw [eQ t ht]; exact w6 t ht
    · rw [e3] at ha hb; rw [eQ a ha, eQ b hb] at hab; exact w7 a b ha hb hab
    · rw [eU _ (by omega)]; exact B8 t ht
    · rw [e3] at ht
      have h9 := w6 t ht
      have hd : ¬ N (13 + t) = N 13 := fun q => hne (w7 t 0 ht (by omega) q)
      rw [eQ t ht, eU _ (by omega), eB _ (by omega) (by omega) (by omega) (by omega)]; exact w9 t ht
    · by_cases c : t = 25 + N 13
      · rw [c, upN_s]; exact w10 0 (by omega)
      · rw [eU _ c]; exact B10 t ht
  · rw [if_neg hA]
    have e3 : brN nb J N 3 = N 3 := eB 3 (by omega) (by omega) (by omega) (by omega)
    have eQ : ∀ k, k < N 3 → brN nb J N (13 + k) = N (13 + k) := fun k hk => eB _ (by omega) (by omega) (by omega) (by omega)
    refine ⟨B1, B2, by rw [e3]; exact w3, B4, B5, fun t ht => ?_, fun a b ha hb hab => ?_, B8, fun t ht => ?_, B10⟩
    · rw [e3] at ht; rw [eQ t ht]; exact w6 t ht
    · rw [e3] at ha hb; rw [eQ a ha, eQ b hb] at hab; exact w7 a b ha hb hab
    · rw [e3] at ht
      have h9 := w6 t ht
      rw [eQ t ht]
      by_cases c : N (13 + t) = N 13
      · rw [c]; unfold brN; rw [upN_s]; omega
      · rw [eB _ (by omega) (by omega) (by omega) (by omega)]; exact w9 t ht
theorem tk_form (hB : JB nj nb J) (hw : WN nj J N) (ht : N 0 < 60000) : WN nj J (tkN nb J N).2 ∧ (tkN nb J N).1 ≤ 1 ∧ (tkN nb J N).2 0 = N 0 + 1 := by
  unfold tkN
  have hw1 := hw.t0 (v := N 0 + 1) (by omega)
  have e0 : upN N 0 (N 0 + 1) 0 = N 0 + 1 := upN_s _ _ _
  generalize upN N 0 (N 0 + 1) = N1 at hw1 e0 ⊢
  unfold tkN1
  by_cases h3 : N1 3 = 0
  · rw [if_pos h3]; exact ⟨hw1, by omega, e0⟩
  · rw [if_neg h3]
    by_cases hs : stn nb J N1 = 0
    · have w3 := hw1.2.2.1
      have h6 := hB.1
      rw [if_neg (c := ¬ stn nb J N1 = 0) (by omega)]
      by_cases h2 : sds J (N1 13) (N1 (19 + N1 13)) = 2 ∧ N1 2 = 0
      · rw [if_pos h2]; exact ⟨hw1.h2 (by omega), by omega, by show upN N1 2 1 0 = _; rw [upN_n (by omega)]; exact e0⟩
      · rw [if_neg h2]
        have hb := wn_br hB hw1 (by omega) hs
        have eb : brN nb J N1 0 = N1 0 := by unfold brN; rw [upN_n (by omega), upN_n (by omega), upN_n (by omega), upN_n (by omega), upN_n (by omega)]
        by_cases hA : N1 (19 + N1 13) + 1 = al J (N1 13)
        · rw [if_pos hA] at hb ⊢
          refine ⟨hb, by omega, ?_⟩
          show lvN _ 0 0 = _
          have e3 : upN (brN nb J N1) (25 + N1 13) (N1 0) 3 = N1 3 := by
            have := hw1.2.2.2.2.2.1 0 (by omega)
            rw [Nat.add_zero] at this
            rw [upN_n (by omega)]; unfold brN; rw [upN_n (by omega), upN_n (by omega), upN_n (by omega), upN_n (by omega), upN_n (by omega)]
          rw [lvN_lo (by omega) (by omega) (by rw [e3]; omega), upN_n (by omega), eb, e0]
        · rw [if_neg hA] at hb ⊢; exact ⟨hb, by omega, eb.trans e0⟩
    · rw [if_pos hs]; exact ⟨hw1, by omega, e0⟩
end WFN
