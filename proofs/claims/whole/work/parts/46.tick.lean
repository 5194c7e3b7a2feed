/-! a tick -/
/-- the first job's next sheet comes -/
def brN (nb : Nat) (J : Nat → Nat → Nat) (N : Nat → Nat) : Nat → Nat := upN (upN (upN (upN (upN N 2 0) (4 + J 4 (N 13)) (N (4 + J 4 (N 13)) - 1)) 1 (N 1 - sds J (N 13) (N (19 + N 13)))) (7 + bno nb J (N 13) (N (19 + N 13))) (N (7 + bno nb J (N 13) (N (19 + N 13))) + 1)) (19 + N 13) (N (19 + N 13) + 1)
def tkN1 (nb : Nat) (J : Nat → Nat → Nat) (N : Nat → Nat) : Nat × (Nat → Nat) :=
  if N 3 = 0 then (0, N) else if ¬ stn nb J N = 0 then (0, N) else if sds J (N 13) (N (19 + N 13)) = 2 ∧ N 2 = 0 then (0, upN N 2 1) else if N (19 + N 13) + 1 = al J (N 13) then (1, lvN (upN (brN nb J N) (25 + N 13) (N 0)) 0) else (1, brN nb J N)
def tkN (nb : Nat) (J : Nat → Nat → Nat) (N : Nat → Nat) : Nat × (Nat → Nat) := tkN1 nb J (upN N 0 (N 0 + 1))
section TICK
variable {x m : zG} {i p nj nb j : Nat} {J : Nat → Nat → Nat} {N : Nat → Nat}
theorem WN.t0 {v : Nat} (h : WN nj J N) (hv : v < 65536) : WN nj J (upN N 0 v) := by
  obtain ⟨w1, w2, w3, w4, w5, w6, w7, w8, w9, w10⟩ := h
  have e : ∀ d, ¬ d = 0 → upN N 0 v d = N d := fun d hd => upN_n hd
  refine ⟨?_, ?_, ?_, fun t ht => ?_, fun t ht => ?_, fun t ht => ?_, fun a b ha hb => ?_, fun t ht => ?_, fun t ht => ?_, fun t ht => ?_⟩
  · rw [e 1 (by omega)]; exact w1
  · rw [e 2 (by omega)]; exact w2
  · rw [e 3 (by omega)]; exact w3
  · rw [e _ (by omega)]; exact w4 t ht
  · rw [e _ (by omega)]; exact w5 t ht
  · rw [e 3 (by omega)] at ht; rw [e _ (by omega)]; exact w6 t ht
  · rw [e 3 (by omega)] at ha hb; rw [e _ (by omega), e _ (by omega)]; exact w7 a b ha hb
  · rw [e _ (by omega)]; exact w8 t ht
  · rw [e 3 (by omega)] at ht; rw [e (13 + t) (by omega), e _ (by omega)]; exact w9 t ht
  · by_cases h0 : t = 0
    · subst h0; rw [upN_s]; exact hv
    · rw [e _ h0]; exact w10 t ht
theorem m_bring (hB : JB nj nb J) (hM : JM m nj nb J) (hS : SM m 105 0 N) (hw : WN nj J N) (h3 : 0 < N 3) (hst : stn nb J N = 0) : ∃ m', m_X7_oneTick_B76 m (nI (N 13)) (nI (N (19 + N 13))) (nI (sds J (N 13) (N (19 + N 13)))) = some (nI 1, m') ∧ SM m' 105 0 (if N (19 + N 13) + 1 = al J (N 13) then lvN (upN (brN nb J N) (25 + N 13) (N 0)) 0 else brN nb J N) ∧ Fr P105 m m' := by
  obtain ⟨w1, w2, w3, w4, w5, w6, w7, w8, w9, w10⟩ := id hw
  have h6 := hB.1
  have hj := w6 0 (by omega)
  have hk9 := w9 0 (by omega)
  rw [Nat.add_zero] at hj hk9
  obtain ⟨b1, b2, b3, b4, b5, b6, b7⟩ := hB.2.2.2 (N 13) hj
  obtain ⟨a1, a2, a3, a4, a5⟩ := hM.2.2 (N 13) hj
  have hk := w8 (N 13) (by omega)
  have hbn := bno_lt (j := N 13) (k := N (19 + N 13)) hB
  have hnb := hB.2.2.1
  have hsd := sds_in (J := J) (j := N 13) (k := N (19 + N 13))
  have hal := al_in hB hj
  have t1 := w4 (J 4 (N 13)) (by omega)
  have t2 := w5 (bno nb J (N 13) (N (19 + N 13))) (by omega)
  have st1 : ¬ N (4 + J 4 (N 13)) = 0 ∧ ¬ N 1 < sds J (N 13) (N (19 + N 13)) := by
    unfold stn at hst
    rw [if_neg (by omega)] at hst
    constructor
    · intro q; rw [if_pos q] at hst; omega
    · intro q
      by_cases q2 : N (4 + J 4 (N 13)) = 0
      · rw [if_pos q2] at hst; omega
      · rw [if_neg q2, if_pos q] at hst; omega
  unfold m_X7_oneTick_B76
  rw [n_cl (a := 2) (by omega), gd_inb (by omega) (by omega), bd_e]
  have S1 := hS.up0 (e := 2) (v := 0)
  have F1 : Fr P105 m (ui m 105 0 2 (nI 0)) := Fr.rf.ui rfl
  generalize ui m 105 0 2 (nI 0) = g1 at S1 F1 ⊢
  rw [gd_inb (by omega) (by omega), n_cl (a := N 13) (by omega), F1.1 104 0 _ (by unfold P105; omega), a5, n_add, gd_inb (by omega) (by omega), gd_inb (by omega) (by omega), n_cl (a := 4 + J 4 (N 13)) (by omega), S1.z (by omega), upN_n (by omega), n_sub (by omega), bd_e]
  have S2 := S1.up0 (e := 4 + J 4 (N 13)) (v := N (4 + J 4 (N 13)) - 1)
  have F2 : Fr P105 m (ui g1 105 0 (4 + J 4 (N 13)) (nI (N (4 + J 4 (N 13)) - 1))) := F1.ui rfl
  generalize ui g1 105 0 (4 + J 4 (N 13)) (nI (N (4 + J 4 (N 13)) - 1)) = g2 at S2 F2 ⊢
  rw [gd_inb (by omega) (by omega), gd_inb (by omega) (by omega), n_cl (a := 1) (by omega), S2.z (by omega), upN_n (by omega), upN_n (by omega), n_sub (by omega), bd_e]
  have S3 := S2.up0 (e := 1) (v := N 1 - sds J (N 13) (N (19 + N 13)))
  have F3 : Fr P105 m (ui g2 105 0 1 (nI (N 1 - sds J (N 13) (N (19 + N 13))))) := F2.ui rfl
  generalize ui g2 105 0 1 (nI (N 1 - sds J (N 13) (N (19 + N 13)))) = g3 at S3 F3 ⊢
  rw [m_bin hB (hM.fr F3 (fun f hf => by unfold P105; omega)) hj (by omega), bi_e, n_add, gd_inb (by omega) (by omega), gd_inb (by omega) (by omega), n_cl (a := 7 + bno nb J (N 13) (N (19 + N 13))) (by omega), S3.z (by omega), upN_n (by omega), upN_n (by omega), upN_n (by omega), n_add, bd_e]
  have S4 := S3.up0 (e := 7 + bno nb J (N 13) (N (19 + N 13))) (v := N (7 + bno nb J (N 13) (N (19 + N 13))) + 1)
  have F4 : Fr P105 m (ui g3 105 0 (7 + bno nb J (N 13) (N (19 + N 13))) (nI (N (7 + bno nb J (N 13) (N (19 + N 13))) + 1))) := F3.ui rfl
  generalize ui g3 105 0 (7 + bno nb J (N 13) (N (19 + N 13))) (nI (N (7 + bno nb J (N 13) (N (19 + N 13))) + 1)) = g4 at S4 F4 ⊢
  rw [n_add, gd_inb (by omega) (by omega), gd_inb (by omega) (by omega), n_cl (a := 19 + N 13) (by omega), S4.z (by omega), upN_n (by omega), upN_n (by omega), upN_n (by omega), upN_n (by omega), n_add, bd_e]
  have S5 := S4.up0 (e := 19 + N 13) (v := N (19 + N 13) + 1)
  have F5 : Fr P105 m (ui g4 105 0 (19 + N 13) (nI (N (19 + N 13) + 1))) := F4.ui rfl
  have S5 : SM (ui g4 105 0 (19 + N 13) (nI (N (19 + N 13) + 1))) 105 0 (brN nb J N) := S5
  generalize ui g4 105 0 (19 + N 13) (nI (N (19 + N 13) + 1)) = g5 at S5 F5 ⊢
  have e19 : brN nb J N (19 + N 13) = N (19 + N 13) + 1 := upN_s _ _ _
  have eB : ∀ d, ¬ d = 1 → ¬ d = 2 → ¬ (4 ≤ d ∧ d < 13) → ¬ d = 19 + N 13 → brN nb J N d = N d := fun d h1 h2 h4 h5 => by
    unfold brN; rw [upN_n h5, upN_n (by omega), upN_n h1, upN_n (by omega), upN_n h2]
  rw [m_all hB (hM.fr F5 (fun f hf => by unfold P105; omega)) hj, bi_e, gd_inb (by omega) (by omega), S5.z (by omega), e19]
  by_cases hA : N (19 + N 13) + 1 = al J (N 13)
  · rw [eq_t hA, if_pos hA, n_cl (a := 0) (by omega), gd_inb (by omega) (by omega), n_add, gd_inb (by omega) (by omega), n_cl (a := 25 + N 13) (by omega), S5.z (by omega), eB 0 (by omega) (by omega) (by omega) (by omega), bd_e]
    have S6 := S5.up0 (e := 25 + N 13) (v := N 0)
    have F6 : Fr P105 m (ui g5 105 0 (25 + N 13) (nI (N 0))) := F5.ui rfl
    generalize ui g5 105 0 (25 + N 13) (nI (N 0)) = g6 at S6 F6 ⊢
    have e3 : upN (brN nb J N) (25 + N 13) (N 0) 3 = N 3 := by rw [upN_n (by omega), eB 3 (by omega) (by omega) (by omega) (by omega)]
    obtain ⟨m', e1, e2, e4⟩ := m_leave (pl := 0) S6 (by rw [e3]; omega) (by rw [e3]; omega) (fun e he => by
      unfold brN upN
      have := w10 e he; have := w10 0 (by omega)
      repeat (first | omega | split))
    rw [e1, bi_e]
    exact ⟨m', rfl, e2, F6.tr e4⟩
  · rw [eq_f (by omega) (by omega) hA, if_neg hA]
    exact ⟨g5, rfl, S5, F5⟩
theorem m_tick (hB : JB nj nb J) (hM : JM m nj nb J) (hS : SM m 105 0 N) (hw : WN nj J N) (ht : N 0 < 60000) : ∃ m', m_X7_oneTick m = some (nI (tkN nb J N).1, m') ∧ SM m' 105 0 (tkN nb J N).2 ∧ Fr P105 m m' := by
  unfold m_X7_oneTick tkN
  rw [n_cl (a := 0) (by omega), gd_inb (by omega) (by omega), gd_inb (by omega) (by omega), hS.z (by omega), n_add, bd_e]
  have S1 := hS.up0 (e := 0) (v := N 0 + 1)
  have F1 : Fr P105 m (ui m 105 0 0 (nI (N 0 + 1))) := Fr.rf.ui rfl
  have hw1 := hw.t0 (v := N 0 + 1) (by omega)
  generalize ui m 105 0 0 (nI (N 0 + 1)) = g1 at S1 F1 ⊢
  generalize hN1 : upN N 0 (N 0 + 1) = N1 at S1 hw1 ⊢
  have hM1 : JM g1 nj nb J := hM.fr F1 (fun f hf => by unfold P105; omega)
  obtain ⟨w1, w2, w3, w4, w5, w6, w7, w8, w9, w10⟩ := id hw1
  have h6 := hB.1
  unfold tkN1
  rw [n_cl (a := 3) (by omega), gd_inb (by omega) (by omega), S1.z (by omega)]
  by_cases h3 : N1 3 = 0
  · rw [eq_t h3, if_pos h3]; exact ⟨g1, rfl, S1, F1⟩
  · rw [eq_f (by omega) (by omega) h3, if_neg h3, m_stands hB hM1 S1 hw1, bi_e]
    have hsl := stn_le (nb := nb) (J := J) (N := N1)
    by_cases hs : stn nb J N1 = 0
    · have hj := w6 0 (by omega)
      rw [Nat.add_zero] at hj
      have hk := w8 (N1 13) (by omega)
      have hsd := sds_in (J := J) (j := N1 13) (k := N1 (19 + N1 13))
      rw [lt_f (by omega) (by omega), if_neg (by omega), n_cl (a := 13) (by omega), gd_inb (by omega) (by omega), S1.z (by omega), bd_e, n_add, gd_inb (by omega) (by omega), n_cl (a := 19 + N1 13) (by omega), S1.z (by omega), bd_e, m_sides hB hM1 hj (by omega), bi_e]
      obtain ⟨m', e1, e2, e3⟩ := m_bring hB hM1 S1 hw1 (by omega) hs
      have fin : (if N1 (19 + N1 13) + 1 = al J (N1 13) then ((1, lvN (upN (brN nb J N1) (25 + N1 13) (N1 0)) 0) : Nat × (Nat → Nat)) else (1, brN nb J N1)) = (1, if N1 (19 + N1 13) + 1 = al J (N1 13) then lvN (upN (brN nb J N1) (25 + N1 13) (N1 0)) 0 else brN nb J N1) := by split <;> rfl
      by_cases h2 : sds J (N1 13) (N1 (19 + N1 13)) = 2
      · rw [eq_t h2, n_cl (a := 2) (by omega), gd_inb (by omega) (by omega), S1.z (by omega)]
        by_cases hh : N1 2 = 0
        · rw [eq_t hh, if_pos ⟨h2, hh⟩, gd_inb (by omega) (by omega), bd_e]
          exact ⟨_, rfl, S1.up0, F1.ui rfl⟩
        · rw [eq_f (by omega) (by omega) hh, if_neg (fun q => hh q.2), fin]
          exact ⟨m', e1, e2, F1.tr e3⟩
      · rw [eq_f (by omega) (by omega) h2, if_neg (fun q => h2 q.1), fin]
        exact ⟨m', e1, e2, F1.tr e3⟩
    · rw [lt_t (by omega) (by omega), if_pos hs]; exact ⟨g1, rfl, S1, F1⟩
end TICK
