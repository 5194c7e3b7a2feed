/-! ticks, breaks, ahead, keep, back -/
section CALLS56
variable {x m : zG} {p nj nb un : Nat} {J : Nat → Nat → Nat} {N : Nat → Nat} {U : Nat → Nat → Nat}
/-- ticks, one behind the other -/
theorem tks_L {n0 : Nat} (hB : JB nj nb J) (hp : p < 2) (hn : n0 < 1000) : ∀ (c f k r : Nat) (x m : zG) (N : Nat → Nat), k + c = n0 → c < f → r ≤ k → gn x 0 = p → JX x p nj nb J → JM m nj nb J → SX x 0 N → SM m 105 0 N → WN nj J N → N 0 + c < 50000 → ∃ r' x' m' N', m_X6_ticks_L45 (nI n0) f x (nI r) (nI k) = some (nI r', x') ∧ m_X7_ticks_L39 (nI n0) f m (nI r) (nI k) = some (nI r', m') ∧ SX x' 0 N' ∧ SM m' 105 0 N' ∧ WN nj J N' ∧ N' 0 = N 0 + c ∧ Fr (PNow 0) x x' ∧ Fr P105 m m' := by
  intro c
  induction c with
  | zero =>
    intro f k r x m N hk hf hr hg hX hM hS hT hw h0
    obtain ⟨f, rfl⟩ : ∃ f', f = f' + 1 := ⟨f - 1, by omega⟩
    unfold m_X6_ticks_L45 m_X7_ticks_L39
    rw [lt_f (by omega) (by omega), lt_f (by omega) (by omega)]
    exact ⟨r, x, m, N, rfl, rfl, hS, hT, hw, by omega, Fr.rf, Fr.rf⟩
  | succ c ih =>
    intro f k r x m N hk hf hr hg hX hM hS hT hw h0
    obtain ⟨f, rfl⟩ : ∃ f', f = f' + 1 := ⟨f - 1, by omega⟩
    unfold m_X6_ticks_L45 m_X7_ticks_L39 m_X6_ticks_B70
    obtain ⟨x1, a1, a2, a3⟩ := x_tick hB hX hS hw hp (by omega)
    obtain ⟨m1, b1, b2, b3⟩ := m_tick hB hM hT hw (by omega)
    obtain ⟨f1, f2, f3⟩ := tk_form (nb := nb) hB hw (by omega)
    rw [lt_t (by omega) (by omega), lt_t (by omega) (by omega), hg, gd_73 hp, a1, b1, sb_e, sb_e, n_add k 1, n_add r (tkN nb J N).1]
    have hX1 : JX x1 p nj nb J := hX.fr a3 (fun f a h1 h2 => PNow_far h1)
    have hM1 : JM m1 nj nb J := hM.fr b3 (fun f hf => by unfold P105; omega)
    have hg1 : gn x1 0 = p := by rw [a3.2.2]; exact hg
    obtain ⟨r', x', m', N', c1, c2, c3, c4, c5, c6, c7, c8⟩ := ih f (k + 1) (r + (tkN nb J N).1) x1 m1 _ (by omega) (by omega) (by omega) hg1 hX1 hM1 a2 b2 f1 (by omega)
    refine ⟨r', x', m', N', ?_, c2, c3, c4, c5, by omega, a3.tr c7, b3.tr c8⟩
    by_cases h : (tkN nb J N).1 = 0
    · rw [eq_t h]; rw [h] at c1; exact c1
    · have h1 : (tkN nb J N).1 = 1 := by omega
      rw [eq_f (by omega) (by omega) h, n_add r 1]; rw [h1] at c1; exact c1
theorem s_ticks (hR : Rl x m) (a : Int32) : Sm (m_X6_ticks x a) (m_X7_ticks m a) := by
  obtain ⟨p, nj, nb, J, N, un, U, tl, tx, sn, sv, hP, hC, hI, hT, hS, ht⟩ := id hR
  obtain ⟨hp, hg, -, hB, hX, hM⟩ := id hP
  have e20 : (20 : Int64).toInt = 20 := rfl
  have h0 := hC.2.2.2.2.1
  unfold m_X6_ticks m_X7_ticks
  by_cases q1 : a.toInt < 1
  · rw [il_t (by omega) (by omega), m_in_f (Or.inl (by rw [l1]; omega)), bi_e, eq_t rfl]; exact ⟨_, x, m, rfl, rfl, hR⟩
  rw [il_f (by omega) (by omega)]
  by_cases q2 : 20 < a.toInt
  · rw [ir_t (by omega) (by omega), m_in_f (Or.inr (by rw [e20]; omega)), bi_e, eq_t rfl]; exact ⟨_, x, m, rfl, rfl, hR⟩
  rw [ir_f (by omega) (by omega), mi_t (by rw [l1]; omega) (by rw [e20]; omega), bi_e, eq_f (by omega) (by omega) (by omega)]
  obtain ⟨n, -, rfl, hn⟩ := n_of (a := a) (by omega)
  rw [hC.1.1.1, gd_inb (by omega) (by omega), n_cl (a := 0) (by omega), hC.2.1.1.z (by omega), n_add]
  by_cases hf : 9999 < N 0 + n
  · rw [lt_t (by omega) hf, lt_t (by omega) hf]; exact ⟨_, x, m, rfl, rfl, hR⟩
  · rw [lt_f (by omega) (by omega), lt_f (by omega) (by omega)]
    obtain ⟨x1, m1, e1, e2, e3, e4, e5⟩ := both_note hP hC
    rw [e1, e2, bi_e, bi_e]
    have hX1 : JX x1 p nj nb J := hX.fr e4 (fun f i h1 h2 q => by rcases q with q | q <;> omega)
    have hM1 : JM m1 nj nb J := hM.fr e5 (fun f hf => by unfold PUn; omega)
    obtain ⟨r', x', m', N', c1, c2, c3, c4, c5, c6, c7, c8⟩ := tks_L (n0 := n) hB hp (by omega) n FU 0 0 x1 m1 N (by omega) (by show _ < 1000; omega) (by omega) (by rw [e4.2.2]; exact hg) hX1 hM1 e3.1.1 e3.2.1.1 hC.2.2.2.1 (by omega)
    rw [c1, c2]
    exact ⟨_, _, _, rfl, rfl, Rl.course hP hI hT hS ht (e4.tr (c7.wk (fun f a h => PNow0_PCo h))) ((e5.wk (fun f a h => PUn_PCm h)).tr (c8.wk (fun f a h => P105_PCm h))) (e3.snap c7 c8 c3 c4 c5 (by omega))⟩
theorem s_breaks (hR : Rl x m) (a : Int32) : Sm (m_X6_breaks x a) (m_X7_breaks m a) := by
  obtain ⟨p, nj, nb, J, N, un, U, tl, tx, sn, sv, hP, hC, hI, hT, hS, ht⟩ := id hR
  obtain ⟨hp, hg, -, hB, hX, hM⟩ := id hP
  have hw := hC.2.2.2.1
  obtain ⟨w1, w2, w3, w4, w5, w6, w7, w8, w9, w10⟩ := id hw
  have h6 := hB.1
  unfold m_X6_breaks m_X7_breaks
  rw [hg, gd_73 hp]
  rcases job_arg hB hX hM a with ⟨j, hj, rfl⟩ | ⟨h1, h2⟩
  · rw [x_jobAt hB hX hj, m_isJob hB hM hj, bi_e, bi_e, oc_s, gd_71 (by omega), eq_f (by omega) (by omega) (by omega)]
    rw [x_place hC.1.1 (by omega) (fun k hk => w10 _ (by omega)) (by omega), m_place hC.2.1.1 (by omega) (fun k hk => w10 _ (by omega)) (by omega), bi_e, bi_e]
    cases hpl : plc N j with
    | none => rw [e9_n, eq9_t, lt90_t]; exact ⟨_, x, m, rfl, rfl, hR⟩
    | some pl =>
      obtain ⟨p1, p2⟩ := plc_s hpl
      rw [e9_s, eq9_f (by omega), lt_f (by omega) (by omega)]
      obtain ⟨x1, m1, e1, e2, e3, e4, e5⟩ := both_note hP hC
      obtain ⟨x2, a1, a2, a3⟩ := x_leave e3.1.1 (by omega) w10 (by omega) hpl
      obtain ⟨m2, b1, b2, b3⟩ := m_leave e3.2.1.1 (by omega) p1 w10
      rw [e1, e2, bi_e, bi_e, a1, b1, bi_e, bi_e, a2.2.2.2.1]
      have hw2 := hw.hl h6 p1
      have hl3 : lvN (hfN N pl) pl 3 = N 3 - 1 := by rw [lvN_3]; unfold hfN; split <;> simp [upN]
      have h00 : lvN (hfN N pl) pl 0 = N 0 := by
        have e3' : hfN N pl 3 = N 3 := by unfold hfN; split <;> simp [upN]
        rw [lvN_lo (by omega) (by omega) (by rw [e3']; omega)]; unfold hfN; split <;> simp [upN]
      have key : ∀ m3, Fr P105 m2 m3 → SM m3 105 0 (lvN (hfN N pl) pl) → Rl x2 m3 := fun m3 F S3 =>
        Rl.course hP hI hT hS ht (e4.tr (a3.wk (fun f a h => PNow0_PCo h))) ((e5.wk (fun f a h => PUn_PCm h)).tr ((b3.tr F).wk (fun f a h => P105_PCm h))) (e3.snap a3 (b3.tr F) a2 S3 hw2 (by rw [h00]; exact hC.2.2.2.2.1))
      by_cases hp0 : pl = 0
      · have S3 : SM (ui m2 105 0 2 (nI 0)) 105 0 (lvN (hfN N pl) pl) := (b2.up0 (e := 2) (v := 0)).cg (fun e he => by
          subst hp0
          unfold hfN
          rw [if_pos rfl]
          unfold upN lvN
          by_cases q : e = 2
          · subst q; simp
          · simp only [q, if_false]
            by_cases q3 : e = 3
            · subst q3; simp
            · simp only [q3, if_false]
              have e32 : (if (3 : Nat) = 2 then 0 else N 3) = N 3 := rfl
              rw [e32]
              by_cases q4 : 13 + 0 ≤ e ∧ e < 12 + N 3
              · rw [if_pos q4, if_pos q4, if_neg (by omega)]
              · rw [if_neg q4, if_neg q4])
        rw [eq_t hp0, gd_inb (by omega) (by omega), n_cl (a := 2) (by omega), bd_e, gd_inb (by omega) (by omega), n_cl (a := 3) (by omega), S3.z (by omega)]
        exact ⟨_, _, _, rfl, rfl, key _ (Fr.rf.ui rfl) S3⟩
      · have eh : hfN N pl = N := by unfold hfN; rw [if_neg hp0]
        have S3 : SM (ui m2 105 0 2 (gi m2 105 0 2)) 105 0 (lvN (hfN N pl) pl) := by
          rw [eh, b2.z (by omega)]
          exact (b2.up0 (e := 2)).cg (fun e he => by unfold upN; split <;> simp_all)
        rw [eq_f (by omega) (by omega) hp0, gd_inb (by omega) (by omega), gd_inb (by omega) (by omega), n_cl (a := 2) (by omega), bd_e, gd_inb (by omega) (by omega), n_cl (a := 3) (by omega), S3.z (by omega)]
        exact ⟨_, _, _, rfl, rfl, key _ (Fr.rf.ui rfl) S3⟩
  · rw [h1, h2, bi_e, bi_e, oc_n, eq_t rfl]; exact ⟨_, x, m, rfl, rfl, hR⟩
end CALLS56
