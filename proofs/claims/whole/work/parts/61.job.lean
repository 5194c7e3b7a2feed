/-! job -/
def eiN (nb : Nat) (J : Nat → Nat → Nat) (j : Nat) : Nat → Nat → (Nat → Nat) → Option Nat
  | 0, n, N => match plc N j with | none => some n | some _ => none
  | c + 1, n, N => match plc N j with | none => some n | some _ => eiN nb J j c (n + 1) (tkN nb J N).2
section JOB
variable {x m : zG} {i p nj nb j : Nat} {J : Nat → Nat → Nat} {N : Nat → Nat}
theorem eiN_n {c n : Nat} (h : plc N j = none) : eiN nb J j c n N = some n := by
  cases c <;> (unfold eiN; rw [h])
theorem eiN_s {c n k : Nat} (h : plc N j = some k) : eiN nb J j (c + 1) n N = eiN nb J j c (n + 1) (tkN nb J N).2 := by
  rw [eiN, h]
theorem eiN_0 {n k : Nat} (h : plc N j = some k) : eiN nb J j 0 n N = none := by
  rw [eiN, h]
theorem stn_u0 {v : Nat} : stn nb J (upN N 0 v) = stn nb J N := by
  unfold stn
  simp (disch := omega) only [upN_n]
theorem plcF_u0 {v : Nat} : ∀ c k, plcF (upN N 0 v) j c k = plcF N j c k := by
  intro c
  induction c with
  | zero => intro k; rfl
  | succ c ih => intro k; unfold plcF; rw [upN_n (by omega), ih]
theorem plc_u0 {v : Nat} : plc (upN N 0 v) j = plc N j := by
  unfold plc; rw [upN_n (by omega), plcF_u0]
theorem tk_st (h : ¬ stn nb J N = 0) : (tkN nb J N).2 = upN N 0 (N 0 + 1) := by
  unfold tkN tkN1
  rw [stn_u0]
  split
  · rfl
  · rfl
theorem eiN_st {k : Nat} : ∀ (c n : Nat) (N : Nat → Nat), ¬ stn nb J N = 0 → plc N j = some k → eiN nb J j c n N = none := by
  intro c
  induction c with
  | zero => intro n N h1 h2; exact eiN_0 h2
  | succ c ih =>
    intro n N h1 h2
    rw [eiN_s h2, tk_st h1]
    exact ih _ _ (by rw [stn_u0]; exact h1) (by rw [plc_u0]; exact h2)
theorem x_endL (hB : JB nj nb J) (hX : JX x p nj nb J) (hp : p < 2) (hg : gn x 0 = p) (hj : j < nj) : ∀ (c f n k : Nat) (N : Nat → Nat) (g : zG), n + c = 400 → c < f → plc N j = some k → SX g 33 N → WN nj J N → N 0 < 10000 + n → Fr (PNow 33) x g → ∃ g', m_X6_endsIn_L35 (nI j) f g (nI (n + 1)) = some (e9 (eiN nb J j c n N), g') ∧ Fr (PNow 33) x g' := by
  have h6 := hB.1
  intro c
  induction c with
  | zero =>
    intro f n k N g hc hf hk hS hw h0 hF
    obtain ⟨f, rfl⟩ : ∃ f', f = f' + 1 := ⟨f - 1, by omega⟩
    unfold m_X6_endsIn_L35
    rw [lt_t (by omega) (by omega), eiN_0 hk]
    exact ⟨g, rfl, hF⟩
  | succ c ih =>
    intro f n k N g hc hf hk hS hw h0 hF
    obtain ⟨f, rfl⟩ : ∃ f', f = f' + 1 := ⟨f - 1, by omega⟩
    have hX1 : JX g p nj nb J := hX.fr hF (fun f a h1 h2 => PNow_far h1)
    have hg1 : gn g 0 = p := by rw [hF.2.2 0]; exact hg
    have hsl := stn_le (nb := nb) (J := J) (N := N)
    unfold m_X6_endsIn_L35
    rw [lt_f (by omega) (by omega), hg1, gd_73 hp, x_stands hB hX1 hS hw hp, bi_e]
    by_cases hs : stn nb J N = 0
    · obtain ⟨g', e1, e2, e3⟩ := x_tick hB hX1 hS hw hp (by omega)
      obtain ⟨f1, f2, f3⟩ := tk_form hB hw (by omega)
      rw [eq_t hs, gd_73 hp, e1, sb_e, x_place e2 (by have := f1.2.2.1; omega) (fun k hk => f1.2.2.2.2.2.2.2.2.2 _ (by have := f1.2.2.1; omega)) (by omega), bi_e, eiN_s hk]
      cases hq : plc (tkN nb J N).2 j with
      | none => rw [e9_n, eq9_t, eiN_n hq]; exact ⟨g', rfl, hF.tr e3⟩
      | some k' =>
        obtain ⟨p1, p2⟩ := plc_s hq
        have := f1.2.2.1
        rw [e9_s, eq9_f (by omega), n_add]
        exact ih f (n + 1) k' _ g' (by omega) (by omega) hq e2 f1 (by omega) (hF.tr e3)
    · rw [eq_f (by omega) (by omega) hs, eiN_st _ _ _ hs hk]
      exact ⟨g, rfl, hF⟩
theorem m_B65 {g : zG} {n : Nat} (hS : SM g 105 0 N) (hw : WN nj J N) (h6 : nj ≤ 6) (hj : j < nj) : m_X7_inTicks_B65 (nI j) g (nI n) = m_X7_inTicks_B78 (nI j) g (nI n) (match plc N j with | none => nI 1 | some _ => nI 0) := by
  obtain ⟨w1, w2, w3, w4, w5, w6, w7, w8, w9, w10⟩ := hw
  unfold m_X7_inTicks_B65
  rw [m_place hS (by omega) (fun k hk => w10 _ (by omega)) (by omega), bi_e]
  cases hq : plc N j with
  | none => rw [e9_n, lt90_t]
  | some k =>
    obtain ⟨p1, p2⟩ := plc_s hq
    rw [e9_s, lt_f (by omega) (by omega)]
theorem m_endL (hB : JB nj nb J) (hM : JM m nj nb J) (hj : j < nj) : ∀ (c f n : Nat) (N : Nat → Nat) (g : zG), n + c = 400 → c < f → SM g 105 0 N → WN nj J N → N 0 < 10000 + n → Fr P105 m g → ∃ g' r s, m_X7_inTicks_L39 (nI j) f g (nI n) = m_X7_inTicks_B78 (nI j) g' r s ∧ (if s = nI 0 then (-9) else r) = e9 (eiN nb J j c n N) ∧ Fr P105 m g' := by
  have h6 := hB.1
  intro c
  induction c with
  | zero =>
    intro f n N g hc hf hS hw h0 hF
    obtain ⟨f, rfl⟩ : ∃ f', f = f' + 1 := ⟨f - 1, by omega⟩
    obtain ⟨w1, w2, w3, w4, w5, w6, w7, w8, w9, w10⟩ := id hw
    unfold m_X7_inTicks_L39
    rw [m_place hS (by omega) (fun k hk => w10 _ (by omega)) (by omega), bi_e]
    cases hq : plc N j with
    | none =>
      rw [e9_n, lt90_t, m_B65 hS hw h6 hj, hq, eiN_n hq]
      exact ⟨g, nI n, nI 1, rfl, by rw [eq_f (by omega) (by omega) (by omega), e9_s], hF⟩
    | some k =>
      obtain ⟨p1, p2⟩ := plc_s hq
      rw [e9_s, lt_f (by omega) (by omega), lt_f (by omega) (by omega), m_B65 hS hw h6 hj, hq, eiN_0 hq]
      exact ⟨g, nI n, nI 0, rfl, by rw [eq_t rfl, e9_n], hF⟩
  | succ c ih =>
    intro f n N g hc hf hS hw h0 hF
    obtain ⟨f, rfl⟩ : ∃ f', f = f' + 1 := ⟨f - 1, by omega⟩
    obtain ⟨w1, w2, w3, w4, w5, w6, w7, w8, w9, w10⟩ := id hw
    unfold m_X7_inTicks_L39
    rw [m_place hS (by omega) (fun k hk => w10 _ (by omega)) (by omega), bi_e]
    cases hq : plc N j with
    | none =>
      rw [e9_n, lt90_t, m_B65 hS hw h6 hj, hq, eiN_n hq]
      exact ⟨g, nI n, nI 1, rfl, by rw [eq_f (by omega) (by omega) (by omega), e9_s], hF⟩
    | some k =>
      obtain ⟨p1, p2⟩ := plc_s hq
      have hM1 : JM g nj nb J := hM.fr hF (fun f h q => by unfold P105 at q; omega)
      obtain ⟨g', e1, e2, e3⟩ := m_tick hB hM1 hS hw (by omega)
      obtain ⟨f1, f2, f3⟩ := tk_form hB hw (by omega)
      rw [e9_s, lt_f (by omega) (by omega), lt_t (by omega) (by omega), e1, sb_e, n_add, eiN_s hq]
      exact ih f (n + 1) _ g' (by omega) (by omega) e2 f1 (by omega) (hF.tr e3)
theorem m_saveL {g0 : zG} {a : Int32} : ∀ (c f k : Nat), k + c = 31 → c < f → m_X7_inTicks_L13 a f (uo g0 111 0 k (gi g0 105 0)) (nI k) = m_X7_inTicks_L39 a FU (uo g0 111 0 31 (gi g0 105 0)) (nI 0) := by
  intro c
  induction c with
  | zero =>
    intro f k hk hf
    obtain ⟨f, rfl⟩ : ∃ f', f = f' + 1 := ⟨f - 1, by omega⟩
    unfold m_X7_inTicks_L13
    rw [lt_f (by omega) (by omega), show k = 31 by omega]
  | succ c ih =>
    intro f k hk hf
    obtain ⟨f, rfl⟩ : ∃ f', f = f' + 1 := ⟨f - 1, by omega⟩
    unfold m_X7_inTicks_L13
    have e := uo_s g0 111 0 k (gi g0 105 0)
    rw [Nat.zero_add] at e
    rw [lt_t (by omega) (by omega), gd_inb (by omega) (by omega), gd_inb (by omega) (by omega), n_cl (by omega), gi_uo, if_neg (by omega), e, bd_e, n_add]
    exact ih f (k + 1) (by omega) (by omega)
theorem m_restL {g0 : zG} {a r s : Int32} : ∀ (c f k : Nat), k + c = 31 → c < f → m_X7_inTicks_L82 a f (uo g0 105 0 k (gi g0 111 0)) r s (nI k) = m_X7_inTicks_B109 a (uo g0 105 0 31 (gi g0 111 0)) r s := by
  intro c
  induction c with
  | zero =>
    intro f k hk hf
    obtain ⟨f, rfl⟩ : ∃ f', f = f' + 1 := ⟨f - 1, by omega⟩
    unfold m_X7_inTicks_L82
    rw [lt_f (by omega) (by omega), show k = 31 by omega]
  | succ c ih =>
    intro f k hk hf
    obtain ⟨f, rfl⟩ : ∃ f', f = f' + 1 := ⟨f - 1, by omega⟩
    unfold m_X7_inTicks_L82
    have e := uo_s g0 105 0 k (gi g0 111 0)
    rw [Nat.zero_add] at e
    rw [lt_t (by omega) (by omega), gd_inb (by omega) (by omega), gd_inb (by omega) (by omega), n_cl (by omega), gi_uo, if_neg (by omega), e, bd_e, n_add]
    exact ih f (k + 1) (by omega) (by omega)
def P511 : Nat → Nat → Prop := fun f _ => f = 105 ∨ f = 111
theorem m_ends (hB : JB nj nb J) (hM : JM m nj nb J) (hS : SM m 105 0 N) (hw : WN nj J N) (h0 : N 0 < 10000) (hj : j < nj) {k : Nat} (hk : plc N j = some k) : ∃ m', m_X7_inTicks m (nI j) = some (e9 (eiN nb J j 400 0 N), m') ∧ SM m' 105 0 N ∧ Fr P511 m m' := by
  have h6 := hB.1
  obtain ⟨w1, w2, w3, w4, w5, w6, w7, w8, w9, w10⟩ := id hw
  obtain ⟨p1, p2⟩ := plc_s hk
  unfold m_X7_inTicks
  rw [m_place hS (by omega) (fun k hk => w10 _ (by omega)) (by omega), bi_e, hk, e9_s, lt_f (by omega) (by omega)]
  have s1 := m_saveL (g0 := m) (a := nI j) 31 FU 0 (by omega) (by show _ < 1000; omega)
  rw [uo_0] at s1
  rw [s1]
  have F1 : Fr P511 m (uo m 111 0 31 (gi m 105 0)) := (uo_fr).wk (fun f a h => Or.inr h)
  have S1 : SM (uo m 111 0 31 (gi m 105 0)) 105 0 N := fun e he => by rw [gi_uo, if_neg (by omega)]; exact hS e he
  have A1 : ∀ e, e < 31 → gi (uo m 111 0 31 (gi m 105 0)) 111 0 e = nI (N e) := fun e he => by rw [gi_uo, if_pos ⟨rfl, rfl, by omega, by omega⟩, Nat.sub_zero]; exact hS.z he
  generalize uo m 111 0 31 (gi m 105 0) = g1 at F1 S1 A1 ⊢
  have hM1 : JM g1 nj nb J := hM.fr F1 (fun f h q => by unfold P511 at q; omega)
  obtain ⟨g2, r, s, e1, e2, e3⟩ := m_endL hB hM1 hj 400 FU 0 N g1 (by omega) (by show _ < 1000; omega) S1 hw (by omega) Fr.rf
  have s2 := m_restL (g0 := g2) (a := nI j) (r := r) (s := s) 31 FU 0 (by omega) (by show _ < 1000; omega)
  rw [uo_0] at s2
  rw [e1]
  unfold m_X7_inTicks_B78
  rw [s2]
  unfold m_X7_inTicks_B109
  refine ⟨uo g2 105 0 31 (gi g2 111 0), ?_, fun e he => ?_, (F1.tr (e3.wk (fun f a h => Or.inl h))).tr (uo_fr.wk (fun f a h => Or.inl h))⟩
  · rw [← e2]; split <;> rfl
  · rw [gi_uo, if_pos ⟨rfl, rfl, by omega, by omega⟩, Nat.zero_add, Nat.sub_zero, e3.1 111 0 e (by unfold P105; omega)]; exact A1 e he
theorem x_ends (hB : JB nj nb J) (hX : JX x p nj nb J) (hp : p < 2) (hg : gn x 0 = p) (hS : SX x 0 N) (hw : WN nj J N) (h0 : N 0 < 10000) (hj : j < nj) {k : Nat} (hk : plc N j = some k) : ∃ x', m_X6_endsIn x (nI j) = some (e9 (eiN nb J j 400 0 N), x') ∧ Fr (PNow 33) x x' := by
  have h6 := hB.1
  obtain ⟨w1, w2, w3, w4, w5, w6, w7, w8, w9, w10⟩ := id hw
  obtain ⟨p1, p2⟩ := plc_s hk
  unfold m_X6_endsIn
  obtain ⟨x1, e1, e2, e3⟩ := x_copyNow (i0 := 33) hS (hw.sm h6) (by omega)
  rw [x_place hS (by omega) (fun k hk => w10 _ (by omega)) (by omega), bi_e, hk, e9_s, eq9_f (by omega), e1, bi_e]
  exact x_endL hB hX hp hg hj 400 FU 0 k N x1 (by omega) (by show _ < 1000; omega) hk e2 hw (by omega) e3
theorem s_job (hR : Rl x m) (a b : Int32) : Sm (m_X6_job x a b) (m_X7_job m a b) := by
  obtain ⟨p, nj, nb, J, N, un, U, tl, tx, sn, sv, hP, hC, hI, hT, hS, ht⟩ := id hR
  obtain ⟨hp, hg, -, hB, hX, hM⟩ := id hP
  have h6 := hB.1
  have hw := hC.2.2.2.1
  have hc := hC.1.1
  have hm := hC.2.1.1
  obtain ⟨w1, w2, w3, w4, w5, w6, w7, w8, w9, w10⟩ := id hw
  unfold m_X6_job m_X7_job
  rw [hg, gd_73 hp]
  rcases job_arg hB hX hM a with ⟨j, hj, rfl⟩ | ⟨h1, h2⟩
  · rw [x_jobAt hB hX hj, bi_e, oc_s, gd_71 (by omega), m_isJob hB hM hj, bi_e, eq_f (by omega) (by omega) (by omega)]
    obtain ⟨a1, a2, a3, a4, a5, a6, a7⟩ := hX.2.2 j hj
    obtain ⟨b1, b2, b3, b4, b5, b6, b7⟩ := hB.2.2.2 j hj
    obtain ⟨d1, d2, d3, d4, d5⟩ := hM.2.2 j hj
    by_cases q0 : b = nI 0
    · rw [if_pos q0, if_pos q0, a1, gd_inb (by omega) (by omega), n_cl (by omega), d1]; exact ⟨_, _, _, rfl, rfl, hR⟩
    rw [if_neg q0, if_neg q0]
    by_cases q1 : b = nI 1
    · rw [if_pos q1, if_pos q1, a2, gd_inb (by omega) (by omega), n_cl (by omega), d2]; exact ⟨_, _, _, rfl, rfl, hR⟩
    rw [if_neg q1, if_neg q1]
    by_cases q2 : b = nI 2
    · rw [if_pos q2, if_pos q2, a3, gd_inb (by omega) (by omega), n_cl (by omega), d3]
      by_cases c0 : J 2 j = 0
      · rw [eq_t c0, c0]; exact ⟨_, _, _, rfl, rfl, hR⟩
      · rw [eq_f (by omega) (by omega) c0, show J 2 j = 1 by omega]; exact ⟨_, _, _, rfl, rfl, hR⟩
    rw [if_neg q2, if_neg q2]
    by_cases q3 : b = nI 3
    · rw [if_pos q3, if_pos q3, a4, gd_inb (by omega) (by omega), n_cl (by omega), d4]
      by_cases c0 : J 3 j = 0
      · rw [eq_t c0, c0]; exact ⟨_, _, _, rfl, rfl, hR⟩
      · rw [eq_f (by omega) (by omega) c0, show J 3 j = 1 by omega]; exact ⟨_, _, _, rfl, rfl, hR⟩
    rw [if_neg q3, if_neg q3]
    by_cases q4 : b = nI 4
    · rw [if_pos q4, if_pos q4, a5, gd_inb (by omega) (by omega), n_cl (by omega), d5]; exact ⟨_, _, _, rfl, rfl, hR⟩
    rw [if_neg q4, if_neg q4]
    by_cases q5 : b = nI 5
    · rw [if_pos q5, if_pos q5, x_all hX hj, m_all hB hM hj]; exact ⟨_, _, _, rfl, rfl, hR⟩
    rw [if_neg q5, if_neg q5]
    by_cases q6 : b = nI 6
    · unfold m_X2_madeOf
      rw [if_pos q6, if_pos q6, x_at (k := 5) (n := 6) rfl (by omega) (by omega) (by omega), hc.2.2.2.2.2.1 j (by omega), n_add, gd_inb (by omega) (by omega), n_cl (by omega), hm.z (by omega)]; exact ⟨_, _, _, rfl, rfl, hR⟩
    rw [if_neg q6, if_neg q6]
    by_cases q7 : b = nI 7
    · rw [if_pos q7, if_pos q7, x_place hc (by omega) (fun k hk => w10 _ (by omega)) (by omega), m_place hm (by omega) (fun k hk => w10 _ (by omega)) (by omega)]; exact ⟨_, _, _, rfl, rfl, hR⟩
    rw [if_neg q7, if_neg q7]
    by_cases q8 : b = nI 8
    · unfold m_X2_endOf
      have := w10 (25 + j) (by omega)
      rw [if_pos q8, if_pos q8, x_at (k := 6) (n := 6) rfl (by omega) (by omega) (by omega), hc.2.2.2.2.2.2.1 j (by omega), n_add, gd_inb (by omega) (by omega), n_cl (by omega), hm.z (by omega), gd_inb (by omega) (by omega)]
      by_cases c0 : N (25 + j) = 0
      · rw [if_pos c0, eq_t c0]; exact ⟨_, _, _, rfl, rfl, hR⟩
      · rw [if_neg c0, eq_f (by omega) (by omega) c0]; exact ⟨_, _, _, rfl, rfl, hR⟩
    rw [if_neg q8, if_neg q8]
    by_cases q9 : b = nI 9
    · rw [if_pos q9, if_pos q9]
      cases hk : plc N j with
      | none =>
        unfold m_X6_endsIn m_X7_inTicks
        rw [x_place hc (by omega) (fun k hk => w10 _ (by omega)) (by omega), m_place hm (by omega) (fun k hk => w10 _ (by omega)) (by omega), hk, bi_e, bi_e, e9_n, eq9_t, lt90_t]; exact ⟨_, _, _, rfl, rfl, hR⟩
      | some k =>
        have h9 := hC.2.2.2.2.1
        obtain ⟨x1, e1, e2⟩ := x_ends hB hX hp hg hc hw (by omega) hj hk
        obtain ⟨m1, f1, f2, f3⟩ := m_ends hB hM hm hw (by omega) hj hk
        rw [e1, f1]
        refine ⟨_, _, _, rfl, rfl, p, nj, nb, J, N, un, U, tl, tx, sn, sv, hP.fr e2 (fun f i h1 h2 q => by have := q.1; omega) f3 (fun f h q => by unfold P511 at q; omega), ⟨hC.1.fr e2 (by omega) (fun f a h1 h2 h3 q => by have := q.2; omega) ⟨fun q => by have := q.1; omega, fun q => by have := q.1; omega⟩, ⟨f2, by rw [f3.1 122 0 0 (by unfold P511; omega)]; exact hC.2.1.2.1, fun u hu => (hC.2.1.2.2 u hu).fr f3 (by unfold P511; omega)⟩, hC.2.2⟩, hI.fr e2 (fun f a h1 h2 h3 q => by have := q.2; omega) (fun c h1 h2 => ⟨fun q => by have := q.1; omega, fun q => by have := q.1; omega⟩) (fun q => by have := q.1; omega) f3 ⟨by unfold P511; omega, by unfold P511; omega⟩, hT.fr e2 ⟨fun q => by have := q.1; omega, fun q => by have := q.1; omega⟩ f3 ⟨by unfold P511; omega, by unfold P511; omega⟩, hS.fr e2 ⟨fun q => by have := q.1; omega, fun q => by have := q.1; omega, fun q => by have := q.1; omega, fun q => by have := q.1; omega⟩ f3 ⟨by unfold P511; omega, by unfold P511; omega⟩, by rw [e2.tr_t, f3.tr_t]; exact ht⟩
    rw [if_neg q9, if_neg q9]
    by_cases q10 : b = nI 10
    · rw [if_pos q10, if_pos q10, gd_73 hp, x_left hB hX hc hw hp hj, m_left hB hM hm hw hj]; exact ⟨_, _, _, rfl, rfl, hR⟩
    rw [if_neg q10, if_neg q10]
    exact ⟨_, _, _, rfl, rfl, hR⟩
  · rw [h1, bi_e, oc_n, h2, bi_e, eq_t rfl]
    exact ⟨_, _, _, rfl, rfl, hR⟩
end JOB
