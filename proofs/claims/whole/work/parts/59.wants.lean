/-! what is wanting; now, tray -/
theorem i_shift (a b c : Int32) : a - b + c = a + c - b := by
  rw [Int32.sub_eq_add_neg, Int32.sub_eq_add_neg, Int32.add_assoc, Int32.add_comm (-b) c, ← Int32.add_assoc]
theorem i_neg (b : Int32) : -b = nI 0 - b := by
  have : nI 0 = 0 := rfl
  rw [this, Int32.sub_eq_add_neg, Int32.zero_add]
theorem w_max {t k : Nat} (ht : t < 1000000) (hk : k < 1000000) : m_J9_max_7cf53 (nI 0) (nI t - nI k) = some (nI (t - k)) := by
  unfold m_J9_max_7cf53
  have e := pk_sub_toInt (a := t) (b := k) (by omega) (by omega)
  by_cases h : k < t
  · rw [ir_t (by omega) (by omega), n_sub (by omega)]
  · rw [ir_f (by omega) (by omega), show t - k = 0 by omega]
theorem w_neg {t k : Nat} (ht : t < 1000000) (hk : k < 1000000) : (if nI t - nI k < nI 0 then some (nI 0) else some (nI t - nI k)) = some (nI (t - k)) := by
  have e := pk_sub_toInt (a := t) (b := k) (by omega) (by omega)
  by_cases h : t < k
  · rw [il_t (by omega) (by omega), show t - k = 0 by omega]
  · rw [il_f (by omega) (by omega), n_sub (by omega)]
theorem smf_le {f : Nat → Nat} {b : Nat} : ∀ n, (∀ j, j < n → f j ≤ b) → smf f n ≤ b * n := by
  intro n
  induction n with
  | zero => intro _; exact Nat.zero_le _
  | succ n ih => intro h; rw [smf_s, Nat.mul_add]; have := ih (fun j hj => h j (by omega)); have := h n (by omega); omega
theorem smf_cg {f g : Nat → Nat} : ∀ n, (∀ j, j < n → f j = g j) → smf f n = smf g n := by
  intro n
  induction n with
  | zero => intro _; rfl
  | succ n ih => intro h; rw [smf_s, smf_s, ih (fun j hj => h j (by omega)), h n (by omega)]
section WANTS
variable {x m : zG} {i p nj nb j t : Nat} {J : Nat → Nat → Nat} {N : Nat → Nat}
theorem inq_plc (hw : WN nj J N) (f : Nat → Nat) (j : Nat) : inq (fun k => N (13 + k)) f (N 3) j = match plc N j with | none => 0 | some _ => f j := by
  cases h : plc N j with
  | none => exact inq_0 _ (fun k hk => plc_n h k hk)
  | some k =>
    obtain ⟨h1, h2⟩ := plc_s h
    exact inq_1 _ k h1 h2
theorem q_sum (hw : WN nj J N) (f : Nat → Nat) : smf (fun k => f (N (13 + k))) (N 3) = smf (fun j => match plc N j with | none => 0 | some _ => f j) nj := by
  obtain ⟨w1, w2, w3, w4, w5, w6, w7, w8, w9, w10⟩ := hw
  rw [← sm_perm (q := fun k => N (13 + k)) (f := f) (nj := nj) (N 3) w6 w7]
  exact smf_cg _ (fun j _ => inq_plc ⟨w1, w2, w3, w4, w5, w6, w7, w8, w9, w10⟩ f j)
theorem x_inkL (hB : JB nj nb J) (hX : JX x p nj nb J) (hS : SX x i N) (hw : WN nj J N) (hp : p < 2) : ∀ (c f k : Nat), k + c = N 3 → c < f → m_X2_tonerWants_L4 i p x f (nI (smf (fun k => lft J N (N (13 + k))) k)) (nI k) = some (nI (smf (fun k => lft J N (N (13 + k))) (N 3) - N 1)) := by
  obtain ⟨w1, w2, w3, w4, w5, w6, w7, w8, w9, w10⟩ := id hw
  obtain ⟨s0, s1, s2, s3, s4, -⟩ := id hS
  have h6 := hB.1
  have hb : ∀ k, k ≤ N 3 → smf (fun k => lft J N (N (13 + k))) k ≤ 162 * k := fun k hk => smf_le k (fun j hj => lft_le hB (w6 j (by omega)))
  intro c
  induction c with
  | zero =>
    intro f k hk hf
    obtain ⟨f, rfl⟩ : ∃ f', f = f' + 1 := ⟨f - 1, by omega⟩
    have := hb k (by omega)
    unfold m_X2_tonerWants_L4 m_X2_tonerWants_B34
    rw [s3, lt_f (by omega) (by omega), s1, w_max (by omega) (by omega), bi_e, show k = N 3 by omega]
  | succ c ih =>
    intro f k hk hf
    obtain ⟨f, rfl⟩ : ∃ f', f = f' + 1 := ⟨f - 1, by omega⟩
    unfold m_X2_tonerWants_L4
    have := w6 k (by omega)
    rw [s3, lt_t (by omega) (by omega), x_at (k := 4) (n := 6) rfl (by omega) (by omega) (by omega), s4 k (by omega), bi_e, x_left hB hX hS hw hp this, bi_e, n_add, n_add]
    exact ih f (k + 1) (by omega) (by omega)
theorem m_inkL (hB : JB nj nb J) (hM : JM m nj nb J) (hS : SM m 105 0 N) (hw : WN nj J N) : ∀ (c f k : Nat), k + c = nj → c < f → m_X7_wantsInk_L10 m f (nI (smf (lft J N) k) - nI (N 1)) (nI k) = some (nI (smf (lft J N) nj - N 1)) := by
  obtain ⟨w1, w2, w3, w4, w5, w6, w7, w8, w9, w10⟩ := id hw
  have h6 := hB.1
  have hb : ∀ k, k ≤ nj → smf (lft J N) k ≤ 162 * k := fun k hk => smf_le k (fun j hj => lft_le hB (by omega))
  intro c
  induction c with
  | zero =>
    intro f k hk hf
    obtain ⟨f, rfl⟩ : ∃ f', f = f' + 1 := ⟨f - 1, by omega⟩
    have := hb k (by omega)
    unfold m_X7_wantsInk_L10 m_X7_wantsInk_B32
    rw [hM.1, lt_f (by omega) (by omega), w_neg (by omega) (by omega), show k = nj by omega]
  | succ c ih =>
    intro f k hk hf
    obtain ⟨f, rfl⟩ : ∃ f', f = f' + 1 := ⟨f - 1, by omega⟩
    unfold m_X7_wantsInk_L10
    rw [hM.1, lt_t (by omega) (by omega), m_left hB hM hS hw (by omega), bi_e, i_shift, n_add, n_add]
    exact ih f (k + 1) (by omega) (by omega)
theorem lft_q : (match plc N j with | none => 0 | some _ => lft J N j) = lft J N j := by
  unfold lft; cases plc N j <;> rfl
theorem ink_both (hB : JB nj nb J) (hX : JX x p nj nb J) (hM : JM m nj nb J) (hS : SX x i N) (hT : SM m 105 0 N) (hw : WN nj J N) (hp : p < 2) : Sr (m_X2_tonerWants x i p) (m_X7_wantsInk m) := by
  have h6 := hB.1
  have w3 := hw.2.2.1
  have e : smf (fun k => lft J N (N (13 + k))) (N 3) = smf (lft J N) nj := by
    rw [q_sum hw (lft J N)]; exact smf_cg _ (fun j _ => lft_q)
  refine ⟨nI (smf (lft J N) nj - N 1), ?_, ?_⟩
  · have := x_inkL hB hX hS hw hp (N 3) FU 0 (by omega) (by show _ < 1000; omega)
    rw [e] at this; exact this
  · unfold m_X7_wantsInk
    rw [gd_inb (by omega) (by omega), n_cl (by omega), hT.z (by omega), i_neg, bd_e]
    exact m_inkL hB hM hT hw nj FU 0 (by omega) (by show _ < 1000; omega)
/-- sheets that a job wants of tray t -/
def wtf (J : Nat → Nat → Nat) (N : Nat → Nat) (t j : Nat) : Nat := if J 4 j = t then al J j - N (19 + j) else 0
theorem x_trayL (hB : JB nj nb J) (hX : JX x p nj nb J) (hS : SX x i N) (hw : WN nj J N) (hp : p < 2) (ht : t < 3) : ∀ (c f k : Nat), k + c = N 3 → c < f → m_X2_trayWants_L5 i p (nI t) x f (nI (smf (fun k => wtf J N t (N (13 + k))) k)) (nI k) = some (nI (smf (fun k => wtf J N t (N (13 + k))) (N 3) - N (4 + t))) := by
  obtain ⟨w1, w2, w3, w4, w5, w6, w7, w8, w9, w10⟩ := id hw
  obtain ⟨s0, s1, s2, s3, s4, s5, s6, s7, s8⟩ := id hS
  have h6 := hB.1
  have hb : ∀ k, k ≤ N 3 → smf (fun k => wtf J N t (N (13 + k))) k ≤ 81 * k := fun k hk => smf_le k (fun j hj => by
    have := al_in hB (w6 j (by omega)); unfold wtf; split <;> omega)
  intro c
  induction c with
  | zero =>
    intro f k hk hf
    obtain ⟨f, rfl⟩ : ∃ f', f = f' + 1 := ⟨f - 1, by omega⟩
    have := hb k (by omega)
    have := w4 t ht
    unfold m_X2_trayWants_L5 m_X2_trayWants_B68
    rw [s3, lt_f (by omega) (by omega), x_at (k := 7) (n := 3) rfl (by omega) (by omega) (by omega), s7 t ht, bi_e, w_max (by omega) (by omega), bi_e, show k = N 3 by omega]
  | succ c ih =>
    intro f k hk hf
    obtain ⟨f, rfl⟩ : ∃ f', f = f' + 1 := ⟨f - 1, by omega⟩
    unfold m_X2_trayWants_L5 m_X2_trayWants_B62
    have hj := w6 k (by omega)
    have h9 := w9 k (by omega)
    have ha := al_in hB hj
    have h8 := w8 (N (13 + k)) (by omega)
    obtain ⟨a1, a2, a3, a4, a5, a6, a7⟩ := hX.2.2 (N (13 + k)) hj
    obtain ⟨b1, b2, b3, b4, b5, b6, b7⟩ := hB.2.2.2 (N (13 + k)) hj
    have ih' := ih f (k + 1) (by omega) (by omega)
    rw [smf_s] at ih'
    unfold m_X2_madeOf
    rw [s3, lt_t (by omega) (by omega), x_at (k := 4) (n := 6) rfl (by omega) (by omega) (by omega), s4 k (by omega), bi_e, x_jobAt hB hX hj, bi_e, oc_s, gd_71 (by omega), a5, x_all hX hj, bi_e, x_at (k := 5) (n := 6) rfl (by omega) (by omega) (by omega), s5 _ (by omega), bi_e, bi_e, n_sub (by omega)]
    by_cases h4 : J 4 (N (13 + k)) = t
    · have e : wtf J N t (N (13 + k)) = al J (N (13 + k)) - N (19 + N (13 + k)) := by unfold wtf; rw [if_pos h4]
      rw [e] at ih'
      rw [eq_t h4, n_add, n_add]; exact ih'
    · have e : wtf J N t (N (13 + k)) = 0 := by unfold wtf; rw [if_neg h4]
      rw [e, Nat.add_zero] at ih'
      rw [eq_f (by omega) (by omega) h4, n_add]; exact ih'
theorem m_trayL (hB : JB nj nb J) (hM : JM m nj nb J) (hS : SM m 105 0 N) (hw : WN nj J N) (ht : t < 3) : ∀ (c f k : Nat), k + c = nj → c < f → m_X7_wantsOf_L12 (nI t) m f (nI (smf (fun j => match plc N j with | none => 0 | some _ => wtf J N t j) k) - nI (N (4 + t))) (nI k) = some (nI (smf (fun j => match plc N j with | none => 0 | some _ => wtf J N t j) nj - N (4 + t))) := by
  obtain ⟨w1, w2, w3, w4, w5, w6, w7, w8, w9, w10⟩ := id hw
  have h6 := hB.1
  have hb : ∀ k, k ≤ nj → smf (fun j => match plc N j with | none => 0 | some _ => wtf J N t j) k ≤ 81 * k := fun k hk => smf_le k (fun j hj => by
    have := al_in hB (show j < nj by omega)
    show (match plc N j with | none => 0 | some _ => wtf J N t j) ≤ 81
    cases plc N j with
    | none => exact Nat.zero_le _
    | some r => show wtf J N t j ≤ 81; unfold wtf; split <;> omega)
  intro c
  induction c with
  | zero =>
    intro f k hk hf
    obtain ⟨f, rfl⟩ : ∃ f', f = f' + 1 := ⟨f - 1, by omega⟩
    have := hb k (by omega)
    have := w4 t ht
    unfold m_X7_wantsOf_L12 m_X7_wantsOf_B66
    rw [hM.1, lt_f (by omega) (by omega), w_neg (by omega) (by omega), show k = nj by omega]
  | succ c ih =>
    intro f k hk hf
    obtain ⟨f, rfl⟩ : ∃ f', f = f' + 1 := ⟨f - 1, by omega⟩
    unfold m_X7_wantsOf_L12 m_X7_wantsOf_B57 m_X7_wantsOf_B58
    have ha := al_in hB (show k < nj by omega)
    have h8 := w8 k (by omega)
    obtain ⟨d1, d2, d3, d4, d5⟩ := hM.2.2 k (by omega)
    obtain ⟨b1, b2, b3, b4, b5, b6, b7⟩ := hB.2.2.2 k (by omega)
    have ih' := ih f (k + 1) (by omega) (by omega)
    rw [smf_s] at ih'
    rw [hM.1, lt_t (by omega) (by omega), m_place hS (by omega) (fun k hk => w10 _ (by omega)) (by omega), bi_e, n_add]
    cases hpl : plc N k with
    | none =>
      simp only [hpl, Nat.add_zero] at ih'
      rw [e9_n, lt90_t, i_shift, n_add, Nat.add_zero]; exact ih'
    | some pl =>
      obtain ⟨p1, p2⟩ := plc_s hpl
      have h9 := w9 pl p1
      rw [p2] at h9
      simp only [hpl] at ih'
      rw [e9_s, lt_f (by omega) (by omega), gd_inb (by omega) (by omega), n_cl (by omega), d5]
      by_cases h4 : J 4 k = t
      · have e : wtf J N t k = al J k - N (19 + k) := by unfold wtf; rw [if_pos h4]
        rw [e] at ih'
        rw [eq_t h4, m_all hB hM (by omega), bi_e, n_add, gd_inb (by omega) (by omega), n_cl (by omega), hS.z (by omega), n_sub (a := al J k) (b := N (19 + k)) (by omega), i_shift, n_add]; exact ih'
      · have e : wtf J N t k = 0 := by unfold wtf; rw [if_neg h4]
        rw [e, Nat.add_zero] at ih'
        rw [eq_f (by omega) (by omega) h4, i_shift, n_add, Nat.add_zero]; exact ih'
theorem s_tray (hR : Rl x m) (a b : Int32) : Sr (m_X6_tray x a b) (m_X7_tray m a b) := by
  obtain ⟨p, nj, nb, J, N, un, U, tl, tx, sn, sv, ⟨hp, hg, -, hB, hX, hM⟩, hC, hI, hT, hS, ht⟩ := hR
  have hw := hC.2.2.2.1
  have h6 := hB.1
  have w3 := hw.2.2.1
  have e2 : (2 : Int64).toInt = 2 := rfl
  unfold m_X6_tray m_X7_tray
  by_cases q1 : a.toInt < 0
  · rw [il_t (by omega) (by omega), m_in_f (Or.inl (by rw [l0]; omega)), bi_e, eq_t rfl]; exact ⟨_, rfl, rfl⟩
  rw [il_f (by omega) (by omega)]
  by_cases q2 : 3 ≤ a.toInt
  · rw [il_f (by omega) (by omega), m_in_f (Or.inr (by rw [e2]; omega)), bi_e, eq_t rfl]; exact ⟨_, rfl, rfl⟩
  rw [il_t (by omega) (by omega), mi_t (by rw [l0]; omega) (by rw [e2]; omega), bi_e, eq_f (by omega) (by omega) (by omega)]
  obtain ⟨t, -, rfl, ht3⟩ := n_of (a := a) (by omega)
  by_cases b0 : b = nI 0
  · subst b0
    rw [eq_t rfl, m_isPart_t (by rw [nI_toInt (by omega)]; omega) (by rw [nI_toInt (by omega)]; omega), bi_e, eq_f (by omega) (by omega) (by omega), eq_t rfl, x_at (k := 7) (n := 3) rfl (by omega) (by omega) (by omega), hC.1.1.2.2.2.2.2.2.2.1 t (by omega), n_add, gd_inb (by omega) (by omega), n_cl (by omega), hC.2.1.1.z (by omega)]
    exact ⟨_, rfl, rfl⟩
  by_cases b1 : b = nI 1
  · subst b1
    rw [eq_f (by omega) (by omega) (by omega), eq_t rfl, m_isPart_t (by rw [nI_toInt (by omega)]; omega) (by rw [nI_toInt (by omega)]; omega), bi_e, eq_f (by omega) (by omega) (by omega), eq_f (by omega) (by omega) (by omega), hg, gd_73 hp]
    have h1 := x_trayL (t := t) hB hX hC.1.1 hw hp (by omega) (N 3) FU 0 (by omega) (by show _ < 1000; omega)
    have h2 := m_trayL (t := t) hB hM hC.2.1.1 hw (by omega) nj FU 0 (by omega) (by show _ < 1000; omega)
    rw [q_sum hw (wtf J N t)] at h1
    have h1' : m_X2_trayWants x 0 p (nI t) = some (nI (smf (fun j => match plc N j with | none => 0 | some _ => wtf J N t j) nj - N (4 + t))) := h1
    rw [h1']
    unfold m_X7_wantsOf
    rw [n_add, gd_inb (by omega) (by omega), n_cl (by omega), hC.2.1.1.z (by omega), i_neg, bd_e]
    have h2' : m_X7_wantsOf_L12 (nI t) m FU (nI 0 - nI (N (4 + t))) (nI 0) = _ := h2
    rw [h2']
    exact ⟨_, rfl, rfl⟩
  · rw [if_neg b0, if_neg b1]
    have hb : b.toInt < 0 ∨ 1 < b.toInt := by
      rcases n_cases b with h | ⟨j, hj, rfl⟩
      · exact Or.inl (toInt_neg h)
      · rw [nI_toInt hj]
        rw [n_eq hj (by omega)] at b0 b1
        omega
    rw [m_isPart_f hb, bi_e, eq_t rfl]; exact ⟨_, rfl, rfl⟩
theorem x_binsL (hS : SX x i N) (hb : ∀ b, b < 6 → N (7 + b) ≤ 20) : ∀ (c f k : Nat), k + c = 6 → c < f → m_X2_sheetsInBins_L4 i x f (nI (smf (fun b => N (7 + b)) k)) (nI k) = some (nI (smf (fun b => N (7 + b)) 6)) := by
  intro c
  induction c with
  | zero =>
    intro f k hk hf
    obtain ⟨f, rfl⟩ : ∃ f', f = f' + 1 := ⟨f - 1, by omega⟩
    unfold m_X2_sheetsInBins_L4
    rw [lt_f (by omega) (by omega), show k = 6 by omega]
  | succ c ih =>
    intro f k hk hf
    obtain ⟨f, rfl⟩ : ∃ f', f = f' + 1 := ⟨f - 1, by omega⟩
    unfold m_X2_sheetsInBins_L4
    rw [lt_t (by omega) (by omega), gd_inb (by omega) (by omega), n_cl (by omega), hS.2.2.2.2.2.2.2.2 k (by omega), n_add, bd_e, n_add]
    exact ih f (k + 1) (by omega) (by omega)
theorem m_binsL (hS : SM m 105 0 N) (hb : ∀ b, b < 6 → N (7 + b) ≤ 20) : ∀ (c f k : Nat), k + c = 6 → c < f → m_X7_inBins_L4 m f (nI (smf (fun b => N (7 + b)) k)) (nI k) = some (nI (smf (fun b => N (7 + b)) 6)) := by
  intro c
  induction c with
  | zero =>
    intro f k hk hf
    obtain ⟨f, rfl⟩ : ∃ f', f = f' + 1 := ⟨f - 1, by omega⟩
    unfold m_X7_inBins_L4
    rw [lt_f (by omega) (by omega), show k = 6 by omega]
  | succ c ih =>
    intro f k hk hf
    obtain ⟨f, rfl⟩ : ∃ f', f = f' + 1 := ⟨f - 1, by omega⟩
    unfold m_X7_inBins_L4
    rw [lt_t (by omega) (by omega), n_add 7 k, gd_inb (by omega) (by omega), n_cl (by omega), hS.z (by omega), n_add, bd_e, n_add]
    exact ih f (k + 1) (by omega) (by omega)
theorem s_now (hR : Rl x m) (a : Int32) : Sr (m_X6_now x a) (m_X7_now m a) := by
  obtain ⟨p, nj, nb, J, N, un, U, tl, tx, sn, sv, ⟨hp, hg, -, hB, hX, hM⟩, hC, hI, hT, hS, ht⟩ := hR
  have hw := hC.2.2.2.1
  have h6 := hB.1
  have w3 := hw.2.2.1
  have w2 := hw.2.1
  obtain ⟨s0, s1, s2, s3, -⟩ := id hC.1.1
  have hm := hC.2.1.1
  unfold m_X6_now m_X7_now
  by_cases h0 : a = nI 0
  · rw [if_pos h0, if_pos h0, s0, gd_inb (by omega) (by omega), n_cl (by omega), hm.z (by omega)]; exact ⟨_, rfl, rfl⟩
  rw [if_neg h0, if_neg h0]
  by_cases h1 : a = nI 1
  · rw [if_pos h1, if_pos h1, s1, gd_inb (by omega) (by omega), n_cl (by omega), hm.z (by omega)]; exact ⟨_, rfl, rfl⟩
  rw [if_neg h1, if_neg h1]
  by_cases h2 : a = nI 2
  · rw [if_pos h2, if_pos h2, x_first hC.1.1 hw h6, bi_e, gd_inb (by omega) (by omega), n_cl (a := 3) (by omega), hm.z (by omega)]
    by_cases h3 : N 3 = 0
    · rw [if_pos h3, eq_t h3]; exact ⟨_, rfl, rfl⟩
    · rw [if_neg h3, eq_f (by omega) (by omega) h3, gd_inb (by omega) (by omega), n_cl (by omega), hm.z (by omega)]; exact ⟨_, rfl, rfl⟩
  rw [if_neg h2, if_neg h2]
  by_cases h3 : a = nI 3
  · rw [if_pos h3, if_pos h3, hg, gd_73 hp, x_stands hB hX hC.1.1 hw hp, m_stands hB hM hm hw]; exact ⟨_, rfl, rfl⟩
  rw [if_neg h3, if_neg h3]
  by_cases h4 : a = nI 4
  · rw [if_pos h4, if_pos h4, s2, gd_inb (by omega) (by omega), n_cl (by omega), hm.z (by omega)]
    by_cases q : N 2 = 0
    · rw [eq_t q, q]; exact ⟨_, rfl, rfl⟩
    · rw [eq_f (by omega) (by omega) q, show N 2 = 1 by omega]; exact ⟨_, rfl, rfl⟩
  rw [if_neg h4, if_neg h4]
  by_cases h5 : a = nI 5
  · rw [if_pos h5, if_pos h5, s3, gd_inb (by omega) (by omega), n_cl (by omega), hm.z (by omega)]; exact ⟨_, rfl, rfl⟩
  rw [if_neg h5, if_neg h5]
  by_cases h7 : a = nI 6
  · rw [if_pos h7, if_pos h7]
    have b1 := x_binsL hC.1.1 hw.2.2.2.2.1 6 FU 0 (by omega) (by show _ < 1000; omega)
    have b2 := m_binsL hm hw.2.2.2.2.1 6 FU 0 (by omega) (by show _ < 1000; omega)
    have b1' : m_X2_sheetsInBins x 0 = _ := b1
    have b2' : m_X7_inBins m = _ := b2
    rw [b1', b2']; exact ⟨_, rfl, rfl⟩
  rw [if_neg h7, if_neg h7]
  by_cases h8 : a = nI 7
  · rw [if_pos h8, if_pos h8, hg, gd_73 hp]
    obtain ⟨r, e1, e2⟩ := ink_both hB hX hM hC.1.1 hm hw hp
    have e1' : m_X2_tonerWants x 0 p = some r := e1
    rw [e1', e2]; exact ⟨_, rfl, rfl⟩
  rw [if_neg h8, if_neg h8]
  exact ⟨_, rfl, rfl⟩
end WANTS
