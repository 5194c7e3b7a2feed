/-! ahead, keep, back -/
def hdN (N : Nat → Nat) (pl : Nat) : Nat → Nat := fun e => if e = 2 then 0 else if e = 13 then N (13 + pl) else if 13 < e ∧ e ≤ 13 + pl then N (e - 1) else N e
/-- on the way: places above k, up to pl, are shifted -/
def hsN (N : Nat → Nat) (pl k : Nat) : Nat → Nat := fun e => if 13 + k < e ∧ e ≤ 13 + pl then N (e - 1) else N e
theorem n_m1 {k : Nat} (h : 0 < k) : nI k + (-1) = nI (k - 1) := by
  obtain ⟨n, rfl⟩ : ∃ n, k = n + 1 := ⟨k - 1, by omega⟩
  exact pk_m1 n
section AHEAD
variable {x m : zG} {i p nj nb j pl : Nat} {J : Nat → Nat → Nat} {N : Nat → Nat}
theorem x_headL (h6 : N 3 ≤ 6) (hpl : pl < N 3) (hq : N (13 + pl) = j) : ∀ (k f : Nat) (g : zG), k ≤ pl → k < f → (∀ e, e < N 3 → gi g 4 i e = nI (hsN N pl k (13 + e))) → Fr (fun f a => (f = 4 ∨ f = 2) ∧ a = i) x g → ∃ g', m_X2_comeToHead_L6 i (nI j) f g (nI k) = some g' ∧ (∀ e, e < N 3 → gi g' 4 i e = nI (hdN N pl (13 + e))) ∧ gi g' 2 i 0 = nI 0 ∧ Fr (fun f a => (f = 4 ∨ f = 2) ∧ a = i) x g' := by
  intro k
  induction k with
  | zero =>
    intro f g hk hf hQ hF
    obtain ⟨f, rfl⟩ : ∃ f', f = f' + 1 := ⟨f - 1, by omega⟩
    unfold m_X2_comeToHead_L6 m_X2_comeToHead_B34
    rw [lt_f (by omega) (by omega), x_put (k := 4) (n := 6) rfl (by omega) (by omega), bi_e, gd_isb (by omega), bd_e]
    refine ⟨_, rfl, fun e he => ?_, gi_s _ _ _ _ _, (hF.ui ⟨Or.inl rfl, rfl⟩).ui ⟨Or.inr rfl, rfl⟩⟩
    rw [gi_ui, if_neg (by omega), gi_ui]
    by_cases h0 : e = 0
    · subst h0
      rw [if_pos ⟨rfl, rfl, rfl⟩]
      unfold hdN
      rw [if_neg (by omega), if_pos (by omega), hq]
    · rw [if_neg (by omega), hQ e he]
      congr 1
      unfold hsN hdN
      by_cases h1 : 13 + 0 < 13 + e ∧ 13 + e ≤ 13 + pl
      · rw [if_pos h1, if_neg (by omega), if_neg (by omega)]
      · rw [if_neg h1, if_neg (by omega), if_neg (by omega)]
  | succ k ih =>
    intro f g hk hf hQ hF
    obtain ⟨f, rfl⟩ : ∃ f', f = f' + 1 := ⟨f - 1, by omega⟩
    unfold m_X2_comeToHead_L6
    rw [lt_t (by omega) (by omega), n_sub (by omega), x_at (k := 4) (n := 6) rfl (by omega) (by omega) (by omega), bi_e, hQ (k + 1 - 1) (by omega), x_put (k := 4) (n := 6) rfl (by omega) (by omega), bi_e, n_m1 (by omega), show k + 1 - 1 = k by omega]
    refine ih f _ (by omega) (by omega) (fun e he => ?_) (hF.ui ⟨Or.inl rfl, rfl⟩)
    rw [gi_ui]
    by_cases h0 : e = k + 1
    · subst h0
      rw [if_pos ⟨rfl, rfl, rfl⟩]
      congr 1
      unfold hsN
      rw [if_neg (by omega), if_pos (by omega)]
      congr 1
    · rw [if_neg (by omega), hQ e he]
      congr 1
      unfold hsN
      by_cases h1 : 13 + (k + 1) < 13 + e ∧ 13 + e ≤ 13 + pl
      · rw [if_pos h1, if_pos (by omega)]
      · rw [if_neg h1, if_neg (by omega)]
theorem x_head (hS : SX x i N) (h6 : N 3 ≤ 6) (hb : ∀ e, e < 31 → N e < 65536) (hj : j < 65536) (hp : plc N j = some pl) : ∃ x', m_X2_comeToHead x i (nI j) = some x' ∧ SX x' i (hdN N pl) ∧ Fr (PNow i) x x' := by
  obtain ⟨hpl, hq⟩ := plc_s hp
  obtain ⟨s0, s1, s2, s3, s4, s5, s6, s7, s8⟩ := id hS
  unfold m_X2_comeToHead
  rw [x_place hS h6 (fun k hk => hb _ (by omega)) hj, hp, bi_e, e9_s]
  obtain ⟨g', e1, e2, e3, e4⟩ := x_headL (x := x) (i := i) (N := N) (pl := pl) (j := j) h6 hpl hq pl FU x (Nat.le_refl _) (by show _ < 1000; omega) (fun e he => by rw [s4 e he]; unfold hsN; rw [if_neg (by omega)]) Fr.rf
  have eO : ∀ d, ¬ d = 2 → ¬ (13 ≤ d ∧ d < 19) → hdN N pl d = N d := fun d h1 h2 => by
    unfold hdN; rw [if_neg h1, if_neg (by omega), if_neg (by omega)]
  have e3' : hdN N pl 3 = N 3 := eO 3 (by omega) (by omega)
  refine ⟨g', e1, ⟨?_, ?_, ?_, ?_, fun k hk => ?_, fun k hk => ?_, fun k hk => ?_, fun k hk => ?_, fun k hk => ?_⟩, e4.wk (fun f a h => ⟨by omega, h.2⟩)⟩
  · rw [e4.1 0 i 0 (by omega), s0, eO 0 (by omega) (by omega)]
  · rw [e4.1 1 i 0 (by omega), s1, eO 1 (by omega) (by omega)]
  · rw [e3]; unfold hdN; rw [if_pos rfl]
  · rw [e4.1 3 i 0 (by omega), s3, e3']
  · rw [e3'] at hk; exact e2 k hk
  · rw [e4.1 5 i k (by omega), s5 k hk, eO _ (by omega) (by omega)]
  · rw [e4.1 6 i k (by omega), s6 k hk, eO _ (by omega) (by omega)]
  · rw [e4.1 7 i k (by omega), s7 k hk, eO _ (by omega) (by omega)]
  · rw [e4.1 8 i k (by omega), s8 k hk, eO _ (by omega) (by omega)]
theorem m_headL {v : Int32} (h6 : N 3 ≤ 6) (hpl : pl < N 3) (hq : N (13 + pl) = j) : ∀ (k f : Nat) (g : zG), k ≤ pl → k < f → SM g 105 0 (hsN N pl k) → Fr P105 m g → ∃ g', m_X7_ahead_L38 (nI j) f g v (nI k) = some (v, g') ∧ SM g' 105 0 (hdN N pl) ∧ Fr P105 m g' := by
  intro k
  induction k with
  | zero =>
    intro f g hk hf hS hF
    obtain ⟨f, rfl⟩ : ∃ f', f = f' + 1 := ⟨f - 1, by omega⟩
    unfold m_X7_ahead_L38 m_X7_ahead_B71
    rw [lt_f (by omega) (by omega), gd_inb (by omega) (by omega), n_cl (a := 13) (by omega), bd_e, gd_inb (by omega) (by omega), n_cl (a := 2) (by omega), bd_e]
    refine ⟨_, rfl, ((hS.up0 (e := 13) (v := j)).up0 (e := 2) (v := 0)).cg (fun e he => ?_), (hF.ui rfl).ui rfl⟩
    unfold upN hsN hdN
    by_cases h2 : e = 2
    · rw [if_pos h2, if_pos h2]
    · rw [if_neg h2, if_neg h2]
      by_cases h3 : e = 13
      · rw [if_pos h3, if_pos h3, hq]
      · rw [if_neg h3, if_neg h3]
  | succ k ih =>
    intro f g hk hf hS hF
    obtain ⟨f, rfl⟩ : ∃ f', f = f' + 1 := ⟨f - 1, by omega⟩
    unfold m_X7_ahead_L38
    rw [lt_t (by omega) (by omega), n_add, n_sub (by omega), gd_inb (by omega) (by omega), gd_inb (by omega) (by omega), n_cl (by omega), n_cl (by omega), hS.z (by omega), bd_e, n_m1 (by omega), show k + 1 - 1 = k by omega]
    refine ih f _ (by omega) (by omega) ((hS.up0).cg (fun e he => ?_)) (hF.ui rfl)
    unfold upN hsN
    by_cases h0 : e = 13 + (k + 1)
    · subst h0
      rw [if_pos rfl, if_neg (by omega), if_pos (by omega)]
    · rw [if_neg h0]
      by_cases h1 : 13 + (k + 1) < e ∧ e ≤ 13 + pl
      · rw [if_pos h1, if_pos (by omega)]
      · rw [if_neg h1, if_neg (by omega)]
theorem WN.hd (h : WN nj J N) (h6 : nj ≤ 6) (hpl : pl < N 3) : WN nj J (hdN N pl) := by
  obtain ⟨w1, w2, w3, w4, w5, w6, w7, w8, w9, w10⟩ := h
  have eO : ∀ d, ¬ d = 2 → ¬ (13 ≤ d ∧ d < 19) → hdN N pl d = N d := fun d h1 h2 => by
    unfold hdN; rw [if_neg h1, if_neg (by omega), if_neg (by omega)]
  have e3 : hdN N pl 3 = N 3 := eO 3 (by omega) (by omega)
  have q : ∀ e, e < N 3 → ∃ k, k < N 3 ∧ hdN N pl (13 + e) = N (13 + k) ∧ k = (if e = 0 then pl else if e ≤ pl then e - 1 else e) := by
    intro e he
    unfold hdN
    rw [if_neg (by omega)]
    by_cases h0 : e = 0
    · subst h0; exact ⟨pl, hpl, by rw [if_pos (by omega)], by simp⟩
    · rw [if_neg (by omega)]
      by_cases h1 : e ≤ pl
      · exact ⟨e - 1, by omega, by rw [if_pos (by omega), show 13 + e - 1 = 13 + (e - 1) by omega], by rw [if_neg h0, if_pos h1]⟩
      · exact ⟨e, he, by rw [if_neg (by omega)], by rw [if_neg h0, if_neg h1]⟩
  refine ⟨by rw [eO 1 (by omega) (by omega)]; exact w1, by unfold hdN; rw [if_pos rfl]; omega, by rw [e3]; exact w3, fun t ht => by rw [eO _ (by omega) (by omega)]; exact w4 t ht, fun t ht => by rw [eO _ (by omega) (by omega)]; exact w5 t ht, fun t ht => ?_, fun a b ha hb hab => ?_, fun t ht => by rw [eO _ (by omega) (by omega)]; exact w8 t ht, fun t ht => ?_, fun t ht => ?_⟩
  · rw [e3] at ht; obtain ⟨k, h1, h2, h3⟩ := q t ht; rw [h2]; exact w6 k h1
  · rw [e3] at ha hb
    obtain ⟨k, h1, h2, h3⟩ := q a ha
    obtain ⟨k', h1', h2', h3'⟩ := q b hb
    rw [h2, h2'] at hab
    have := w7 k k' h1 h1' hab
    by_cases c1 : a = 0 <;> by_cases c2 : b = 0 <;> by_cases c3 : a ≤ pl <;> by_cases c4 : b ≤ pl <;> simp only [c1, c2, c3, c4, if_true, if_false] at h3 h3' <;> omega
  · rw [e3] at ht
    obtain ⟨k, h1, h2, h3⟩ := q t ht
    have := w6 k h1
    rw [h2, eO _ (by omega) (by omega)]; exact w9 k h1
  · unfold hdN
    have h10 := w10 t ht
    by_cases c0 : t = 2
    · rw [if_pos c0]; omega
    · rw [if_neg c0]
      by_cases c1 : t = 13
      · rw [if_pos c1]; exact w10 _ (by omega)
      · rw [if_neg c1]
        by_cases c2 : 13 < t ∧ t ≤ 13 + pl
        · rw [if_pos c2]; exact w10 _ (by omega)
        · rw [if_neg c2]; exact h10
theorem s_ahead (hR : Rl x m) (a : Int32) : Sm (m_X6_ahead x a) (m_X7_ahead m a) := by
  obtain ⟨p, nj, nb, J, N, un, U, tl, tx, sn, sv, hP, hC, hI, hT, hS, ht⟩ := id hR
  obtain ⟨hp, hg, -, hB, hX, hM⟩ := id hP
  have hw := hC.2.2.2.1
  obtain ⟨w1, w2, w3, w4, w5, w6, w7, w8, w9, w10⟩ := id hw
  have h6 := hB.1
  unfold m_X6_ahead m_X7_ahead
  rw [hg, gd_73 hp]
  rcases job_arg hB hX hM a with ⟨j, hj, rfl⟩ | ⟨h1, h2⟩
  · rw [x_jobAt hB hX hj, m_isJob hB hM hj, bi_e, bi_e, oc_s, gd_71 (by omega), eq_f (by omega) (by omega) (by omega)]
    rw [x_place hC.1.1 (by omega) (fun k hk => w10 _ (by omega)) (by omega), m_place hC.2.1.1 (by omega) (fun k hk => w10 _ (by omega)) (by omega), bi_e, bi_e]
    cases hpl : plc N j with
    | none => rw [e9_n, eq9_t, lt09_f]; exact ⟨_, x, m, rfl, rfl, hR⟩
    | some pl =>
      obtain ⟨p1, p2⟩ := plc_s hpl
      rw [e9_s, eq9_f (by omega)]
      by_cases hp0 : pl = 0
      · rw [eq_t hp0, lt_f (by omega) (by omega)]; exact ⟨_, x, m, rfl, rfl, hR⟩
      · rw [eq_f (by omega) (by omega) hp0, lt_t (by omega) (by omega)]
        obtain ⟨x1, m1, e1, e2, e3, e4, e5⟩ := both_note hP hC
        obtain ⟨x2, a1, a2, a3⟩ := x_head e3.1.1 (by omega) w10 (by omega) hpl
        obtain ⟨m2, b1, b2, b3⟩ := m_headL (m := m1) (v := nI (N 13)) (N := N) (pl := pl) (j := j) (by omega) p1 p2 pl FU m1 (Nat.le_refl _) (by show _ < 1000; omega) (e3.2.1.1.cg (fun e he => by unfold hsN; rw [if_neg (by omega)])) Fr.rf
        rw [e1, e2, bi_e, bi_e, x_first e3.1.1 hw h6, if_neg (by omega), bi_e, gd_inb (by omega) (by omega), n_cl (a := 13) (by omega), e3.2.1.1.z (by omega), bd_e, b1]
        have a1' : m_X2_comeToHead x1 0 (nI j) = some x2 := a1
        rw [a1', bi_e]
        have h00 : hdN N pl 0 = N 0 := by unfold hdN; rw [if_neg (by omega), if_neg (by omega), if_neg (by omega)]
        exact ⟨_, _, _, rfl, rfl, Rl.course hP hI hT hS ht (e4.tr (a3.wk (fun f a h => PNow0_PCo h))) ((e5.wk (fun f a h => PUn_PCm h)).tr (b3.wk (fun f a h => P105_PCm h))) (e3.snap a3 b3 a2 b2 (hw.hd h6 p1) (by rw [h00]; exact hC.2.2.2.2.1))⟩
  · rw [h1, h2, bi_e, bi_e, oc_n, eq_t rfl]; exact ⟨_, x, m, rfl, rfl, hR⟩
theorem image_arg (a : Int32) : (∃ im, im < 2 ∧ a = nI im ∧ m_X6_imageAt x a = some (some (1 + im)) ∧ m_X7_isPart a = some (nI 1)) ∨ (m_X6_imageAt x a = some none ∧ m_X7_isPart a = some (nI 0)) := by
  unfold m_X6_imageAt
  by_cases h : a.toInt < 0
  · rw [il_t (by omega) (by omega), m_isPart_f (Or.inl h)]; exact Or.inr ⟨rfl, rfl⟩
  · obtain ⟨k, hk, rfl, hk2⟩ := n_of (a := a) (by omega)
    by_cases h2 : k < 2
    · rw [il_f (by omega) (by omega), lt_t (by omega) h2, gd_inb (by omega) h2, n_cl (by omega), m_isPart_t (by omega) (by omega)]; exact Or.inl ⟨k, h2, rfl, rfl, rfl⟩
    · rw [il_f (by omega) (by omega), lt_f (by omega) (by omega), m_isPart_f (Or.inr (by omega))]; exact Or.inr ⟨rfl, rfl⟩
theorem s_keep (hR : Rl x m) (a : Int32) : Sm (m_X6_keep x a) (m_X7_keep m a) := by
  obtain ⟨p, nj, nb, J, N, un, U, tl, tx, sn, sv, hP, hC, hI, hT, hS, ht⟩ := id hR
  obtain ⟨hp, hg, -, hB, hX, hM⟩ := id hP
  have h6 := hB.1
  obtain ⟨hcx, hcm, hwc⟩ := id hC
  unfold m_X6_keep
  rcases image_arg (x := x) a with ⟨im, him, rfl, h1, h2⟩ | ⟨h1, h2⟩
  · obtain ⟨x1, a1, a2, a3⟩ := x_ccopy (c0 := 1 + im) hcx (hwc.2.1.sm h6) hwc.1 (by omega) (by omega) (by omega) (fun u hu => (hwc.2.2.2 u hu).1.sm h6)
    obtain ⟨m1, b1, b2, b3, b4, b5, b6⟩ := m_keep hcm hwc.1 him
    rw [h1, bi_e, oc_s, gd_70 (by omega), lt_f (by omega) (by omega), lt_t (by omega) him, a1, bi_e, gd_inb (by omega) (by omega), n_cl (by omega), bd_e, b1]
    have FK : Fr (fun f a => f = 60 ∧ a = 0) x1 (ui x1 60 0 im (nI 1)) := Fr.rf.ui ⟨rfl, rfl⟩
    have Fx : Fr (fun f a => PCo (1 + im) f a ∨ (f = 60 ∧ a = 0)) x (ui x1 60 0 im (nI 1)) := (a3.wk (fun f a h => Or.inl h)).tr (FK.wk (fun f a h => Or.inr h))
    have np : ∀ f a, PCo (1 + im) f a → (f ≤ 8 ∧ 11 * (1 + im) ≤ a ∧ a < 11 * (1 + im) + 11) ∨ ((f = 30 ∨ f = 31) ∧ a = 1 + im) := fun f a h => h
    have hC1 : RC (ui x1 60 0 im (nI 1)) m1 nj J N un U := hC.fr Fx (fun f a h1 h2 q => by rcases q with q | q <;> (try have := np _ _ q) <;> omega) ⟨fun q => by rcases q with q | q <;> (try have := np _ _ q) <;> omega, fun q => by rcases q with q | q <;> (try have := np _ _ q) <;> omega⟩ b6 ⟨by unfold PIm; omega, by unfold PIm; omega, by unfold PIm; omega⟩
    rw [hC1.1.1.1]
    refine ⟨_, _, _, rfl, rfl, p, nj, nb, J, N, un, U, tl, tx, sn, sv, hP.fr Fx (fun f i h1 h2 q => by rcases q with q | q <;> (try have := np _ _ q) <;> omega) b6 (fun f h q => by unfold PIm at q; omega), hC1, fun im' him' => ?_, hT.fr Fx ⟨fun q => by rcases q with q | q <;> (try have := np _ _ q) <;> omega, fun q => by rcases q with q | q <;> (try have := np _ _ q) <;> omega⟩ b6 ⟨by unfold PIm; omega, by unfold PIm; omega⟩, hS.fr Fx ⟨fun q => by rcases q with q | q <;> (try have := np _ _ q) <;> omega, fun q => by rcases q with q | q <;> (try have := np _ _ q) <;> omega, fun q => by rcases q with q | q <;> (try have := np _ _ q) <;> omega, fun q => by rcases q with q | q <;> (try have := np _ _ q) <;> omega⟩ b6 ⟨by unfold PIm; omega, by unfold PIm; omega⟩, by rw [Fx.tr_t, b6.tr_t]; exact ht⟩
    by_cases hi : im' = im
    · subst hi
      exact ⟨1, by omega, gi_s _ _ _ _ _, b4, fun _ => ⟨N, un, U, a2.fr FK (by omega) (fun f a h1 h2 h3 q => by omega) ⟨by omega, by omega⟩, b2, hwc⟩⟩
    · obtain ⟨kp, k1, k2, k3, k4⟩ := hI im' him'
      refine ⟨kp, k1, ?_, by rw [b5 im' hi]; exact k3, fun q => ?_⟩
      · rw [gi_ui, if_neg (by omega), a3.1 60 0 im' (fun q => by have := np _ _ q; omega)]; exact k2
      · obtain ⟨N', un', U', c1, c2, c3⟩ := k4 q
        refine ⟨N', un', U', c1.fr Fx (by omega) (fun f a h1 h2 h3 q => by rcases q with q | q <;> (try have := np _ _ q) <;> omega) ⟨fun q => by rcases q with q | q <;> (try have := np _ _ q) <;> omega, fun q => by rcases q with q | q <;> (try have := np _ _ q) <;> omega⟩, b3 im' N' un' U' him' c3.1 hi c2, c3⟩
  · unfold m_X7_keep
    rw [h1, h2, bi_e, bi_e, oc_n, eq_t rfl]; exact ⟨_, x, m, rfl, rfl, hR⟩
theorem s_back (hR : Rl x m) (a : Int32) : Sm (m_X6_back x a) (m_X7_back m a) := by
  obtain ⟨p, nj, nb, J, N, un, U, tl, tx, sn, sv, hP, hC, hI, hT, hS, ht⟩ := id hR
  have h6 := hP.2.2.2.1.1
  unfold m_X6_back
  rcases image_arg (x := x) a with ⟨im, him, rfl, h1, h2⟩ | ⟨h1, h2⟩
  · obtain ⟨kp, k1, k2, k3, k4⟩ := hI im him
    rw [h1, bi_e, oc_s, gd_70 (by omega), lt_f (by omega) (by omega), lt_t (by omega) him, gd_inb (by omega) (by omega), n_cl (by omega), k2]
    by_cases hk : kp = 0
    · unfold m_X7_back
      rw [eq_t hk, h2, bi_e, eq_f (by omega) (by omega) (by omega), gd_inb (by omega) (by omega), n_cl (by omega), k3, eq_t hk]; exact ⟨_, x, m, rfl, rfl, hR⟩
    · have hk1 : kp = 1 := by omega
      subst hk1
      obtain ⟨N', un', U', c1, c2, c3⟩ := k4 rfl
      obtain ⟨x1, a1, a2, a3⟩ := x_ccopy (c0 := 0) c1 (c3.2.1.sm h6) c3.1 (by omega) (by omega) (by omega) (fun u hu => (c3.2.2.2 u hu).1.sm h6)
      obtain ⟨m1, b1, b2, b3⟩ := m_back2 c2 c3.1 him k3
      rw [eq_f (by omega) (by omega) (by omega), a1, bi_e, b1, a2.1.1]
      exact ⟨_, _, _, rfl, rfl, Rl.course hP hI hT hS ht a3 b3 ⟨a2, b2, c3⟩⟩
  · unfold m_X7_back
    rw [h1, h2, bi_e, bi_e, oc_n, eq_t rfl]; exact ⟨_, x, m, rfl, rfl, hR⟩
end AHEAD
