/-! the queue: leaving it, coming to its head -/
theorem e9_s (k : Nat) : e9 (some k) = nI k := rfl
theorem e9_n : e9 none = -9 := rfl
def upN (N : Nat → Nat) (e v : Nat) : Nat → Nat := fun d => if d = e then v else N d
theorem upN_s (N : Nat → Nat) (e v : Nat) : upN N e v e = v := if_pos rfl
theorem upN_n {N : Nat → Nat} {e v d : Nat} (h : ¬ d = e) : upN N e v d = N d := if_neg h
def P105 : Nat → Nat → Prop := fun f _ => f = 105
def PNow (i : Nat) : Nat → Nat → Prop := fun f a => f ≤ 8 ∧ a = i
theorem SM.up {g : zG} {k o : Nat} {N : Nat → Nat} (h : SM g k o N) {e v : Nat} : SM (ui g k 0 (o + e) (nI v)) k o (upN N e v) := by
  intro d hd
  rw [gi_ui]
  by_cases hde : d = e
  · subst hde; rw [if_pos ⟨rfl, rfl, rfl⟩, upN_s]
  · rw [if_neg (by rintro ⟨-, -, q⟩; omega), upN_n hde]; exact h d hd
theorem SM.up0 {g : zG} {k : Nat} {N : Nat → Nat} (h : SM g k 0 N) {e v : Nat} : SM (ui g k 0 e (nI v)) k 0 (upN N e v) := by
  have := h.up (e := e) (v := v); rwa [Nat.zero_add] at this
theorem SM.cg {g : zG} {k o : Nat} {N N' : Nat → Nat} (h : SM g k o N) (hc : ∀ e, e < 31 → N e = N' e) : SM g k o N' := fun e he => by rw [← hc e he]; exact h e he
theorem SM.fr {P : Nat → Nat → Prop} {g g' : zG} {k o : Nat} {N : Nat → Nat} (h : SM g k o N) (hf : Fr P g g') (hp : ¬ P k 0) : SM g' k o N := fun e he => by rw [hf.1 k 0 _ hp]; exact h e he
theorem SX.fr {P : Nat → Nat → Prop} {x x' : zG} {i : Nat} {N : Nat → Nat} (h : SX x i N) (hf : Fr P x x') (hp : ∀ f, f ≤ 8 → ¬ P f i) : SX x' i N := by
  obtain ⟨s0, s1, s2, s3, s4, s5, s6, s7, s8⟩ := h
  refine ⟨?_, ?_, ?_, ?_, fun j hj => ?_, fun j hj => ?_, fun j hj => ?_, fun j hj => ?_, fun j hj => ?_⟩
  · rw [hf.1 0 i 0 (hp 0 (by omega))]; exact s0
  · rw [hf.1 1 i 0 (hp 1 (by omega))]; exact s1
  · rw [hf.1 2 i 0 (hp 2 (by omega))]; exact s2
  · rw [hf.1 3 i 0 (hp 3 (by omega))]; exact s3
  · rw [hf.1 4 i j (hp 4 (by omega))]; exact s4 j hj
  · rw [hf.1 5 i j (hp 5 (by omega))]; exact s5 j hj
  · rw [hf.1 6 i j (hp 6 (by omega))]; exact s6 j hj
  · rw [hf.1 7 i j (hp 7 (by omega))]; exact s7 j hj
  · rw [hf.1 8 i j (hp 8 (by omega))]; exact s8 j hj
theorem JX.fr {P : Nat → Nat → Prop} {x x' : zG} {p nj nb : Nat} {J : Nat → Nat → Nat} (h : JX x p nj nb J) (hf : Fr P x x') (hp : ∀ f i, 10 ≤ f → f ≤ 26 → ¬ P f i) : JX x' p nj nb J := by
  obtain ⟨h1, h2, h3⟩ := h
  refine ⟨?_, ?_, fun j hj => ?_⟩
  · rw [hf.1 12 p 0 (hp 12 p (by omega) (by omega))]; exact h1
  · rw [hf.1 11 p 0 (hp 11 p (by omega) (by omega))]; exact h2
  · obtain ⟨a1, a2, a3, a4, a5, a6, a7⟩ := h3 j hj
    rw [hf.1 20 _ 0 (hp 20 _ (by omega) (by omega)), hf.1 21 _ 0 (hp 21 _ (by omega) (by omega)), hf.1 22 _ 0 (hp 22 _ (by omega) (by omega)), hf.1 23 _ 0 (hp 23 _ (by omega) (by omega)), hf.1 24 _ 0 (hp 24 _ (by omega) (by omega)), hf.1 25 _ 0 (hp 25 _ (by omega) (by omega)), hf.1 26 _ 0 (hp 26 _ (by omega) (by omega))]
    exact ⟨a1, a2, a3, a4, a5, a6, a7⟩
theorem JM.fr {P : Nat → Nat → Prop} {m m' : zG} {nj nb : Nat} {J : Nat → Nat → Nat} (h : JM m nj nb J) (hf : Fr P m m') (hp : ∀ f, (100 ≤ f ∧ f ≤ 104) ∨ f = 120 ∨ f = 121 → ¬ P f 0) : JM m' nj nb J := by
  obtain ⟨h1, h2, h3⟩ := h
  refine ⟨?_, ?_, fun j hj => ?_⟩
  · rw [hf.1 120 0 0 (hp 120 (by omega))]; exact h1
  · rw [hf.1 121 0 0 (hp 121 (by omega))]; exact h2
  · obtain ⟨a1, a2, a3, a4, a5⟩ := h3 j hj
    rw [hf.1 100 _ _ (hp 100 (by omega)), hf.1 101 _ _ (hp 101 (by omega)), hf.1 102 _ _ (hp 102 (by omega)), hf.1 103 _ _ (hp 103 (by omega)), hf.1 104 _ _ (hp 104 (by omega))]
    exact ⟨a1, a2, a3, a4, a5⟩
/-- the one at place pl leaves -/
def lvN (N : Nat → Nat) (pl : Nat) : Nat → Nat := fun e => if e = 3 then N 3 - 1 else if 13 + pl ≤ e ∧ e < 12 + N 3 then N (e + 1) else if e = 12 + N 3 then 0 else N e
def shN (N : Nat → Nat) (pl k : Nat) : Nat → Nat := fun e => if e = 3 then N 3 - 1 else if 13 + pl ≤ e ∧ e < 13 + k then N (e + 1) else N e
theorem shN_q {N : Nat → Nat} {pl k e : Nat} : shN N pl k (13 + e) = if pl ≤ e ∧ e < k then N (14 + e) else N (13 + e) := by
  unfold shN
  rw [if_neg (by omega)]
  by_cases h : pl ≤ e ∧ e < k
  · rw [if_pos h, if_pos (by omega), show 13 + e + 1 = 14 + e by omega]
  · rw [if_neg h, if_neg (by omega)]
theorem lvN_q {N : Nat → Nat} {pl e : Nat} (he : e < N 3 - 1) : lvN N pl (13 + e) = if pl ≤ e then N (14 + e) else N (13 + e) := by
  unfold lvN
  rw [if_neg (by omega)]
  by_cases h : pl ≤ e
  · rw [if_pos h, if_pos (by omega), show 13 + e + 1 = 14 + e by omega]
  · rw [if_neg h, if_neg (by omega), if_neg (by omega)]
section QUEUE
variable {x m : zG} {i p nj nb j pl : Nat} {J : Nat → Nat → Nat} {N : Nat → Nat}
theorem m_leaveL {a : Int32} (h6 : N 3 ≤ 6) (hpl : pl < N 3) (hb : ∀ e, e < 31 → N e < 65536) : ∀ (c f k : Nat) (g : zG), k + c = N 3 - 1 → pl ≤ k → c < f → SM g 105 0 (shN N pl k) → Fr P105 m g → ∃ g', m_X7_leaveAt_L12 a f g (nI k) = some g' ∧ SM g' 105 0 (lvN N pl) ∧ Fr P105 m g' := by
  intro c
  induction c with
  | zero =>
    intro f k g hk hp hf hS hF
    obtain ⟨f, rfl⟩ : ∃ f', f = f' + 1 := ⟨f - 1, by omega⟩
    have e3 : shN N pl k 3 = N 3 - 1 := by simp [shN]
    unfold m_X7_leaveAt_L12 m_X7_leaveAt_B48
    rw [n_cl (by omega), hS.z (by omega), e3, lt_f (by omega) (by omega), n_add, n_cl (by omega)]
    rw [gd_inb (by omega) (by omega), gd_inb (by omega) (by omega), gd_inb (by omega) (by omega), bd_e]
    refine ⟨_, rfl, (hS.up0 (e := 13 + (N 3 - 1)) (v := 0)).cg ?_, hF.ui rfl⟩
    intro e he
    unfold upN shN lvN
    by_cases h1 : e = 13 + (N 3 - 1)
    · rw [if_pos h1, if_neg (by omega), if_neg (by omega), if_pos (by omega)]
    · rw [if_neg h1]
      by_cases h2 : e = 3
      · rw [if_pos h2, if_pos h2]
      · rw [if_neg h2, if_neg h2]
        by_cases h3 : 13 + pl ≤ e ∧ e < 13 + k
        · rw [if_pos h3, if_pos (by omega)]
        · rw [if_neg h3, if_neg (by omega), if_neg (by omega)]
  | succ c ih =>
    intro f k g hk hp hf hS hF
    obtain ⟨f, rfl⟩ : ∃ f', f = f' + 1 := ⟨f - 1, by omega⟩
    have e3 : shN N pl k 3 = N 3 - 1 := by simp [shN]
    unfold m_X7_leaveAt_L12
    rw [n_cl (by omega), hS.z (by omega), e3, lt_t (by omega) (by omega), n_add, n_add, n_cl (by omega), n_cl (by omega), hS.z (by omega), n_add]
    rw [gd_inb (by omega) (by omega), gd_inb (by omega) (by omega), gd_inb (by omega) (by omega), bd_e]
    refine ih f (k + 1) _ (by omega) (by omega) (by omega) ((hS.up0).cg ?_) (hF.ui rfl)
    intro e he
    unfold upN shN
    by_cases h1 : e = 13 + k
    · rw [if_pos h1, if_neg (by omega), if_neg (by omega), if_neg (by omega), if_pos (by omega), h1]
    · rw [if_neg h1]
      by_cases h2 : e = 3
      · rw [if_pos h2, if_pos h2]
      · rw [if_neg h2, if_neg h2]
        by_cases h3 : 13 + pl ≤ e ∧ e < 13 + k
        · rw [if_pos h3, if_pos (by omega)]
        · rw [if_neg h3, if_neg (by omega)]
theorem m_leave (hS : SM m 105 0 N) (h6 : N 3 ≤ 6) (hpl : pl < N 3) (hb : ∀ e, e < 31 → N e < 65536) : ∃ m', m_X7_leaveAt m (nI pl) = some m' ∧ SM m' 105 0 (lvN N pl) ∧ Fr P105 m m' := by
  unfold m_X7_leaveAt
  rw [gd_inb (by omega) (by omega), gd_inb (by omega) (by omega), n_cl (by omega), hS.z (by omega), n_sub (by omega), bd_e]
  refine m_leaveL h6 hpl hb (N 3 - 1 - pl) FU pl _ (by omega) (Nat.le_refl _) (by show _ < 1000; omega) ((hS.up0).cg ?_) (Fr.rf.ui rfl)
  intro e he
  unfold upN shN
  by_cases h1 : e = 3
  · rw [if_pos h1, if_pos h1]
  · rw [if_neg h1, if_neg h1, if_neg (by omega)]
theorem x_leaveL {a : Int32} (h6 : N 3 ≤ 6) (hpl : pl < N 3) : ∀ (c f k : Nat) (g : zG), k + c = N 3 - 1 → pl ≤ k → c < f → (∀ e, e < N 3 → gi g 4 i e = nI (shN N pl k (13 + e))) → gi g 3 i 0 = nI (N 3) → Fr (fun f a => (f = 4 ∨ f = 3) ∧ a = i) x g → ∃ g', m_X2_leaveQueue_L24 i a f g (nI k) = some g' ∧ (∀ e, e < N 3 - 1 → gi g' 4 i e = nI (lvN N pl (13 + e))) ∧ gi g' 3 i 0 = nI (N 3 - 1) ∧ Fr (fun f a => (f = 4 ∨ f = 3) ∧ a = i) x g' := by
  intro c
  induction c with
  | zero =>
    intro f k g hk hp hf hQ h3 hF
    obtain ⟨f, rfl⟩ : ∃ f', f = f' + 1 := ⟨f - 1, by omega⟩
    unfold m_X2_leaveQueue_L24 m_X2_leaveQueue_B58
    rw [n_add, h3, lt_f (by omega) (by omega), bd_e, n_sub (by omega)]
    refine ⟨_, rfl, fun e he => ?_, ?_, hF.ui ⟨Or.inr rfl, rfl⟩⟩
    · rw [gi_ui, if_neg (by omega), hQ e (by omega)]
      rw [shN_q, lvN_q he]
      by_cases h1 : pl ≤ e
      · rw [if_pos h1, if_pos (by omega)]
      · rw [if_neg h1, if_neg (by omega)]
    · rw [gi_ui, if_pos ⟨rfl, rfl, rfl⟩]
  | succ c ih =>
    intro f k g hk hp hf hQ h3 hF
    obtain ⟨f, rfl⟩ : ∃ f', f = f' + 1 := ⟨f - 1, by omega⟩
    unfold m_X2_leaveQueue_L24
    rw [n_add, h3, lt_t (by omega) (by omega), x_at (k := 4) (n := 6) rfl (by omega) (by omega) (by omega), hQ (k + 1) (by omega), bi_e, x_put (k := 4) (n := 6) rfl (by omega) (by omega), bi_e]
    refine ih f (k + 1) _ (by omega) (by omega) (by omega) (fun e he => ?_) (by rw [gi_ui, if_neg (by omega)]; exact h3) (hF.ui ⟨Or.inl rfl, rfl⟩)
    rw [gi_ui]
    by_cases h1 : e = k
    · subst h1
      rw [if_pos ⟨rfl, rfl, rfl⟩]
      rw [shN_q, shN_q, if_neg (by omega), if_pos (by omega), show 13 + (e + 1) = 14 + e by omega]
    · rw [if_neg (by omega), hQ e he, shN_q, shN_q]
      by_cases h2 : pl ≤ e ∧ e < k
      · rw [if_pos h2, if_pos (by omega)]
      · rw [if_neg h2, if_neg (by omega)]
/-- half done no more, if the first one left -/
def hfN (N : Nat → Nat) (pl : Nat) : Nat → Nat := if pl = 0 then upN N 2 0 else N
theorem x_leave (hS : SX x i N) (h6 : N 3 ≤ 6) (hb : ∀ e, e < 31 → N e < 65536) (hj : j < 65536) (hp : plc N j = some pl) : ∃ x', m_X2_leaveQueue x i (nI j) = some x' ∧ SX x' i (lvN (hfN N pl) pl) ∧ Fr (PNow i) x x' := by
  obtain ⟨hpl, hq⟩ := plc_s hp
  obtain ⟨s0, s1, s2, s3, s4, s5, s6, s7, s8⟩ := id hS
  unfold m_X2_leaveQueue m_X2_leaveQueue_B22
  rw [x_place hS h6 (fun k hk => hb _ (by omega)) hj, hp, bi_e, e9_s, eq9_f (by omega)]
  have key : ∀ g0 : zG, Fr (fun f a => f = 2 ∧ a = i) x g0 → gi g0 2 i 0 = nI (hfN N pl 2) → ∃ x', m_X2_leaveQueue_L24 i (nI j) FU g0 (nI pl) = some x' ∧ SX x' i (lvN (hfN N pl) pl) ∧ Fr (PNow i) x x' := by
    intro g0 hF0 hg2
    obtain ⟨g', e1, e2, e3, e4⟩ := x_leaveL (x := g0) (i := i) (N := N) (pl := pl) (a := nI j) h6 hpl (N 3 - 1 - pl) FU pl g0 (by omega) (Nat.le_refl _) (by show _ < 1000; omega) (fun e he => by
      rw [hF0.1 4 i e (by omega), s4 e he, shN_q, if_neg (by omega)]) (by rw [hF0.1 3 i 0 (by omega)]; exact s3) Fr.rf
    have eN : ∀ d, ¬ d = 2 → hfN N pl d = N d := fun d hd => by unfold hfN; split <;> simp [upN, hd]
    have eL : ∀ d, d < 13 → ¬ d = 3 → lvN (hfN N pl) pl d = hfN N pl d := fun d h1 h2 => by
      unfold lvN; rw [if_neg h2, if_neg (by omega), if_neg (by rw [eN 3 (by omega)]; omega)]
    have eL2 : ∀ d, 19 ≤ d → lvN (hfN N pl) pl d = N d := fun d h1 => by
      unfold lvN; rw [eN 3 (by omega), if_neg (by omega), if_neg (by omega), if_neg (by omega), eN d (by omega)]
    have eL3 : lvN (hfN N pl) pl 3 = N 3 - 1 := by unfold lvN; rw [if_pos rfl, eN 3 (by omega)]
    have eQ : ∀ d, 13 ≤ d → lvN (hfN N pl) pl d = lvN N pl d := fun d h1 => by
      unfold lvN; rw [eN 3 (by omega), eN (d + 1) (by omega), eN d (by omega)]
    have hF : ∀ f a b, ¬ ((f = 2 ∨ f = 3 ∨ f = 4) ∧ a = i) → gi g' f a b = gi x f a b := fun f a b h => by
      rw [e4.1 f a b (by omega), hF0.1 f a b (by omega)]
    refine ⟨g', e1, ⟨?_, ?_, ?_, ?_, fun k hk => ?_, fun k hk => ?_, fun k hk => ?_, fun k hk => ?_, fun k hk => ?_⟩, ⟨fun f a b h => hF f a b (fun q => h ⟨by omega, q.2⟩), fun f => (e4.2.1 f).trans (hF0.2.1 f), fun f => (e4.2.2 f).trans (hF0.2.2 f)⟩⟩
    · rw [hF 0 i 0 (by omega), s0, eL 0 (by omega) (by omega), eN 0 (by omega)]
    · rw [hF 1 i 0 (by omega), s1, eL 1 (by omega) (by omega), eN 1 (by omega)]
    · rw [e4.1 2 i 0 (by omega), hg2, eL 2 (by omega) (by omega)]
    · rw [e3, eL3]
    · rw [eL3] at hk; rw [e2 k hk, eQ _ (by omega)]
    · rw [hF 5 i k (by omega), s5 k hk, eL2 _ (by omega)]
    · rw [hF 6 i k (by omega), s6 k hk, eL2 _ (by omega)]
    · rw [hF 7 i k (by omega), s7 k hk, eL _ (by omega) (by omega), eN _ (by omega)]
    · rw [hF 8 i k (by omega), s8 k hk, eL _ (by omega) (by omega), eN _ (by omega)]
  by_cases h0 : pl = 0
  · subst h0
    rw [eq_t rfl, gd_isb (by omega), bd_e]
    exact key _ (Fr.rf.ui ⟨rfl, rfl⟩) (by rw [gi_ui, if_pos ⟨rfl, rfl, rfl⟩]; simp [hfN, upN])
  · rw [eq_f (by omega) (by omega) h0]
    exact key x Fr.rf (by rw [s2]; simp [hfN, h0])
end QUEUE
theorem SX.u0 {x : zG} {i v : Nat} {N : Nat → Nat} (h : SX x i N) (h6 : N 3 ≤ 6) : SX (ui x 0 i 0 (nI v)) i (upN N (0) v) := by
  obtain ⟨s0, s1, s2, s3, s4, s5, s6, s7, s8⟩ := h
  refine ⟨?_, ?_, ?_, ?_, fun j hj => ?_, fun j hj => ?_, fun j hj => ?_, fun j hj => ?_, fun j hj => ?_⟩
  · rw [gi_ui, if_pos ⟨rfl, rfl, rfl⟩, upN_s]
  · rw [gi_ui, if_neg (by omega), upN_n (by omega)]; exact s1
  · rw [gi_ui, if_neg (by omega), upN_n (by omega)]; exact s2
  · rw [gi_ui, if_neg (by omega), upN_n (by omega)]; exact s3
  · rw [upN_n (by omega)] at hj; rw [gi_ui, if_neg (by omega), upN_n (by omega)]; exact s4 j hj
  · rw [gi_ui, if_neg (by omega), upN_n (by omega)]; exact s5 j hj
  · rw [gi_ui, if_neg (by omega), upN_n (by omega)]; exact s6 j hj
  · rw [gi_ui, if_neg (by omega), upN_n (by omega)]; exact s7 j hj
  · rw [gi_ui, if_neg (by omega), upN_n (by omega)]; exact s8 j hj
theorem SX.u1 {x : zG} {i v : Nat} {N : Nat → Nat} (h : SX x i N) (h6 : N 3 ≤ 6) : SX (ui x 1 i 0 (nI v)) i (upN N (1) v) := by
  obtain ⟨s0, s1, s2, s3, s4, s5, s6, s7, s8⟩ := h
  refine ⟨?_, ?_, ?_, ?_, fun j hj => ?_, fun j hj => ?_, fun j hj => ?_, fun j hj => ?_, fun j hj => ?_⟩
  · rw [gi_ui, if_neg (by omega), upN_n (by omega)]; exact s0
  · rw [gi_ui, if_pos ⟨rfl, rfl, rfl⟩, upN_s]
  · rw [gi_ui, if_neg (by omega), upN_n (by omega)]; exact s2
  · rw [gi_ui, if_neg (by omega), upN_n (by omega)]; exact s3
  · rw [upN_n (by omega)] at hj; rw [gi_ui, if_neg (by omega), upN_n (by omega)]; exact s4 j hj
  · rw [gi_ui, if_neg (by omega), upN_n (by omega)]; exact s5 j hj
  · rw [gi_ui, if_neg (by omega), upN_n (by omega)]; exact s6 j hj
  · rw [gi_ui, if_neg (by omega), upN_n (by omega)]; exact s7 j hj
  · rw [gi_ui, if_neg (by omega), upN_n (by omega)]; exact s8 j hj
theorem SX.u2 {x : zG} {i v : Nat} {N : Nat → Nat} (h : SX x i N) (h6 : N 3 ≤ 6) : SX (ui x 2 i 0 (nI v)) i (upN N (2) v) := by
  obtain ⟨s0, s1, s2, s3, s4, s5, s6, s7, s8⟩ := h
  refine ⟨?_, ?_, ?_, ?_, fun j hj => ?_, fun j hj => ?_, fun j hj => ?_, fun j hj => ?_, fun j hj => ?_⟩
  · rw [gi_ui, if_neg (by omega), upN_n (by omega)]; exact s0
  · rw [gi_ui, if_neg (by omega), upN_n (by omega)]; exact s1
  · rw [gi_ui, if_pos ⟨rfl, rfl, rfl⟩, upN_s]
  · rw [gi_ui, if_neg (by omega), upN_n (by omega)]; exact s3
  · rw [upN_n (by omega)] at hj; rw [gi_ui, if_neg (by omega), upN_n (by omega)]; exact s4 j hj
  · rw [gi_ui, if_neg (by omega), upN_n (by omega)]; exact s5 j hj
  · rw [gi_ui, if_neg (by omega), upN_n (by omega)]; exact s6 j hj
  · rw [gi_ui, if_neg (by omega), upN_n (by omega)]; exact s7 j hj
  · rw [gi_ui, if_neg (by omega), upN_n (by omega)]; exact s8 j hj
theorem SX.u5 {x : zG} {i v t : Nat} {N : Nat → Nat} (h : SX x i N) (h6 : N 3 ≤ 6) (ht : t < 6) : SX (ui x 5 i t (nI v)) i (upN N (19 + t) v) := by
  obtain ⟨s0, s1, s2, s3, s4, s5, s6, s7, s8⟩ := h
  refine ⟨?_, ?_, ?_, ?_, fun j hj => ?_, fun j hj => ?_, fun j hj => ?_, fun j hj => ?_, fun j hj => ?_⟩
  · rw [gi_ui, if_neg (by omega), upN_n (by omega)]; exact s0
  · rw [gi_ui, if_neg (by omega), upN_n (by omega)]; exact s1
  · rw [gi_ui, if_neg (by omega), upN_n (by omega)]; exact s2
  · rw [gi_ui, if_neg (by omega), upN_n (by omega)]; exact s3
  · rw [upN_n (by omega)] at hj; rw [gi_ui, if_neg (by omega), upN_n (by omega)]; exact s4 j hj
  · by_cases hjj : j = t
    · subst hjj; rw [gi_ui, if_pos ⟨rfl, rfl, rfl⟩, upN_s]
    · rw [gi_ui, if_neg (by omega), upN_n (by omega)]; exact s5 j hj
  · rw [gi_ui, if_neg (by omega), upN_n (by omega)]; exact s6 j hj
  · rw [gi_ui, if_neg (by omega), upN_n (by omega)]; exact s7 j hj
  · rw [gi_ui, if_neg (by omega), upN_n (by omega)]; exact s8 j hj
theorem SX.u6 {x : zG} {i v t : Nat} {N : Nat → Nat} (h : SX x i N) (h6 : N 3 ≤ 6) (ht : t < 6) (hv : ¬ v = 0) : SX (ui x 6 i t (nI v)) i (upN N (25 + t) v) := by
  obtain ⟨s0, s1, s2, s3, s4, s5, s6, s7, s8⟩ := h
  refine ⟨?_, ?_, ?_, ?_, fun j hj => ?_, fun j hj => ?_, fun j hj => ?_, fun j hj => ?_, fun j hj => ?_⟩
  · rw [gi_ui, if_neg (by omega), upN_n (by omega)]; exact s0
  · rw [gi_ui, if_neg (by omega), upN_n (by omega)]; exact s1
  · rw [gi_ui, if_neg (by omega), upN_n (by omega)]; exact s2
  · rw [gi_ui, if_neg (by omega), upN_n (by omega)]; exact s3
  · rw [upN_n (by omega)] at hj; rw [gi_ui, if_neg (by omega), upN_n (by omega)]; exact s4 j hj
  · rw [gi_ui, if_neg (by omega), upN_n (by omega)]; exact s5 j hj
  · by_cases hjj : j = t
    · subst hjj; rw [gi_ui, if_pos ⟨rfl, rfl, rfl⟩, upN_s, if_neg hv]
    · rw [gi_ui, if_neg (by omega), upN_n (by omega)]; exact s6 j hj
  · rw [gi_ui, if_neg (by omega), upN_n (by omega)]; exact s7 j hj
  · rw [gi_ui, if_neg (by omega), upN_n (by omega)]; exact s8 j hj
theorem SX.u7 {x : zG} {i v t : Nat} {N : Nat → Nat} (h : SX x i N) (h6 : N 3 ≤ 6) (ht : t < 3) : SX (ui x 7 i t (nI v)) i (upN N (4 + t) v) := by
  obtain ⟨s0, s1, s2, s3, s4, s5, s6, s7, s8⟩ := h
  refine ⟨?_, ?_, ?_, ?_, fun j hj => ?_, fun j hj => ?_, fun j hj => ?_, fun j hj => ?_, fun j hj => ?_⟩
  · rw [gi_ui, if_neg (by omega), upN_n (by omega)]; exact s0
  · rw [gi_ui, if_neg (by omega), upN_n (by omega)]; exact s1
  · rw [gi_ui, if_neg (by omega), upN_n (by omega)]; exact s2
  · rw [gi_ui, if_neg (by omega), upN_n (by omega)]; exact s3
  · rw [upN_n (by omega)] at hj; rw [gi_ui, if_neg (by omega), upN_n (by omega)]; exact s4 j hj
  · rw [gi_ui, if_neg (by omega), upN_n (by omega)]; exact s5 j hj
  · rw [gi_ui, if_neg (by omega), upN_n (by omega)]; exact s6 j hj
  · by_cases hjj : j = t
    · subst hjj; rw [gi_ui, if_pos ⟨rfl, rfl, rfl⟩, upN_s]
    · rw [gi_ui, if_neg (by omega), upN_n (by omega)]; exact s7 j hj
  · rw [gi_ui, if_neg (by omega), upN_n (by omega)]; exact s8 j hj
theorem SX.u8 {x : zG} {i v t : Nat} {N : Nat → Nat} (h : SX x i N) (h6 : N 3 ≤ 6) (ht : t < 6) : SX (ui x 8 i t (nI v)) i (upN N (7 + t) v) := by
  obtain ⟨s0, s1, s2, s3, s4, s5, s6, s7, s8⟩ := h
  refine ⟨?_, ?_, ?_, ?_, fun j hj => ?_, fun j hj => ?_, fun j hj => ?_, fun j hj => ?_, fun j hj => ?_⟩
  · rw [gi_ui, if_neg (by omega), upN_n (by omega)]; exact s0
  · rw [gi_ui, if_neg (by omega), upN_n (by omega)]; exact s1
  · rw [gi_ui, if_neg (by omega), upN_n (by omega)]; exact s2
  · rw [gi_ui, if_neg (by omega), upN_n (by omega)]; exact s3
  · rw [upN_n (by omega)] at hj; rw [gi_ui, if_neg (by omega), upN_n (by omega)]; exact s4 j hj
  · rw [gi_ui, if_neg (by omega), upN_n (by omega)]; exact s5 j hj
  · rw [gi_ui, if_neg (by omega), upN_n (by omega)]; exact s6 j hj
  · rw [gi_ui, if_neg (by omega), upN_n (by omega)]; exact s7 j hj
  · by_cases hjj : j = t
    · subst hjj; rw [gi_ui, if_pos ⟨rfl, rfl, rfl⟩, upN_s]
    · rw [gi_ui, if_neg (by omega), upN_n (by omega)]; exact s8 j hj
