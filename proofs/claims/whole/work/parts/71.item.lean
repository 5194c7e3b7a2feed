/-! office: an item on both sides -/
theorem told_8 : ∀ a b c : Fin 2, (nI (a.1 + 2 * b.1 + 4 * c.1) &&& nI 1 = nI 0 ↔ a.1 = 0) ∧ (nI (a.1 + 2 * b.1 + 4 * c.1) &&& nI 2 = nI 0 ↔ b.1 = 0) ∧ (nI (a.1 + 2 * b.1 + 4 * c.1) &&& nI 4 = nI 0 ↔ c.1 = 0) ∧ (nI (a.1 + 2 * b.1 + 4 * c.1) &&& nI 0 = nI 0) ∧ (nI (a.1 + 2 * b.1 + 4 * c.1) ||| nI 0 = nI (a.1 + 2 * b.1 + 4 * c.1)) ∧ (nI (a.1 + 2 * b.1 + 4 * c.1) ||| nI 1 = nI (1 + 2 * b.1 + 4 * c.1)) ∧ (nI (a.1 + 2 * b.1 + 4 * c.1) ||| nI 2 = nI (a.1 + 2 * 1 + 4 * c.1)) ∧ (nI (a.1 + 2 * b.1 + 4 * c.1) ||| nI 4 = nI (a.1 + 2 * b.1 + 4 * 1)) := by decide
theorem told_n {a b c : Nat} (ha : a ≤ 1) (hb : b ≤ 1) (hc : c ≤ 1) : (nI (a + 2 * b + 4 * c) &&& nI 1 = nI 0 ↔ a = 0) ∧ (nI (a + 2 * b + 4 * c) &&& nI 2 = nI 0 ↔ b = 0) ∧ (nI (a + 2 * b + 4 * c) &&& nI 4 = nI 0 ↔ c = 0) ∧ (nI (a + 2 * b + 4 * c) &&& nI 0 = nI 0) ∧ (nI (a + 2 * b + 4 * c) ||| nI 0 = nI (a + 2 * b + 4 * c)) ∧ (nI (a + 2 * b + 4 * c) ||| nI 1 = nI (1 + 2 * b + 4 * c)) ∧ (nI (a + 2 * b + 4 * c) ||| nI 2 = nI (a + 2 * 1 + 4 * c)) ∧ (nI (a + 2 * b + 4 * c) ||| nI 4 = nI (a + 2 * b + 4 * 1)) :=
  told_8 ⟨a, by omega⟩ ⟨b, by omega⟩ ⟨c, by omega⟩
/-- the plan that is being told, on both sides -/
def Bp (x m : zG) (p : Nat) : Prop := ∃ (tt tk tb n K B : Nat) (T : Nat → Nat) (J : Nat → Nat → Nat), BXp x p tt tk tb n K B T J ∧ BMp m tt tk tb n K B T J ∧ BBp tt tk tb n K B T J
/-- what an item does -/
def ItR (x m : zG) (p tl q1 : Nat) (rx rm : Option (Int32 × zG)) : Prop := ∃ x' m', Fr (PIx p) x x' ∧ Fr PJm m m' ∧ ((StpR x' m' tl ∧ rx = some (nI 0, x') ∧ rm = some (nI 0, m')) ∨ ∃ q2, q1 < q2 ∧ q2 ≤ tl ∧ gi x' 51 0 0 = nI q2 ∧ gi m' 125 0 0 = nI q2 ∧ Bp x' m' p ∧ rx = some (nI 1, x') ∧ rm = some (nI 1, m'))
def PJt (j : Nat) : Nat → Nat → Prop := fun f a => 20 ≤ f ∧ f ≤ 26 ∧ a = j
section TELL
variable {g : zG} {p j : Nat} {V : Nat → Nat}
theorem tell_B86 {s : Nat} {g : zG} {v1 v3 : Nat} (h3 : v3 ≤ 1) (e1 : gi g 21 j 0 = nI v1) (e3 : gi g 23 j 0 = nI v3) : m_X1_tell_B86 j 17 p g (nI s) = some (ui (ui g 25 j 0 (nI s)) 26 j 0 (nI (if v3 = 1 then s else v1))) := by
  unfold m_X1_tell_B86
  have e23 : gi (ui g 25 j 0 (nI s)) 23 j 0 = nI v3 := by rw [gi_ui, if_neg (by omega)]; exact e3
  have e21 : gi (ui g 25 j 0 (nI s)) 21 j 0 = nI v1 := by rw [gi_ui, if_neg (by omega)]; exact e1
  rw [bd_e, e23, e21, gi_s]
  by_cases h : v3 = 1
  · rw [eq_f (by omega) (by omega) (by omega), bd_e, if_pos h]
  · rw [eq_t (by omega), bd_e, if_neg h]
theorem x_tell (hV : ∀ r, r < 5 → gi g 17 p r = nI (V r)) (h0 : V 0 ≤ 9) (h2 : V 2 ≤ 1) (h3 : V 3 ≤ 1) : ∃ g', m_X1_tell g j 17 p = some g' ∧ Fr (PJt j) g g' ∧ gi g' 20 j 0 = nI (V 0) ∧ gi g' 21 j 0 = nI (V 1) ∧ gi g' 22 j 0 = nI (V 2) ∧ gi g' 23 j 0 = nI (V 3) ∧ gi g' 24 j 0 = nI (V 4) ∧ gi g' 25 j 0 = nI (if V 2 = 1 then (V 0 + 1) / 2 else V 0) ∧ gi g' 26 j 0 = nI (if V 3 = 1 then (if V 2 = 1 then (V 0 + 1) / 2 else V 0) else V 1) := by
  have at_ : ∀ (g1 : zG) (r : Nat), r < 5 → Fr (PJt j) g g1 → m_X6_at g1 17 p (nI r) = some (nI (V r)) := fun g1 r hr hf => by
    rw [x_at (k := 17) (n := 5) rfl (by omega) (by omega) hr, hf.1 17 p r (fun q => by have := q.1; omega), hV r hr]
  have F0 : Fr (PJt j) g g := Fr.rf
  have F1 : Fr (PJt j) g (ui g 20 j 0 (nI (V 0))) := F0.ui ⟨by omega, by omega, rfl⟩
  have F2 : Fr (PJt j) g (ui (ui g 20 j 0 (nI (V 0))) 21 j 0 (nI (V 1))) := F1.ui ⟨by omega, by omega, rfl⟩
  have F3 : Fr (PJt j) g (ui (ui (ui g 20 j 0 (nI (V 0))) 21 j 0 (nI (V 1))) 22 j 0 (nI (V 2))) := F2.ui ⟨by omega, by omega, rfl⟩
  have F4 : Fr (PJt j) g (ui (ui (ui (ui g 20 j 0 (nI (V 0))) 21 j 0 (nI (V 1))) 22 j 0 (nI (V 2))) 23 j 0 (nI (V 3))) := F3.ui ⟨by omega, by omega, rfl⟩
  have F5 : Fr (PJt j) g (ui (ui (ui (ui (ui g 20 j 0 (nI (V 0))) 21 j 0 (nI (V 1))) 22 j 0 (nI (V 2))) 23 j 0 (nI (V 3))) 24 j 0 (nI (V 4))) := F4.ui ⟨by omega, by omega, rfl⟩
  have s5 : ∀ s, s = (if V 2 = 1 then (V 0 + 1) / 2 else V 0) → m_X1_tell_B86 j 17 p (ui (ui (ui (ui (ui g 20 j 0 (nI (V 0))) 21 j 0 (nI (V 1))) 22 j 0 (nI (V 2))) 23 j 0 (nI (V 3))) 24 j 0 (nI (V 4))) (nI s) = some (ui (ui (ui (ui (ui (ui (ui g 20 j 0 (nI (V 0))) 21 j 0 (nI (V 1))) 22 j 0 (nI (V 2))) 23 j 0 (nI (V 3))) 24 j 0 (nI (V 4))) 25 j 0 (nI (if V 2 = 1 then (V 0 + 1) / 2 else V 0))) 26 j 0 (nI (if V 3 = 1 then (if V 2 = 1 then (V 0 + 1) / 2 else V 0) else V 1))) := fun s hs => by
    rw [tell_B86 (v1 := V 1) (v3 := V 3) h3 (by simp only [gi_ui]; rw [if_neg (by omega), if_neg (by omega), if_neg (by omega), if_pos (by simp)]) (by simp only [gi_ui]; rw [if_neg (by omega), if_pos (by simp)]), hs]
  have s4 : m_X1_tell_B51 j 17 p (ui (ui (ui g 20 j 0 (nI (V 0))) 21 j 0 (nI (V 1))) 22 j 0 (nI (V 2))) (nI (V 3)) = some (ui (ui (ui (ui (ui (ui (ui g 20 j 0 (nI (V 0))) 21 j 0 (nI (V 1))) 22 j 0 (nI (V 2))) 23 j 0 (nI (V 3))) 24 j 0 (nI (V 4))) 25 j 0 (nI (if V 2 = 1 then (V 0 + 1) / 2 else V 0))) 26 j 0 (nI (if V 3 = 1 then (if V 2 = 1 then (V 0 + 1) / 2 else V 0) else V 1))) := by
    unfold m_X1_tell_B51
    rw [gd_isb h3, bd_e, at_ _ 4 (by omega) F4, bi_e, bd_e]
    have e22 : gi (ui (ui (ui (ui (ui g 20 j 0 (nI (V 0))) 21 j 0 (nI (V 1))) 22 j 0 (nI (V 2))) 23 j 0 (nI (V 3))) 24 j 0 (nI (V 4))) 22 j 0 = nI (V 2) := by
      simp only [gi_ui]; rw [if_neg (by omega), if_neg (by omega), if_pos (by simp)]
    have e20 : gi (ui (ui (ui (ui (ui g 20 j 0 (nI (V 0))) 21 j 0 (nI (V 1))) 22 j 0 (nI (V 2))) 23 j 0 (nI (V 3))) 24 j 0 (nI (V 4))) 20 j 0 = nI (V 0) := by
      simp only [gi_ui]; rw [if_neg (by omega), if_neg (by omega), if_neg (by omega), if_neg (by omega), if_pos (by simp)]
    rw [e22, e20, n_add, n_div (by omega) (by omega) (by omega)]
    by_cases h : V 2 = 1
    · rw [eq_f (by omega) (by omega) (by omega), gd_n2]
      exact s5 _ (by rw [if_pos h])
    · rw [eq_t (by omega)]
      exact s5 _ (by rw [if_neg h])
  have s3 : m_X1_tell_B33 j 17 p (ui (ui g 20 j 0 (nI (V 0))) 21 j 0 (nI (V 1))) (nI (V 2)) = some (ui (ui (ui (ui (ui (ui (ui g 20 j 0 (nI (V 0))) 21 j 0 (nI (V 1))) 22 j 0 (nI (V 2))) 23 j 0 (nI (V 3))) 24 j 0 (nI (V 4))) 25 j 0 (nI (if V 2 = 1 then (V 0 + 1) / 2 else V 0))) 26 j 0 (nI (if V 3 = 1 then (if V 2 = 1 then (V 0 + 1) / 2 else V 0) else V 1))) := by
    unfold m_X1_tell_B33
    rw [gd_isb h2, bd_e, at_ _ 3 (by omega) F3, bi_e, ← s4]
    by_cases h : V 3 = 1
    · rw [eq_t h, h]
    · rw [eq_f (by omega) (by omega) h, show V 3 = 0 by omega]
  refine ⟨_, ?_, (F5.ui (f := 25) (j := 0) (v := nI (if V 2 = 1 then (V 0 + 1) / 2 else V 0)) ⟨by omega, by omega, rfl⟩).ui (f := 26) (j := 0) (v := nI (if V 3 = 1 then (if V 2 = 1 then (V 0 + 1) / 2 else V 0) else V 1)) ⟨by omega, by omega, rfl⟩, ?_, ?_, ?_, ?_, ?_, ?_, ?_⟩
  · unfold m_X1_tell
    rw [at_ _ 0 (by omega) F0, bi_e, bd_e, at_ _ 1 (by omega) F1, bi_e, bd_e, at_ _ 2 (by omega) F2, bi_e, ← s3]
    by_cases h : V 2 = 1
    · rw [eq_t h, h]
    · rw [eq_f (by omega) (by omega) h, show V 2 = 0 by omega]
  · simp only [gi_ui]; rw [if_neg (by omega), if_neg (by omega), if_neg (by omega), if_neg (by omega), if_neg (by omega), if_neg (by omega), if_pos (by simp)]
  · simp only [gi_ui]; rw [if_neg (by omega), if_neg (by omega), if_neg (by omega), if_neg (by omega), if_neg (by omega), if_pos (by simp)]
  · simp only [gi_ui]; rw [if_neg (by omega), if_neg (by omega), if_neg (by omega), if_neg (by omega), if_pos (by simp)]
  · simp only [gi_ui]; rw [if_neg (by omega), if_neg (by omega), if_neg (by omega), if_pos (by simp)]
  · simp only [gi_ui]; rw [if_neg (by omega), if_neg (by omega), if_pos (by simp)]
  · simp only [gi_ui]; rw [if_neg (by omega), if_pos (by simp)]
  · exact gi_s _ _ _ _ _
end TELL
section ITEM
variable {x m : zG} {p q q1 s v tl tt tk tb n K B : Nat} {tx T : Nat → Nat} {J : Nat → Nat → Nat}
theorem Fr.NI {x x' : zG} (h : Fr (PNx p) x x') : Fr (PIx p) x x' := h.wk (fun _ _ => PNx_I)
theorem JX.u {x' : zG} {P : Nat → Nat → Prop} (h : JX x p n B J) (hf : Fr P x x') (h1 : ¬ P 11 p) (h2 : ¬ P 12 p) (h3 : ∀ f a, 20 ≤ f → f ≤ 26 → ¬ P f a) : JX x' p n B J := by
  obtain ⟨b1, b2, b3⟩ := h
  refine ⟨by rw [hf.1 12 p 0 h2]; exact b1, by rw [hf.1 11 p 0 h1]; exact b2, fun j hj => ?_⟩
  rw [hf.1 20 _ 0 (h3 _ _ (by omega) (by omega)), hf.1 21 _ 0 (h3 _ _ (by omega) (by omega)), hf.1 22 _ 0 (h3 _ _ (by omega) (by omega)), hf.1 23 _ 0 (h3 _ _ (by omega) (by omega)), hf.1 24 _ 0 (h3 _ _ (by omega) (by omega)), hf.1 25 _ 0 (h3 _ _ (by omega) (by omega)), hf.1 26 _ 0 (h3 _ _ (by omega) (by omega))]
  exact b3 j hj
theorem it_k (hx : BXp x p tt tk tb n K B T J) (hm : BMp m tt tk tb n K B T J) (hb : BBp tt tk tb n K B T J) (hT : RT x m tl tx) (hS : StpR x m tl) (hq : q1 ≤ tl) (h51 : gi x 51 0 0 = nI q1) (h125 : gi m 125 0 0 = nI q1) : ItR x m p tl q1 (m_X3_readItem_B16 p x (nI 107)) (m_X7_readItem_B55 m (nI 107) (nI 2)) := by
  obtain ⟨⟨a1, a2, a3⟩, a4, a5, a6, a7, a8⟩ := id hx
  obtain ⟨c1, c2, c3, c4, c5, c6⟩ := id hm
  obtain ⟨d1, d2, d3, d4, d5, d6⟩ := id hb
  obtain ⟨-, t2, -, -, -, -, t7, -⟩ := told_n d1 d2 d3
  unfold m_X3_readItem_B16 m_X7_readItem_B55
  rw [eq_f (by omega) (by omega) (by omega), eq_f (by omega) (by omega) (by omega), eq_t rfl, a6, c4]
  by_cases hk : tk = 0
  · rw [eq_t hk, if_pos (t2.mpr hk), eq_f (by omega) (by omega) (by omega)]
    unfold m_X7_readItem_B81
    rw [bd_e, eq_f (by omega) (by omega) (by omega), eq_t rfl, c4, t7]
    have M1 : Fr PJm m (ui m 132 0 0 (nI (tt + 2 * 1 + 4 * tb))) := Fr.rf.ui (Or.inl ⟨by omega, by omega⟩)
    obtain ⟨x', m', f1, f2, f3, f4⟩ := one_num (p := p) (k1 := 203) (k2 := 204) (lo := 0) (hi := 999) (F := 129) (by omega) (by omega) rfl rfl (by decide) (by decide) (by omega) (by omega) (Or.inl rfl) (hT.nx (p := p) Fr.rf M1) hq h51 (by rw [gi_ui, if_neg (by omega)]; exact h125)
    have M2 : Fr PJm m m' := M1.tr (f2.wk (fun f a h => Or.inl (by rcases h with h | h <;> omega)))
    rcases f4 with ⟨e1, e2⟩ | ⟨w, q2, e1, e2, e3, e4, e5, e6, e7, e8, e9, e10⟩
    · rw [e1, sb_e, eq_t rfl, e2]
      exact ⟨x', m', f1.NI, M2, Or.inl ⟨f3, rfl, rfl⟩⟩
    · rw [e9, sb_e, eq_f (by omega) (by omega) (by omega), e10]
      unfold m_X3_tellToner
      rw [x_at (k := 17) (n := 5) rfl (by omega) (by omega) (by omega), e7, bi_e, bd_e, gd_isb (by omega), bd_e, sb_e, eq_f (by omega) (by omega) (by omega)]
      refine ⟨_, m', (f1.NI.ui (Or.inr (Or.inl ⟨by omega, by omega, rfl⟩))).ui (Or.inr (Or.inl ⟨by omega, by omega, rfl⟩)), M2, Or.inr ⟨q2, e1, e2, ?_, e4, ⟨tt, 1, tb, n, w, B, T, J, ?_, ?_, d1, by omega, d3, e6, d5, d6⟩, rfl, rfl⟩⟩
      · rw [gi_ui, if_neg (by omega), gi_ui, if_neg (by omega)]; exact e3
      · obtain ⟨b0, b4, b5, b6, b7, b8⟩ := hx.nx f1
        refine ⟨b0.u (P := fun f _ => f = 10 ∨ f = 14) ((Fr.rf.ui (Or.inl rfl)).ui (Or.inr rfl)) (by omega) (by omega) (fun f a h1 h2 => by omega), ?_, ?_, gi_s _ _ _ _ _, ?_, fun t ht => ?_⟩
        · rw [gi_ui, if_neg (by omega), gi_s]
        · rw [gi_ui, if_neg (by omega), gi_ui, if_neg (by omega)]; exact b5
        · rw [gi_ui, if_neg (by omega), gi_ui, if_neg (by omega)]; exact b7
        · rw [gi_ui, if_neg (by omega), gi_ui, if_neg (by omega)]; exact b8 t ht
      · refine ⟨e8, ?_, ?_, ?_, fun t ht => ?_, fun j hj i hi => ?_⟩
        · rw [f2.1 130 0 0 (by omega), gi_ui, if_neg (by omega)]; exact c2
        · rw [f2.1 131 0 0 (by omega), gi_ui, if_neg (by omega)]; exact c3
        · rw [f2.1 132 0 0 (by omega), gi_s]
        · rw [f2.1 109 0 t (by omega), gi_ui, if_neg (by omega)]; exact c5 t ht
        · rw [f2.1 110 0 _ (by omega), gi_ui, if_neg (by omega)]; exact c6 j hj i hi
  · rw [eq_f (by omega) (by omega) hk, if_neg (fun q => hk (t2.mp q))]
    exact ⟨x, m, Fr.rf, Fr.rf, Or.inl ⟨hS, rfl, rfl⟩⟩
theorem it_b (hx : BXp x p tt tk tb n K B T J) (hm : BMp m tt tk tb n K B T J) (hb : BBp tt tk tb n K B T J) (hT : RT x m tl tx) (hS : StpR x m tl) (hq : q1 ≤ tl) (h51 : gi x 51 0 0 = nI q1) (h125 : gi m 125 0 0 = nI q1) : ItR x m p tl q1 (m_X3_readItem_B16 p x (nI 98)) (m_X7_readItem_B55 m (nI 98) (nI 4)) := by
  obtain ⟨⟨a1, a2, a3⟩, a4, a5, a6, a7, a8⟩ := id hx
  obtain ⟨c1, c2, c3, c4, c5, c6⟩ := id hm
  obtain ⟨d1, d2, d3, d4, d5, d6⟩ := id hb
  obtain ⟨-, -, t2, -, -, -, -, t7⟩ := told_n d1 d2 d3
  unfold m_X3_readItem_B16 m_X7_readItem_B55
  rw [eq_t rfl, a7, c4]
  by_cases hk : tb = 0
  · rw [eq_t hk, if_pos (t2.mpr hk), eq_f (by omega) (by omega) (by omega)]
    unfold m_X7_readItem_B81
    rw [bd_e, eq_t rfl, c4, t7]
    have M1 : Fr PJm m (ui m 132 0 0 (nI (tt + 2 * tk + 4 * 1))) := Fr.rf.ui (Or.inl ⟨by omega, by omega⟩)
    obtain ⟨x', m', f1, f2, f3, f4⟩ := one_num (p := p) (k1 := 205) (k2 := 206) (lo := 1) (hi := 6) (F := 130) (by omega) (by omega) rfl rfl (by decide) (by decide) (by omega) (by omega) (Or.inr rfl) (hT.nx (p := p) Fr.rf M1) hq h51 (by rw [gi_ui, if_neg (by omega)]; exact h125)
    have M2 : Fr PJm m m' := M1.tr (f2.wk (fun f a h => Or.inl (by rcases h with h | h <;> omega)))
    rcases f4 with ⟨e1, e2⟩ | ⟨w, q2, e1, e2, e3, e4, e5, e6, e7, e8, e9, e10⟩
    · rw [e1, sb_e, eq_t rfl, e2]
      exact ⟨x', m', f1.NI, M2, Or.inl ⟨f3, rfl, rfl⟩⟩
    · rw [e9, sb_e, eq_f (by omega) (by omega) (by omega), e10]
      unfold m_X3_tellBins
      rw [x_at (k := 17) (n := 5) rfl (by omega) (by omega) (by omega), e7, bi_e, bd_e, gd_isb (by omega), bd_e, sb_e, eq_f (by omega) (by omega) (by omega)]
      refine ⟨_, m', (f1.NI.ui (Or.inr (Or.inl ⟨by omega, by omega, rfl⟩))).ui (Or.inr (Or.inl ⟨by omega, by omega, rfl⟩)), M2, Or.inr ⟨q2, e1, e2, ?_, e4, ⟨tt, tk, 1, n, K, w, T, J, ?_, ?_, d1, d2, by omega, d4, d5, d6.1, e5, e6, d6.2.2.2⟩, rfl, rfl⟩⟩
      · rw [gi_ui, if_neg (by omega), gi_ui, if_neg (by omega)]; exact e3
      · obtain ⟨⟨b1, b2, b3⟩, b4, b5, b6, b7, b8⟩ := hx.nx f1
        have b3' := (JX.u (p := p) (n := n) (B := w) (J := J) (x := ui x' 11 p 0 (nI w)) (x' := ui (ui x' 11 p 0 (nI w)) 15 p 0 (nI 1)) (P := fun f _ => f = 15) ⟨by rw [gi_ui, if_neg (by omega)]; exact b1, gi_s _ _ _ _ _, fun j hj => by
          have F : Fr (fun f _ => f = 11) x' (ui x' 11 p 0 (nI w)) := Fr.rf.ui rfl
          rw [F.1 20 _ 0 (by omega), F.1 21 _ 0 (by omega), F.1 22 _ 0 (by omega), F.1 23 _ 0 (by omega), F.1 24 _ 0 (by omega), F.1 25 _ 0 (by omega), F.1 26 _ 0 (by omega)]
          exact b3 j hj⟩ (Fr.rf.ui rfl) (by omega) (by omega) (fun f a h1 h2 => by omega))
        refine ⟨b3', ?_, ?_, ?_, gi_s _ _ _ _ _, fun t ht => ?_⟩
        · rw [gi_ui, if_neg (by omega), gi_ui, if_neg (by omega)]; exact b4
        · rw [gi_ui, if_neg (by omega), gi_ui, if_neg (by omega)]; exact b5
        · rw [gi_ui, if_neg (by omega), gi_ui, if_neg (by omega)]; exact b6
        · rw [gi_ui, if_neg (by omega), gi_ui, if_neg (by omega)]; exact b8 t ht
      · refine ⟨?_, e8, ?_, ?_, fun t ht => ?_, fun j hj i hi => ?_⟩
        · rw [f2.1 129 0 0 (by omega), gi_ui, if_neg (by omega)]; exact c1
        · rw [f2.1 131 0 0 (by omega), gi_ui, if_neg (by omega)]; exact c3
        · rw [f2.1 132 0 0 (by omega), gi_s]
        · rw [f2.1 109 0 t (by omega), gi_ui, if_neg (by omega)]; exact c5 t ht
        · rw [f2.1 110 0 _ (by omega), gi_ui, if_neg (by omega)]; exact c6 j hj i hi
  · rw [eq_f (by omega) (by omega) hk, if_neg (fun q => hk (t2.mp q))]
    exact ⟨x, m, Fr.rf, Fr.rf, Or.inl ⟨hS, rfl, rfl⟩⟩
theorem it_t (hx : BXp x p tt tk tb n K B T J) (hm : BMp m tt tk tb n K B T J) (hb : BBp tt tk tb n K B T J) (hT : RT x m tl tx) (hS : StpR x m tl) (hq : q1 ≤ tl) (h51 : gi x 51 0 0 = nI q1) (h125 : gi m 125 0 0 = nI q1) : ItR x m p tl q1 (m_X3_readItem_B16 p x (nI 116)) (m_X7_readItem_B55 m (nI 116) (nI 1)) := by
  obtain ⟨⟨a1, a2, a3⟩, a4, a5, a6, a7, a8⟩ := id hx
  obtain ⟨c1, c2, c3, c4, c5, c6⟩ := id hm
  obtain ⟨d1, d2, d3, d4, d5, d6⟩ := id hb
  obtain ⟨t2, -, -, -, -, t7, -, -⟩ := told_n d1 d2 d3
  unfold m_X3_readItem_B16 m_X7_readItem_B55
  rw [eq_f (by omega) (by omega) (by omega), eq_f (by omega) (by omega) (by omega), eq_f (by omega) (by omega) (by omega), eq_t rfl, a5, c4]
  by_cases hk : tt = 0
  · rw [eq_t hk, if_pos (t2.mpr hk), eq_f (by omega) (by omega) (by omega)]
    unfold m_X7_readItem_B81
    rw [bd_e, eq_f (by omega) (by omega) (by omega), eq_f (by omega) (by omega) (by omega), eq_t rfl, c4, t7]
    have M1 : Fr PJm m (ui m 132 0 0 (nI (1 + 2 * tk + 4 * tb))) := Fr.rf.ui (Or.inl ⟨by omega, by omega⟩)
    obtain ⟨x1, m1, f1, f2, f4⟩ := traysL (p := p) 3 0 q1 FU FU x (ui m 132 0 0 (nI (1 + 2 * tk + 4 * tb))) (fun _ => 0) (by omega) (by show _ < 1000; omega) (by show _ < 1000; omega) (hT.nx (p := p) Fr.rf M1) hq h51 (by rw [gi_ui, if_neg (by omega)]; exact h125) (fun r hr => by omega)
    have M2 : Fr PJm m m1 := M1.tr (f2.wk (fun f a h => by rcases h with h | h; exact Or.inl (by omega); exact Or.inr (Or.inl h)))
    unfold m_X3_readNumbers m_X7_readTrays
    rcases f4 with ⟨f3, e1, e2⟩ | ⟨V, q2, e1, e2, e3, e4, e5, e6, e7⟩
    · rw [e1, sb_e, eq_t rfl, e2, sb_e, eq_t rfl]
      exact ⟨x1, m1, f1.NI, M2, Or.inl ⟨f3, rfl, rfl⟩⟩
    · rw [e6, e7, sb_e, eq_f (by omega) (by omega) (by omega)]
      obtain ⟨x2, m2, g1, g2, g3, g4⟩ := end_both (p := p) (k1 := 201) (n1 := 0) (k2 := 202) (n2 := 0) (hT.nx f1.NI M2) e2 e3 e4
      have M3 : Fr PJm m m2 := M2.tr (g2.wk (fun f a h => PTm_I h))
      have X3 : Fr (PNx p) x x2 := f1.tr (g1.wk (fun f a h => PTx_N h))
      rcases g4 with ⟨q3, h1, h2, h3, h4, h5, h6⟩ | ⟨h5, h6⟩
      · rw [h5, sb_e, eq_f (by omega) (by omega) (by omega), h6, sb_e, eq_f (by omega) (by omega) (by omega)]
        unfold m_X3_tellTrays
        rw [x_copyRow (k0 := 17) (k1 := 16) (n := 5) (n2 := 3) rfl rfl (by omega) (by omega) (by omega), bi_e, gd_isb (by omega), bd_e, sb_e, eq_f (by omega) (by omega) (by omega)]
        refine ⟨_, m2, (X3.NI.ur (Or.inr (Or.inl ⟨by omega, by omega, rfl⟩))).ui (Or.inr (Or.inl ⟨by omega, by omega, rfl⟩)), M3, Or.inr ⟨q3, by omega, h2, ?_, h4, ⟨1, tk, tb, n, K, B, V, J, ?_, ?_, by omega, d2, d3, d4, fun t ht => (e5 t ht).1, d6⟩, rfl, rfl⟩⟩
        · rw [gi_ui, if_neg (by omega), gi_ur, if_neg (by omega)]; exact h3
        · obtain ⟨b0, b4, b5, b6, b7, b8⟩ := hx.nx X3
          refine ⟨b0.u (P := fun f _ => f = 16 ∨ f = 13) ((Fr.rf.ur (Or.inl rfl)).ui (Or.inr rfl)) (by omega) (by omega) (fun f a h1 h2 => by omega), ?_, gi_s _ _ _ _ _, ?_, ?_, fun t ht => ?_⟩
          · rw [gi_ui, if_neg (by omega), gi_ur, if_neg (by omega)]; exact b4
          · rw [gi_ui, if_neg (by omega), gi_ur, if_neg (by omega)]; exact b6
          · rw [gi_ui, if_neg (by omega), gi_ur, if_neg (by omega)]; exact b7
          · rw [gi_ui, if_neg (by omega), gi_ur, if_pos ⟨rfl, rfl, by omega⟩, g1.1 17 p t (fun q => by have := q.1; omega)]; exact (e5 t ht).2.1
        · have G : ∀ f j, f = 129 ∨ f = 130 ∨ f = 131 ∨ f = 110 → gi m2 f 0 j = gi m f 0 j := fun f j h => by
            rw [g2.1 f 0 j (fun q => by have := q.1; have := q.2; omega), f2.1 f 0 j (fun q => by rcases q with q | q <;> omega), gi_ui, if_neg (by omega)]
          refine ⟨by rw [G _ _ (by omega)]; exact c1, by rw [G _ _ (by omega)]; exact c2, by rw [G _ _ (by omega)]; exact c3, ?_, fun t ht => ?_, fun j hj i hi => by rw [G _ _ (by omega)]; exact c6 j hj i hi⟩
          · rw [g2.1 132 0 0 (fun q => by have := q.2; omega), f2.1 132 0 0 (fun q => by rcases q with q | q <;> omega), gi_s]
          · rw [g2.1 109 0 t (fun q => by have := q.1; omega)]; exact (e5 t ht).2.2
      · rw [h5, sb_e, eq_t rfl, h6, sb_e, eq_t rfl]
        exact ⟨x2, m2, X3.NI, M3, Or.inl ⟨g3, rfl, rfl⟩⟩
  · rw [eq_f (by omega) (by omega) hk, if_neg (fun q => hk (t2.mp q))]
    exact ⟨x, m, Fr.rf, Fr.rf, Or.inl ⟨hS, rfl, rfl⟩⟩
theorem it_j (hx : BXp x p tt tk tb n K B T J) (hm : BMp m tt tk tb n K B T J) (hb : BBp tt tk tb n K B T J) (hp : p < 2) (hT : RT x m tl tx) (hS : StpR x m tl) (hq : q1 ≤ tl) (h51 : gi x 51 0 0 = nI q1) (h125 : gi m 125 0 0 = nI q1) : ItR x m p tl q1 (m_X3_readItem_B16 p x (nI 106)) (m_X7_readItem_B55 m (nI 106) (nI 0)) := by
  obtain ⟨⟨a1, a2, a3⟩, a4, a5, a6, a7, a8⟩ := id hx
  obtain ⟨c1, c2, c3, c4, c5, c6⟩ := id hm
  obtain ⟨d1, d2, d3, d4, d5, d6⟩ := id hb
  obtain ⟨-, -, -, t2, t7, -, -, -⟩ := told_n d1 d2 d3
  have hn6 := d6.1
  unfold m_X3_readItem_B16 m_X7_readItem_B55
  rw [eq_f (by omega) (by omega) (by omega), eq_t rfl, a1, c4, if_pos t2, eq_t rfl, c3]
  by_cases hn : n < 6
  · rw [lt_t (by omega) hn, eq_f (by omega) (by omega) (by omega)]
    unfold m_X7_readItem_B81
    rw [bd_e, eq_f (by omega) (by omega) (by omega), eq_f (by omega) (by omega) (by omega), eq_f (by omega) (by omega) (by omega), c4, t7]
    have M1 : Fr PJm m (ui m 132 0 0 (nI (tt + 2 * tk + 4 * tb))) := Fr.rf.ui (Or.inl ⟨by omega, by omega⟩)
    obtain ⟨x1, m1, f1, f2, f4⟩ := jobL (p := p) (n := n) 5 0 q1 FU FU x (ui m 132 0 0 (nI (tt + 2 * tk + 4 * tb))) (fun _ => 0) (by omega) (by show _ < 1000; omega) (by show _ < 1000; omega) (hT.nx (p := p) Fr.rf M1) hq h51 (by rw [gi_ui, if_neg (by omega)]; exact h125) hn (by rw [gi_ui, if_neg (by omega)]; exact c3) (fun r hr => by omega)
    have M2 : Fr PJm m m1 := M1.tr (f2.wk (fun f a h => by rcases h with h | h | h; exact Or.inl (by omega); exact Or.inr (Or.inr h); exact Or.inl (by omega)))
    unfold m_X3_readNumbers m_X7_readJob
    rcases f4 with ⟨f3, e1, e2⟩ | ⟨V, q2, e1, e2, e3, e4, ea, eb, e5, e6, e7⟩
    · rw [e1, sb_e, eq_t rfl, e2, sb_e, eq_t rfl]
      exact ⟨x1, m1, f1.NI, M2, Or.inl ⟨f3, rfl, rfl⟩⟩
    · rw [e6, e7, sb_e, eq_f (by omega) (by omega) (by omega)]
      obtain ⟨x2, m2, g1, g2, g3, g4⟩ := end_both (p := p) (k1 := 200) (n1 := 0) (k2 := 207) (n2 := 0) (hT.nx f1.NI M2) e2 e3 e4
      have M3 : Fr PJm m m2 := M2.tr (g2.wk (fun f a h => PTm_I h))
      have X3 : Fr (PNx p) x x2 := f1.tr (g1.wk (fun f a h => PTx_N h))
      rcases g4 with ⟨q3, h1, h2, h3, h4, h5, h6⟩ | ⟨h5, h6⟩
      · rw [h5, sb_e, eq_f (by omega) (by omega) (by omega), h6, sb_e, eq_f (by omega) (by omega) (by omega)]
        obtain ⟨⟨b1, b2, b3⟩, b4, b5, b6, b7, b8⟩ := hx.nx X3
        have v0 := e5 0 (by omega)
        have v1 := e5 1 (by omega)
        have v2 := e5 2 (by omega)
        have v3 := e5 3 (by omega)
        have v4 := e5 4 (by omega)
        simp only [loJ, hiJ] at v0 v1 v2 v3 v4
        simp only [show (0 : Nat) < 2 from by omega, show (1 : Nat) < 2 from by omega, show ¬ (2 : Nat) < 2 from by omega, show ¬ (3 : Nat) < 2 from by omega, show ¬ (4 : Nat) < 2 from by omega, show ¬ (2 : Nat) = 4 from by omega, show ¬ (3 : Nat) = 4 from by omega, if_true, if_false] at v0 v1 v2 v3 v4
        obtain ⟨x3, k1, k2, k20, k21, k22, k23, k24, k25, k26⟩ := x_tell (g := ui x2 12 p 0 (nI (n + 1))) (p := p) (j := 6 * p + n) (V := V) (fun r hr => by rw [gi_ui, if_neg (by omega), g1.1 17 p r (fun q => by have := q.1; omega)]; exact (e5 r hr).2.2.1) v0.2.1 v2.2.1 v3.2.1
        unfold m_X3_tellJob m_X3_jobAt
        rw [bd_e, b1, n_add, gi_s, n_sub (by omega), show n + 1 - 1 = n by omega, lt_f (by omega) (by omega), lt_t (by omega) (by omega), lt_t (by omega) (by omega), gd_inb (by omega) (by omega), n_cl (by omega), bi_e, oc_s, gd_71 (by omega), k1, bi_e, sb_e, eq_f (by omega) (by omega) (by omega)]
        have X4 : Fr (PIx p) x (ui x2 12 p 0 (nI (n + 1))) := X3.NI.ui (Or.inr (Or.inl ⟨by omega, by omega, rfl⟩))
        have KK : ∀ f i, f < 20 ∨ 26 < f → ∀ j, gi x3 f i j = gi (ui x2 12 p 0 (nI (n + 1))) f i j := fun f i hf j => k2.1 f i j (fun q => by have := q.1; have := q.2.1; omega)
        refine ⟨x3, m2, X4.tr (k2.wk (fun f a h => Or.inr (Or.inr ⟨h.1, h.2.1, by have := h.2.2; omega, by have := h.2.2; omega⟩))), M3, Or.inr ⟨q3, by omega, h2, ?_, h4, ⟨tt, tk, tb, n + 1, K, B, T, (fun i j => if j = n then V i else J i j), ?_, ?_, d1, d2, d3, d4, d5, by omega, d6.2.1, d6.2.2.1, fun j hj => ?_⟩, rfl, rfl⟩⟩
        · rw [KK 51 0 (by omega), gi_ui, if_neg (by omega)]; exact h3
        · refine ⟨⟨?_, ?_, fun j hj => ?_⟩, ?_, ?_, ?_, ?_, fun t ht => ?_⟩
          · rw [KK 12 p (by omega), gi_s]
          · rw [KK 11 p (by omega), gi_ui, if_neg (by omega)]; exact b2
          · by_cases hjn : j = n
            · subst hjn
              simp only [lvs, if_true]
              exact ⟨k20, k21, k22, k23, k24, k25, k26⟩
            · have Kj : ∀ f, 20 ≤ f → f ≤ 26 → gi x3 f (6 * p + j) 0 = gi x2 f (6 * p + j) 0 := fun f h1 h2 => by
                rw [k2.1 f (6 * p + j) 0 (fun q => by have := q.2.2; omega), gi_ui, if_neg (by omega)]
              simp only [lvs, hjn, if_false]
              rw [Kj 20 (by omega) (by omega), Kj 21 (by omega) (by omega), Kj 22 (by omega) (by omega), Kj 23 (by omega) (by omega), Kj 24 (by omega) (by omega), Kj 25 (by omega) (by omega), Kj 26 (by omega) (by omega)]
              exact b3 j (by omega)
          · rw [KK 10 p (by omega), gi_ui, if_neg (by omega)]; exact b4
          · rw [KK 13 p (by omega), gi_ui, if_neg (by omega)]; exact b5
          · rw [KK 14 p (by omega), gi_ui, if_neg (by omega)]; exact b6
          · rw [KK 15 p (by omega), gi_ui, if_neg (by omega)]; exact b7
          · rw [KK 16 p (by omega), gi_ui, if_neg (by omega)]; exact b8 t ht
        · have G : ∀ f j, f = 129 ∨ f = 130 ∨ f = 109 → gi m2 f 0 j = gi m f 0 j := fun f j h => by
            rw [g2.1 f 0 j (fun q => by have := q.1; have := q.2; omega), f2.1 f 0 j (fun q => by rcases q with q | q | q <;> omega), gi_ui, if_neg (by omega)]
          refine ⟨by rw [G _ _ (by omega)]; exact c1, by rw [G _ _ (by omega)]; exact c2, ?_, ?_, fun t ht => by rw [G _ _ (by omega)]; exact c5 t ht, fun j hj i hi => ?_⟩
          · rw [g2.1 131 0 0 (fun q => by have := q.2; omega)]; exact ea
          · rw [g2.1 132 0 0 (fun q => by have := q.2; omega), f2.1 132 0 0 (fun q => by rcases q with q | q | q <;> omega), gi_s]
          · rw [g2.1 110 0 _ (fun q => by have := q.1; omega)]
            by_cases hjn : j = n
            · subst hjn
              simp only [if_true]
              exact (e5 i hi).2.2.2
            · simp only [hjn, if_false]
              rw [eb _ (by omega), gi_ui, if_neg (by omega)]; exact c6 j (by omega) i hi
        · by_cases hjn : j = n
          · simp only [hjn, if_true]
            exact ⟨v0.1, v0.2.1, v1.1, v1.2.1, v2.2.1, v3.2.1, v4.2.1⟩
          · simp only [hjn, if_false]
            exact d6.2.2.2 j (by omega)
      · rw [h5, sb_e, eq_t rfl, h6, sb_e, eq_t rfl]
        exact ⟨x2, m2, X3.NI, M3, Or.inl ⟨g3, rfl, rfl⟩⟩
  · rw [lt_f (by omega) (by omega), eq_t (by omega)]
    exact ⟨x, m, Fr.rf, Fr.rf, Or.inl ⟨hS, rfl, rfl⟩⟩
theorem item {t : Nat} (hB : Bp x m p) (hp : p < 2) (hT : RT x m tl tx) (hK : TKr x m tl q s t v q1) (ht : ¬ t = 0) : ItR x m p tl q1 (m_X3_readItem x p) (m_X7_readItem m) := by
  have hS := hK.stp
  obtain ⟨tt, tk, tb, n, K, B, T, J, hx, hm, hb⟩ := hB
  obtain ⟨b1, b2, b3, b4, b5, b6, b7, b8, b9⟩ := hK
  obtain ⟨d1, d2, d3, d4⟩ := b9 ht
  have fx : ∀ k, ¬ k = 98 → ¬ k = 106 → ¬ k = 107 → ¬ k = 116 → k ≤ 999 → m_X3_readItem_B16 p x (nI k) = some (nI 0, x) := fun k h1 h2 h3 h4 h5 => by
    unfold m_X3_readItem_B16
    rw [eq_f (by omega) (by omega) h1, eq_f (by omega) (by omega) h2, eq_f (by omega) (by omega) h3, eq_f (by omega) (by omega) h4]
  have same : ItR x m p tl q1 (some (nI 0, x)) (some (nI 0, m)) := ⟨x, m, Fr.rf, Fr.rf, Or.inl ⟨hS, rfl, rfl⟩⟩
  unfold m_X3_readItem m_X7_readItem
  by_cases h1 : t = 1
  · obtain ⟨c1, c2⟩ := b8 (Or.inl h1)
    have e127 : gi m 127 0 0 = nI 1 := by rw [b5, h1]; rfl
    rw [b4, eq_t h1, c1, c2]
    unfold m_X7_readItem_B36
    rw [e127, eq_t rfl, eq_t rfl, eq_t rfl, eq_t rfl]
    by_cases h116 : v = 116
    · rw [h116, eq_t rfl, eq_f (by omega) (by omega) (by omega)]
      exact it_t hx hm hb hT hS d2 d3 d4
    rw [eq_f (by omega) (by omega) h116]
    by_cases h107 : v = 107
    · rw [h107, eq_t rfl, eq_f (by omega) (by omega) (by omega)]
      exact it_k hx hm hb hT hS d2 d3 d4
    rw [eq_f (by omega) (by omega) h107]
    by_cases h98 : v = 98
    · rw [h98, eq_t rfl, eq_f (by omega) (by omega) (by omega)]
      exact it_b hx hm hb hT hS d2 d3 d4
    rw [eq_f (by omega) (by omega) h98, eq_t rfl]
    by_cases h106 : v = 106
    · rw [h106, eq_t rfl]
      exact it_j hx hm hb hp hT hS d2 d3 d4
    rw [eq_f (by omega) (by omega) h106, fx v h98 h106 h107 h116 b3]
    exact same
  · have hr : ∀ a c, m_X7_readItem_B36 m a c = some (nI 0, m) := fun a c => by
      unfold m_X7_readItem_B36
      rw [b5, if_neg (by rw [so4_1 b2]; exact h1)]
    rw [b4, eq_f (by omega) (by omega) h1, fx 0 (by omega) (by omega) (by omega) (by omega) (by omega), hr, hr, hr, hr]
    simp only [ite_self]
    exact same
end ITEM
