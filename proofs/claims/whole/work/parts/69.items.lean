/-! office: the plan that is being told, on both sides -/
def BXp (x : zG) (p tt tk tb n K B : Nat) (T : Nat → Nat) (J : Nat → Nat → Nat) : Prop := JX x p n B J ∧ gi x 10 p 0 = nI K ∧ gi x 13 p 0 = nI tt ∧ gi x 14 p 0 = nI tk ∧ gi x 15 p 0 = nI tb ∧ ∀ t, t < 3 → gi x 16 p t = nI (T t)
def BMp (m : zG) (tt tk tb n K B : Nat) (T : Nat → Nat) (J : Nat → Nat → Nat) : Prop := gi m 129 0 0 = nI K ∧ gi m 130 0 0 = nI B ∧ gi m 131 0 0 = nI n ∧ gi m 132 0 0 = nI (tt + 2 * tk + 4 * tb) ∧ (∀ t, t < 3 → gi m 109 0 t = nI (T t)) ∧ ∀ j, j < n → ∀ i, i < 5 → gi m 110 0 (5 * j + i) = nI (J i j)
def BBp (tt tk tb n K B : Nat) (T : Nat → Nat) (J : Nat → Nat → Nat) : Prop := tt ≤ 1 ∧ tk ≤ 1 ∧ tb ≤ 1 ∧ K ≤ 999 ∧ (∀ t, t < 3 → T t ≤ 99) ∧ JB n B J
def PNx (p : Nat) : Nat → Nat → Prop := fun f a => (51 ≤ f ∧ f ≤ 54 ∧ a = 0) ∨ (f = 17 ∧ a = p)
def PIx (p : Nat) : Nat → Nat → Prop := fun f a => (51 ≤ f ∧ f ≤ 54 ∧ a = 0) ∨ (10 ≤ f ∧ f ≤ 17 ∧ a = p) ∨ (20 ≤ f ∧ f ≤ 26 ∧ 6 * p ≤ a ∧ a < 6 * p + 6)
def PJm : Nat → Nat → Prop := fun f _ => (125 ≤ f ∧ f ≤ 132) ∨ f = 109 ∨ f = 110
theorem PNx_I {p f a : Nat} (h : PNx p f a) : PIx p f a := by
  rcases h with h | h
  · exact Or.inl h
  · exact Or.inr (Or.inl ⟨by omega, by omega, h.2⟩)
theorem PTx_N {p f a : Nat} (h : PTx f a) : PNx p f a := Or.inl h
theorem PTm_I {f a : Nat} (h : PTm f a) : PJm f a := Or.inl ⟨h.1, by have := h.2; omega⟩
section ITEMS
variable {x m : zG} {p q tl tt tk tb n K B : Nat} {tx T : Nat → Nat} {J : Nat → Nat → Nat}
theorem BXp.fr {x' : zG} {P : Nat → Nat → Prop} (h : BXp x p tt tk tb n K B T J) (hf : Fr P x x') (h1 : ∀ f, 10 ≤ f → f ≤ 16 → ¬ P f p) (h2 : ∀ f a, 20 ≤ f → f ≤ 26 → ¬ P f a) : BXp x' p tt tk tb n K B T J := by
  obtain ⟨⟨a1, a2, a3⟩, a4, a5, a6, a7, a8⟩ := h
  refine ⟨⟨by rw [hf.1 12 p 0 (h1 _ (by omega) (by omega))]; exact a1, by rw [hf.1 11 p 0 (h1 _ (by omega) (by omega))]; exact a2, fun j hj => ?_⟩, by rw [hf.1 10 p 0 (h1 _ (by omega) (by omega))]; exact a4, by rw [hf.1 13 p 0 (h1 _ (by omega) (by omega))]; exact a5, by rw [hf.1 14 p 0 (h1 _ (by omega) (by omega))]; exact a6, by rw [hf.1 15 p 0 (h1 _ (by omega) (by omega))]; exact a7, fun t ht => by rw [hf.1 16 p t (h1 _ (by omega) (by omega))]; exact a8 t ht⟩
  rw [hf.1 20 _ 0 (h2 _ _ (by omega) (by omega)), hf.1 21 _ 0 (h2 _ _ (by omega) (by omega)), hf.1 22 _ 0 (h2 _ _ (by omega) (by omega)), hf.1 23 _ 0 (h2 _ _ (by omega) (by omega)), hf.1 24 _ 0 (h2 _ _ (by omega) (by omega)), hf.1 25 _ 0 (h2 _ _ (by omega) (by omega)), hf.1 26 _ 0 (h2 _ _ (by omega) (by omega))]
  exact a3 j hj
theorem BXp.nx {x' : zG} (h : BXp x p tt tk tb n K B T J) (hf : Fr (PNx p) x x') : BXp x' p tt tk tb n K B T J :=
  h.fr hf (fun f h1 h2 q => by rcases q with q | q <;> omega) (fun f a h1 h2 q => by rcases q with q | q <;> omega)
theorem BMp.fr {m' : zG} {P : Nat → Nat → Prop} (h : BMp m tt tk tb n K B T J) (hf : Fr P m m') (h1 : ¬ P 129 0 ∧ ¬ P 130 0 ∧ ¬ P 131 0 ∧ ¬ P 132 0 ∧ ¬ P 109 0 ∧ ¬ P 110 0) : BMp m' tt tk tb n K B T J := by
  obtain ⟨a1, a2, a3, a4, a5, a6⟩ := h
  obtain ⟨p1, p2, p3, p4, p5, p6⟩ := h1
  exact ⟨by rw [hf.1 _ _ _ p1]; exact a1, by rw [hf.1 _ _ _ p2]; exact a2, by rw [hf.1 _ _ _ p3]; exact a3, by rw [hf.1 _ _ _ p4]; exact a4, fun t ht => by rw [hf.1 _ _ _ p5]; exact a5 t ht, fun j hj i hi => by rw [hf.1 _ _ _ p6]; exact a6 j hj i hi⟩
theorem RT.nx {x' m' : zG} (h : RT x m tl tx) (hx : Fr (PIx p) x x') (hm : Fr PJm m m') : RT x' m' tl tx :=
  h.fr hx ⟨fun q => by rcases q with q | q | q <;> omega, fun q => by rcases q with q | q | q <;> omega⟩ hm ⟨fun q => by rcases q with q | q | q <;> omega, fun q => by rcases q with q | q | q <;> omega⟩
theorem rn_s {k1 k2 L i f : Nat} {x1 : zG} (e1 : ln k1 = L) (hL : L ≤ 5) (hi : i < L) (ht : m_X5_readToken x = some x1) : m_X3_readNumbers_L3 p k1 0 k2 0 (f + 1) x (nI i) = (if gi x1 52 0 0 = nI 2 then gd (inb (nI i) (ln k1) = true) (if gi x1 54 0 0 < xr x1 k1 0 (nI i).toNatClampNeg then some (nI 0, x1) else (m_X6_at x1 k2 0 (nI i)).bind fun r3 => if r3 < gi x1 54 0 0 then some (nI 0, x1) else (m_X6_put x1 17 p (nI i) (gi x1 54 0 0)).bind fun g4 => m_X3_readNumbers_L3 p k1 0 k2 0 f g4 (nI i + nI 1)) else some (nI 0, x1)) := by
  show (if nI i < nI (ln k1) then _ else _) = _
  rw [e1, lt_t (by omega) hi, ht, bi_e]
theorem rn_e {k1 k2 L f : Nat} (e1 : ln k1 = L) (hL : L ≤ 5) : m_X3_readNumbers_L3 p k1 0 k2 0 (f + 1) x (nI L) = m_X3_readNumbers_B67 p k1 0 k2 0 x := by
  show (if nI L < nI (ln k1) then _ else _) = _
  rw [e1, lt_f (by omega) (by omega)]
/-- one number and the stop -/
theorem one_num {k1 k2 lo hi F : Nat} (h1 : 200 ≤ k1) (h2 : 200 ≤ k2) (e1 : ln k1 = 1) (e2 : ln k2 = 1) (s1 : sc k1 0 = nI lo) (s2 : sc k2 0 = nI hi) (hlo : lo < 1000) (hhi : hi < 1000) (hF : F = 129 ∨ F = 130) (hT : RT x m tl tx) (hq : q ≤ tl) (hx : gi x 51 0 0 = nI q) (hm : gi m 125 0 0 = nI q) : ∃ x' m', Fr (PNx p) x x' ∧ Fr (fun f _ => (125 ≤ f ∧ f ≤ 128) ∨ f = F) m m' ∧ StpR x' m' tl ∧ ((m_X3_readNumbers x p k1 0 k2 0 = some (nI 0, x') ∧ (sb (m_X7_takesNumber m (nI lo) (nI hi)) fun r2 g3 => bd (ui g3 F 0 0 (gi g3 128 0 0)) fun g5 => if r2 = nI 0 then some (nI 0, g5) else sb (m_X7_ends g5) fun r6 g7 => if r6 = nI 0 then some (nI 0, g7) else some (nI 1, g7)) = some (nI 0, m')) ∨ (∃ v q1, q < q1 ∧ q1 ≤ tl ∧ gi x' 51 0 0 = nI q1 ∧ gi m' 125 0 0 = nI q1 ∧ lo ≤ v ∧ v ≤ hi ∧ gi x' 17 p 0 = nI v ∧ gi m' F 0 0 = nI v ∧ m_X3_readNumbers x p k1 0 k2 0 = some (nI 1, x') ∧ (sb (m_X7_takesNumber m (nI lo) (nI hi)) fun r2 g3 => bd (ui g3 F 0 0 (gi g3 128 0 0)) fun g5 => if r2 = nI 0 then some (nI 0, g5) else sb (m_X7_ends g5) fun r6 g7 => if r6 = nI 0 then some (nI 0, g7) else some (nI 1, g7)) = some (nI 1, m'))) := by
  obtain ⟨x1, m1, a1, a2, a3, a4, a5⟩ := num_both (i := 0) h1 h2 e1 e2 (by omega) (by omega) s1 s2 hlo hhi hT hq hx hm
  have rs := rn_s (p := p) (k2 := k2) (i := 0) (f := 999) e1 (by omega) (by omega) a1
  have rs' : m_X3_readNumbers x p k1 0 k2 0 = _ := rs
  have M1 : Fr (fun f _ => (125 ≤ f ∧ f ≤ 128) ∨ f = F) m (ui m1 F 0 0 (gi m1 128 0 0)) := (a3.wk (fun f a h => Or.inl h)).ui (Or.inr rfl)
  have X1 : Fr (PNx p) x x1 := a2.wk (fun f a h => Or.inl h)
  have S1 : StpR x1 (ui m1 F 0 0 (gi m1 128 0 0)) tl := a4.fr (P := fun _ _ => False) (Q := fun f _ => f = F) Fr.rf (Fr.rf.ui rfl) id (by omega)
  rcases a5 with ⟨v, q1, b1, b2, b3, b4, b5, b6, b7, b8, b9, b10⟩ | ⟨b1, b2⟩
  · rw [b9, sb_e, bd_e, eq_f (by omega) (by omega) (by omega)]
    have bk := b10 ((m_X6_put x1 17 p (nI 0) (gi x1 54 0 0)).bind fun g4 => m_X3_readNumbers_L3 p k1 0 k2 0 999 g4 (nI 0 + nI 1))
    rw [bk, x_put (k := 17) (n := 5) rfl (by omega) (by omega), bi_e, n_add, b7] at rs'
    have re := rn_e (x := ui x1 17 p 0 (nI v)) (p := p) (k2 := k2) (f := 998) e1 (by omega)
    have re' : m_X3_readNumbers_L3 p k1 0 k2 0 999 (ui x1 17 p 0 (nI v)) (nI (0 + 1)) = _ := re
    rw [re'] at rs'
    have X2 : Fr (PNx p) x (ui x1 17 p 0 (nI v)) := X1.ui (Or.inr ⟨rfl, rfl⟩)
    have hT2 : RT (ui x1 17 p 0 (nI v)) (ui m1 F 0 0 (gi m1 128 0 0)) tl tx := hT.fr X2 ⟨fun q => by rcases q with q | q <;> omega, fun q => by rcases q with q | q <;> omega⟩ M1 ⟨by omega, by omega⟩
    obtain ⟨x3, m3, c1, c2, c3, c4⟩ := end_both (p := p) (k1 := k1) (n1 := 0) (k2 := k2) (n2 := 0) hT2 (q := q1) b2 (by rw [gi_ui, if_neg (by omega)]; exact b3) (by rw [gi_ui, if_neg (by omega)]; exact b4)
    refine ⟨x3, m3, X2.tr (c1.wk (fun f a h => Or.inl h)), M1.tr (c2.wk (fun f a h => Or.inl h)), c3, ?_⟩
    rcases c4 with ⟨q2, d1, d2, d3, d4, d5, d6⟩ | ⟨d5, d6⟩
    · rw [rs', d5, d6, sb_e, eq_f (by omega) (by omega) (by omega)]
      exact Or.inr ⟨v, q2, by omega, d2, d3, d4, b5, b6, by rw [c1.1 17 p 0 (fun q => by have := q.1; omega), gi_s], by rw [c2.1 F 0 0 (fun q => by have := q.2; omega), gi_s]; exact b8, rfl, rfl⟩
    · rw [rs', d5, d6, sb_e, eq_t rfl]
      exact Or.inl ⟨rfl, rfl⟩
  · rw [b1, sb_e, bd_e, eq_t rfl]
    rw [b2] at rs'
    exact ⟨x1, _, X1, M1, S1, Or.inl ⟨rs', rfl⟩⟩
end ITEMS
