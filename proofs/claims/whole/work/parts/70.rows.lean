/-! office: three trays, five numbers of a job -/
def PTr : Nat → Nat → Prop := fun f _ => (125 ≤ f ∧ f ≤ 128) ∨ f = 109
def PTj : Nat → Nat → Prop := fun f _ => (125 ≤ f ∧ f ≤ 128) ∨ f = 110 ∨ f = 131
theorem lo2 : ∀ i : Fin 3, sc 201 i.1 = nI 0 := by decide
theorem hi2 : ∀ i : Fin 3, sc 202 i.1 = nI 99 := by decide
def loJ (i : Nat) : Nat := if i < 2 then 1 else 0
def hiJ (i : Nat) : Nat := if i < 2 then 9 else if i = 4 then 2 else 1
theorem loJ_e : ∀ i : Fin 5, sc 200 i.1 = nI (loJ i.1) := by decide
theorem hiJ_e : ∀ i : Fin 5, sc 207 i.1 = nI (hiJ i.1) := by decide
section ROWS
variable {p tl n : Nat} {tx : Nat → Nat}
theorem traysL : ∀ (c i q f f' : Nat) (x m : zG) (V : Nat → Nat), i + c = 3 → c < f → c < f' → RT x m tl tx → q ≤ tl → gi x 51 0 0 = nI q → gi m 125 0 0 = nI q → (∀ r, r < i → V r ≤ 99 ∧ gi x 17 p r = nI (V r) ∧ gi m 109 0 r = nI (V r)) → ∃ x' m', Fr (PNx p) x x' ∧ Fr PTr m m' ∧ ((StpR x' m' tl ∧ m_X3_readNumbers_L3 p 201 0 202 0 f x (nI i) = some (nI 0, x') ∧ m_X7_readTrays_L4 f' m (nI 1) (nI i) = some (nI 0, m')) ∨ (∃ (V' : Nat → Nat) (q1 : Nat), q ≤ q1 ∧ q1 ≤ tl ∧ gi x' 51 0 0 = nI q1 ∧ gi m' 125 0 0 = nI q1 ∧ (∀ r, r < 3 → V' r ≤ 99 ∧ gi x' 17 p r = nI (V' r) ∧ gi m' 109 0 r = nI (V' r)) ∧ m_X3_readNumbers_L3 p 201 0 202 0 f x (nI i) = m_X3_readNumbers_B67 p 201 0 202 0 x' ∧ m_X7_readTrays_L4 f' m (nI 1) (nI i) = some (nI 1, m'))) := by
  intro c
  induction c with
  | zero =>
    intro i q f f' x m V hi hf hf' hT hq hx hm hV
    obtain ⟨f, rfl⟩ : ∃ g, f = g + 1 := ⟨f - 1, by omega⟩
    obtain ⟨f', rfl⟩ : ∃ g, f' = g + 1 := ⟨f' - 1, by omega⟩
    have : i = 3 := by omega
    subst this
    refine ⟨x, m, Fr.rf, Fr.rf, Or.inr ⟨V, q, Nat.le_refl _, hq, hx, hm, hV, rn_e rfl (by omega), ?_⟩⟩
    unfold m_X7_readTrays_L4
    rw [lt_f (by omega) (by omega), gd_isb (by omega)]
  | succ c ih =>
    intro i q f f' x m V hi hf hf' hT hq hx hm hV
    obtain ⟨f, rfl⟩ : ∃ g, f = g + 1 := ⟨f - 1, by omega⟩
    obtain ⟨f', rfl⟩ : ∃ g, f' = g + 1 := ⟨f' - 1, by omega⟩
    obtain ⟨x1, m1, a1, a2, a3, a4, a5⟩ := num_both (k1 := 201) (k2 := 202) (L := 3) (i := i) (lo := 0) (hi := 99) (by omega) (by omega) rfl rfl (by omega) (by omega) (lo2 ⟨i, by omega⟩) (hi2 ⟨i, by omega⟩) (by omega) (by omega) hT hq hx hm
    have rs := rn_s (p := p) (k1 := 201) (k2 := 202) (L := 3) (i := i) (f := f) rfl (by omega) (by omega) a1
    have X1 : Fr (PNx p) x x1 := a2.wk (fun f a h => Or.inl h)
    have M1 : Fr PTr m m1 := a3.wk (fun f a h => Or.inl h)
    unfold m_X7_readTrays_L4 m_X7_readTrays_B43
    rw [rs, lt_t (by omega) (by omega), eq_f (by omega) (by omega) (by omega)]
    rcases a5 with ⟨v, q1, b1, b2, b3, b4, b5, b6, b7, b8, b9, b10⟩ | ⟨b1, b2⟩
    · have bk := b10 ((m_X6_put x1 17 p (nI i) (gi x1 54 0 0)).bind fun g4 => m_X3_readNumbers_L3 p 201 0 202 0 f g4 (nI i + nI 1))
      rw [bk, x_put (k := 17) (n := 5) rfl (by omega) (by omega), bi_e, n_add, b7, b9, sb_e, eq_f (by omega) (by omega) (by omega), gd_inb (by omega) (by omega), n_cl (by omega), b8, bd_e]
      have X2 : Fr (PNx p) x (ui x1 17 p i (nI v)) := X1.ui (Or.inr ⟨rfl, rfl⟩)
      have M2 : Fr PTr m (ui m1 109 0 i (nI v)) := M1.ui (Or.inr rfl)
      have hT2 : RT (ui x1 17 p i (nI v)) (ui m1 109 0 i (nI v)) tl tx := hT.fr X2 ⟨fun q => by rcases q with q | q <;> omega, fun q => by rcases q with q | q <;> omega⟩ M2 ⟨fun q => by rcases q with q | q <;> omega, fun q => by rcases q with q | q <;> omega⟩
      obtain ⟨x', m', c1, c2, c3⟩ := ih (i + 1) q1 f f' (ui x1 17 p i (nI v)) (ui m1 109 0 i (nI v)) (upN V i v) (by omega) (by omega) (by omega) hT2 b2 (by rw [gi_ui, if_neg (by omega)]; exact b3) (by rw [gi_ui, if_neg (by omega)]; exact b4) (fun r hr => by
        by_cases hri : r = i
        · subst hri
          rw [upN_s, gi_s, gi_s]; exact ⟨b6, rfl, rfl⟩
        · obtain ⟨d1, d2, d3⟩ := hV r (by omega)
          rw [upN_n hri, gi_ui, if_neg (by omega), gi_ui, if_neg (by omega), a2.1 17 p r (fun q => by have := q.1; omega), a3.1 109 0 r (fun q => by have := q.1; omega)]
          exact ⟨d1, d2, d3⟩)
      refine ⟨x', m', X2.tr c1, M2.tr c2, ?_⟩
      rcases c3 with c3 | ⟨V', q2, d1, d2⟩
      · exact Or.inl c3
      · exact Or.inr ⟨V', q2, by omega, d2⟩
    · rw [b2, b1, sb_e, eq_t rfl, gd_inb (by omega) (by omega), n_cl (by omega), gd_inb (by omega) (by omega), bd_e]
      refine ⟨x1, ui m1 109 0 i (gi m1 109 0 i), X1, M1.ui (Or.inr rfl), Or.inl ⟨a4.fr (P := fun _ _ => False) (Q := fun f _ => f = 109) Fr.rf (Fr.rf.ui rfl) id (by omega), rfl, ?_⟩⟩
      obtain ⟨f', rfl⟩ : ∃ g, f' = g + 1 := ⟨f' - 1, by omega⟩
      unfold m_X7_readTrays_L4
      rw [n_add, eq_t rfl, gd_isb (by omega)]
      split <;> rfl
theorem jobL : ∀ (c i q f f' : Nat) (x m : zG) (V : Nat → Nat), i + c = 5 → c < f → c < f' → RT x m tl tx → q ≤ tl → gi x 51 0 0 = nI q → gi m 125 0 0 = nI q → n < 6 → gi m 131 0 0 = nI n → (∀ r, r < i → loJ r ≤ V r ∧ V r ≤ hiJ r ∧ gi x 17 p r = nI (V r) ∧ gi m 110 0 (5 * n + r) = nI (V r)) → ∃ x' m', Fr (PNx p) x x' ∧ Fr PTj m m' ∧ ((StpR x' m' tl ∧ m_X3_readNumbers_L3 p 200 0 207 0 f x (nI i) = some (nI 0, x') ∧ m_X7_readJob_L4 f' m (nI 1) (nI i) = some (nI 0, m')) ∨ (∃ (V' : Nat → Nat) (q1 : Nat), q ≤ q1 ∧ q1 ≤ tl ∧ gi x' 51 0 0 = nI q1 ∧ gi m' 125 0 0 = nI q1 ∧ gi m' 131 0 0 = nI (n + 1) ∧ (∀ j, j < 5 * n → gi m' 110 0 j = gi m 110 0 j) ∧ (∀ r, r < 5 → loJ r ≤ V' r ∧ V' r ≤ hiJ r ∧ gi x' 17 p r = nI (V' r) ∧ gi m' 110 0 (5 * n + r) = nI (V' r)) ∧ m_X3_readNumbers_L3 p 200 0 207 0 f x (nI i) = m_X3_readNumbers_B67 p 200 0 207 0 x' ∧ m_X7_readJob_L4 f' m (nI 1) (nI i) = some (nI 1, m'))) := by
  intro c
  induction c with
  | zero =>
    intro i q f f' x m V hi hf hf' hT hq hx hm hn h131 hV
    obtain ⟨f, rfl⟩ : ∃ g, f = g + 1 := ⟨f - 1, by omega⟩
    obtain ⟨f', rfl⟩ : ∃ g, f' = g + 1 := ⟨f' - 1, by omega⟩
    have : i = 5 := by omega
    subst this
    refine ⟨x, ui m 131 0 0 (nI (n + 1)), Fr.rf, Fr.rf.ui (Or.inr (Or.inr rfl)), Or.inr ⟨V, q, Nat.le_refl _, hq, hx, ?_, gi_s _ _ _ _ _, fun j _ => ?_, fun r hr => ?_, rn_e rfl (by omega), ?_⟩⟩
    · rw [gi_ui, if_neg (by omega)]; exact hm
    · rw [gi_ui, if_neg (by omega)]
    · rw [gi_ui, if_neg (by omega)]; exact hV r hr
    · unfold m_X7_readJob_L4 m_X7_readJob_B71
      rw [lt_f (by omega) (by omega), h131, n_add, bd_e, gd_isb (by omega)]
  | succ c ih =>
    intro i q f f' x m V hi hf hf' hT hq hx hm hn h131 hV
    obtain ⟨f, rfl⟩ : ∃ g, f = g + 1 := ⟨f - 1, by omega⟩
    obtain ⟨f', rfl⟩ : ∃ g, f' = g + 1 := ⟨f' - 1, by omega⟩
    have hl1 : loJ i < 1000 := by unfold loJ; split <;> omega
    have hh1 : hiJ i < 1000 := by unfold hiJ; split; omega; split <;> omega
    obtain ⟨x1, m1, a1, a2, a3, a4, a5⟩ := num_both (k1 := 200) (k2 := 207) (L := 5) (i := i) (lo := loJ i) (hi := hiJ i) (by omega) (by omega) rfl rfl (by omega) (by omega) (loJ_e ⟨i, by omega⟩) (hiJ_e ⟨i, by omega⟩) hl1 hh1 hT hq hx hm
    have rs := rn_s (p := p) (k1 := 200) (k2 := 207) (L := 5) (i := i) (f := f) rfl (by omega) (by omega) a1
    have X1 : Fr (PNx p) x x1 := a2.wk (fun f a h => Or.inl h)
    have M1 : Fr PTj m m1 := a3.wk (fun f a h => Or.inl h)
    have h131' : gi m1 131 0 0 = nI n := by rw [a3.1 131 0 0 (fun q => by have := q.2; omega)]; exact h131
    have st : m_X7_readJob_L4 (f' + 1) m (nI 1) (nI i) = m_X7_readJob_B44 (m_X7_readJob_L4 f') m (nI i) (nI (hiJ i)) (nI (loJ i)) := by
      show (if nI i < nI 5 then _ else _) = _
      rw [lt_t (by omega) (by omega), eq_f (by omega) (by omega) (by omega)]
      unfold m_X7_readJob_B24 loJ hiJ
      by_cases h2 : i < 2
      · rw [lt_t (by omega) h2, if_pos h2, if_pos h2, lt_t (by omega) h2]
      · rw [lt_f (by omega) (by omega), if_neg h2, if_neg h2, lt_f (by omega) (by omega)]
        by_cases h4 : i = 4
        · rw [eq_t h4, if_pos h4]
        · rw [eq_f (by omega) (by omega) h4, if_neg h4]
    rw [rs, st]
    unfold m_X7_readJob_B44
    rcases a5 with ⟨v, q1, b1, b2, b3, b4, b5, b6, b7, b8, b9, b10⟩ | ⟨b1, b2⟩
    · have bk := b10 ((m_X6_put x1 17 p (nI i) (gi x1 54 0 0)).bind fun g4 => m_X3_readNumbers_L3 p 200 0 207 0 f g4 (nI i + nI 1))
      rw [bk, x_put (k := 17) (n := 5) rfl (by omega) (by omega), bi_e, n_add i 1, b7, b9, sb_e, h131', n_mul, n_add, gd_inb (by omega) (by omega), n_cl (by omega), b8, bd_e]
      have X2 : Fr (PNx p) x (ui x1 17 p i (nI v)) := X1.ui (Or.inr ⟨rfl, rfl⟩)
      have M2 : Fr PTj m (ui m1 110 0 (5 * n + i) (nI v)) := M1.ui (Or.inr (Or.inl rfl))
      have hT2 : RT (ui x1 17 p i (nI v)) (ui m1 110 0 (5 * n + i) (nI v)) tl tx := hT.fr X2 ⟨fun q => by rcases q with q | q <;> omega, fun q => by rcases q with q | q <;> omega⟩ M2 ⟨fun q => by rcases q with q | q | q <;> omega, fun q => by rcases q with q | q | q <;> omega⟩
      obtain ⟨x', m', c1, c2, c3⟩ := ih (i + 1) q1 f f' (ui x1 17 p i (nI v)) (ui m1 110 0 (5 * n + i) (nI v)) (upN V i v) (by omega) (by omega) (by omega) hT2 b2 (by rw [gi_ui, if_neg (by omega)]; exact b3) (by rw [gi_ui, if_neg (by omega)]; exact b4) hn (by rw [gi_ui, if_neg (by omega)]; exact h131') (fun r hr => by
        by_cases hri : r = i
        · subst hri
          rw [upN_s, gi_s, gi_s]; exact ⟨b5, b6, rfl, rfl⟩
        · obtain ⟨d1, d2, d3, d4⟩ := hV r (by omega)
          rw [upN_n hri, gi_ui, if_neg (by omega), gi_ui, if_neg (by omega), a2.1 17 p r (fun q => by have := q.1; omega), a3.1 110 0 _ (fun q => by have := q.1; omega)]
          exact ⟨d1, d2, d3, d4⟩)
      refine ⟨x', m', X2.tr c1, M2.tr c2, ?_⟩
      rcases c3 with c3 | ⟨V', q2, d1, d2, d3, d4, d5, d6, d7⟩
      · exact Or.inl c3
      · exact Or.inr ⟨V', q2, by omega, d2, d3, d4, d5, fun j hj => by rw [d6 j hj, gi_ui, if_neg (by omega), a3.1 110 0 _ (fun q => by have := q.1; omega)], d7⟩
    · rw [b2, b1, sb_e, h131', n_mul, n_add, gd_inb (by omega) (by omega), n_cl (by omega), bd_e, n_add]
      obtain ⟨f', rfl⟩ : ∃ g, f' = g + 1 := ⟨f' - 1, by omega⟩
      have e : ∀ g : zG, gi g 131 0 0 = nI n → m_X7_readJob_L4 (f' + 1) g (nI 0) (nI (i + 1)) = some (nI 0, ui g 131 0 0 (nI (n + 1))) := fun g hg => by
        show (if nI (i + 1) < nI 5 then _ else _) = _
        unfold m_X7_readJob_B71
        rw [eq_t rfl, hg, n_add, bd_e, gd_isb (by omega)]
        split <;> rfl
      rw [e _ (by rw [gi_ui, if_neg (by omega)]; exact h131')]
      exact ⟨x1, ui (ui m1 110 0 (5 * n + i) (gi m1 128 0 0)) 131 0 0 (nI (n + 1)), X1, (M1.ui (Or.inr (Or.inl rfl))).ui (Or.inr (Or.inr rfl)), Or.inl ⟨a4.fr (P := fun _ _ => False) (Q := fun f _ => f = 110 ∨ f = 131) Fr.rf ((Fr.rf.ui (Or.inl rfl)).ui (Or.inr rfl)) id (by omega), rfl, rfl⟩⟩
end ROWS
