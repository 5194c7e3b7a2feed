/-! office: a token on both sides -/
def so4 (t : Nat) : Int32 := if t = 4 then -1 else nI t
/-- after a token: s its start, t its sort, v its value, q its end -/
def TKr (x m : zG) (tl q s t v q1 : Nat) : Prop := s ≤ tl ∧ t ≤ 4 ∧ v ≤ 999 ∧ gi x 52 0 0 = nI t ∧ gi m 127 0 0 = so4 t ∧ gi x 53 0 0 = nI s ∧ gi m 126 0 0 = nI s ∧ (t = 1 ∨ t = 2 → gi x 54 0 0 = nI v ∧ gi m 128 0 0 = nI v) ∧ (¬ t = 0 → q < q1 ∧ q1 ≤ tl ∧ gi x 51 0 0 = nI q1 ∧ gi m 125 0 0 = nI q1)
section TOK
variable {x m : zG} {q tl : Nat} {tx : Nat → Nat}
theorem x_at_any {g : zG} {k i j n : Nat} (hn : ln k = n) (hn2 : n < 1000000) (hj : j < 1000000) : ∃ r, m_X6_at g k i (nI j) = some r := by
  unfold m_X6_at
  rw [hn, lt_f (by omega) (by omega)]
  by_cases h : j < n
  · rw [lt_t (by omega) h, gd_inb (by omega) h]; exact ⟨_, rfl⟩
  · rw [lt_f (by omega) (by omega)]; exact ⟨_, rfl⟩
theorem tok (hT : RT x m tl tx) (hq : q ≤ tl) (hx : gi x 51 0 0 = nI q) (hm : gi m 125 0 0 = nI q) : ∃ s t v q1 x1 m1, m_X5_readToken x = some x1 ∧ m_X7_next m = some m1 ∧ TKr x1 m1 tl q s t v q1 ∧ Fr PTx x x1 ∧ Fr PTm m m1 := by
  have t1 := hT.1
  obtain ⟨s, x1, m1, a1, a2, a3, a4, a5, a6, a7, a8⟩ := skL (tl - q) q FU FU x m (by omega) (by show _ < 1000; omega) (by show _ < 1000; omega) hT hx hm
  unfold m_X5_readToken m_X7_next
  rw [a3, a4]
  unfold m_X5_readToken_B40 m_X7_next_B22
  rw [a5, a6, bd_e, bd_e, bd_e (ui m1 126 0 0 (nI s))]
  have F1 : Fr PTx x (ui (ui x1 53 0 0 (nI s)) 54 0 0 (nI 0)) := (a7.ui ⟨by omega, by omega, rfl⟩).ui ⟨by omega, by omega, rfl⟩
  have F2 : Fr PTm m (ui m1 126 0 0 (nI s)) := a8.ui ⟨by omega, by omega⟩
  have p1 : gi (ui (ui x1 53 0 0 (nI s)) 54 0 0 (nI 0)) 51 0 0 = nI s := by rw [gi_ui, if_neg (by omega), gi_ui, if_neg (by omega)]; exact a5
  have p2 : gi (ui m1 126 0 0 (nI s)) 125 0 0 = nI s := by rw [gi_ui, if_neg (by omega)]; exact a6
  have p3 : gi (ui (ui x1 53 0 0 (nI s)) 54 0 0 (nI 0)) 53 0 0 = nI s := by rw [gi_ui, if_neg (by omega), gi_s]
  have p4 : gi (ui m1 126 0 0 (nI s)) 126 0 0 = nI s := gi_s _ _ _ _ _
  have p5 : gi (ui (ui x1 53 0 0 (nI s)) 54 0 0 (nI 0)) 54 0 0 = nI 0 := gi_s _ _ _ _ _
  generalize ui (ui x1 53 0 0 (nI s)) 54 0 0 (nI 0) = g at F1 p1 p3 p5 ⊢
  generalize ui m1 126 0 0 (nI s) = h at F2 p2 p4 ⊢
  have hT2 := hT.ft F1 F2
  obtain ⟨-, u2, u3, u4⟩ := id hT2
  rw [p1, u2]
  by_cases hs : s < tl
  · obtain ⟨c1, c2, c3⟩ := u4 s hs
    rw [x_at (k := 55) (n := 120) rfl (by omega) (by omega) (by omega), c1, let_t hT2 p2 hs, bi_e, lt_t (by omega) hs, bi_e]
    by_cases hL : isL (tx s)
    · have hD : ¬ isD (tx s) := fun q => by have := q.2; have := hL.1; omega
      rw [xL_t hL, mD_f c3 hD, mL_t hL, bi_e, bi_e, eq_f (by omega) (by omega) (by omega), eq_t rfl, bi_e, eq_f (by omega) (by omega) (by omega)]
      unfold m_X5_readLetters m_X7_readLetters
      rw [let_t hT2 p2 hs, bi_e, bd_e]
      have G2 : Fr PTm m (ui h 128 0 0 (nI (tx s))) := F2.ui ⟨by omega, by omega⟩
      have r2 : gi (ui h 128 0 0 (nI (tx s))) 125 0 0 = nI s := by rw [gi_ui, if_neg (by omega)]; exact p2
      have r4 : gi (ui h 128 0 0 (nI (tx s))) 126 0 0 = nI s := by rw [gi_ui, if_neg (by omega)]; exact p4
      have r8 : gi (ui h 128 0 0 (nI (tx s))) 128 0 0 = nI (tx s) := gi_s _ _ _ _ _
      generalize ui h 128 0 0 (nI (tx s)) = h' at G2 r2 r4 r8 ⊢
      obtain ⟨q2, x2, m2, b1, b2, b3, b4, b5, b6, b7, b8, b9⟩ := ltL (tl - s) s FU FU g h' (by omega) (by show _ < 1000; omega) (by show _ < 1000; omega) (hT.ft F1 G2) p1 r2
      have b3' := b3 hs hL
      rw [b4, b5]
      unfold m_X5_readLetters_B41 m_X7_readLetters_B38
      have e53 : gi (ui x2 52 0 0 (nI 1)) 53 0 0 = nI s := by rw [gi_ui, if_neg (by omega), b8.1 53 0 0 (fun q => by have := q.1; omega)]; exact p3
      have e51 : gi (ui x2 52 0 0 (nI 1)) 51 0 0 = nI q2 := by rw [gi_ui, if_neg (by omega)]; exact b6
      have e55 : gi (ui x2 52 0 0 (nI 1)) 55 0 s = nI (tx s) := by rw [gi_ui, if_neg (by omega), b8.1 55 0 s (fun q => by have := q.1; omega)]; exact c1
      have e126 : gi m2 126 0 0 = nI s := by rw [b9.1 126 0 0 (fun q => by have : 126 = 125 := q; omega)]; exact r4
      have e128 : gi m2 128 0 0 = nI (tx s) := by rw [b9.1 128 0 0 (fun q => by have : 128 = 125 := q; omega)]; exact r8
      rw [bd_e, e53, e51, n_sub b1, e126, b7, n_add, e128]
      have FX : Fr PTx x (ui x2 52 0 0 (nI 1)) := (F1.tr (b8.wk (fun _ _ => P51_T))).ui ⟨by omega, by omega, rfl⟩
      have FM : Fr PTm m m2 := G2.tr (b9.wk (fun _ _ => P125_T))
      have e52 : gi (ui x2 52 0 0 (nI 1)) 52 0 0 = nI 1 := gi_s _ _ _ _ _
      generalize ui x2 52 0 0 (nI 1) = gx at FX e51 e52 e53 e55 ⊢
      have l9 := hL.2
      by_cases h1 : q2 - s = 1
      · rw [eq_t h1, x_at (k := 55) (n := 120) rfl (by omega) (by omega) (by omega), e55, bi_e, lt_f (by omega) (by omega)]
        refine ⟨s, 1, tx s, q2, _, _, rfl, rfl, ⟨a2, by omega, by omega, ?_, gi_s _ _ _ _ _, ?_, ?_, fun _ => ⟨gi_s _ _ _ _ _, ?_⟩, fun _ => ⟨by omega, b2, ?_, ?_⟩⟩, FX.ui ⟨by omega, by omega, rfl⟩, (FM.ui ⟨by omega, by omega⟩).ui ⟨by omega, by omega⟩⟩
        · rw [gi_ui, if_neg (by omega)]; exact e52
        · rw [gi_ui, if_neg (by omega)]; exact e53
        · rw [gi_ui, if_neg (by omega), gi_ui, if_neg (by omega)]; exact e126
        · rw [gi_ui, if_neg (by omega), gi_s]
        · rw [gi_ui, if_neg (by omega)]; exact e51
        · rw [gi_ui, if_neg (by omega), gi_ui, if_neg (by omega)]; exact b7
      · rw [eq_f (by omega) (by omega) h1, lt_t (by omega) (by omega)]
        refine ⟨s, 1, 0, q2, _, _, rfl, rfl, ⟨a2, by omega, by omega, ?_, gi_s _ _ _ _ _, ?_, ?_, fun _ => ⟨gi_s _ _ _ _ _, ?_⟩, fun _ => ⟨by omega, b2, ?_, ?_⟩⟩, FX.ui ⟨by omega, by omega, rfl⟩, (FM.ui ⟨by omega, by omega⟩).ui ⟨by omega, by omega⟩⟩
        · rw [gi_ui, if_neg (by omega)]; exact e52
        · rw [gi_ui, if_neg (by omega)]; exact e53
        · rw [gi_ui, if_neg (by omega), gi_ui, if_neg (by omega)]; exact e126
        · rw [gi_ui, if_neg (by omega), gi_s]
        · rw [gi_ui, if_neg (by omega)]; exact e51
        · rw [gi_ui, if_neg (by omega), gi_ui, if_neg (by omega)]; exact b7
    · rw [xL_f c3 hL, bi_e, eq_t rfl]
      by_cases hD : isD (tx s)
      · rw [xD_t hD, mD_t hD, bi_e, bi_e, eq_f (by omega) (by omega) (by omega), eq_f (by omega) (by omega) (by omega)]
        unfold m_X5_readNumber m_X7_readNumber
        rw [bd_e]
        have G2 : Fr PTm m (ui h 128 0 0 (nI 0)) := F2.ui ⟨by omega, by omega⟩
        have r2 : gi (ui h 128 0 0 (nI 0)) 125 0 0 = nI s := by rw [gi_ui, if_neg (by omega)]; exact p2
        have r4 : gi (ui h 128 0 0 (nI 0)) 126 0 0 = nI s := by rw [gi_ui, if_neg (by omega)]; exact p4
        have r8 : gi (ui h 128 0 0 (nI 0)) 128 0 0 = nI 0 := gi_s _ _ _ _ _
        generalize ui h 128 0 0 (nI 0) = h' at G2 r2 r4 r8 ⊢
        obtain ⟨q2, w, x2, m2, b1, b2, b3, bw, b4, b5, b6, b7, bx, bm, b8, b9⟩ := nuL (tl - s) s 0 FU FU g h' (by omega) (by show _ < 1000; omega) (by show _ < 1000; omega) (hT.ft F1 G2) p1 r2 p5 r8 (by omega)
        have b3' := b3 hs hD
        rw [b4, b5]
        unfold m_X5_readNumber_B73 m_X7_readNumber_B71 m_X5_readNumber_B106 m_X5_readNumber_B107
        have e53 : gi x2 53 0 0 = nI s := by rw [b8.1 53 0 0 (fun q => by have := q.1; omega)]; exact p3
        have e55 : gi x2 55 0 s = nI (tx s) := by rw [b8.1 55 0 s (fun q => by have := q.1; omega)]; exact c1
        have e126 : gi m2 126 0 0 = nI s := by rw [b9.1 126 0 0 (fun q => by have : 126 = 125 ∨ 126 = 128 := q; omega)]; exact r4
        have e108 : gi m2 108 0 s = nI (tx s) := by rw [b9.1 108 0 s (fun q => by have : 108 = 125 ∨ 108 = 128 := q; omega), G2.1 108 0 s (fun q => by have := q.1; omega)]; exact (hT.2.2.2 s hs).2.1
        have FX : Fr PTx x x2 := F1.tr (b8.wk (fun _ _ => P5154_T))
        have FM : Fr PTm m m2 := G2.tr (b9.wk (fun _ _ => P1258_T))
        have e0 : (if nI 0 = nI 0 then (if nI 999 < nI (min 1000 w) then bd (ui x2 52 0 0 (nI 4)) fun g4 => some g4 else bd (ui x2 52 0 0 (nI 2)) fun g3 => some g3) else bd (ui x2 52 0 0 (nI 4)) fun g2 => some g2) = some (ui x2 52 0 0 (nI (if 999 < w then 4 else 2))) := by
          rw [eq_t rfl]
          by_cases hw : 999 < w
          · rw [lt_t (by omega) (by omega), if_pos hw]; rfl
          · rw [lt_f (by omega) (by omega), if_neg hw]; rfl
        have eX : ((some (nI (tx s))).bind fun r1 => if r1 = nI 48 then (if nI 1 < nI (q2 - s) then (if nI 1 = nI 0 then (if nI 999 < nI (min 1000 w) then bd (ui x2 52 0 0 (nI 4)) fun g4 => some g4 else bd (ui x2 52 0 0 (nI 2)) fun g3 => some g3) else bd (ui x2 52 0 0 (nI 4)) fun g2 => some g2) else (if nI 0 = nI 0 then (if nI 999 < nI (min 1000 w) then bd (ui x2 52 0 0 (nI 4)) fun g4 => some g4 else bd (ui x2 52 0 0 (nI 2)) fun g3 => some g3) else bd (ui x2 52 0 0 (nI 4)) fun g2 => some g2)) else (if nI 0 = nI 0 then (if nI 999 < nI (min 1000 w) then bd (ui x2 52 0 0 (nI 4)) fun g4 => some g4 else bd (ui x2 52 0 0 (nI 2)) fun g3 => some g3) else bd (ui x2 52 0 0 (nI 4)) fun g2 => some g2)) = some (ui x2 52 0 0 (nI (if 999 < w ∨ (s + 1 < q2 ∧ tx s = 48) then 4 else 2))) := by
          rw [bi_e, e0]
          by_cases h48 : tx s = 48
          · rw [eq_t h48]
            by_cases hl : s + 1 < q2
            · rw [lt_t (by omega) (by omega), eq_f (by omega) (by omega) (by omega), if_pos (Or.inr ⟨hl, h48⟩)]; rfl
            · rw [lt_f (by omega) (by omega)]
              by_cases hw : 999 < w
              · rw [if_pos hw, if_pos (Or.inl hw)]
              · rw [if_neg hw, if_neg (by omega)]
          · rw [eq_f (by omega) (by omega) h48]
            by_cases hw : 999 < w
            · rw [if_pos hw, if_pos (Or.inl hw)]
            · rw [if_neg hw, if_neg (by omega)]
        have eM : (if nI 999 < nI w then bd (ui m2 127 0 0 (-1)) fun g4 => some g4 else if nI (s + 1) < nI q2 then gd (inb (nI s) 120 = true) (if gi m2 108 0 (nI s).toNatClampNeg = nI 48 then bd (ui m2 127 0 0 (-1)) fun g7 => some g7 else bd (ui m2 127 0 0 (nI 2)) fun g6 => some g6) else bd (ui m2 127 0 0 (nI 2)) fun g5 => some g5) = some (ui m2 127 0 0 (so4 (if 999 < w ∨ (s + 1 < q2 ∧ tx s = 48) then 4 else 2))) := by
          by_cases hw : 999 < w
          · rw [lt_t (by omega) hw, if_pos (Or.inl hw)]; rfl
          · rw [lt_f (by omega) (by omega)]
            by_cases hl : s + 1 < q2
            · rw [lt_t (by omega) hl, gd_inb (by omega) (by omega), n_cl (by omega), e108]
              by_cases h48 : tx s = 48
              · rw [eq_t h48, if_pos (Or.inr ⟨hl, h48⟩)]; rfl
              · rw [eq_f (by omega) (by omega) h48, if_neg (by omega)]; rfl
            · rw [lt_f (by omega) (by omega), if_neg (by omega)]; rfl
        rw [e53, x_at (k := 55) (n := 120) rfl (by omega) (by omega) (by omega), e55, b6, n_sub b1, bx, eX, e126, b7, n_add, bm, eM, bi_e, bi_e]
        refine ⟨s, (if 999 < w ∨ (s + 1 < q2 ∧ tx s = 48) then 4 else 2), (if 999 < w then 0 else w), q2, _, _, rfl, rfl, ⟨a2, by split <;> omega, by split <;> omega, gi_s _ _ _ _ _, gi_s _ _ _ _ _, ?_, ?_, fun ht => ?_, fun _ => ⟨by omega, b2, ?_, ?_⟩⟩, FX.ui ⟨by omega, by omega, rfl⟩, FM.ui ⟨by omega, by omega⟩⟩
        · rw [gi_ui, if_neg (by omega)]; exact e53
        · rw [gi_ui, if_neg (by omega)]; exact e126
        · have hw : ¬ 999 < w := fun hw => by rw [if_pos (Or.inl hw)] at ht; omega
          rw [if_neg hw, gi_ui, if_neg (by omega), gi_ui, if_neg (by omega), bx, bm, show min 1000 w = w by omega]
          exact ⟨rfl, rfl⟩
        · rw [gi_ui, if_neg (by omega)]; exact b6
        · rw [gi_ui, if_neg (by omega)]; exact b7
      · rw [xD_f c3 hD, mD_f c3 hD, mL_f c3 hL, bi_e, bi_e, eq_t rfl, eq_t rfl, bi_e, eq_t rfl, lt_f (by omega) (by omega)]
        have g1 : ∀ v, gi (ui g 52 0 0 v) 51 0 0 = nI s := fun v => by rw [gi_ui, if_neg (by omega)]; exact p1
        have g2 : ∀ v, gi (ui h 127 0 0 v) 125 0 0 = nI s := fun v => by rw [gi_ui, if_neg (by omega)]; exact p2
        by_cases h59 : tx s = 59
        · rw [eq_t h59, eq_t h59, bd_e, bd_e, bd_e, bd_e, g1, g2, n_add]
          refine ⟨s, 3, 0, s + 1, _, _, rfl, rfl, ⟨a2, by omega, by omega, ?_, ?_, ?_, ?_, fun ht => by omega, fun _ => ⟨by omega, by omega, gi_s _ _ _ _ _, gi_s _ _ _ _ _⟩⟩, (F1.ui ⟨by omega, by omega, rfl⟩).ui ⟨by omega, by omega, rfl⟩, (F2.ui ⟨by omega, by omega⟩).ui ⟨by omega, by omega⟩⟩
          · rw [gi_ui, if_neg (by omega), gi_s]
          · rw [gi_ui, if_neg (by omega), gi_s]; rfl
          · rw [gi_ui, if_neg (by omega), gi_ui, if_neg (by omega)]; exact p3
          · rw [gi_ui, if_neg (by omega), gi_ui, if_neg (by omega)]; exact p4
        · rw [eq_f (by omega) (by omega) h59, eq_f (by omega) (by omega) h59, bd_e, bd_e, bd_e, bd_e, g1, g2, n_add]
          refine ⟨s, 4, 0, s + 1, _, _, rfl, rfl, ⟨a2, by omega, by omega, ?_, ?_, ?_, ?_, fun ht => by omega, fun _ => ⟨by omega, by omega, gi_s _ _ _ _ _, gi_s _ _ _ _ _⟩⟩, (F1.ui ⟨by omega, by omega, rfl⟩).ui ⟨by omega, by omega, rfl⟩, (F2.ui ⟨by omega, by omega⟩).ui ⟨by omega, by omega⟩⟩
          · rw [gi_ui, if_neg (by omega), gi_s]
          · rw [gi_ui, if_neg (by omega), gi_s]; rfl
          · rw [gi_ui, if_neg (by omega), gi_ui, if_neg (by omega)]; exact p3
          · rw [gi_ui, if_neg (by omega), gi_ui, if_neg (by omega)]; exact p4
  · obtain ⟨r, hr⟩ := x_at_any (g := g) (k := 55) (i := 0) (j := s) (n := 120) rfl (by omega) (by omega)
    rw [hr, bi_e, lt_f (by omega) (by omega), let_f hT2 p2 (by omega) (by omega), bi_e, mD_e, bi_e, eq_t rfl, mL_e, bi_e, eq_t rfl, if_pos (show (-1 : Int32) < nI 0 by decide), bd_e, bd_e, bd_e]
    refine ⟨s, 0, 0, 0, _, _, rfl, rfl, ⟨a2, by omega, by omega, gi_s _ _ _ _ _, ?_, ?_, ?_, fun ht => by omega, fun ht => absurd rfl ht⟩, F1.ui ⟨by omega, by omega, rfl⟩, (F2.ui ⟨by omega, by omega⟩).ui ⟨by omega, by omega⟩⟩
    · rw [gi_ui, if_neg (by omega), gi_s]; rfl
    · rw [gi_ui, if_neg (by omega)]; exact p3
    · rw [gi_ui, if_neg (by omega), gi_ui, if_neg (by omega)]; exact p4
end TOK
