/-! office: all items on both sides -/
section LOOP
variable {x m : zG} {p q tl n K B : Nat} {tx T : Nat → Nat} {J : Nat → Nat → Nat}
theorem Bp.tk {x' m' : zG} (h : Bp x m p) (hx : Fr PTx x x') (hm : Fr PTm m m') : Bp x' m' p := by
  obtain ⟨tt, tk, tb, n, K, B, T, J, h1, h2, h3⟩ := h
  exact ⟨tt, tk, tb, n, K, B, T, J, h1.nx (hx.wk (fun _ _ => PTx_N)), h2.fr hm ⟨fun q => by have := q.2; omega, fun q => by have := q.2; omega, fun q => by have := q.2; omega, fun q => by have := q.2; omega, fun q => by have := q.1; omega, fun q => by have := q.1; omega⟩, h3⟩
theorem Fr.TI {x x' : zG} (h : Fr PTx x x') : Fr (PIx p) x x' := h.wk (fun _ _ h => Or.inl h)
theorem Fr.TJ {m m' : zG} (h : Fr PTm m m') : Fr PJm m m' := h.wk (fun _ _ h => PTm_I h)
theorem offL (hp : p < 2) : ∀ (c q i f f' : Nat) (x m : zG), tl - q < c → i ≤ q → q ≤ tl → c < f → c < f' → Bp x m p → RT x m tl tx → gi x 51 0 0 = nI q → gi m 125 0 0 = nI q → ∃ x' m', Fr (PIx p) x x' ∧ Fr PJm m m' ∧ ((∃ s, s ≤ tl ∧ m_X3_readFrom_L10 p f x (nI i) = some ((-10) - nI s, x') ∧ ((m_X7_next m).bind fun m1 => m_X7_office_L56 f' m1 (nI i) (nI 1)) = some ((-10) - nI s, m')) ∨ (∃ i', i' ≤ 120 ∧ Bp x' m' p ∧ m_X3_readFrom_L10 p f x (nI i) = some (nI i', x') ∧ ((m_X7_next m).bind fun m1 => m_X7_office_L56 f' m1 (nI i) (nI 1)) = m_X7_office_B86 m' (nI i') (nI 1))) := by
  intro c
  induction c with
  | zero => intro q i f f' x m h; omega
  | succ c ih =>
    intro q i f f' x m hc hi hq hf hf' hB hT hx hm
    have h120 := hT.1
    obtain ⟨f, rfl⟩ : ∃ g, f = g + 1 := ⟨f - 1, by omega⟩
    obtain ⟨f', rfl⟩ : ∃ g, f' = g + 1 := ⟨f' - 1, by omega⟩
    obtain ⟨s, t, v, q1, x1, m1, a1, a2, a3, a4, a5⟩ := tok hT hq hx hm
    have e52 := a3.2.2.2.1
    have e127 := a3.2.2.2.2.1
    have e9 := a3.2.2.2.2.2.2.2.2
    have e2 := a3.2.1
    rw [a2, bi_e]
    have eX : m_X3_readFrom_L10 p (f + 1) x (nI i) = if nI t = nI 0 then some (nI i, x1) else sb (m_X3_readItem x1 p) fun r4 g5 => if r4 = nI 0 then m_X3_readFrom_B37 p g5 else m_X3_readFrom_L10 p f g5 (nI i + nI 1) := by
      show (if nI 120 < nI i then _ else _) = _
      rw [lt_f (by omega) (by omega), a1, bi_e, e52]
    have eM : m_X7_office_L56 (f' + 1) m1 (nI i) (nI 1) = if so4 t = nI 0 then m_X7_office_B86 m1 (nI i) (nI 1) else sb (m_X7_readItem m1) fun r16 g17 => if r16 = nI 0 then m_X7_office_L56 f' g17 (nI i) r16 else (m_X7_next g17).bind fun g19 => m_X7_office_L56 f' g19 (nI i + nI 1) r16 := by
      show (if nI 1 = nI 0 then _ else _) = _
      rw [eq_f (by omega) (by omega) (by omega), e127]
    rw [eX, eM]
    by_cases ht : t = 0
    · rw [eq_t ht, if_pos (by rw [so4_0 e2]; exact ht)]
      exact ⟨x1, m1, a4.TI, a5.TJ, Or.inr ⟨i, by omega, hB.tk a4 a5, rfl, rfl⟩⟩
    · rw [eq_f (by omega) (by omega) ht, if_neg (by rw [so4_0 e2]; exact ht)]
      obtain ⟨d1, d2, d3, d4⟩ := e9 ht
      have hT1 := hT.ft a4 a5
      obtain ⟨x2, m2, b1, b2, b3⟩ := item (hB.tk a4 a5) hp hT1 a3 ht
      have hT2 := hT1.nx b1 b2
      rcases b3 with ⟨⟨s', c1, c2, c3⟩, c4, c5⟩ | ⟨q2, c1, c2, c3, c4, c5, c6, c7⟩
      · rw [c4, c5, sb_e, sb_e, eq_t rfl, eq_t rfl]
        obtain ⟨f', rfl⟩ : ∃ g, f' = g + 1 := ⟨f' - 1, by omega⟩
        have eF : m_X7_office_L56 (f' + 1) m2 (nI i) (nI 0) = some ((-10) - nI s', m2) := by
          show (if nI 0 = nI 0 then _ else _) = _
          rw [eq_t rfl]
          unfold m_X7_office_B86
          rw [eq_t rfl, c3, hT2.2.2.1]
          by_cases hs : s' < tl
          · rw [lt_t (by omega) hs]
          · rw [lt_f (by omega) (by omega), show tl = s' by omega]
        rw [eF]
        unfold m_X3_readFrom_B37
        rw [c2]
        exact ⟨x2, m2, a4.TI.tr b1, a5.TJ.tr b2, Or.inl ⟨s', c1, rfl, rfl⟩⟩
      · rw [c6, c7, sb_e, sb_e, eq_f (by omega) (by omega) (by omega), eq_f (by omega) (by omega) (by omega), n_add]
        obtain ⟨x3, m3, g1, g2, g3⟩ := ih q2 (i + 1) f f' x2 m2 (by omega) (by omega) c2 (by omega) (by omega) c5 hT2 c3 c4
        exact ⟨x3, m3, (a4.TI.tr b1).tr g1, (a5.TJ.tr b2).tr g2, g3⟩
/-- all is as at first -/
theorem x_untell {x : zG} : ∃ x', m_X3_untell x p = some x' ∧ Fr (PIx p) x x' ∧ ∀ J, BXp x' p 0 0 0 0 200 4 (fun _ => 20) J := by
  refine ⟨ui (ui (ui (ui (ui (ui (ur x 16 p 3 (fun _ => nI 20)) 10 p 0 (nI 200)) 11 p 0 (nI 4)) 12 p 0 (nI 0)) 13 p 0 (nI 0)) 14 p 0 (nI 0)) 15 p 0 (nI 0), ?_, ?_, fun J => ⟨⟨?_, ?_, fun j hj => by omega⟩, ?_, ?_, ?_, ?_, fun t ht => ?_⟩⟩
  · unfold m_X3_untell
    rw [x_fill (n := 3) rfl (by omega), bi_e, bd_e, bd_e, bd_e, gd_isb (by omega), bd_e, gd_isb (by omega), bd_e, gd_isb (by omega), bd_e]
  · exact (((((((Fr.rf.ur (Or.inr (Or.inl ⟨by omega, by omega, rfl⟩))).ui (Or.inr (Or.inl ⟨by omega, by omega, rfl⟩))).ui (Or.inr (Or.inl ⟨by omega, by omega, rfl⟩))).ui (Or.inr (Or.inl ⟨by omega, by omega, rfl⟩))).ui (Or.inr (Or.inl ⟨by omega, by omega, rfl⟩))).ui (Or.inr (Or.inl ⟨by omega, by omega, rfl⟩))).ui (Or.inr (Or.inl ⟨by omega, by omega, rfl⟩)))
  · simp only [gi_ui, gi_ur]; rw [if_neg (by omega), if_neg (by omega), if_neg (by omega), if_pos (by simp)]
  · simp only [gi_ui, gi_ur]; rw [if_neg (by omega), if_neg (by omega), if_neg (by omega), if_neg (by omega), if_pos (by simp)]
  · simp only [gi_ui, gi_ur]; rw [if_neg (by omega), if_neg (by omega), if_neg (by omega), if_neg (by omega), if_neg (by omega), if_pos (by simp)]
  · simp only [gi_ui, gi_ur]; rw [if_neg (by omega), if_neg (by omega), if_pos (by simp)]
  · simp only [gi_ui, gi_ur]; rw [if_neg (by omega), if_pos (by simp)]
  · exact gi_s _ _ _ _ _
  · simp only [gi_ui, gi_ur]; rw [if_neg (by omega), if_neg (by omega), if_neg (by omega), if_neg (by omega), if_neg (by omega), if_neg (by omega), if_pos (by first | (simp; done) | (simp; omega))]
theorem mo_L29 {g0 : zG} : ∀ (c f j : Nat), j + c = 3 → c < f → m_X7_office_L29 f (ur g0 109 0 j (fun _ => nI 20)) (nI j) = m_X7_office_B48 (ur g0 109 0 3 (fun _ => nI 20)) := by
  intro c
  induction c with
  | zero =>
    intro f j hj hf
    obtain ⟨f, rfl⟩ : ∃ f', f = f' + 1 := ⟨f - 1, by omega⟩
    have e : j = 3 := by omega
    subst e
    unfold m_X7_office_L29
    rw [lt_f (by omega) (by omega)]
  | succ c ih =>
    intro f j hj hf
    obtain ⟨f, rfl⟩ : ∃ f', f = f' + 1 := ⟨f - 1, by omega⟩
    unfold m_X7_office_L29
    rw [lt_t (by omega) (by omega), gd_inb (by omega) (by omega), bd_e, n_cl (by omega), n_add, ur_s g0 109 0 j (fun _ => nI 20)]
    exact ih f (j + 1) (by omega) (by omega)
end LOOP
