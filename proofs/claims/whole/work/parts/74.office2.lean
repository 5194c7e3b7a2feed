/-! office itself, on both sides -/
section OFFICE2
variable {x m : zG}
theorem s_office (hR : Rl x m) : Sm (m_X6_office x) (m_X7_office m) := by
  obtain ⟨p, nj, nb, J, N, un_, U, tl, tx, sn, sv, hP, hC, hI, hT, hS, ht⟩ := id hR
  obtain ⟨hp, g0, g1, hB, hX, hM⟩ := id hP
  have h120 := hT.1
  unfold m_X6_office m_X3_readFrom m_X5_rewind
  rw [g1, gd_73 (by omega)]
  obtain ⟨x1, a1, a2, a3⟩ := x_untell (x := x) (p := 1 - p)
  rw [a1, bi_e, bd_e, bi_e]
  have M0 : Fr PJm m (ui (ui (ui (ui (ui m 125 0 0 (nI 0)) 132 0 0 (nI 0)) 131 0 0 (nI 0)) 129 0 0 (nI 200)) 130 0 0 (nI 4)) := ((((Fr.rf.ui (Or.inl ⟨by omega, by omega⟩)).ui (Or.inl ⟨by omega, by omega⟩)).ui (Or.inl ⟨by omega, by omega⟩)).ui (Or.inl ⟨by omega, by omega⟩)).ui (Or.inl ⟨by omega, by omega⟩)
  have M1 : Fr PJm m (ur (ui (ui (ui (ui (ui m 125 0 0 (nI 0)) 132 0 0 (nI 0)) 131 0 0 (nI 0)) 129 0 0 (nI 200)) 130 0 0 (nI 4)) 109 0 3 (fun _ => nI 20)) := M0.ur (Or.inr (Or.inl rfl))
  have e1 : m_X7_office m = m_X7_office_B48 (ur (ui (ui (ui (ui (ui m 125 0 0 (nI 0)) 132 0 0 (nI 0)) 131 0 0 (nI 0)) 129 0 0 (nI 200)) 130 0 0 (nI 4)) 109 0 3 (fun _ => nI 20)) := by
    unfold m_X7_office
    rw [bd_e, bd_e, bd_e, bd_e, bd_e]
    have h := mo_L29 (g0 := ui (ui (ui (ui (ui m 125 0 0 (nI 0)) 132 0 0 (nI 0)) 131 0 0 (nI 0)) 129 0 0 (nI 200)) 130 0 0 (nI 4)) 3 FU 0 (by omega) (by show _ < 1000; omega)
    rw [ur_0] at h
    exact h
  have hM1 : ∀ J, BMp (ur (ui (ui (ui (ui (ui m 125 0 0 (nI 0)) 132 0 0 (nI 0)) 131 0 0 (nI 0)) 129 0 0 (nI 200)) 130 0 0 (nI 4)) 109 0 3 (fun _ => nI 20)) 0 0 0 0 200 4 (fun _ => 20) J := fun J => by
    refine ⟨?_, ?_, ?_, ?_, fun t ht => ?_, fun j hj => by omega⟩
    · simp only [gi_ui, gi_ur]; rw [if_neg (by omega), if_neg (by omega), if_pos (by simp)]
    · simp only [gi_ui, gi_ur]; rw [if_neg (by omega), if_pos (by simp)]
    · simp only [gi_ui, gi_ur]; rw [if_neg (by omega), if_neg (by omega), if_neg (by omega), if_pos (by simp)]
    · simp only [gi_ui, gi_ur]; rw [if_neg (by omega), if_neg (by omega), if_neg (by omega), if_neg (by omega), if_pos (by simp)]
    · rw [gi_ur, if_pos ⟨rfl, rfl, by omega⟩]
  have h125 : gi (ur (ui (ui (ui (ui (ui m 125 0 0 (nI 0)) 132 0 0 (nI 0)) 131 0 0 (nI 0)) 129 0 0 (nI 200)) 130 0 0 (nI 4)) 109 0 3 (fun _ => nI 20)) 125 0 0 = nI 0 := by
    simp only [gi_ui, gi_ur]; rw [if_neg (by omega), if_neg (by omega), if_neg (by omega), if_neg (by omega), if_neg (by omega), if_pos (by simp)]
  rw [e1]
  generalize ur (ui (ui (ui (ui (ui m 125 0 0 (nI 0)) 132 0 0 (nI 0)) 131 0 0 (nI 0)) 129 0 0 (nI 200)) 130 0 0 (nI 4)) 109 0 3 (fun _ => nI 20) = m1 at M1 hM1 h125 ⊢
  have X1 : Fr (PIx (1 - p)) x (ui x1 51 0 0 (nI 0)) := a2.ui (Or.inl ⟨by omega, by omega, rfl⟩)
  have hB1 : Bp (ui x1 51 0 0 (nI 0)) m1 (1 - p) := ⟨0, 0, 0, 0, 200, 4, fun _ => 20, fun _ _ => 0, (a3 _).nx (Fr.rf.ui (Or.inl ⟨by omega, by omega, rfl⟩)), hM1 _, by omega, by omega, by omega, by omega, fun t ht => by show (20 : Nat) ≤ 99; omega, by omega, by omega, by omega, fun j hj => by omega⟩
  unfold m_X7_office_B48
  obtain ⟨x2, m2, b1, b2, b3⟩ := offL (p := 1 - p) (tl := tl) (tx := tx) (by omega) (tl + 1) 0 0 FU FU (ui x1 51 0 0 (nI 0)) m1 (by omega) (by omega) (by omega) (by show _ < 1000; omega) (by show _ < 1000; omega) hB1 (hT.nx X1 M1) (gi_s _ _ _ _ _) h125
  have X2 : Fr (PIx (1 - p)) x x2 := X1.tr b1
  have M2 : Fr PJm m m2 := M1.tr b2
  rcases b3 with ⟨s, c1, c2, c3⟩ | ⟨k, c1, c2, c3, c4⟩
  · rw [c2, c3, sb_e]
    have hneg : ((-10 : Int32) - nI s) < nI 0 := by
      have : ∀ s : Fin 121, ((-10 : Int32) - nI s.1) < nI 0 := by decide
      exact this ⟨s, by omega⟩
    rw [if_pos hneg]
    refine ⟨_, x2, m2, rfl, rfl, p, nj, nb, J, N, un_, U, tl, tx, sn, sv, ⟨hp, by rw [X2.2.2]; exact g0, by rw [X2.2.2]; exact g1, hB, ?_, hM.fr M2 (fun f h q => by rcases q with q | q | q <;> omega)⟩, hC.fr X2 (fun f a h1 h2 q => by rcases q with q | q | q <;> omega) ⟨fun q => by rcases q with q | q | q <;> omega, fun q => by rcases q with q | q | q <;> omega⟩ M2 ⟨fun q => by rcases q with q | q | q <;> omega, fun q => by rcases q with q | q | q <;> omega, fun q => by rcases q with q | q | q <;> omega⟩, hI.fr X2 (fun f a h1 h2 h3 q => by rcases q with q | q | q <;> omega) (fun c h1 h2 => ⟨fun q => by rcases q with q | q | q <;> omega, fun q => by rcases q with q | q | q <;> omega⟩) (fun q => by rcases q with q | q | q <;> omega) M2 ⟨fun q => by rcases q with q | q | q <;> omega, fun q => by rcases q with q | q | q <;> omega⟩, hT.nx X2 M2, hS.fr X2 ⟨fun q => by rcases q with q | q | q <;> omega, fun q => by rcases q with q | q | q <;> omega, fun q => by rcases q with q | q | q <;> omega, fun q => by rcases q with q | q | q <;> omega⟩ M2 ⟨fun q => by rcases q with q | q | q <;> omega, fun q => by rcases q with q | q | q <;> omega⟩, by rw [X2.tr_t, M2.tr_t]; exact ht⟩
    obtain ⟨z1, z2, z3⟩ := hX
    have hX6 := hB.1
    refine ⟨by rw [X2.1 12 p 0 (fun q => by rcases q with q | q | q <;> omega)]; exact z1, by rw [X2.1 11 p 0 (fun q => by rcases q with q | q | q <;> omega)]; exact z2, fun j hj => ?_⟩
    have G : ∀ f, 20 ≤ f → f ≤ 26 → gi x2 f (6 * p + j) 0 = gi x f (6 * p + j) 0 := fun f h1 h2 => X2.1 f _ 0 (fun q => by rcases q with q | q | q <;> omega)
    rw [G 20 (by omega) (by omega), G 21 (by omega) (by omega), G 22 (by omega) (by omega), G 23 (by omega) (by omega), G 24 (by omega) (by omega), G 25 (by omega) (by omega), G 26 (by omega) (by omega)]
    exact z3 j hj
  · rw [c3, c4, sb_e, lt_f (by omega) (by omega)]
    obtain ⟨tt, tk, tb, n, K, B, T, J', dx, dm_, db⟩ := c2
    obtain ⟨f1, f2, f3, f4, f5, f6⟩ := db
    obtain ⟨p1, p2, p3, p4, p5, p6⟩ := dm_
    obtain ⟨y0, y1, y2, y3, y4, y5⟩ := dx
    have hn := f6.1
    have q0 : gn x2 0 = p := by rw [X2.2.2]; exact g0
    have q1 : gn x2 1 = 1 - p := by rw [X2.2.2]; exact g1
    have u0 : gn (un (un x2 0 (gn x2 1)) 1 (gn x2 0)) 0 = 1 - p := by
      rw [gn_un, if_neg (by omega), gn_un, if_pos rfl]; exact q1
    have u1 : gn (un (un x2 0 (gn x2 1)) 1 (gn x2 0)) 1 = 1 - (1 - p) := by
      rw [gn_un, if_pos rfl, q0]; omega
    have ug : ∀ f i j, gi (un (un x2 0 (gn x2 1)) 1 (gn x2 0)) f i j = gi x2 f i j := fun f i j => rfl
    have ul_ : gl (un (un x2 0 (gn x2 1)) 1 (gn x2 0)) 0 = gl x2 0 := rfl
    rw [gd_73 (by omega), gd_73 (by omega), bd_e, bd_e]
    generalize un (un x2 0 (gn x2 1)) 1 (gn x2 0) = x3 at u0 u1 ug ul_ ⊢
    unfold m_X5_wipe
    rw [bd_e, sb_e]
    have w0 : gn (ui x3 50 0 0 (nI 0)) 0 = 1 - p := u0
    rw [w0, gd_73 (by omega)]
    unfold m_X0_begin m_X4_forgetAll
    obtain ⟨x4, r1, r2, r3⟩ := x_begin (x := ui x3 50 0 0 (nI 0)) (p := 1 - p) (i := 11 * 0) (K := K) (n := n) (T := T) (by rw [gi_ui, if_neg (by omega), ug]; exact y1) (by rw [gi_ui, if_neg (by omega), ug]; exact y0.1) hn (fun t ht => by rw [gi_ui, if_neg (by omega), ug]; exact y5 t ht)
    rw [r1, bi_e, bd_e, bd_e, bi_e, bd_e, sb_e]
    have l65 := xo_L65 (g0 := ui (ui (ui x4 30 0 0 (nI 0)) 31 0 0 (nI 0)) 40 0 0 (nI 0)) (x1 := nI k) 2 FU 0 (by omega) (by show _ < 1000; omega)
    rw [ur_0] at l65
    rw [l65]
    unfold m_X7_office_B86
    rw [eq_f (by omega) (by omega) (by omega), bd_e, bd_e, bd_e]
    have M3 : Fr (fun f _ => f = 124 ∨ f = 120 ∨ f = 121) m2 (ui (ui (ui m2 124 0 0 (nI 0)) 120 0 0 (nI n)) 121 0 0 (nI B)) := ((Fr.rf.ui (Or.inl rfl)).ui (Or.inr (Or.inl rfl))).ui (Or.inr (Or.inr rfl))
    have v1 : gi (ui m2 124 0 0 (nI 0)) 131 0 0 = nI n := by rw [gi_ui, if_neg (by omega)]; exact p3
    rw [v1]
    have v2 : gi (ui (ui m2 124 0 0 (nI 0)) 120 0 0 (nI n)) 130 0 0 = nI B := by rw [gi_ui, if_neg (by omega), gi_ui, if_neg (by omega)]; exact p2
    rw [v2]
    have v3 : gi (ui (ui (ui m2 124 0 0 (nI 0)) 120 0 0 (nI n)) 121 0 0 (nI B)) 120 0 0 = nI n := by rw [gi_ui, if_neg (by omega), gi_s]
    have v4 : gi (ui (ui (ui m2 124 0 0 (nI 0)) 120 0 0 (nI n)) 121 0 0 (nI B)) 124 0 0 = nI 0 := by rw [gi_ui, if_neg (by omega), gi_ui, if_neg (by omega), gi_s]
    have v5 : gi (ui (ui (ui m2 124 0 0 (nI 0)) 120 0 0 (nI n)) 121 0 0 (nI B)) 121 0 0 = nI B := gi_s _ _ _ _ _
    generalize ui (ui (ui m2 124 0 0 (nI 0)) 120 0 0 (nI n)) 121 0 0 (nI B) = m3 at M3 v3 v4 v5 ⊢
    obtain ⟨m4, s1, s2, s3⟩ := mo_L139 (J := J') (x1 := nI k) hn n 0 FU m3 (by omega) (by show _ < 1000; omega) v3 (fun j hj i hi => by rw [M3.1 110 0 _ (by omega)]; exact p6 j hj i hi) (fun j hj => by omega)
    rw [s3]
    have k120 : gi m4 120 0 0 = nI n := by rw [s1.1 120 0 0 (by omega)]; exact v3
    obtain ⟨m5, t1, t2, t3, t4, t5, t6, t7⟩ := m_begin (m := m4) (K := K) (n := n) (T := T) (by rw [s1.1 129 0 0 (by omega), M3.1 129 0 0 (by omega)]; exact p1) k120 hn (fun t ht => by rw [s1.1 109 0 t (by omega), M3.1 109 0 t (by omega)]; exact p5 t ht)
    rw [t1, bi_e]
    refine ⟨_, _, _, rfl, rfl, rl_first (x := ui x3 50 0 0 (nI 0)) (m := m4) (p := 1 - p) (K := K) (T := T) (by omega) w0 u1 f6 f4 f5 ?_ ⟨k120, by rw [s1.1 121 0 0 (by omega)]; exact v5, s2⟩ ?_ t2 ?_ ?_ ?_ ?_ (fun i hi => ?_) (gi_s _ _ _ _ _) t3 t4 t5 (fun i hi => ?_) (by rw [s1.1 124 0 0 (by omega)]; exact v4) ?_⟩
    · obtain ⟨z1, z2, z3⟩ := y0
      have G : ∀ f i j, ¬ f = 50 → gi (ui x3 50 0 0 (nI 0)) f i j = gi x2 f i j := fun f i j h => by rw [gi_ui, if_neg (by omega), ug]
      refine ⟨by rw [G _ _ _ (by omega)]; exact z1, by rw [G _ _ _ (by omega)]; exact z2, fun j hj => ?_⟩
      rw [G _ _ _ (by omega), G _ _ _ (by omega), G _ _ _ (by omega), G _ _ _ (by omega), G _ _ _ (by omega), G _ _ _ (by omega), G _ _ _ (by omega)]
      exact z3 j hj
    · have r2' : Fr (fun f a => (f ≤ 8 ∧ a = 0) ∨ f = 30 ∨ f = 31 ∨ f = 40 ∨ f = 60) (ui x3 50 0 0 (nI 0)) x4 := r2.wk (fun f a h => Or.inl ⟨h.1, by have := h.2; omega⟩)
      exact (((r2'.ui (Or.inr (Or.inl rfl))).ui (Or.inr (Or.inr (Or.inl rfl)))).ui (Or.inr (Or.inr (Or.inr (Or.inl rfl))))).ur (Or.inr (Or.inr (Or.inr (Or.inr rfl))))
    · have F : Fr (fun f _ => f = 30 ∨ f = 31 ∨ f = 40 ∨ f = 60) x4 (ur (ui (ui (ui x4 30 0 0 (nI 0)) 31 0 0 (nI 0)) 40 0 0 (nI 0)) 60 0 2 (fun _ => nI 0)) := (((Fr.rf.ui (Or.inl rfl)).ui (Or.inr (Or.inl rfl))).ui (Or.inr (Or.inr (Or.inl rfl)))).ur (Or.inr (Or.inr (Or.inr rfl)))
      exact r3.fr F (fun f h q => by omega)
    · rw [gi_ur, if_neg (by omega), gi_ui, if_neg (by omega), gi_ui, if_neg (by omega), gi_s]
    · rw [gi_ur, if_neg (by omega), gi_ui, if_neg (by omega), gi_s]
    · rw [gi_ur, if_neg (by omega), gi_s]
    · rw [gi_ur, if_pos ⟨rfl, rfl, hi⟩]
    · by_cases h0 : i = 0
      · rw [h0]; exact t6
      · rw [show i = 1 by omega]; exact t7
    · have e1 : gl (ui x3 50 0 0 (nI 0)) 0 = gl x3 0 := rfl
      rw [e1, ul_, X2.tr_t, s1.tr_t, M3.tr_t, M2.tr_t]; exact ht
end OFFICE2
