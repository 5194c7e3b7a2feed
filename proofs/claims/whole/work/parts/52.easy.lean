/-! the calls, one by one: the plain ones -/
theorem gi_s (g : zG) (f i j : Nat) (v : Int32) : gi (ui g f i j v) f i j = v := if_pos ⟨rfl, rfl, rfl⟩
section EASY
variable {x m : zG}
theorem toInt_neg {a : Int32} (h : a < nI 0) : a.toInt < 0 := by
  have e0 : (nI 0).toInt = 0 := nI_toInt (n := 0) (by omega)
  have := Int32.lt_iff_toInt_lt.mp h; omega
theorem neg_t {a : Int32} {ρ : Type} {M1 M2 : ρ} (h : a < nI 0) {j : Nat} (hj : j < 2147483648) : (if a < nI j then M1 else M2) = M1 := if_pos (by rw [(n_neg h hj).2.2]; trivial)
theorem neg_f {a : Int32} {ρ : Type} {M1 M2 : ρ} (h : a < nI 0) {j : Nat} (hj : j < 2147483648) : (if nI j < a then M1 else M2) = M2 := if_neg (by rw [(n_neg h hj).1]; exact id)
theorem neg_e {a : Int32} {ρ : Type} {M1 M2 : ρ} (h : a < nI 0) {j : Nat} (hj : j < 2147483648) : (if a = nI j then M1 else M2) = M2 := if_neg (by rw [(n_neg h hj).2.1]; exact id)
theorem s_type (hR : Rl x m) (a : Int32) : Sm (m_X6_type x a) (m_X7_type m a) := by
  obtain ⟨p, nj, nb, J, N, un, U, tl, tx, sn, sv, hP, hC, hI, hT, hS, ht⟩ := id hR
  unfold m_X6_type m_X7_type
  rcases n_cases a with h | ⟨j, hj, rfl⟩
  · rw [if_pos h, m_in_f (Or.inl (by have := toInt_neg h; have : (0 : Int64).toInt = 0 := rfl; omega)), bi_e, eq_t rfl]
    exact ⟨_, x, m, rfl, rfl, hR⟩
  · rw [lt_f (by omega) (by omega)]
    by_cases h255 : 255 < j
    · rw [lt_t (by omega) h255, m_in_f (Or.inr (by rw [nI_toInt hj]; have : (255 : Int64).toInt = 255 := rfl; omega)), bi_e, eq_t rfl]
      exact ⟨_, x, m, rfl, rfl, hR⟩
    · rw [lt_f (by omega) (by omega), m_in_t (l := 0) (h := 255) rfl rfl hj (by omega) (by omega), bi_e, eq_f (by omega) (by omega) (by omega)]
      obtain ⟨t1, t2, t3, t4⟩ := hT
      unfold m_X5_isFull
      rw [t2, t3]
      by_cases hf : tl = 120
      · rw [lt_f (by omega) (by omega), bi_e, eq_f (by omega) (by omega) (by omega), eq_t hf]
        exact ⟨_, x, m, rfl, rfl, hR⟩
      · rw [lt_t (by omega) (by omega), bi_e, eq_t rfl, eq_f (by omega) (by omega) hf]
        unfold m_X5_add
        rw [t2, x_put (k := 55) (n := 120) rfl (by omega) (by omega), bi_e, bd_e, gd_inb (by omega) (by omega), n_cl (by omega), bd_e, bd_e]
        have eX : gi (ui x 55 0 tl (nI j)) 50 0 0 = nI tl := by rw [gi_ui, if_neg (by omega)]; exact t2
        have eM : gi (ui m 108 0 tl (nI j)) 124 0 0 = nI tl := by rw [gi_ui, if_neg (by omega)]; exact t3
        rw [eX, eM, n_add, gi_s, gi_s, sb_e]
        have Fx : Fr (fun f a => (f = 50 ∨ f = 55) ∧ a = 0) x (ui (ui x 55 0 tl (nI j)) 50 0 0 (nI (tl + 1))) := (Fr.rf.ui ⟨Or.inr rfl, rfl⟩).ui ⟨Or.inl rfl, rfl⟩
        have Fm : Fr (fun f _ => f = 124 ∨ f = 108) m (ui (ui m 108 0 tl (nI j)) 124 0 0 (nI (tl + 1))) := (Fr.rf.ui (Or.inr rfl)).ui (Or.inl rfl)
        refine ⟨_, _, _, rfl, rfl, p, nj, nb, J, N, un, U, tl + 1, upN tx tl j, sn, sv, hP.fr Fx (fun f i h1 h2 q => by omega) Fm (fun f h q => by omega), hC.fr Fx (fun f a h1 h2 q => by omega) ⟨by omega, by omega⟩ Fm ⟨by omega, by omega, by omega⟩, hI.fr Fx (fun f a h1 h2 h3 q => by omega) (fun c h1 h2 => ⟨by omega, by omega⟩) (by omega) Fm ⟨by omega, by omega⟩, ⟨by omega, ?_, ?_, fun k hk => ?_⟩, hS.fr Fx ⟨by omega, by omega, by omega, by omega⟩ Fm ⟨by omega, by omega⟩, by rw [Fx.tr_t, Fm.tr_t]; exact ht⟩
        · rw [gi_ui, if_pos ⟨rfl, rfl, rfl⟩]
        · rw [gi_ui, if_pos ⟨rfl, rfl, rfl⟩]
        · by_cases hk2 : k = tl
          · subst hk2
            rw [gi_ui, if_neg (by omega), gi_ui, if_pos ⟨rfl, rfl, rfl⟩, gi_ui, if_neg (by omega), gi_ui, if_pos ⟨rfl, rfl, rfl⟩, upN_s]
            exact ⟨rfl, rfl, by omega⟩
          · rw [gi_ui, if_neg (by omega), gi_ui, if_neg (by omega), gi_ui, if_neg (by omega), gi_ui, if_neg (by omega), upN_n hk2]
            exact t4 k (by omega)
theorem s_clear (hR : Rl x m) : Sm (m_X6_clear x) (m_X7_clear m) := by
  obtain ⟨p, nj, nb, J, N, un, U, tl, tx, sn, sv, hP, hC, hI, hT, hS, ht⟩ := id hR
  obtain ⟨t1, t2, t3, t4⟩ := hT
  unfold m_X6_clear m_X7_clear m_X5_wipe
  rw [bd_e, bd_e, sb_e, t2, t3]
  have Fx : Fr (fun f a => f = 50 ∧ a = 0) x (ui x 50 0 0 (nI 0)) := Fr.rf.ui ⟨rfl, rfl⟩
  have Fm : Fr (fun f _ => f = 124) m (ui m 124 0 0 (nI 0)) := Fr.rf.ui rfl
  exact ⟨_, _, _, rfl, rfl, p, nj, nb, J, N, un, U, 0, tx, sn, sv, hP.fr Fx (fun f i h1 h2 q => by omega) Fm (fun f h q => by omega), hC.fr Fx (fun f a h1 h2 q => by omega) ⟨by omega, by omega⟩ Fm ⟨by omega, by omega, by omega⟩, hI.fr Fx (fun f a h1 h2 h3 q => by omega) (fun c h1 h2 => ⟨by omega, by omega⟩) (by omega) Fm ⟨by omega, by omega⟩, ⟨by omega, by rw [gi_ui, if_pos ⟨rfl, rfl, rfl⟩], by rw [gi_ui, if_pos ⟨rfl, rfl, rfl⟩], fun k hk => by omega⟩, hS.fr Fx ⟨by omega, by omega, by omega, by omega⟩ Fm ⟨by omega, by omega⟩, by rw [Fx.tr_t, Fm.tr_t]; exact ht⟩
theorem s_forget (hR : Rl x m) : Sm (m_X6_forget x) (m_X7_forget m) := by
  obtain ⟨p, nj, nb, J, N, un, U, tl, tx, sn, sv, hP, hC, hI, hT, hS, ht⟩ := id hR
  obtain ⟨t1, t2, t3, t4⟩ := hS
  unfold m_X6_forget m_X7_forget m_X4_forgetAll
  rw [bd_e, bd_e, sb_e, t2, t3]
  have Fx : Fr (fun f a => f = 40 ∧ a = 0) x (ui x 40 0 0 (nI 0)) := Fr.rf.ui ⟨rfl, rfl⟩
  have Fm : Fr (fun f _ => f = 123) m (ui m 123 0 0 (nI 0)) := Fr.rf.ui rfl
  exact ⟨_, _, _, rfl, rfl, p, nj, nb, J, N, un, U, tl, tx, 0, sv, hP.fr Fx (fun f i h1 h2 q => by omega) Fm (fun f h q => by omega), hC.fr Fx (fun f a h1 h2 q => by omega) ⟨by omega, by omega⟩ Fm ⟨by omega, by omega, by omega⟩, hI.fr Fx (fun f a h1 h2 h3 q => by omega) (fun c h1 h2 => ⟨by omega, by omega⟩) (by omega) Fm ⟨by omega, by omega⟩, hT.fr Fx ⟨by omega, by omega⟩ Fm ⟨by omega, by omega⟩, ⟨by omega, by rw [gi_ui, if_pos ⟨rfl, rfl, rfl⟩], by rw [gi_ui, if_pos ⟨rfl, rfl, rfl⟩], fun k hk => by omega⟩, by rw [Fx.tr_t, Fm.tr_t]; exact ht⟩
theorem s_trace (hR : Rl x m) : ∃ r, m_X6_trace x = some r ∧ m_X7_trace m = some r := by
  obtain ⟨p, nj, nb, J, N, un, U, tl, tx, sn, sv, hP, hC, hI, hT, hS, ht⟩ := hR
  exact ⟨gl x 0, rfl, by unfold m_X7_trace; rw [ht]⟩
theorem s_count (hR : Rl x m) (a : Int32) : Sr (m_X6_count x a) (m_X7_count m a) := by
  obtain ⟨p, nj, nb, J, N, un, U, tl, tx, sn, sv, ⟨hp, hg, -, hB, hX, hM⟩, hC, hI, hT, hS, ht⟩ := hR
  unfold m_X6_count m_X7_count
  by_cases h0 : a = nI 0
  · rw [if_pos h0, if_pos h0, hg, gd_73 hp, hX.2.1, hM.2.1]; exact ⟨_, rfl, rfl⟩
  rw [if_neg h0, if_neg h0]
  by_cases h1 : a = nI 1
  · rw [if_pos h1, if_pos h1, hg, gd_73 hp, hX.1, hM.1]; exact ⟨_, rfl, rfl⟩
  rw [if_neg h1, if_neg h1]
  by_cases h2 : a = nI 2
  · rw [if_pos h2, if_pos h2, hS.2.1, hS.2.2.1]; exact ⟨_, rfl, rfl⟩
  rw [if_neg h2, if_neg h2]
  by_cases h3 : a = nI 3
  · rw [if_pos h3, if_pos h3, hC.1.2.1, hC.2.1.2.1]; exact ⟨_, rfl, rfl⟩
  rw [if_neg h3, if_neg h3]
  by_cases h4 : a = nI 4
  · rw [if_pos h4, if_pos h4, hT.2.1, hT.2.2.1]; exact ⟨_, rfl, rfl⟩
  rw [if_neg h4, if_neg h4]
  exact ⟨_, rfl, rfl⟩
end EASY
