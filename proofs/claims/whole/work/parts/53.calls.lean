/-! more calls -/
theorem il_t {a : Int32} {k : Nat} {ρ : Type} {M1 M2 : ρ} (hk : k < 2147483648) (h : a.toInt < k) : (if a < nI k then M1 else M2) = M1 := if_pos (Int32.lt_iff_toInt_lt.mpr (by rw [nI_toInt hk]; exact h))
theorem il_f {a : Int32} {k : Nat} {ρ : Type} {M1 M2 : ρ} (hk : k < 2147483648) (h : (k : Int) ≤ a.toInt) : (if a < nI k then M1 else M2) = M2 := if_neg (fun q => by have := Int32.lt_iff_toInt_lt.mp q; rw [nI_toInt hk] at this; omega)
theorem ir_t {a : Int32} {k : Nat} {ρ : Type} {M1 M2 : ρ} (hk : k < 2147483648) (h : (k : Int) < a.toInt) : (if nI k < a then M1 else M2) = M1 := if_pos (Int32.lt_iff_toInt_lt.mpr (by rw [nI_toInt hk]; exact h))
theorem ir_f {a : Int32} {k : Nat} {ρ : Type} {M1 M2 : ρ} (hk : k < 2147483648) (h : a.toInt ≤ k) : (if nI k < a then M1 else M2) = M2 := if_neg (fun q => by have := Int32.lt_iff_toInt_lt.mp q; rw [nI_toInt hk] at this; omega)
theorem mi_t {a : Int32} {lo hi : Int64} (h1 : lo.toInt ≤ a.toInt) (h2 : a.toInt ≤ hi.toInt) : m_X7_in (Int32.toInt64 a) lo hi = some (nI 1) := by
  rw [m_in, if_pos]
  constructor <;> rw [Int64.le_iff_toInt_le, Int32.toInt_toInt64] <;> assumption
theorem n_of {a : Int32} (h : 0 ≤ a.toInt) : ∃ j : Nat, j < 2147483648 ∧ a = nI j ∧ a.toInt = (j : Int) := by
  rcases n_cases a with q | ⟨j, hj, rfl⟩
  · have := toInt_neg q; omega
  · exact ⟨j, hj, rfl, nI_toInt hj⟩
theorem l0 : (0 : Int64).toInt = 0 := rfl
theorem l1 : (1 : Int64).toInt = 1 := rfl
section CALLS53
variable {x m : zG}
theorem m_isPart_t {a : Int32} (h1 : 0 ≤ a.toInt) (h2 : a.toInt ≤ 1) : m_X7_isPart a = some (nI 1) := by
  unfold m_X7_isPart
  rw [mi_t (by rw [l0]; exact h1) (by rw [l1]; exact h2), bi_e, gd_isb (by omega)]
theorem m_isPart_f {a : Int32} (h : a.toInt < 0 ∨ 1 < a.toInt) : m_X7_isPart a = some (nI 0) := by
  unfold m_X7_isPart
  rw [m_in_f (by rw [l0, l1]; exact h), bi_e, gd_isb (by omega)]
theorem s_sees (hR : Rl x m) (a b c : Int32) : Sm (m_X6_sees x a b c) (m_X7_sees m a b c) := by
  obtain ⟨p, nj, nb, J, N, un, U, tl, tx, sn, sv, hP, hC, hI, hT, hS, ht⟩ := id hR
  have e80 : (80 : Int64).toInt = 80 := rfl
  have e9 : (9 : Int64).toInt = 9 := rfl
  unfold m_X6_sees m_X7_sees
  by_cases q1 : a.toInt < 0
  · rw [il_t (by omega) (by omega), m_in_f (Or.inl (by rw [l0]; omega)), bi_e, eq_t rfl]; exact ⟨_, x, m, rfl, rfl, hR⟩
  rw [il_f (by omega) (by omega)]
  by_cases q2 : 80 < a.toInt
  · rw [ir_t (by omega) (by omega), m_in_f (Or.inr (by rw [e80]; omega)), bi_e, eq_t rfl]; exact ⟨_, x, m, rfl, rfl, hR⟩
  rw [ir_f (by omega) (by omega), mi_t (by rw [l0]; omega) (by rw [e80]; omega), bi_e, eq_f (by omega) (by omega) (by omega)]
  by_cases q3 : b.toInt < 1
  · rw [il_t (by omega) (by omega), m_in_f (Or.inl (by rw [l1]; omega)), bi_e, eq_t rfl]; exact ⟨_, x, m, rfl, rfl, hR⟩
  rw [il_f (by omega) (by omega)]
  by_cases q4 : 9 < b.toInt
  · rw [ir_t (by omega) (by omega), m_in_f (Or.inr (by rw [e9]; omega)), bi_e, eq_t rfl]; exact ⟨_, x, m, rfl, rfl, hR⟩
  rw [ir_f (by omega) (by omega), mi_t (by rw [l1]; omega) (by rw [e9]; omega), bi_e, eq_f (by omega) (by omega) (by omega)]
  by_cases q5 : c.toInt < 0
  · rw [il_t (by omega) (by omega), m_isPart_f (Or.inl q5), bi_e, eq_t rfl]; exact ⟨_, x, m, rfl, rfl, hR⟩
  rw [il_f (by omega) (by omega)]
  by_cases q6 : 1 < c.toInt
  · rw [ir_t (by omega) (by omega), m_isPart_f (Or.inr q6), bi_e, eq_t rfl]; exact ⟨_, x, m, rfl, rfl, hR⟩
  rw [ir_f (by omega) (by omega), m_isPart_t (by omega) (by omega), bi_e, eq_f (by omega) (by omega) (by omega)]
  obtain ⟨ja, -, rfl, ha⟩ := n_of (a := a) (by omega)
  obtain ⟨jb, -, rfl, hb⟩ := n_of (a := b) (by omega)
  obtain ⟨jc, -, rfl, hc⟩ := n_of (a := c) (by omega)
  obtain ⟨t1, t2, t3, t4⟩ := hS
  rw [t2, t3]
  by_cases hf : sn = 6
  · rw [lt_f (by omega) (by omega), eq_t hf]; exact ⟨_, x, m, rfl, rfl, hR⟩
  · rw [lt_t (by omega) (by omega), eq_f (by omega) (by omega) hf]
    unfold m_X4_add
    have x1 : ∀ v, gi (ui x 41 0 sn v) 40 0 0 = nI sn := fun v => by rw [gi_ui, if_neg (by omega)]; exact t2
    have x2 : ∀ v w, gi (ui (ui x 41 0 sn v) 42 0 sn w) 40 0 0 = nI sn := fun v w => by rw [gi_ui, if_neg (by omega)]; exact x1 v
    have x3 : ∀ v w u, gi (ui (ui (ui x 41 0 sn v) 42 0 sn w) 43 0 sn u) 40 0 0 = nI sn := fun v w u => by rw [gi_ui, if_neg (by omega)]; exact x2 v w
    have y1 : ∀ v, gi (ui m 107 0 (3 * sn) v) 123 0 0 = nI sn := fun v => by rw [gi_ui, if_neg (by omega)]; exact t3
    have y2 : ∀ v w, gi (ui (ui m 107 0 (3 * sn) v) 107 0 (3 * sn + 1) w) 123 0 0 = nI sn := fun v w => by rw [gi_ui, if_neg (by omega)]; exact y1 v
    have y3 : ∀ v w u, gi (ui (ui (ui m 107 0 (3 * sn) v) 107 0 (3 * sn + 1) w) 107 0 (3 * sn + 2) u) 123 0 0 = nI sn := fun v w u => by rw [gi_ui, if_neg (by omega)]; exact y2 v w
    rw [t2, x_put (k := 41) (n := 6) rfl (by omega) (by omega), bi_e, x1, x_put (k := 42) (n := 6) rfl (by omega) (by omega), bi_e, x2, x_put (k := 43) (n := 6) rfl (by omega) (by omega), bi_e, x3, n_add, bd_e, gi_s, sb_e]
    rw [n_mul, gd_inb (by omega) (by omega), n_cl (by omega), bd_e, y1, n_mul, n_add, gd_inb (by omega) (by omega), n_cl (by omega), bd_e, y2, n_mul, n_add, gd_inb (by omega) (by omega), n_cl (by omega), bd_e, y3, n_add, bd_e, gi_s]
    have Fx : Fr (fun f a => (f = 40 ∨ f = 41 ∨ f = 42 ∨ f = 43) ∧ a = 0) x (ui (ui (ui (ui x 41 0 sn (nI ja)) 42 0 sn (nI jb)) 43 0 sn (nI jc)) 40 0 0 (nI (sn + 1))) := (((Fr.rf.ui ⟨by omega, rfl⟩).ui ⟨by omega, rfl⟩).ui ⟨by omega, rfl⟩).ui ⟨by omega, rfl⟩
    have Fm : Fr (fun f _ => f = 123 ∨ f = 107) m (ui (ui (ui (ui m 107 0 (3 * sn) (nI ja)) 107 0 (3 * sn + 1) (nI jb)) 107 0 (3 * sn + 2) (nI jc)) 123 0 0 (nI (sn + 1))) := (((Fr.rf.ui (by omega)).ui (by omega)).ui (by omega)).ui (by omega)
    refine ⟨_, _, _, rfl, rfl, p, nj, nb, J, N, un, U, tl, tx, sn + 1, (fun f u => if u = sn then (if f = 0 then ja else if f = 1 then jb else jc) else sv f u), hP.fr Fx (fun f i h1 h2 q => by omega) Fm (fun f h q => by omega), hC.fr Fx (fun f a h1 h2 q => by omega) ⟨by omega, by omega⟩ Fm ⟨by omega, by omega, by omega⟩, hI.fr Fx (fun f a h1 h2 h3 q => by omega) (fun c h1 h2 => ⟨by omega, by omega⟩) (by omega) Fm ⟨by omega, by omega⟩, hT.fr Fx ⟨by omega, by omega⟩ Fm ⟨by omega, by omega⟩, ⟨by omega, gi_s _ _ _ _ _, gi_s _ _ _ _ _, fun u hu => ?_⟩, by rw [Fx.tr_t, Fm.tr_t]; exact ht⟩
    by_cases hu2 : u = sn
    · subst hu2
      simp only [gi_ui, if_true]
      simp
      omega
    · have h := t4 u (by omega)
      have d1 : ¬ 3 * u = 3 * sn := by omega
      have d2 : ¬ 3 * u = 3 * sn + 1 := by omega
      have d3 : ¬ 3 * u = 3 * sn + 2 := by omega
      have d4 : ¬ 3 * u + 1 = 3 * sn := by omega
      have d5 : ¬ 3 * u + 1 = 3 * sn + 2 := by omega
      have d6 : ¬ 3 * u + 2 = 3 * sn := by omega
      have d7 : ¬ 3 * u + 2 = 3 * sn + 1 := by omega
      have d8 : ¬ 3 * u + 1 = 3 * sn + 1 := by omega
      have d9 : ¬ 3 * u + 2 = 3 * sn + 2 := by omega
      simp only [gi_ui, hu2, if_false, d1, d2, d3, d4, d5, d6, d7, d8, d9, and_false, false_and]
      simpa using h
end CALLS53
