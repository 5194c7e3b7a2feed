/-! office: the beginning on both sides, and office itself -/
/-- how it is at first -/
def N0 (n K : Nat) (T : Nat → Nat) : Nat → Nat := fun e => if e = 1 then K else if e = 3 then n else if 4 ≤ e ∧ e < 7 then T (e - 4) else if 13 ≤ e ∧ e < 13 + n then e - 13 else 0
def PBm : Nat → Nat → Prop := fun f _ => f = 105 ∨ f = 122 ∨ f = 123 ∨ f = 113
section BEGIN
variable {x m : zG} {p i n K B : Nat} {T : Nat → Nat} {J : Nat → Nat → Nat}
theorem N0_1 : N0 n K T 1 = K := rfl
theorem N0_3 : N0 n K T 3 = n := rfl
theorem N0_t {t : Nat} (ht : t < 3) : N0 n K T (4 + t) = T t := by
  unfold N0
  rw [if_neg (by omega), if_neg (by omega), if_pos (by omega), show 4 + t - 4 = t by omega]
theorem N0_q {k : Nat} (hk : k < n) : N0 n K T (13 + k) = k := by
  unfold N0
  rw [if_neg (by omega), if_neg (by omega), if_neg (by omega), if_pos (by omega), show 13 + k - 13 = k by omega]
theorem N0_0 {e : Nat} (h : e = 0 ∨ e = 2 ∨ (7 ≤ e ∧ e < 13) ∨ 13 + n ≤ e) (h3 : ¬ e = 3) (h4 : 3 ≤ e → 7 ≤ e) : N0 n K T e = 0 := by
  unfold N0
  rw [if_neg (by omega), if_neg (by omega), if_neg (by omega), if_neg (by omega)]
theorem xb_L {g0 : zG} : ∀ (c f j : Nat), j + c = 6 → c < f → m_X2_begin_L28 i p f (ur g0 4 i j nI) (nI j) = m_X2_begin_B50 i p (ur g0 4 i 6 nI) := by
  intro c
  induction c with
  | zero =>
    intro f j hj hf
    obtain ⟨f, rfl⟩ : ∃ f', f = f' + 1 := ⟨f - 1, by omega⟩
    have e : j = 6 := by omega
    subst e
    unfold m_X2_begin_L28
    rw [lt_f (by omega) (by omega)]
  | succ c ih =>
    intro f j hj hf
    obtain ⟨f, rfl⟩ : ∃ f', f = f' + 1 := ⟨f - 1, by omega⟩
    unfold m_X2_begin_L28
    rw [lt_t (by omega) (by omega), gd_inb (by omega) (by omega), bd_e, n_cl (by omega), n_add, ur_s g0 4 i j nI]
    exact ih f (j + 1) (by omega) (by omega)
theorem x_begin (h10 : gi x 10 p 0 = nI K) (h12 : gi x 12 p 0 = nI n) (hn : n ≤ 6) (h16 : ∀ t, t < 3 → gi x 16 p t = nI (T t)) : ∃ x', m_X2_begin x i p = some x' ∧ Fr (PNow i) x x' ∧ SX x' i (N0 n K T) := by
  refine ⟨ur (ur (ur (ur (ur (ui (ui (ui (ui x 0 i 0 (nI 0)) 1 i 0 (nI K)) 2 i 0 (nI 0)) 3 i 0 (nI n)) 4 i 6 nI) 5 i 6 (fun _ => nI 0)) 6 i 6 (fun _ => -9)) 7 i 3 (gi x 16 p)) 8 i 6 (fun _ => nI 0), ?_, ?_, ?_⟩
  · unfold m_X2_begin
    rw [bd_e, gi_ui, if_neg (by omega), h10, bd_e, gd_isb (by omega), bd_e, gi_ui, if_neg (by omega), gi_ui, if_neg (by omega), gi_ui, if_neg (by omega), h12, bd_e]
    have h := xb_L (p := p) (i := i) (g0 := ui (ui (ui (ui x 0 i 0 (nI 0)) 1 i 0 (nI K)) 2 i 0 (nI 0)) 3 i 0 (nI n)) 6 FU 0 (by omega) (by show _ < 1000; omega)
    rw [ur_0] at h
    rw [h]
    unfold m_X2_begin_B50
    rw [x_fill (n := 6) rfl (by omega), bi_e, x_fill (n := 6) rfl (by omega), bi_e, x_copyRow (k0 := 16) (k1 := 7) (n := 3) (n2 := 3) rfl rfl (by omega) (by omega) (by omega), bi_e, x_fill (n := 6) rfl (by omega), bi_e]
    have e : gi (ur (ur (ur (ui (ui (ui (ui x 0 i 0 (nI 0)) 1 i 0 (nI K)) 2 i 0 (nI 0)) 3 i 0 (nI n)) 4 i 6 nI) 5 i 6 (fun _ => nI 0)) 6 i 6 (fun _ => -9)) 16 p = gi x 16 p := by
      funext t
      simp only [gi_ur, gi_ui]
      rw [if_neg (by omega), if_neg (by omega), if_neg (by omega), if_neg (by omega), if_neg (by omega), if_neg (by omega), if_neg (by omega)]
    rw [e]
    rfl
  · exact ((((((((Fr.rf.ui ⟨by omega, rfl⟩).ui ⟨by omega, rfl⟩).ui ⟨by omega, rfl⟩).ui ⟨by omega, rfl⟩).ur ⟨by omega, rfl⟩).ur ⟨by omega, rfl⟩).ur ⟨by omega, rfl⟩).ur ⟨by omega, rfl⟩).ur ⟨by omega, rfl⟩
  · refine ⟨?_, ?_, ?_, ?_, fun j hj => ?_, fun j hj => ?_, fun j hj => ?_, fun t ht => ?_, fun b hb => ?_⟩
    · simp only [gi_ur, gi_ui]
      rw [if_neg (by omega), if_neg (by omega), if_neg (by omega), if_neg (by omega), if_neg (by omega), if_neg (by omega), if_neg (by omega), if_neg (by omega), if_pos (by simp), N0_0 (by omega) (by omega) (by omega)]
    · simp only [gi_ur, gi_ui]
      rw [if_neg (by omega), if_neg (by omega), if_neg (by omega), if_neg (by omega), if_neg (by omega), if_neg (by omega), if_neg (by omega), if_pos (by simp), N0_1]
    · simp only [gi_ur, gi_ui]
      rw [if_neg (by omega), if_neg (by omega), if_neg (by omega), if_neg (by omega), if_neg (by omega), if_neg (by omega), if_pos (by simp), N0_0 (by omega) (by omega) (by omega)]
    · simp only [gi_ur, gi_ui]
      rw [if_neg (by omega), if_neg (by omega), if_neg (by omega), if_neg (by omega), if_neg (by omega), if_pos (by simp), N0_3]
    · rw [N0_3] at hj
      simp only [gi_ur, gi_ui]
      rw [if_neg (by omega), if_neg (by omega), if_neg (by omega), if_neg (by omega), if_pos (by first | (simp; done) | (simp; omega)), N0_q hj]
    · simp only [gi_ur, gi_ui]
      rw [if_neg (by omega), if_neg (by omega), if_neg (by omega), if_pos (by first | (simp; done) | (simp; omega)), N0_0 (by omega) (by omega) (by omega)]
    · simp only [gi_ur, gi_ui]
      rw [if_neg (by omega), if_neg (by omega), if_pos (by first | (simp; done) | (simp; omega)), if_pos (N0_0 (by omega) (by omega) (by omega))]
    · simp only [gi_ur, gi_ui]
      rw [if_neg (by omega), if_pos (by first | (simp; done) | (simp; omega)), N0_t ht]
      exact h16 t ht
    · rw [gi_ur, if_pos ⟨rfl, rfl, by omega⟩, N0_0 (by omega) (by omega) (by omega)]
theorem mb_L2 {g0 : zG} : ∀ (c f j : Nat), j + c = 31 → c < f → m_X7_begin_L2 f (ur g0 105 0 j (fun _ => nI 0)) (nI j) = m_X7_begin_B21 (ur g0 105 0 31 (fun _ => nI 0)) := by
  intro c
  induction c with
  | zero =>
    intro f j hj hf
    obtain ⟨f, rfl⟩ : ∃ f', f = f' + 1 := ⟨f - 1, by omega⟩
    have e : j = 31 := by omega
    subst e
    unfold m_X7_begin_L2
    rw [lt_f (by omega) (by omega)]
  | succ c ih =>
    intro f j hj hf
    obtain ⟨f, rfl⟩ : ∃ f', f = f' + 1 := ⟨f - 1, by omega⟩
    unfold m_X7_begin_L2
    rw [lt_t (by omega) (by omega), gd_inb (by omega) (by omega), bd_e, n_cl (by omega), n_add, ur_s g0 105 0 j (fun _ => nI 0)]
    exact ih f (j + 1) (by omega) (by omega)
theorem mb_L33 {g0 : zG} : ∀ (c f j : Nat), j + c = 3 → c < f → m_X7_begin_L33 f (uo g0 105 4 j (gi g0 109 0)) (nI j) = m_X7_begin_B58 (uo g0 105 4 3 (gi g0 109 0)) := by
  intro c
  induction c with
  | zero =>
    intro f j hj hf
    obtain ⟨f, rfl⟩ : ∃ f', f = f' + 1 := ⟨f - 1, by omega⟩
    have e : j = 3 := by omega
    subst e
    unfold m_X7_begin_L33
    rw [lt_f (by omega) (by omega)]
  | succ c ih =>
    intro f j hj hf
    obtain ⟨f, rfl⟩ : ∃ f', f = f' + 1 := ⟨f - 1, by omega⟩
    unfold m_X7_begin_L33
    rw [lt_t (by omega) (by omega), gd_inb (by omega) (by omega), n_add 4 j, gd_inb (by omega) (by omega), bd_e, n_cl (by omega), n_cl (by omega), n_add, gi_uo, if_neg (by omega), uo_s g0 105 4 j (gi g0 109 0)]
    exact ih f (j + 1) (by omega) (by omega)
theorem mb_L70 {g0 : zG} (hn : n ≤ 6) (h120 : gi g0 120 0 0 = nI n) : ∀ (c f j : Nat), j + c = n → c < f → m_X7_begin_L70 f (uo g0 105 13 j nI) (nI j) = m_X7_begin_B94 (uo g0 105 13 n nI) := by
  intro c
  induction c with
  | zero =>
    intro f j hj hf
    obtain ⟨f, rfl⟩ : ∃ f', f = f' + 1 := ⟨f - 1, by omega⟩
    have e : j = n := by omega
    subst e
    have e20 : gi (uo g0 105 13 j nI) 120 0 0 = nI j := by rw [gi_uo, if_neg (by omega)]; exact h120
    unfold m_X7_begin_L70
    rw [e20, lt_f (by omega) (by omega)]
  | succ c ih =>
    intro f j hj hf
    obtain ⟨f, rfl⟩ : ∃ f', f = f' + 1 := ⟨f - 1, by omega⟩
    have e20 : gi (uo g0 105 13 j nI) 120 0 0 = nI n := by rw [gi_uo, if_neg (by omega)]; exact h120
    unfold m_X7_begin_L70
    rw [e20, lt_t (by omega) (by omega), n_add 13 j, gd_inb (by omega) (by omega), bd_e, n_cl (by omega), n_add, uo_s g0 105 13 j nI]
    exact ih f (j + 1) (by omega) (by omega)
theorem m_begin (h129 : gi m 129 0 0 = nI K) (h120 : gi m 120 0 0 = nI n) (hn : n ≤ 6) (h109 : ∀ t, t < 3 → gi m 109 0 t = nI (T t)) : ∃ m', m_X7_begin m = some m' ∧ Fr PBm m m' ∧ SM m' 105 0 (N0 n K T) ∧ gi m' 122 0 0 = nI 0 ∧ gi m' 123 0 0 = nI 0 ∧ gi m' 113 0 0 = nI 0 ∧ gi m' 113 0 1 = nI 0 := by
  refine ⟨ui (ui (ui (ui (uo (ui (uo (ui (ur m 105 0 31 (fun _ => nI 0)) 105 0 1 (nI K)) 105 4 3 (gi m 109 0)) 105 0 3 (nI n)) 105 13 n nI) 122 0 0 (nI 0)) 123 0 0 (nI 0)) 113 0 0 (nI 0)) 113 0 1 (nI 0), ?_, ?_, fun e he => ?_, ?_, ?_, ?_, ?_⟩
  · unfold m_X7_begin
    have h1 := mb_L2 (g0 := m) 31 FU 0 (by omega) (by show _ < 1000; omega)
    rw [ur_0] at h1
    rw [h1]
    unfold m_X7_begin_B21
    rw [gd_inb (by omega) (by omega), n_cl (by omega), gi_ur, if_neg (by omega), h129, bd_e]
    have h2 := mb_L33 (g0 := ui (ur m 105 0 31 (fun _ => nI 0)) 105 0 1 (nI K)) 3 FU 0 (by omega) (by show _ < 1000; omega)
    rw [uo_0] at h2
    rw [h2]
    have e2 : gi (ui (ur m 105 0 31 (fun _ => nI 0)) 105 0 1 (nI K)) 109 0 = gi m 109 0 := by
      funext t
      rw [gi_ui, if_neg (by omega), gi_ur, if_neg (by omega)]
    rw [e2]
    unfold m_X7_begin_B58
    rw [gd_inb (by omega) (by omega), n_cl (by omega), gi_uo, if_neg (by omega), gi_ui, if_neg (by omega), gi_ur, if_neg (by omega), h120, bd_e]
    have h3 := mb_L70 (g0 := ui (uo (ui (ur m 105 0 31 (fun _ => nI 0)) 105 0 1 (nI K)) 105 4 3 (gi m 109 0)) 105 0 3 (nI n)) hn (by rw [gi_ui, if_neg (by omega), gi_uo, if_neg (by omega), gi_ui, if_neg (by omega), gi_ur, if_neg (by omega)]; exact h120) n FU 0 (by omega) (by show _ < 1000; omega)
    rw [uo_0] at h3
    rw [h3]
    unfold m_X7_begin_B94
    rw [bd_e, bd_e, gd_inb (by omega) (by omega), n_cl (by omega), bd_e, gd_inb (by omega) (by omega), n_cl (by omega), bd_e]
  · have F1 : Fr PBm m (ui (ur m 105 0 31 (fun _ => nI 0)) 105 0 1 (nI K)) := (Fr.rf.ur (Or.inl rfl)).ui (Or.inl rfl)
    have F2 : Fr PBm m (ui (uo (ui (ur m 105 0 31 (fun _ => nI 0)) 105 0 1 (nI K)) 105 4 3 (gi m 109 0)) 105 0 3 (nI n)) := (F1.tr (uo_fr.wk (fun f a h => Or.inl h))).ui (Or.inl rfl)
    exact ((((F2.tr (uo_fr.wk (fun f a h => Or.inl h))).ui (Or.inr (Or.inl rfl))).ui (Or.inr (Or.inr (Or.inl rfl)))).ui (Or.inr (Or.inr (Or.inr rfl)))).ui (Or.inr (Or.inr (Or.inr rfl)))
  · rw [Nat.zero_add]
    simp only [gi_ui, gi_uo, gi_ur]
    rw [if_neg (by omega), if_neg (by omega), if_neg (by omega), if_neg (by omega)]
    unfold N0
    by_cases c1 : e = 1
    · subst c1
      rw [if_neg (by omega), if_neg (by omega), if_neg (by omega), if_pos (by simp), if_pos rfl]
    · rw [if_neg c1]
      by_cases c3 : e = 3
      · subst c3
        rw [if_neg (by omega), if_pos (by simp), if_pos rfl]
      · rw [if_neg c3]
        by_cases c4 : 4 ≤ e ∧ e < 7
        · rw [if_neg (by omega), if_neg (by omega), if_pos (by first | (simp; done) | (simp; omega)), if_pos c4]
          exact h109 _ (by omega)
        · rw [if_neg c4]
          by_cases c5 : 13 ≤ e ∧ e < 13 + n
          · rw [if_pos (by first | (simp; done) | (simp; omega)), if_pos c5]
          · rw [if_neg (by omega), if_neg (by omega), if_neg (by omega), if_neg (by omega), if_pos (by first | (simp; done) | (simp; omega)), if_neg c5]
  · rw [gi_ui, if_neg (by omega), gi_ui, if_neg (by omega), gi_ui, if_neg (by omega), gi_s]
  · rw [gi_ui, if_neg (by omega), gi_ui, if_neg (by omega), gi_s]
  · rw [gi_ui, if_neg (by omega), gi_s]
  · exact gi_s _ _ _ _ _
theorem N0_wf {nb : Nat} (hJ : JB n nb J) (hK : K ≤ 999) (hT : ∀ t, t < 3 → T t ≤ 99) : WN n J (N0 n K T) := by
  have hn := hJ.1
  refine ⟨hK, by rw [N0_0 (by omega) (by omega) (by omega)]; omega, Nat.le_refl _, fun t ht => by rw [N0_t ht]; exact hT t ht, fun b hb => by rw [N0_0 (by omega) (by omega) (by omega)]; omega, fun k hk => ?_, fun a b ha hb h => ?_, fun j hj => by rw [N0_0 (by omega) (by omega) (by omega)]; omega, fun k hk => ?_, fun e he => ?_⟩
  · rw [N0_3] at hk; rw [N0_q hk]; exact hk
  · rw [N0_3] at ha hb; rw [N0_q ha, N0_q hb] at h; exact h
  · rw [N0_3] at hk; rw [N0_q hk, N0_0 (by omega) (by omega) (by omega)]; exact (al_in hJ hk).1
  · unfold N0
    split
    · omega
    · split
      · omega
      · split
        · have := hT (e - 4) (by omega); omega
        · split <;> omega
theorem mo_L139 {x1 : Int32} (hn : n ≤ 6) : ∀ (c j f : Nat) (g : zG), j + c = n → c < f → gi g 120 0 0 = nI n → (∀ j', j' < n → ∀ i, i < 5 → gi g 110 0 (5 * j' + i) = nI (J i j')) → (∀ j', j' < j → gi g 100 0 j' = nI (J 0 j') ∧ gi g 101 0 j' = nI (J 1 j') ∧ gi g 102 0 j' = nI (J 2 j') ∧ gi g 103 0 j' = nI (J 3 j') ∧ gi g 104 0 j' = nI (J 4 j')) → ∃ g', Fr (fun f _ => 100 ≤ f ∧ f ≤ 104) g g' ∧ (∀ j', j' < n → gi g' 100 0 j' = nI (J 0 j') ∧ gi g' 101 0 j' = nI (J 1 j') ∧ gi g' 102 0 j' = nI (J 2 j') ∧ gi g' 103 0 j' = nI (J 3 j') ∧ gi g' 104 0 j' = nI (J 4 j')) ∧ m_X7_office_L139 f g x1 (nI j) = (m_X7_begin g').bind fun g10 => some (x1, g10) := by
  intro c
  induction c with
  | zero =>
    intro j f g hj hf h120 h110 hd
    obtain ⟨f, rfl⟩ : ∃ f', f = f' + 1 := ⟨f - 1, by omega⟩
    have e : j = n := by omega
    subst e
    refine ⟨g, Fr.rf, hd, ?_⟩
    unfold m_X7_office_L139
    rw [h120, lt_f (by omega) (by omega)]
  | succ c ih =>
    intro j f g hj hf h120 h110 hd
    obtain ⟨f, rfl⟩ : ∃ f', f = f' + 1 := ⟨f - 1, by omega⟩
    have r0 := h110 j (by omega) 0 (by omega)
    have r1 := h110 j (by omega) 1 (by omega)
    have r2 := h110 j (by omega) 2 (by omega)
    have r3 := h110 j (by omega) 3 (by omega)
    have r4 := h110 j (by omega) 4 (by omega)
    have F1 : Fr (fun f _ => 100 ≤ f ∧ f ≤ 104) g (ui (ui (ui (ui (ui g 100 0 j (nI (J 0 j))) 101 0 j (nI (J 1 j))) 102 0 j (nI (J 2 j))) 103 0 j (nI (J 3 j))) 104 0 j (nI (J 4 j))) := ((((Fr.rf.ui ⟨by omega, by omega⟩).ui ⟨by omega, by omega⟩).ui ⟨by omega, by omega⟩).ui ⟨by omega, by omega⟩).ui ⟨by omega, by omega⟩
    have st : m_X7_office_L139 (f + 1) g x1 (nI j) = m_X7_office_L139 f (ui (ui (ui (ui (ui g 100 0 j (nI (J 0 j))) 101 0 j (nI (J 1 j))) 102 0 j (nI (J 2 j))) 103 0 j (nI (J 3 j))) 104 0 j (nI (J 4 j))) x1 (nI (j + 1)) := by
      show (if nI j < gi g 120 0 0 then _ else _) = _
      rw [h120, lt_t (by omega) (by omega), n_mul, gd_inb (by omega) (by omega), gd_inb (by omega) (by omega), n_cl (by omega), n_cl (by omega), bd_e, n_add, gd_inb (by omega) (by omega), gd_inb (by omega) (by omega), n_cl (by omega), bd_e, n_add, gd_inb (by omega) (by omega), gd_inb (by omega) (by omega), n_cl (by omega), bd_e, n_add, gd_inb (by omega) (by omega), gd_inb (by omega) (by omega), n_cl (by omega), bd_e, n_add, gd_inb (by omega) (by omega), gd_inb (by omega) (by omega), n_cl (by omega), bd_e, n_add]
      have q0 : gi g 110 0 (5 * j) = nI (J 0 j) := r0
      have z1 : ∀ (g1 : zG) (v : Int32) (d : Nat), gi (ui g1 100 0 j v) 110 0 d = gi g1 110 0 d := fun g1 v d => by rw [gi_ui, if_neg (by omega)]
      have z2 : ∀ (g1 : zG) (v : Int32) (d : Nat), gi (ui g1 101 0 j v) 110 0 d = gi g1 110 0 d := fun g1 v d => by rw [gi_ui, if_neg (by omega)]
      have z3 : ∀ (g1 : zG) (v : Int32) (d : Nat), gi (ui g1 102 0 j v) 110 0 d = gi g1 110 0 d := fun g1 v d => by rw [gi_ui, if_neg (by omega)]
      have z4 : ∀ (g1 : zG) (v : Int32) (d : Nat), gi (ui g1 103 0 j v) 110 0 d = gi g1 110 0 d := fun g1 v d => by rw [gi_ui, if_neg (by omega)]
      rw [z4, z3, z2, z1, z3, z2, z1, z2, z1, z1, q0, r1, r2, r3, r4]
    obtain ⟨g', a1, a2, a3⟩ := ih (j + 1) f _ (by omega) (by omega) (by rw [F1.1 120 0 0 (by omega)]; exact h120) (fun j' hj' i hi => by rw [F1.1 110 0 _ (by omega)]; exact h110 j' hj' i hi) (fun j' hj' => by
      simp only [gi_ui]
      by_cases e : j' = j
      · subst e
        rw [if_neg (by omega), if_neg (by omega), if_neg (by omega), if_neg (by omega), if_pos (by simp), if_neg (by omega), if_neg (by omega), if_neg (by omega), if_pos (by simp), if_neg (by omega), if_neg (by omega), if_pos (by simp), if_neg (by omega), if_pos (by simp), if_pos (by simp)]
        exact ⟨rfl, rfl, rfl, rfl, rfl⟩
      · have hd' := hd j' (by omega)
        simp only [e, and_false, if_false]
        exact hd')
    exact ⟨g', F1.tr a1, a2, by rw [st]; exact a3⟩
end BEGIN
section OFFICE
variable {x m : zG}
theorem xo_L65 {g0 : zG} {x1 : Int32} : ∀ (c f j : Nat), j + c = 2 → c < f → m_X6_office_L65 f (ur g0 60 0 j (fun _ => nI 0)) x1 (nI j) = some (x1, ur g0 60 0 2 (fun _ => nI 0)) := by
  intro c
  induction c with
  | zero =>
    intro f j hj hf
    obtain ⟨f, rfl⟩ : ∃ f', f = f' + 1 := ⟨f - 1, by omega⟩
    have e : j = 2 := by omega
    subst e
    unfold m_X6_office_L65
    rw [lt_f (by omega) (by omega)]
  | succ c ih =>
    intro f j hj hf
    obtain ⟨f, rfl⟩ : ∃ f', f = f' + 1 := ⟨f - 1, by omega⟩
    unfold m_X6_office_L65
    rw [lt_t (by omega) (by omega), gd_inb (by omega) (by omega), bd_e, n_cl (by omega), n_add, ur_s g0 60 0 j (fun _ => nI 0)]
    exact ih f (j + 1) (by omega) (by omega)
/-- the state behind a beginning -/
theorem rl_first {p n B K : Nat} {T : Nat → Nat} {J : Nat → Nat → Nat} {x' m' : zG} (hp : p < 2) (g0 : gn x 0 = p) (g1 : gn x 1 = 1 - p) (hB : JB n B J) (hK : K ≤ 999) (hT : ∀ t, t < 3 → T t ≤ 99) (hX : JX x p n B J) (hM : JM m n B J) (hx : Fr (fun f a => (f ≤ 8 ∧ a = 0) ∨ f = 30 ∨ f = 31 ∨ f = 40 ∨ f = 60) x x') (hm : Fr PBm m m') (hS : SX x' 0 (N0 n K T)) (h30 : gi x' 30 0 0 = nI 0) (h31 : gi x' 31 0 0 = nI 0) (h40 : gi x' 40 0 0 = nI 0) (h60 : ∀ i, i < 2 → gi x' 60 0 i = nI 0) (h50 : gi x 50 0 0 = nI 0) (hN : SM m' 105 0 (N0 n K T)) (k122 : gi m' 122 0 0 = nI 0) (k123 : gi m' 123 0 0 = nI 0) (k113 : ∀ i, i < 2 → gi m' 113 0 i = nI 0) (k124 : gi m 124 0 0 = nI 0) (ht : gl x 0 = gl m 0) : Rl x' m' := by
  refine ⟨p, n, B, J, N0 n K T, 0, fun _ _ => 0, 0, fun _ => 0, 0, fun _ _ => 0, ⟨hp, by rw [hx.2.2]; exact g0, by rw [hx.2.2]; exact g1, hB, hX.fr hx (fun f i h1 h2 q => by omega), hM.fr hm (fun f h q => by unfold PBm at q; omega)⟩, ⟨⟨hS, h31, 0, by omega, h30, fun u hu => by omega⟩, ⟨hN, k122, fun u hu => by omega⟩, by omega, N0_wf hB hK hT, by rw [N0_0 (by omega) (by omega) (by omega)]; omega, fun u hu => by omega⟩, fun im him => ⟨0, by omega, h60 im him, k113 im him, fun q => by omega⟩, ⟨by omega, by rw [hx.1 50 0 0 (by omega)]; exact h50, by rw [hm.1 124 0 0 (by unfold PBm; omega)]; exact k124, fun j hj => by omega⟩, ⟨by omega, h40, k123, fun u hu => by omega⟩, by rw [hx.tr_t, hm.tr_t]; exact ht⟩
end OFFICE
