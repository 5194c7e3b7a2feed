/-! what may be undone, images: the class -/
def CX (x : zG) (c : Nat) (N : Nat → Nat) (un : Nat) (U : Nat → Nat → Nat) : Prop := SX x (11 * c) N ∧ gi x 31 c 0 = nI un ∧ ∃ old, old < 10 ∧ gi x 30 c 0 = nI old ∧ ∀ u, u < un → SX x (11 * c + 1 + (old + u) % 10) (U u)
def PCo (c : Nat) : Nat → Nat → Prop := fun f a => (f ≤ 8 ∧ 11 * c ≤ a ∧ a < 11 * c + 11) ∨ ((f = 30 ∨ f = 31) ∧ a = c)
/-- a snapshot is put behind the others, ten at most -/
def psU (un : Nat) (U : Nat → Nat → Nat) (N : Nat → Nat) : Nat → Nat → Nat := if un < 10 then fun u => if u = un then N else U u else fun u => if u = 9 then N else U (u + 1)
def psn (un : Nat) : Nat := if un < 10 then un + 1 else 10
/-- what is asked of a snapshot that is copied -/
def sm6 (N : Nat → Nat) : Prop := N 2 ≤ 1 ∧ N 3 ≤ 6
theorem WN.sm {nj : Nat} {J : Nat → Nat → Nat} {N : Nat → Nat} (h : WN nj J N) (h6 : nj ≤ 6) : sm6 N := ⟨h.2.1, by have := h.2.2.1; omega⟩
theorem flm10 {a : Nat} (h : a < 21) : m_J9_floorMod_7cf53 (nI a) (nI 10) = some (nI (a % 10)) := by
  have : ∀ a : Fin 21, m_J9_floorMod_7cf53 (nI a.val) (nI 10) = some (nI (a.val % 10)) := by decide +kernel
  exact this ⟨a, h⟩
section COURSE
variable {x : zG} {c c0 c1 i0 i1 un : Nat} {N : Nat → Nat} {U : Nat → Nat → Nat}
theorem x_copyNow (hS : SX x i1 N) (hN : sm6 N) (hne : ¬ i0 = i1) : ∃ x', m_X2_copyFrom x i0 i1 = some x' ∧ SX x' i0 N ∧ Fr (PNow i0) x x' := by
  obtain ⟨s0, s1, s2, s3, s4, s5, s6, s7, s8⟩ := hS
  obtain ⟨hn2, hn3⟩ := hN
  have hne' : ¬ i1 = i0 := fun q => hne q.symm
  unfold m_X2_copyFrom
  rw [s0, bd_e, gi_ui, if_neg (by omega), s1, bd_e, gi_ui, if_neg (by omega), gi_ui, if_neg (by omega), s2, gd_isb hn2, bd_e, gi_ui, if_neg (by omega), gi_ui, if_neg (by omega), gi_ui, if_neg (by omega), s3, bd_e]
  rw [x_copyRow (n := 6) (n2 := 6) rfl rfl (by omega) (by omega) (by omega), bi_e, x_copyRow (n := 6) (n2 := 6) rfl rfl (by omega) (by omega) (by omega), bi_e, x_copyRow (n := 6) (n2 := 6) rfl rfl (by omega) (by omega) (by omega), bi_e, x_copyRow (n := 3) (n2 := 3) rfl rfl (by omega) (by omega) (by omega), bi_e, x_copyRow (n := 6) (n2 := 6) rfl rfl (by omega) (by omega) (by omega), bi_e]
  refine ⟨_, rfl, ⟨?_, ?_, ?_, ?_, fun j hj => ?_, fun j hj => ?_, fun j hj => ?_, fun j hj => ?_, fun j hj => ?_⟩, ?_⟩
  · simp [gi_ur, gi_ui]
  · simp [gi_ur, gi_ui]
  · simp [gi_ur, gi_ui]
  · simp [gi_ur, gi_ui]
  · have h6 : j < 6 := by omega
    simp [gi_ur, gi_ui, h6, s4 j hj]
  · simp [gi_ur, gi_ui, hj, s5 j hj]
  · simp [gi_ur, gi_ui, hj, s6 j hj]
  · simp [gi_ur, gi_ui, hj, s7 j hj]
  · simp [gi_ur, gi_ui, hj, s8 j hj]
  · exact ((((((((Fr.rf.ui ⟨by omega, rfl⟩).ui ⟨by omega, rfl⟩).ui ⟨by omega, rfl⟩).ui ⟨by omega, rfl⟩).ur ⟨by omega, rfl⟩).ur ⟨by omega, rfl⟩).ur ⟨by omega, rfl⟩).ur ⟨by omega, rfl⟩).ur ⟨by omega, rfl⟩
theorem x_knownAt {old k : Nat} (ho : gi x 30 c 0 = nI old) (h1 : old < 10) (h2 : k ≤ 10) : m_X0_knownAt x c (nI k) = some (some (11 * c + 1 + (old + k) % 10)) := by
  unfold m_X0_knownAt
  have hm : (old + k) % 10 < 10 := Nat.mod_lt _ (by omega)
  rw [ho, n_add, flm10 (by omega), bi_e, lt_t (by omega) hm, gd_inb (by omega) hm, n_cl (by omega)]
theorem PNow_PCo {i f a : Nat} (hi : 11 * c ≤ i ∧ i < 11 * c + 11) (h : PNow i f a) : PCo c f a := by
  obtain ⟨h1, h2⟩ := h; subst h2; exact Or.inl ⟨h1, hi⟩
theorem x_remember (hC : CX x c N un U) (hN : sm6 N) (hun : un ≤ 10) (hc : c < 3) : ∃ x', m_X0_remember x c = some x' ∧ CX x' c N (psn un) (psU un U N) ∧ Fr (PCo c) x x' := by
  obtain ⟨hS, h31, old, ho, h30, hU⟩ := hC
  -- from a state with less than ten
  have key : ∀ (g : zG) (old un : Nat) (U : Nat → Nat → Nat), old < 10 → un < 10 → SX g (11 * c) N → gi g 31 c 0 = nI un → gi g 30 c 0 = nI old → (∀ u, u < un → SX g (11 * c + 1 + (old + u) % 10) (U u)) → Fr (PCo c) x g → ∃ x', m_X0_remember_B30 c g = some x' ∧ CX x' c N (un + 1) (fun u => if u = un then N else U u) ∧ Fr (PCo c) x x' := by
    intro g old un U ho hun hS h31 h30 hU hF
    unfold m_X0_remember_B30
    have hm : (old + un) % 10 < 10 := Nat.mod_lt _ (by omega)
    rw [h31, x_knownAt h30 ho (by omega), bi_e, oc_s, gd_72 (by omega)]
    obtain ⟨g2, e1, e2, e3⟩ := x_copyNow (i0 := 11 * c + 1 + (old + un) % 10) hS hN (by omega)
    rw [e1, bi_e, e3.1 31 c 0 (PNow_far (by omega)), h31, n_add, bd_e]
    have F2 : Fr (PCo c) x (ui g2 31 c 0 (nI (un + 1))) := (hF.tr (e3.wk (fun f a h => PNow_PCo ⟨by omega, by omega⟩ h))).ui (Or.inr ⟨Or.inr rfl, rfl⟩)
    have FU : Fr (fun f _ => f = 31) g2 (ui g2 31 c 0 (nI (un + 1))) := Fr.rf.ui rfl
    refine ⟨_, rfl, ⟨?_, by rw [gi_ui, if_pos ⟨rfl, rfl, rfl⟩], old, ho, ?_, fun u hu => ?_⟩, F2⟩
    · exact (hS.fr e3 (fun f _ q => by have := q.2; omega)).fr FU (fun f h q => by omega)
    · rw [gi_ui, if_neg (by omega), e3.1 30 c 0 (PNow_far (by omega))]; exact h30
    · by_cases hu2 : u = un
      · subst hu2
        simp only [if_true]
        exact e2.fr FU (fun f h q => by omega)
      · simp only [hu2, if_false]
        exact ((hU u (by omega)).fr e3 (fun f _ q => by have := q.2; omega)).fr FU (fun f h q => by omega)
  unfold m_X0_remember psn psU
  rw [h31]
  by_cases h : un < 10
  · rw [lt_t (by omega) h, if_pos h, if_pos h]
    exact key x old un U ho h hS h31 h30 hU Fr.rf
  · have e10 : un = 10 := by omega
    subst e10
    have hm : (old + 1) % 10 < 10 := Nat.mod_lt _ (by omega)
    rw [lt_f (by omega) (by omega), if_neg (by omega), if_neg (by omega), h30, n_add, flm10 (by omega), bi_e, bd_e, bd_e]
    have F0 : Fr (fun f a => (f = 30 ∨ f = 31) ∧ a = c) x (ui (ui x 30 c 0 (nI ((old + 1) % 10))) 31 c 0 (nI 9)) := (Fr.rf.ui ⟨Or.inl rfl, rfl⟩).ui ⟨Or.inr rfl, rfl⟩
    obtain ⟨x', e1, e2, e3⟩ := key (ui (ui x 30 c 0 (nI ((old + 1) % 10))) 31 c 0 (nI 9)) ((old + 1) % 10) 9 (fun u => U (u + 1)) hm (by omega) (hS.fr F0 (fun f h q => by omega)) (by rw [gi_ui, if_pos ⟨rfl, rfl, rfl⟩]) (by rw [gi_ui, if_neg (by omega), gi_ui, if_pos ⟨rfl, rfl, rfl⟩]) (fun u hu => by
      have := (hU (u + 1) (by omega)).fr F0 (fun f h q => by omega)
      rwa [show ((old + 1) % 10 + u) % 10 = (old + (u + 1)) % 10 by omega]) (F0.wk (fun f a h => Or.inr h))
    exact ⟨x', e1, e2, e3⟩
theorem x_takeBack (hC : CX x c N un U) (hN : sm6 (U (un - 1))) (hun : un ≤ 10) (h0 : 0 < un) (hc : c < 3) : ∃ x', m_X0_takeBack x c = some x' ∧ CX x' c (U (un - 1)) (un - 1) U ∧ Fr (PCo c) x x' := by
  obtain ⟨hS, h31, old, ho, h30, hU⟩ := hC
  unfold m_X0_takeBack
  have hm : (old + (un - 1)) % 10 < 10 := Nat.mod_lt _ (by omega)
  rw [h31, eq_f (by omega) (by omega) (by omega), n_sub (by omega), bd_e]
  have F1 : Fr (fun f a => f = 31 ∧ a = c) x (ui x 31 c 0 (nI (un - 1))) := Fr.rf.ui ⟨rfl, rfl⟩
  have e31 : gi (ui x 31 c 0 (nI (un - 1))) 31 c 0 = nI (un - 1) := by rw [gi_ui, if_pos ⟨rfl, rfl, rfl⟩]
  generalize ui x 31 c 0 (nI (un - 1)) = g1 at F1 e31 ⊢
  have h30' : gi g1 30 c 0 = nI old := by rw [F1.1 30 c 0 (by omega)]; exact h30
  rw [e31, x_knownAt h30' ho (by omega), bi_e, oc_s, gd_72 (by omega)]
  obtain ⟨g2, e1, e2, e3⟩ := x_copyNow (i0 := 11 * c) ((hU (un - 1) (by omega)).fr F1 (fun f h q => by omega)) hN (by omega)
  rw [e1, bi_e]
  refine ⟨g2, rfl, ⟨e2, ?_, old, ho, ?_, fun u hu => ?_⟩, (F1.wk (fun f a h => Or.inr ⟨Or.inr h.1, h.2⟩)).tr (e3.wk (fun f a h => PNow_PCo ⟨by omega, by omega⟩ h))⟩
  · rw [e3.1 31 c 0 (PNow_far (by omega))]; exact e31
  · rw [e3.1 30 c 0 (PNow_far (by omega))]; exact h30'
  · exact ((hU u (by omega)).fr F1 (fun f h q => by omega)).fr e3 (fun f _ q => by have := q.2; omega)
theorem x_ccL {old : Nat} (ho : old < 10) (hun : un ≤ 10) (h0 : c0 < 3) (h1 : c1 < 3) (hne : ¬ c0 = c1) (hsm : ∀ u, u < un → sm6 (U u)) (hU : ∀ u, u < un → SX x (11 * c1 + 1 + (old + u) % 10) (U u)) (h30 : gi x 30 c1 0 = nI old) : ∀ (n f k : Nat) (g : zG), k + n = un → n < f → gi g 31 c0 0 = nI un → gi g 30 c0 0 = nI 0 → SX g (11 * c0) N → (∀ u, u < k → SX g (11 * c0 + 1 + u) (U u)) → Fr (PCo c0) x g → ∃ x', m_X0_copyFrom_L26 c0 c1 f g (nI k) = some x' ∧ CX x' c0 N un U ∧ Fr (PCo c0) x x' := by
  intro n
  induction n with
  | zero =>
    intro f k g hk hf g31 g30 gS gU gF
    obtain ⟨f, rfl⟩ : ∃ f', f = f' + 1 := ⟨f - 1, by omega⟩
    unfold m_X0_copyFrom_L26
    rw [g31, lt_f (by omega) (by omega)]
    refine ⟨g, rfl, ⟨gS, g31, 0, by omega, g30, fun u hu => ?_⟩, gF⟩
    rw [show (0 + u) % 10 = u by omega]
    exact gU u (by omega)
  | succ n ih =>
    intro f k g hk hf g31 g30 gS gU gF
    obtain ⟨f, rfl⟩ : ∃ f', f = f' + 1 := ⟨f - 1, by omega⟩
    unfold m_X0_copyFrom_L26 m_X0_copyFrom_B62
    have hm : (old + k) % 10 < 10 := Nat.mod_lt _ (by omega)
    have hnc : ∀ f a, a < 11 * c1 + 11 → 11 * c1 ≤ a → f ≤ 8 → ¬ PCo c0 f a := fun f a q1 q2 q3 q => by
      rcases q with q | q <;> omega
    have g30' : gi g 30 c1 0 = nI old := by rw [gF.1 30 c1 0 (by rintro (q | q) <;> omega)]; exact h30
    rw [g31, lt_t (by omega) (by omega), x_knownAt g30' ho (by omega), bi_e, oc_s, gd_72 (by omega), x_knownAt g30 (by omega) (by omega), bi_e, oc_s, show (0 + k) % 10 = k by omega, gd_72 (by omega)]
    have hSk : SX g (11 * c1 + 1 + (old + k) % 10) (U k) := (hU k (by omega)).fr gF (fun f hf => hnc f _ (by omega) (by omega) hf)
    obtain ⟨g2, e1, e2, e3⟩ := x_copyNow (i0 := 11 * c0 + 1 + k) hSk (hsm k (by omega)) (by omega)
    rw [e1, bi_e, n_add]
    refine ih f (k + 1) g2 (by omega) (by omega) (by rw [e3.1 31 c0 0 (PNow_far (by omega))]; exact g31) (by rw [e3.1 30 c0 0 (PNow_far (by omega))]; exact g30) (gS.fr e3 (fun f _ q => by have := q.2; omega)) (fun u hu => ?_) (gF.tr (e3.wk (fun f a h => PNow_PCo ⟨by omega, by omega⟩ h)))
    by_cases hu2 : u = k
    · subst hu2; exact e2
    · exact (gU u (by omega)).fr e3 (fun f _ q => by have := q.2; omega)
theorem x_ccopy (hC : CX x c1 N un U) (hN : sm6 N) (hun : un ≤ 10) (h0 : c0 < 3) (h1 : c1 < 3) (hne : ¬ c0 = c1) (hsm : ∀ u, u < un → sm6 (U u)) : ∃ x', m_X0_copyFrom x c0 c1 = some x' ∧ CX x' c0 N un U ∧ Fr (PCo c0) x x' := by
  obtain ⟨hS, h31, old, ho, h30, hU⟩ := hC
  unfold m_X0_copyFrom
  obtain ⟨g1, e1, e2, e3⟩ := x_copyNow (i0 := 11 * c0) hS hN (by omega)
  rw [e1, bi_e, bd_e, gi_ui, if_neg (by omega), e3.1 31 c1 0 (PNow_far (by omega)), h31, bd_e]
  have F0 : Fr (PCo c0) x g1 := e3.wk (fun f a h => PNow_PCo ⟨by omega, by omega⟩ h)
  have FB : Fr (fun f a => (f = 30 ∨ f = 31) ∧ a = c0) g1 (ui (ui g1 30 c0 0 (nI 0)) 31 c0 0 (nI un)) := (Fr.rf.ui ⟨Or.inl rfl, rfl⟩).ui ⟨Or.inr rfl, rfl⟩
  exact x_ccL ho hun h0 h1 hne hsm hU h30 un FU 0 _ (by omega) (by show _ < 1000; omega) (by rw [gi_ui, if_pos ⟨rfl, rfl, rfl⟩]) (by rw [gi_ui, if_neg (by omega), gi_ui, if_pos ⟨rfl, rfl, rfl⟩]) (e2.fr FB (fun f h q => by omega)) (fun u hu => by omega) (F0.tr (FB.wk (fun f a h => Or.inr h)))
end COURSE
