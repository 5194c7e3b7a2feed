/-! what may be undone, images: the reference -/
def CM (m : zG) (N : Nat → Nat) (un : Nat) (U : Nat → Nat → Nat) : Prop := SM m 105 0 N ∧ gi m 122 0 0 = nI un ∧ ∀ u, u < un → SM m 106 (31 * u) (U u)
def IM (m : zG) (im : Nat) (N : Nat → Nat) (un : Nat) (U : Nat → Nat → Nat) : Prop := SM m 112 (342 * im) N ∧ gi m 112 0 (342 * im + 341) = nI un ∧ ∀ u, u < un → SM m 112 (342 * im + 31 + 31 * u) (U u)
/-- places o .. o + n - 1 of a row of the reference become f's -/
def uo (g : zG) (k o n : Nat) (f : Nat → Int32) : zG := (fun a b d => if a = k ∧ b = 0 ∧ o ≤ d ∧ d < o + n then f (d - o) else g.1 a b d, g.2)
theorem gi_uo (g : zG) (k o n : Nat) (f : Nat → Int32) (a b d : Nat) : gi (uo g k o n f) a b d = if a = k ∧ b = 0 ∧ o ≤ d ∧ d < o + n then f (d - o) else gi g a b d := rfl
theorem uo_0 (g : zG) (k o : Nat) (f : Nat → Int32) : uo g k o 0 f = g := by
  unfold uo
  have : (fun a b d => if a = k ∧ b = 0 ∧ o ≤ d ∧ d < o + 0 then f (d - o) else g.1 a b d) = g.1 := by
    funext a b d; rw [if_neg]; intro q; omega
  rw [this]
theorem uo_s (g : zG) (k o n : Nat) (f : Nat → Int32) : ui (uo g k o n f) k 0 (o + n) (f n) = uo g k o (n + 1) f := by
  unfold uo ui
  congr 1
  funext a b d
  by_cases h : a = k ∧ b = 0 ∧ d = o + n
  · obtain ⟨rfl, rfl, rfl⟩ := h
    rw [if_pos ⟨rfl, rfl, rfl⟩, if_pos ⟨rfl, rfl, by omega, by omega⟩, show o + n - o = n by omega]
  · rw [if_neg h]
    show (if a = k ∧ b = 0 ∧ o ≤ d ∧ d < o + n then f (d - o) else g.1 a b d) = _
    by_cases h2 : a = k ∧ b = 0 ∧ o ≤ d ∧ d < o + n
    · rw [if_pos h2, if_pos ⟨h2.1, h2.2.1, h2.2.2.1, by omega⟩]
    · rw [if_neg h2, if_neg]
      intro q
      by_cases h3 : d = o + n
      · exact h ⟨q.1, q.2.1, h3⟩
      · exact h2 ⟨q.1, q.2.1, q.2.2.1, by omega⟩
theorem uo_fr {g : zG} {k o n : Nat} {f : Nat → Int32} : Fr (fun a _ => a = k) g (uo g k o n f) := ⟨fun a b d h => by rw [gi_uo, if_neg (fun q => h q.1)], fun _ => rfl, fun _ => rfl⟩
section COURSEM
variable {m : zG} {im un : Nat} {N : Nat → Nat} {U : Nat → Nat → Nat}
theorem m_noteL {g0 : zG} (hun : un < 10) (h122 : gi g0 122 0 0 = nI un) : ∀ (c f k : Nat), k + c = 31 → c < f → m_X7_note_L51 f (uo g0 106 (31 * un) k (gi g0 105 0)) (nI k) = m_X7_note_B83 (uo g0 106 (31 * un) 31 (gi g0 105 0)) := by
  intro c
  induction c with
  | zero =>
    intro f k hk hf
    obtain ⟨f, rfl⟩ : ∃ f', f = f' + 1 := ⟨f - 1, by omega⟩
    unfold m_X7_note_L51
    rw [lt_f (by omega) (by omega), show k = 31 by omega]
  | succ c ih =>
    intro f k hk hf
    obtain ⟨f, rfl⟩ : ∃ f', f = f' + 1 := ⟨f - 1, by omega⟩
    unfold m_X7_note_L51
    rw [lt_t (by omega) (by omega), gd_inb (by omega) (by omega), gi_uo, if_neg (by omega), h122, n_mul, n_add, gd_inb (by omega) (by omega), n_cl (by omega), n_cl (by omega), gi_uo, if_neg (by omega), uo_s, bd_e, n_add]
    exact ih f (k + 1) (by omega) (by omega)
theorem m_noteS {g0 : zG} : ∀ (c f k : Nat), k + c = 279 → c < f → m_X7_note_L11 f (uo g0 106 0 k (fun d => gi g0 106 0 (d + 31))) (nI k) = m_X7_note_B39 (uo g0 106 0 279 (fun d => gi g0 106 0 (d + 31))) := by
  intro c
  induction c with
  | zero =>
    intro f k hk hf
    obtain ⟨f, rfl⟩ : ∃ f', f = f' + 1 := ⟨f - 1, by omega⟩
    unfold m_X7_note_L11
    rw [lt_f (by omega) (by omega), show k = 279 by omega]
  | succ c ih =>
    intro f k hk hf
    obtain ⟨f, rfl⟩ : ∃ f', f = f' + 1 := ⟨f - 1, by omega⟩
    unfold m_X7_note_L11
    have e := uo_s g0 106 0 k (fun d => gi g0 106 0 (d + 31))
    rw [Nat.zero_add] at e
    rw [lt_t (by omega) (by omega), n_add, gd_inb (by omega) (by omega), gd_inb (by omega) (by omega), n_cl (by omega), n_cl (by omega), gi_uo, if_neg (by omega), e, bd_e, n_add]
    exact ih f (k + 1) (by omega) (by omega)
def PUn : Nat → Nat → Prop := fun f _ => f = 106 ∨ f = 122
theorem m_note (hC : CM m N un U) (hun : un ≤ 10) : ∃ m', m_X7_note m = some m' ∧ CM m' N (psn un) (psU un U N) ∧ Fr PUn m m' := by
  obtain ⟨hS, h122, hU⟩ := hC
  have key : ∀ (g : zG) (un : Nat) (U : Nat → Nat → Nat), un < 10 → SM g 105 0 N → gi g 122 0 0 = nI un → (∀ u, u < un → SM g 106 (31 * u) (U u)) → Fr PUn m g → ∃ m', m_X7_note_B49 g = some m' ∧ CM m' N (un + 1) (fun u => if u = un then N else U u) ∧ Fr PUn m m' := by
    intro g un U hun gS g122 gU gF
    have h := m_noteL (g0 := g) hun g122 31 FU 0 (by omega) (by show _ < 1000; omega)
    rw [uo_0] at h
    unfold m_X7_note_B49
    rw [h]
    unfold m_X7_note_B83
    rw [gi_uo, if_neg (by omega), g122, n_add, bd_e]
    have FA : Fr (fun a _ => a = 106) g (uo g 106 (31 * un) 31 (gi g 105 0)) := uo_fr
    have FB : Fr (fun a _ => a = 122) (uo g 106 (31 * un) 31 (gi g 105 0)) (ui (uo g 106 (31 * un) 31 (gi g 105 0)) 122 0 0 (nI (un + 1))) := Fr.rf.ui rfl
    refine ⟨_, rfl, ⟨(gS.fr FA (by omega)).fr FB (by omega), by rw [gi_ui, if_pos ⟨rfl, rfl, rfl⟩], fun u hu => ?_⟩, (gF.tr (FA.wk (fun f a h => Or.inl h))).tr (FB.wk (fun f a h => Or.inr h))⟩
    by_cases hu2 : u = un
    · subst hu2
      simp only [if_true]
      refine SM.fr (fun e he => ?_) FB (by omega)
      rw [gi_uo, if_pos ⟨rfl, rfl, by omega, by omega⟩, show 31 * u + e - 31 * u = e by omega]
      exact gS.z he
    · simp only [hu2, if_false]
      refine SM.fr (fun e he => ?_) FB (by omega)
      rw [gi_uo, if_neg (by omega)]
      exact gU u (by omega) e he
  unfold m_X7_note psn psU
  rw [h122]
  by_cases h : un < 10
  · rw [eq_f (by omega) (by omega) (by omega), if_pos h, if_pos h]
    exact key m un U h hS h122 hU Fr.rf
  · have e10 : un = 10 := by omega
    subst e10
    have h := m_noteS (g0 := m) 279 FU 0 (by omega) (by show _ < 1000; omega)
    rw [uo_0] at h
    rw [eq_t rfl, if_neg (by omega), if_neg (by omega), h]
    unfold m_X7_note_B39
    rw [gi_uo, if_neg (by omega), h122, n_sub (by omega), bd_e]
    have FA : Fr (fun a _ => a = 106) m (uo m 106 0 279 (fun d => gi m 106 0 (d + 31))) := uo_fr
    have FB : Fr (fun a _ => a = 122) (uo m 106 0 279 (fun d => gi m 106 0 (d + 31))) (ui (uo m 106 0 279 (fun d => gi m 106 0 (d + 31))) 122 0 0 (nI (10 - 1))) := Fr.rf.ui rfl
    refine key _ 9 (fun u => U (u + 1)) (by omega) ((hS.fr FA (by omega)).fr FB (by omega)) (by rw [gi_ui, if_pos ⟨rfl, rfl, rfl⟩]) (fun u hu => ?_) ((FA.wk (fun f a h => Or.inl h)).tr (FB.wk (fun f a h => Or.inr h)))
    refine SM.fr (fun e he => ?_) FB (by omega)
    rw [gi_uo, if_pos ⟨rfl, rfl, by omega, by omega⟩]
    have := hU (u + 1) (by omega) e he
    rwa [show 31 * u + e - 0 + 31 = 31 * (u + 1) + e by omega]
theorem m_undoL {g0 : zG} (hun : un < 10) (h122 : gi g0 122 0 0 = nI un) : ∀ (c f k : Nat), k + c = 31 → c < f → m_X7_undo_L22 f (uo g0 105 0 k (fun d => gi g0 106 0 (31 * un + d))) (nI k) = some (nI un, uo g0 105 0 31 (fun d => gi g0 106 0 (31 * un + d))) := by
  intro c
  induction c with
  | zero =>
    intro f k hk hf
    obtain ⟨f, rfl⟩ : ∃ f', f = f' + 1 := ⟨f - 1, by omega⟩
    unfold m_X7_undo_L22
    rw [lt_f (by omega) (by omega), show k = 31 by omega, gi_uo, if_neg (by omega), h122]
  | succ c ih =>
    intro f k hk hf
    obtain ⟨f, rfl⟩ : ∃ f', f = f' + 1 := ⟨f - 1, by omega⟩
    unfold m_X7_undo_L22
    have e := uo_s g0 105 0 k (fun d => gi g0 106 0 (31 * un + d))
    rw [Nat.zero_add] at e
    rw [lt_t (by omega) (by omega), gi_uo, if_neg (by omega), h122, n_mul, n_add, gd_inb (by omega) (by omega), gd_inb (by omega) (by omega), n_cl (by omega), n_cl (by omega), gi_uo, if_neg (by omega), e, bd_e, n_add]
    exact ih f (k + 1) (by omega) (by omega)
def PCm : Nat → Nat → Prop := fun f _ => f = 105 ∨ f = 106 ∨ f = 122
theorem m_undo (hC : CM m N un U) (hun : un ≤ 10) (h0 : 0 < un) : ∃ m', m_X7_undo m = some (nI (un - 1), m') ∧ CM m' (U (un - 1)) (un - 1) U ∧ Fr PCm m m' := by
  obtain ⟨hS, h122, hU⟩ := hC
  unfold m_X7_undo
  rw [h122, eq_f (by omega) (by omega) (by omega), n_sub (by omega), bd_e]
  have FA : Fr (fun a _ => a = 122) m (ui m 122 0 0 (nI (un - 1))) := Fr.rf.ui rfl
  have e122 : gi (ui m 122 0 0 (nI (un - 1))) 122 0 0 = nI (un - 1) := by rw [gi_ui, if_pos ⟨rfl, rfl, rfl⟩]
  generalize ui m 122 0 0 (nI (un - 1)) = g at FA e122 ⊢
  have h := m_undoL (g0 := g) (un := un - 1) (by omega) e122 31 FU 0 (by omega) (by show _ < 1000; omega)
  rw [uo_0] at h
  rw [h]
  have FB : Fr (fun a _ => a = 105) g (uo g 105 0 31 (fun d => gi g 106 0 (31 * (un - 1) + d))) := uo_fr
  refine ⟨_, rfl, ⟨fun e he => ?_, by rw [FB.1 122 0 0 (by omega)]; exact e122, fun u hu => ((hU u (by omega)).fr FA (by omega)).fr FB (by omega)⟩, (FA.wk (fun f a h => Or.inr (Or.inr h))).tr (FB.wk (fun f a h => Or.inl h))⟩
  rw [gi_uo, if_pos ⟨rfl, rfl, by omega, by omega⟩, FA.1 106 0 _ (by omega), show 0 + e - 0 = e by omega]
  exact hU (un - 1) (by omega) e he
theorem m_keepL1 {g0 : zG} {a : Int32} (him : im < 2) : ∀ (c f k : Nat), k + c = 31 → c < f → m_X7_keep_L17 a f (uo g0 112 (342 * im) k (gi g0 105 0)) (nI (342 * im)) (nI k) = m_X7_keep_L45 a FU (uo g0 112 (342 * im) 31 (gi g0 105 0)) (nI (342 * im)) (nI 0) := by
  intro c
  induction c with
  | zero =>
    intro f k hk hf
    obtain ⟨f, rfl⟩ : ∃ f', f = f' + 1 := ⟨f - 1, by omega⟩
    unfold m_X7_keep_L17
    rw [lt_f (by omega) (by omega), show k = 31 by omega]
  | succ c ih =>
    intro f k hk hf
    obtain ⟨f, rfl⟩ : ∃ f', f = f' + 1 := ⟨f - 1, by omega⟩
    unfold m_X7_keep_L17
    rw [lt_t (by omega) (by omega), gd_inb (by omega) (by omega), n_add, gd_inb (by omega) (by omega), n_cl (by omega), n_cl (by omega), gi_uo, if_neg (by omega), uo_s, bd_e, n_add]
    exact ih f (k + 1) (by omega) (by omega)
theorem m_keepL2 {g0 : zG} {a : Int32} (him : im < 2) : ∀ (c f k : Nat), k + c = 310 → c < f → m_X7_keep_L45 a f (uo g0 112 (342 * im + 31) k (gi g0 106 0)) (nI (342 * im)) (nI k) = m_X7_keep_B75 a (uo g0 112 (342 * im + 31) 310 (gi g0 106 0)) (nI (342 * im)) := by
  intro c
  induction c with
  | zero =>
    intro f k hk hf
    obtain ⟨f, rfl⟩ : ∃ f', f = f' + 1 := ⟨f - 1, by omega⟩
    unfold m_X7_keep_L45
    rw [lt_f (by omega) (by omega), show k = 310 by omega]
  | succ c ih =>
    intro f k hk hf
    obtain ⟨f, rfl⟩ : ∃ f', f = f' + 1 := ⟨f - 1, by omega⟩
    unfold m_X7_keep_L45
    rw [lt_t (by omega) (by omega), gd_inb (by omega) (by omega), n_add, n_add, gd_inb (by omega) (by omega), n_cl (by omega), n_cl (by omega), gi_uo, if_neg (by omega), uo_s, bd_e, n_add]
    exact ih f (k + 1) (by omega) (by omega)
def PIm : Nat → Nat → Prop := fun f _ => f = 112 ∨ f = 113
theorem m_keep (hC : CM m N un U) (hun : un ≤ 10) (him : im < 2) : ∃ m', m_X7_keep m (nI im) = some (nI (N 0), m') ∧ IM m' im N un U ∧ (∀ im' N' un' U', im' < 2 → un' ≤ 10 → ¬ im' = im → IM m im' N' un' U' → IM m' im' N' un' U') ∧ gi m' 113 0 im = nI 1 ∧ (∀ d, ¬ d = im → gi m' 113 0 d = gi m 113 0 d) ∧ Fr PIm m m' := by
  obtain ⟨hS, h122, hU⟩ := hC
  unfold m_X7_keep m_X7_isPart
  rw [m_in_t (l := 0) (h := 1) rfl rfl (by omega) (by omega) (by omega), bi_e, gd_isb (by omega), bi_e, eq_f (by omega) (by omega) (by omega), n_mul]
  have h1 := m_keepL1 (g0 := m) (a := nI im) him 31 FU 0 (by omega) (by show _ < 1000; omega)
  rw [uo_0] at h1
  rw [h1]
  have FA : Fr (fun a _ => a = 112) m (uo m 112 (342 * im) 31 (gi m 105 0)) := uo_fr
  have e1 : ∀ e, e < 31 → gi (uo m 112 (342 * im) 31 (gi m 105 0)) 112 0 (342 * im + e) = nI (N e) := fun e he => by
    rw [gi_uo, if_pos ⟨rfl, rfl, by omega, by omega⟩, show 342 * im + e - 342 * im = e by omega]; exact hS.z he
  have o1 : ∀ d, ¬ (342 * im ≤ d ∧ d < 342 * im + 31) → gi (uo m 112 (342 * im) 31 (gi m 105 0)) 112 0 d = gi m 112 0 d := fun d hd => by
    rw [gi_uo, if_neg (by omega)]
  generalize uo m 112 (342 * im) 31 (gi m 105 0) = g1 at FA e1 o1 ⊢
  have h2 := m_keepL2 (g0 := g1) (a := nI im) him 310 FU 0 (by omega) (by show _ < 1000; omega)
  rw [uo_0] at h2
  rw [h2]
  have FB : Fr (fun a _ => a = 112) g1 (uo g1 112 (342 * im + 31) 310 (gi g1 106 0)) := uo_fr
  have e2 : ∀ d, d < 310 → gi (uo g1 112 (342 * im + 31) 310 (gi g1 106 0)) 112 0 (342 * im + 31 + d) = gi m 106 0 d := fun d hd => by
    rw [gi_uo, if_pos ⟨rfl, rfl, by omega, by omega⟩, show 342 * im + 31 + d - (342 * im + 31) = d by omega]; exact FA.1 106 0 d (by omega)
  have o2 : ∀ d, ¬ (342 * im + 31 ≤ d ∧ d < 342 * im + 341) → gi (uo g1 112 (342 * im + 31) 310 (gi g1 106 0)) 112 0 d = gi g1 112 0 d := fun d hd => by
    rw [gi_uo, if_neg (by omega)]
  generalize uo g1 112 (342 * im + 31) 310 (gi g1 106 0) = g2 at FB e2 o2 ⊢
  unfold m_X7_keep_B75
  rw [n_add, n_sub (by omega), gd_inb (by omega) (by omega), n_cl (a := 342 * im + 342 - 1) (by omega), show 342 * im + 342 - 1 = 342 * im + 341 by omega, FB.1 122 0 0 (by omega), FA.1 122 0 0 (by omega), h122, bd_e, gd_inb (by omega) (by omega), n_cl (a := im) (by omega), bd_e, gd_inb (by omega) (by omega), n_cl (a := 0) (by omega)]
  have FC : Fr PIm g2 (ui (ui g2 112 0 (342 * im + 341) (nI un)) 113 0 im (nI 1)) := (Fr.rf.ui (Or.inl rfl)).ui (Or.inr rfl)
  have F : Fr PIm m (ui (ui g2 112 0 (342 * im + 341) (nI un)) 113 0 im (nI 1)) := ((FA.wk (fun f a h => Or.inl h)).tr (FB.wk (fun f a h => Or.inl h))).tr FC
  have o3 : ∀ d, ¬ d = 342 * im + 341 → gi (ui (ui g2 112 0 (342 * im + 341) (nI un)) 113 0 im (nI 1)) 112 0 d = gi g2 112 0 d := fun d hd => by
    rw [gi_ui, if_neg (by omega), gi_ui, if_neg (by omega)]
  refine ⟨_, by rw [F.1 105 0 0 (by unfold PIm; omega), hS.z (by omega)], ⟨fun e he => ?_, ?_, fun u hu e he => ?_⟩, fun im' N' un' U' hi hn hne hI => ⟨fun e he => ?_, ?_, fun u hu e he => ?_⟩, by rw [gi_ui, if_pos ⟨rfl, rfl, rfl⟩], fun d hd => ?_, F⟩
  · rw [o3 _ (by omega), o2 _ (by omega)]; exact e1 e he
  · rw [gi_ui, if_neg (by omega), gi_ui, if_pos ⟨rfl, rfl, rfl⟩]
  · rw [o3 _ (by omega), show 342 * im + 31 + 31 * u + e = 342 * im + 31 + (31 * u + e) by omega, e2 _ (by omega)]; exact hU u hu e he
  · rw [o3 _ (by omega), o2 _ (by omega), o1 _ (by omega)]; exact hI.1 e he
  · rw [o3 _ (by omega), o2 _ (by omega), o1 _ (by omega)]; exact hI.2.1
  · rw [o3 _ (by omega), o2 _ (by omega), o1 _ (by omega)]; exact hI.2.2 u hu e he
  · rw [gi_ui, if_neg (by omega), gi_ui, if_neg (by omega), FB.1 113 0 d (by omega), FA.1 113 0 d (by omega)]
theorem m_backL1 {g0 : zG} {a : Int32} (him : im < 2) : ∀ (c f k : Nat), k + c = 31 → c < f → m_X7_back_L29 a f (uo g0 105 0 k (fun d => gi g0 112 0 (342 * im + d))) (nI (342 * im)) (nI k) = m_X7_back_L57 a FU (uo g0 105 0 31 (fun d => gi g0 112 0 (342 * im + d))) (nI (342 * im)) (nI 0) := by
  intro c
  induction c with
  | zero =>
    intro f k hk hf
    obtain ⟨f, rfl⟩ : ∃ f', f = f' + 1 := ⟨f - 1, by omega⟩
    unfold m_X7_back_L29
    rw [lt_f (by omega) (by omega), show k = 31 by omega]
  | succ c ih =>
    intro f k hk hf
    obtain ⟨f, rfl⟩ : ∃ f', f = f' + 1 := ⟨f - 1, by omega⟩
    unfold m_X7_back_L29
    have e := uo_s g0 105 0 k (fun d => gi g0 112 0 (342 * im + d))
    rw [Nat.zero_add] at e
    rw [lt_t (by omega) (by omega), n_add, gd_inb (by omega) (by omega), gd_inb (by omega) (by omega), n_cl (by omega), n_cl (by omega), gi_uo, if_neg (by omega), e, bd_e, n_add]
    exact ih f (k + 1) (by omega) (by omega)
theorem m_backL2 {g0 : zG} {a : Int32} (him : im < 2) : ∀ (c f k : Nat), k + c = 310 → c < f → m_X7_back_L57 a f (uo g0 106 0 k (fun d => gi g0 112 0 (342 * im + 31 + d))) (nI (342 * im)) (nI k) = m_X7_back_B87 a (uo g0 106 0 310 (fun d => gi g0 112 0 (342 * im + 31 + d))) (nI (342 * im)) := by
  intro c
  induction c with
  | zero =>
    intro f k hk hf
    obtain ⟨f, rfl⟩ : ∃ f', f = f' + 1 := ⟨f - 1, by omega⟩
    unfold m_X7_back_L57
    rw [lt_f (by omega) (by omega), show k = 310 by omega]
  | succ c ih =>
    intro f k hk hf
    obtain ⟨f, rfl⟩ : ∃ f', f = f' + 1 := ⟨f - 1, by omega⟩
    unfold m_X7_back_L57
    have e := uo_s g0 106 0 k (fun d => gi g0 112 0 (342 * im + 31 + d))
    rw [Nat.zero_add] at e
    rw [lt_t (by omega) (by omega), n_add, n_add, gd_inb (by omega) (by omega), gd_inb (by omega) (by omega), n_cl (by omega), n_cl (by omega), gi_uo, if_neg (by omega), e, bd_e, n_add]
    exact ih f (k + 1) (by omega) (by omega)
theorem m_back2 (hI : IM m im N un U) (hun : un ≤ 10) (him : im < 2) (hk : gi m 113 0 im = nI 1) : ∃ m', m_X7_back m (nI im) = some (nI (N 0), m') ∧ CM m' N un U ∧ Fr PCm m m' := by
  obtain ⟨hS, h122, hU⟩ := hI
  unfold m_X7_back m_X7_isPart
  rw [m_in_t (l := 0) (h := 1) rfl rfl (by omega) (by omega) (by omega), bi_e, gd_isb (by omega), bi_e, eq_f (by omega) (by omega) (by omega), gd_inb (by omega) (by omega), n_cl (by omega), hk, eq_f (by omega) (by omega) (by omega), n_mul]
  have h1 := m_backL1 (g0 := m) (a := nI im) him 31 FU 0 (by omega) (by show _ < 1000; omega)
  rw [uo_0] at h1
  rw [h1]
  have FA : Fr (fun a _ => a = 105) m (uo m 105 0 31 (fun d => gi m 112 0 (342 * im + d))) := uo_fr
  have e1 : SM (uo m 105 0 31 (fun d => gi m 112 0 (342 * im + d))) 105 0 N := fun e he => by
    rw [gi_uo, if_pos ⟨rfl, rfl, by omega, by omega⟩, show 0 + e - 0 = e by omega]; exact hS e he
  generalize uo m 105 0 31 (fun d => gi m 112 0 (342 * im + d)) = g1 at FA e1 ⊢
  have h2 := m_backL2 (g0 := g1) (a := nI im) him 310 FU 0 (by omega) (by show _ < 1000; omega)
  rw [uo_0] at h2
  rw [h2]
  have FB : Fr (fun a _ => a = 106) g1 (uo g1 106 0 310 (fun d => gi g1 112 0 (342 * im + 31 + d))) := uo_fr
  have e2 : ∀ u, u < un → SM (uo g1 106 0 310 (fun d => gi g1 112 0 (342 * im + 31 + d))) 106 (31 * u) (U u) := fun u hu e he => by
    rw [gi_uo, if_pos ⟨rfl, rfl, by omega, by omega⟩, show 31 * u + e - 0 = 31 * u + e by omega, FA.1 112 0 _ (by omega), show 342 * im + 31 + (31 * u + e) = 342 * im + 31 + 31 * u + e by omega]; exact hU u hu e he
  generalize uo g1 106 0 310 (fun d => gi g1 112 0 (342 * im + 31 + d)) = g2 at FB e2 ⊢
  unfold m_X7_back_B87
  rw [n_add, n_sub (by omega), gd_inb (by omega) (by omega), n_cl (a := 342 * im + 342 - 1) (by omega), show 342 * im + 342 - 1 = 342 * im + 341 by omega, FB.1 112 0 _ (by omega), FA.1 112 0 _ (by omega), h122, bd_e, gd_inb (by omega) (by omega), n_cl (a := 0) (by omega)]
  have FC : Fr (fun a _ => a = 122) g2 (ui g2 122 0 0 (nI un)) := Fr.rf.ui rfl
  have S3 : SM (ui g2 122 0 0 (nI un)) 105 0 N := (e1.fr FB (by omega)).fr FC (by omega)
  refine ⟨_, by rw [S3.z (by omega)], ⟨S3, by rw [gi_ui, if_pos ⟨rfl, rfl, rfl⟩], fun u hu => (e2 u hu).fr FC (by omega)⟩, ((FA.wk (fun f a h => Or.inl h)).tr (FB.wk (fun f a h => Or.inr (Or.inl h)))).tr (FC.wk (fun f a h => Or.inr (Or.inr h)))⟩
end COURSEM
