/-! rows: read, written, copied, filled -/
/-- the first n places of a row become f's -/
def ur (g : zG) (k i n : Nat) (f : Nat → Int32) : zG := (fun a b d => if a = k ∧ b = i ∧ d < n then f d else g.1 a b d, g.2)
theorem gi_ur (g : zG) (k i n : Nat) (f : Nat → Int32) (a b d : Nat) : gi (ur g k i n f) a b d = if a = k ∧ b = i ∧ d < n then f d else gi g a b d := rfl
theorem gl_ur (g : zG) (k i n : Nat) (f : Nat → Int32) (a : Nat) : gl (ur g k i n f) a = gl g a := rfl
theorem gn_ur (g : zG) (k i n : Nat) (f : Nat → Int32) (a : Nat) : gn (ur g k i n f) a = gn g a := rfl
theorem ur_0 (g : zG) (k i : Nat) (f : Nat → Int32) : ur g k i 0 f = g := by
  unfold ur
  have : (fun a b d => if a = k ∧ b = i ∧ d < 0 then f d else g.1 a b d) = g.1 := by
    funext a b d; rw [if_neg]; intro q; omega
  rw [this]
theorem ur_s (g : zG) (k i n : Nat) (f : Nat → Int32) : ui (ur g k i n f) k i n (f n) = ur g k i (n + 1) f := by
  unfold ur ui
  congr 1
  funext a b d
  by_cases h : a = k ∧ b = i ∧ d = n
  · obtain ⟨rfl, rfl, rfl⟩ := h
    simp
  · rw [if_neg h]
    show (if a = k ∧ b = i ∧ d < n then f d else g.1 a b d) = _
    by_cases h2 : a = k ∧ b = i ∧ d < n
    · rw [if_pos h2, if_pos ⟨h2.1, h2.2.1, by omega⟩]
    · rw [if_neg h2, if_neg]
      intro q
      by_cases h3 : d = n
      · exact h ⟨q.1, q.2.1, h3⟩
      · exact h2 ⟨q.1, q.2.1, by omega⟩
section RWS
variable {g : zG} {k i j n : Nat} {v : Int32}
theorem x_at (hn : ln k = n) (hk : k < 200) (hn2 : n < 2147483648) (hj : j < n) : m_X6_at g k i (nI j) = some (gi g k i j) := by
  unfold m_X6_at
  rw [hn]
  simp (disch := omega) only [lt_f, lt_t, gd_inb, n_cl, xr, if_neg (Nat.not_le.mpr hk)]
theorem x_put (hn : ln k = n) (hn2 : n < 2147483648) (hj : j < n) : m_X6_put g k i (nI j) v = some (ui g k i j v) := by
  unfold m_X6_put
  rw [hn]
  simp (disch := omega) only [lt_f, lt_t, gd_inb, n_cl, bd_e]
theorem x_copy_L {k0 n0 k1 n1 n2 : Nat} {g0 : zG} (h0 : ln k0 = n) (h1 : ln k1 = n2) (hd : ¬ (k0 = k1 ∧ n0 = n1)) (hn : n < 1000000) (hn2 : n2 < 1000000) : ∀ (c f j : Nat), j + c = min n n2 → c < f → m_X6_copyRow_L2 k0 n0 k1 n1 f (ur g0 k1 n1 j (gi g0 k0 n0)) (nI j) = some (ur g0 k1 n1 (min n n2) (gi g0 k0 n0)) := by
  intro c
  induction c with
  | zero =>
    intro f j hj hf
    obtain ⟨f, rfl⟩ : ∃ f', f = f' + 1 := ⟨f - 1, by omega⟩
    unfold m_X6_copyRow_L2
    rw [h0, h1]
    have e : j = min n n2 := by omega
    subst e
    by_cases h : min n n2 < n
    · rw [lt_t (by omega) h, lt_f (by omega) (by omega)]
    · rw [lt_f (by omega) (by omega)]
  | succ c ih =>
    intro f j hj hf
    obtain ⟨f, rfl⟩ : ∃ f', f = f' + 1 := ⟨f - 1, by omega⟩
    unfold m_X6_copyRow_L2
    rw [h0, h1]
    rw [lt_t (by omega) (by omega), lt_t (by omega) (by omega), gd_inb (by omega) (by omega), gd_inb (by omega) (by omega), bd_e, n_cl (by omega), n_add]
    have e : gi (ur g0 k1 n1 j (gi g0 k0 n0)) k0 n0 j = gi g0 k0 n0 j := by rw [gi_ur, if_neg (fun q => hd ⟨q.1, q.2.1⟩)]
    rw [e, ur_s]
    exact ih f (j + 1) (by omega) (by omega)
theorem x_copyRow {k0 n0 k1 n1 n2 : Nat} (h0 : ln k0 = n) (h1 : ln k1 = n2) (hd : ¬ (k0 = k1 ∧ n0 = n1)) (hn : n < 900) (hn2 : n2 < 900) : m_X6_copyRow g k0 n0 k1 n1 = some (ur g k1 n1 (min n n2) (gi g k0 n0)) := by
  have h := x_copy_L (g0 := g) h0 h1 hd (by omega) (by omega) (min n n2) FU 0 (by omega) (by show _ < 1000; omega)
  rw [ur_0] at h
  exact h
theorem x_fill_L {g0 : zG} (h0 : ln k = n) (hn : n < 1000000) : ∀ (c f j : Nat), j + c = n → c < f → m_J7_fill_53178_L5 k i v f (ur g0 k i j (fun _ => v)) (nI j) (nI n) = some (ur g0 k i n (fun _ => v)) := by
  intro c
  induction c with
  | zero =>
    intro f j hj hf
    obtain ⟨f, rfl⟩ : ∃ f', f = f' + 1 := ⟨f - 1, by omega⟩
    unfold m_J7_fill_53178_L5
    have e : j = n := by omega
    subst e
    rw [lt_f (by omega) (by omega)]
  | succ c ih =>
    intro f j hj hf
    obtain ⟨f, rfl⟩ : ∃ f', f = f' + 1 := ⟨f - 1, by omega⟩
    unfold m_J7_fill_53178_L5
    rw [lt_t (by omega) (by omega), h0, gd_inb (by omega) (by omega), bd_e, n_cl (by omega), n_add]
    have e := ur_s g0 k i j (fun _ => v)
    rw [e]
    exact ih f (j + 1) (by omega) (by omega)
theorem x_fill (h0 : ln k = n) (hn : n < 900) : m_J7_fill_53178 g k i v = some (ur g k i n (fun _ => v)) := by
  have h := x_fill_L (g0 := g) (i := i) (v := v) h0 (by omega) n FU 0 (by omega) (by show _ < 1000; omega)
  rw [ur_0] at h
  unfold m_J7_fill_53178
  rw [h0]
  exact h
end RWS
/-! what stays -/
/-- nothing changed but rows of P -/
def Fr (P : Nat → Nat → Prop) (x x' : zG) : Prop := (∀ f i j, ¬ P f i → gi x' f i j = gi x f i j) ∧ (∀ f, gl x' f = gl x f) ∧ ∀ f, gn x' f = gn x f
theorem Fr.rf {P : Nat → Nat → Prop} {x : zG} : Fr P x x := ⟨fun _ _ _ _ => rfl, fun _ => rfl, fun _ => rfl⟩
theorem Fr.tr {P : Nat → Nat → Prop} {x y z : zG} (h1 : Fr P x y) (h2 : Fr P y z) : Fr P x z := ⟨fun f i j h => (h2.1 f i j h).trans (h1.1 f i j h), fun f => (h2.2.1 f).trans (h1.2.1 f), fun f => (h2.2.2 f).trans (h1.2.2 f)⟩
theorem Fr.wk {P Q : Nat → Nat → Prop} {x y : zG} (h : ∀ f i, P f i → Q f i) (h1 : Fr P x y) : Fr Q x y := ⟨fun f i j h2 => h1.1 f i j (fun q => h2 (h f i q)), h1.2⟩
theorem Fr.ui {P : Nat → Nat → Prop} {x y : zG} {f i j : Nat} {v : Int32} (h : Fr P x y) (hp : P f i) : Fr P x (ui y f i j v) := ⟨fun f' i' j' h2 => by
  rw [gi_ui, if_neg]
  · exact h.1 f' i' j' h2
  · rintro ⟨rfl, rfl, -⟩; exact h2 hp, h.2⟩
theorem Fr.ur {P : Nat → Nat → Prop} {x y : zG} {f i n : Nat} {v : Nat → Int32} (h : Fr P x y) (hp : P f i) : Fr P x (ur y f i n v) := ⟨fun f' i' j' h2 => by
  rw [gi_ur, if_neg]
  · exact h.1 f' i' j' h2
  · rintro ⟨rfl, rfl, -⟩; exact h2 hp, h.2⟩
