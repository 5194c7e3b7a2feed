/-! what is left of a job; sums -/
def smS (J : Nat → Nat → Nat) (j : Nat) : Nat → Nat → Nat
  | 0, _ => 0
  | c + 1, k => sds J j k + smS J j c (k + 1)
def lft (J : Nat → Nat → Nat) (N : Nat → Nat) (j : Nat) : Nat := match plc N j with
  | none => 0
  | some _ => smS J j (al J j - N (19 + j)) (N (19 + j))
theorem smS_s (J : Nat → Nat → Nat) (j c k : Nat) : smS J j (c + 1) k = sds J j k + smS J j c (k + 1) := rfl
theorem smS_le {J : Nat → Nat → Nat} {j : Nat} : ∀ (c k : Nat), smS J j c k ≤ 2 * c := by
  intro c
  induction c with
  | zero => intro k; exact Nat.le_refl _
  | succ c ih => intro k; rw [smS_s]; have := ih (k + 1); have := sds_in (J := J) (j := j) (k := k); omega
section LEFT
variable {x m : zG} {i p nj nb j : Nat} {J : Nat → Nat → Nat} {N : Nat → Nat}
theorem lft_le (hB : JB nj nb J) (hj : j < nj) : lft J N j ≤ 162 := by
  unfold lft
  have := al_in hB hj
  split
  · omega
  · have := smS_le (J := J) (j := j) (al J j - N (19 + j)) (N (19 + j)); omega
theorem x_leftL' {a : Int32} (hB : JB nj nb J) (hX : JX x p nj nb J) (hj : j < nj) : ∀ (c f k acc : Nat), k + c = al J j → c < f → acc + 2 * c < 100000 → m_X2_leftOf_L32 i p a (6 * p + j) x f (nI acc) (nI k) = some (nI (acc + smS J j c k)) := by
  have ha := al_in hB hj
  intro c
  induction c with
  | zero =>
    intro f k acc hk hf hacc
    obtain ⟨f, rfl⟩ : ∃ f', f = f' + 1 := ⟨f - 1, by omega⟩
    unfold m_X2_leftOf_L32
    rw [x_all hX hj, bi_e, lt_f (by omega) (by omega)]; rfl
  | succ c ih =>
    intro f k acc hk hf hacc
    obtain ⟨f, rfl⟩ : ∃ f', f = f' + 1 := ⟨f - 1, by omega⟩
    unfold m_X2_leftOf_L32
    have hs := sds_in (J := J) (j := j) (k := k)
    rw [x_all hX hj, bi_e, lt_t (by omega) (by omega), x_sides hB hX hj (by omega), bi_e, n_add, n_add, ih f (k + 1) _ (by omega) (by omega) (by omega)]
    rw [smS_s, Nat.add_assoc]
theorem x_left (hB : JB nj nb J) (hX : JX x p nj nb J) (hS : SX x i N) (hw : WN nj J N) (hp : p < 2) (hj : j < nj) : m_X2_leftOf x i p (nI j) = some (nI (lft J N j)) := by
  obtain ⟨w1, w2, w3, w4, w5, w6, w7, w8, w9, w10⟩ := id hw
  have h6 := hB.1
  have ha := al_in hB hj
  unfold m_X2_leftOf lft
  rw [x_jobAt hB hX hj, bi_e, oc_s, gd_71 (by omega), x_place hS (by omega) (fun k hk => w10 _ (by omega)) (by omega), bi_e]
  cases hpl : plc N j with
  | none => rw [e9_n, eq9_t]
  | some pl =>
    obtain ⟨p1, p2⟩ := plc_s hpl
    have h9 := w9 pl p1
    rw [p2] at h9
    unfold m_X2_madeOf
    rw [e9_s, eq9_f (by omega), x_at (k := 5) (n := 6) rfl (by omega) (by omega) (by omega), hS.2.2.2.2.2.1 j (by omega), bi_e, bi_e, x_leftL' hB hX hj (al J j - N (19 + j)) FU (N (19 + j)) 0 (by omega) (by show _ < 1000; omega) (by omega), Nat.zero_add]
theorem m_leftL (hB : JB nj nb J) (hM : JM m nj nb J) (hS : SM m 105 0 N) (hw : WN nj J N) (hj : j < nj) {pl : Nat} (hpl : plc N j = some pl) : ∀ (c f k acc : Nat), k + c = al J j → c < f → acc + 2 * c < 100000 → m_X7_leftOf_L12 (nI j) m f (nI acc) (nI k) = some (nI (acc + smS J j c k)) := by
  obtain ⟨w1, w2, w3, w4, w5, w6, w7, w8, w9, w10⟩ := id hw
  have h6 := hB.1
  have ha := al_in hB hj
  obtain ⟨p1, p2⟩ := plc_s hpl
  intro c
  induction c with
  | zero =>
    intro f k acc hk hf hacc
    obtain ⟨f, rfl⟩ : ∃ f', f = f' + 1 := ⟨f - 1, by omega⟩
    unfold m_X7_leftOf_L12
    rw [m_all hB hM hj, bi_e, lt_f (by omega) (by omega)]; rfl
  | succ c ih =>
    intro f k acc hk hf hacc
    obtain ⟨f, rfl⟩ : ∃ f', f = f' + 1 := ⟨f - 1, by omega⟩
    unfold m_X7_leftOf_L12
    have hs := sds_in (J := J) (j := j) (k := k)
    rw [m_all hB hM hj, bi_e, lt_t (by omega) (by omega), m_place hS (by omega) (fun k hk => w10 _ (by omega)) (by omega), hpl, bi_e, e9_s, lt_f (by omega) (by omega), m_sides hB hM hj (by omega), bi_e, n_add, n_add, ih f (k + 1) _ (by omega) (by omega) (by omega)]
    rw [smS_s, Nat.add_assoc]
theorem m_left (hB : JB nj nb J) (hM : JM m nj nb J) (hS : SM m 105 0 N) (hw : WN nj J N) (hj : j < nj) : m_X7_leftOf m (nI j) = some (nI (lft J N j)) := by
  obtain ⟨w1, w2, w3, w4, w5, w6, w7, w8, w9, w10⟩ := id hw
  have h6 := hB.1
  have ha := al_in hB hj
  have h8 := w8 j (by omega)
  unfold m_X7_leftOf lft
  rw [n_add, gd_inb (by omega) (by omega), n_cl (by omega), hS.z (by omega), bd_e]
  cases hpl : plc N j with
  | none =>
    show m_X7_leftOf_L12 (nI j) m (999 + 1) _ _ = _
    unfold m_X7_leftOf_L12
    rw [m_all hB hM hj, bi_e]
    by_cases h : N (19 + j) < al J j
    · rw [lt_t (by omega) h, m_place hS (by omega) (fun k hk => w10 _ (by omega)) (by omega), hpl, bi_e, e9_n, lt90_t]
    · rw [lt_f (by omega) (by omega)]
  | some pl =>
    obtain ⟨p1, p2⟩ := plc_s hpl
    have h9 := w9 pl p1
    rw [p2] at h9
    show m_X7_leftOf_L12 (nI j) m FU (nI 0) _ = _
    rw [m_leftL hB hM hS hw hj hpl (al J j - N (19 + j)) FU (N (19 + j)) 0 (by omega) (by show _ < 1000; omega) (by omega), Nat.zero_add]
end LEFT
/-! sums over the queue are sums over all jobs -/
def smf (f : Nat → Nat) : Nat → Nat
  | 0 => 0
  | n + 1 => smf f n + f n
def inq (q f : Nat → Nat) : Nat → Nat → Nat
  | 0, _ => 0
  | n + 1, j => if q n = j then f j else inq q f n j
theorem smf_s (f : Nat → Nat) (n : Nat) : smf f (n + 1) = smf f n + f n := rfl
theorem inq_s (q f : Nat → Nat) (n j : Nat) : inq q f (n + 1) j = if q n = j then f j else inq q f n j := rfl
theorem smf_add1 {h g : Nat → Nat} {a v : Nat} : ∀ n, (∀ j, j < n → g j = h j + if j = a then v else 0) → smf g n = smf h n + if a < n then v else 0 := by
  intro n
  induction n with
  | zero => intro _; rfl
  | succ n ih =>
    intro hh
    rw [smf_s, smf_s, ih (fun j hj => hh j (by omega)), hh n (by omega)]
    by_cases h1 : n = a
    · subst h1; simp; omega
    · by_cases h2 : a < n
      · simp [h1, h2, show a < n + 1 by omega]; omega
      · simp [h1, h2, show ¬ a < n + 1 by omega]
theorem inq_0 {q f : Nat → Nat} {j : Nat} : ∀ n, (∀ k, k < n → ¬ q k = j) → inq q f n j = 0 := by
  intro n
  induction n with
  | zero => intro _; rfl
  | succ n ih => intro h; rw [inq_s, if_neg (h n (by omega))]; exact ih (fun k hk => h k (by omega))
theorem inq_1 {q f : Nat → Nat} {j : Nat} : ∀ n k, k < n → q k = j → inq q f n j = f j := by
  intro n
  induction n with
  | zero => intro k hk; omega
  | succ n ih =>
    intro k hk hq
    rw [inq_s]
    by_cases h : q n = j
    · rw [if_pos h]
    · rw [if_neg h]
      by_cases hk2 : k = n
      · subst hk2; exact absurd hq h
      · exact ih k (by omega) hq
theorem sm_perm {q f : Nat → Nat} {nj : Nat} : ∀ n, (∀ k, k < n → q k < nj) → (∀ a b, a < n → b < n → q a = q b → a = b) → smf (inq q f n) nj = smf (fun k => f (q k)) n := by
  intro n
  induction n with
  | zero =>
    intro _ _
    have : ∀ c, smf (inq q f 0) c = 0 := by intro c; induction c with
      | zero => rfl
      | succ c ih => rw [smf_s, ih]; rfl
    exact this nj
  | succ n ih =>
    intro h1 h2
    have e := smf_add1 (h := inq q f n) (g := inq q f (n + 1)) (a := q n) (v := f (q n)) nj (fun j hj => by
      rw [inq_s]
      by_cases hq : q n = j
      · rw [if_pos hq, if_pos hq.symm, inq_0 n (fun k hk q2 => by have := h2 k n (by omega) (by omega) (by rw [q2, hq]); omega), hq, Nat.zero_add]
      · rw [if_neg hq, if_neg (fun q2 => hq q2.symm), Nat.add_zero])
    rw [e, if_pos (h1 n (by omega)), ih (fun k hk => h1 k (by omega)) (fun a b ha hb => h2 a b (by omega) (by omega)), smf_s]
