/-! soon: sets of jobs as six bits -/
def bset (P j : Nat) : Nat := P ||| (1 <<< j)
def bclr (S j : Nat) : Nat := S &&& (63 ^^^ (1 <<< j))
def bcnt (S : Nat) : Nat := (if S.testBit 0 then 1 else 0) + (if S.testBit 1 then 1 else 0) + (if S.testBit 2 then 1 else 0) + (if S.testBit 3 then 1 else 0) + (if S.testBit 4 then 1 else 0) + (if S.testBit 5 then 1 else 0)
theorem b_getF : ∀ P : Fin 64, ∀ j : Fin 6, ((nI P.1 >>> (nI j.1 &&& 31)) &&& nI 1) = nI (if P.1.testBit j.1 then 1 else 0) := by decide +kernel
theorem b_setF : ∀ P : Fin 64, ∀ j : Fin 6, (nI P.1 ||| (nI 1 <<< (nI j.1 &&& 31))) = nI (bset P.1 j.1) ∧ bset P.1 j.1 < 64 ∧ ∀ k : Fin 6, (bset P.1 j.1).testBit k.1 = (decide (k.1 = j.1) || P.1.testBit k.1) := by decide +kernel
theorem b_clrF : ∀ P : Fin 64, ∀ j : Fin 6, (nI P.1 &&& ((nI 1 <<< (nI j.1 &&& 31)) ^^^ (-1))) = nI (bclr P.1 j.1) ∧ bclr P.1 j.1 < 64 ∧ (P.1.testBit j.1 = true → bcnt P.1 = bcnt (bclr P.1 j.1) + 1) ∧ ∀ k : Fin 6, (bclr P.1 j.1).testBit k.1 = (! decide (k.1 = j.1) && P.1.testBit k.1) := by decide +kernel
theorem b_cntF : ∀ P : Fin 64, (bcnt P.1 = 0 → P.1 = 0) ∧ (¬ bcnt P.1 = 0 → ¬ P.1 = 0 ∧ ∃ k : Fin 6, P.1.testBit k.1 = true) := by decide +kernel
theorem b_get {P j : Nat} (hP : P < 64) (hj : j < 6) : ((nI P >>> (nI j &&& 31)) &&& nI 1) = nI (if P.testBit j then 1 else 0) := b_getF ⟨P, hP⟩ ⟨j, hj⟩
theorem b_set {P j : Nat} (hP : P < 64) (hj : j < 6) : (nI P ||| (nI 1 <<< (nI j &&& 31))) = nI (bset P j) ∧ bset P j < 64 ∧ ∀ k, k < 6 → (bset P j).testBit k = (decide (k = j) || P.testBit k) := by
  obtain ⟨h1, h2, h3⟩ := b_setF ⟨P, hP⟩ ⟨j, hj⟩
  exact ⟨h1, h2, fun k hk => h3 ⟨k, hk⟩⟩
theorem b_clr {P j : Nat} (hP : P < 64) (hj : j < 6) : (nI P &&& ((nI 1 <<< (nI j &&& 31)) ^^^ (-1))) = nI (bclr P j) ∧ bclr P j < 64 ∧ (P.testBit j = true → bcnt P = bcnt (bclr P j) + 1) ∧ ∀ k, k < 6 → (bclr P j).testBit k = (! decide (k = j) && P.testBit k) := by
  obtain ⟨h1, h2, h3, h4⟩ := b_clrF ⟨P, hP⟩ ⟨j, hj⟩
  exact ⟨h1, h2, h3, fun k hk => h4 ⟨k, hk⟩⟩
/-- the least of those in A -/
def bst (A : Nat → Bool) (f : Nat → Nat) : Nat → Nat → Option Nat → Option Nat
  | 0, _, b => b
  | c + 1, k, b => bst A f c (k + 1) (if A k then (match b with | none => some k | some q => if f k < f q then some k else some q) else b)
theorem bst_c (A : Nat → Bool) (f : Nat → Nat) (c k : Nat) (b : Option Nat) : bst A f (c + 1) k b = bst A f c (k + 1) (if A k then (match b with | none => some k | some q => if f k < f q then some k else some q) else b) := rfl
theorem bst_s {A : Nat → Bool} {f : Nat → Nat} {q : Nat} : ∀ (c k : Nat) (b : Option Nat), bst A f c k b = some q → b = some q ∨ (k ≤ q ∧ q < k + c ∧ A q = true) := by
  intro c
  induction c with
  | zero => intro k b h; exact Or.inl h
  | succ c ih =>
    intro k b h
    unfold bst at h
    rcases ih _ _ h with h1 | ⟨h1, h2, h3⟩
    · by_cases hA : A k = true
      · rw [if_pos hA] at h1
        cases b with
        | none => simp only [Option.some.injEq] at h1; subst h1; exact Or.inr ⟨Nat.le_refl _, by omega, hA⟩
        | some r =>
          simp only at h1
          split at h1
          · simp only [Option.some.injEq] at h1; subst h1; exact Or.inr ⟨Nat.le_refl _, by omega, hA⟩
          · exact Or.inl h1
      · rw [if_neg hA] at h1; exact Or.inl h1
    · exact Or.inr ⟨by omega, by omega, h3⟩
theorem bst_some {A : Nat → Bool} {f : Nat → Nat} : ∀ (c k q : Nat), ∃ r, bst A f c k (some q) = some r := by
  intro c
  induction c with
  | zero => intro k q; exact ⟨q, rfl⟩
  | succ c ih =>
    intro k q
    unfold bst
    by_cases hA : A k = true
    · rw [if_pos hA]
      simp only
      split
      · exact ih _ _
      · exact ih _ _
    · rw [if_neg hA]; exact ih _ _
theorem bst_n {A : Nat → Bool} {f : Nat → Nat} {r : Nat} (hr : A r = true) : ∀ (c k : Nat), k ≤ r → r < k + c → ∃ q, bst A f c k none = some q := by
  intro c
  induction c with
  | zero => intro k h1 h2; omega
  | succ c ih =>
    intro k h1 h2
    unfold bst
    by_cases hA : A k = true
    · rw [if_pos hA]; exact bst_some _ _ _
    · rw [if_neg hA]
      by_cases hk : k = r
      · subst hk; exact absurd hr hA
      · exact ih _ (by omega) (by omega)
section SOON
variable {x m : zG} {i p nj nb j P S : Nat} {J : Nat → Nat → Nat} {N : Nat → Nat}
def lst (f : Nat → Nat) : Option Nat → Int32
  | none => nI 0
  | some q => nI (f q)
theorem x_shL (hB : JB nj nb J) (hX : JX x p nj nb J) (hS : SX x 0 N) (hw : WN nj J N) (hp : p < 2) (hg : gn x 0 = p) (hP : P < 64) {A : Nat → Bool} (hA : ∀ k, k < nj → A k = (! (plc N k == none) && ! P.testBit k)) : ∀ (c f k : Nat) (b : Option Nat), k + c = nj → c < f → (∀ q, b = some q → q < nj) → m_X6_shortestBut_L8 (nI P) x f (e9 b) (lst (lft J N) b) (nI k) = some (e9 (bst A (lft J N) c k b)) := by
  obtain ⟨w1, w2, w3, w4, w5, w6, w7, w8, w9, w10⟩ := id hw
  have h6 := hB.1
  intro c
  induction c with
  | zero =>
    intro f k b hk hf hb
    obtain ⟨f, rfl⟩ : ∃ f', f = f' + 1 := ⟨f - 1, by omega⟩
    unfold m_X6_shortestBut_L8
    rw [hg, gd_73 hp, hX.1, lt_f (by omega) (by omega)]; rfl
  | succ c ih =>
    intro f k b hk hf hb
    obtain ⟨f, rfl⟩ : ∃ f', f = f' + 1 := ⟨f - 1, by omega⟩
    unfold m_X6_shortestBut_L8 m_X6_shortestBut_B85 m_X6_shortestBut_B79 m_X6_shortestBut_B85
    have hAk := hA k (by omega)
    rw [hg, gd_73 hp, hX.1, lt_t (by omega) (by omega), x_place hS (by omega) (fun k hk => w10 _ (by omega)) (by omega), bi_e, b_get hP (by omega), n_add, bst_c]
    cases hpl : plc N k with
    | none =>
      rw [hpl] at hAk
      rw [e9_n, eq9_t, hAk]
      exact ih f (k + 1) b (by omega) (by omega) hb
    | some r =>
      obtain ⟨p1, p2⟩ := plc_s hpl
      rw [hpl] at hAk
      rw [e9_s, eq9_f (by omega)]
      by_cases ht : P.testBit k = true
      · rw [ht] at hAk
        rw [if_pos ht, eq_f (by omega) (by omega) (by omega), hAk]
        exact ih f (k + 1) b (by omega) (by omega) hb
      · have ht' : P.testBit k = false := by cases h : P.testBit k; rfl; exact absurd h ht
        rw [ht'] at hAk
        have hAk' : A k = true := hAk
        rw [if_neg ht, eq_t rfl, gd_73 hp, x_left hB hX hS hw hp (by omega), bi_e, if_pos hAk']
        cases b with
        | none =>
          rw [e9_n, eq9_t]
          exact ih f (k + 1) (some k) (by omega) (by omega) (fun q hq => by simp only [Option.some.injEq] at hq; omega)
        | some q =>
          have hq := hb q rfl
          have l1 := lft_le (N := N) hB (show k < nj by omega)
          have l2 := lft_le (N := N) hB hq
          rw [e9_s, eq9_f (by omega)]
          show (if nI (lft J N k) < nI (lft J N q) then _ else _) = _
          by_cases hl : lft J N k < lft J N q
          · rw [lt_t (by omega) hl]
            simp only [hl, if_true]
            exact ih f (k + 1) (some k) (by omega) (by omega) (fun q hq => by simp only [Option.some.injEq] at hq; omega)
          · rw [lt_f (by omega) (by omega)]
            simp only [hl, if_false]
            exact ih f (k + 1) (some q) (by omega) (by omega) hb
theorem m_shL (hB : JB nj nb J) (hM : JM m nj nb J) (hS : SM m 105 0 N) (hw : WN nj J N) (hP : S < 64) {A : Nat → Bool} (hA : ∀ k, k < nj → A k = S.testBit k) : ∀ (c f k : Nat) (b : Option Nat), k + c = nj → c < f → (∀ q, b = some q → q < nj) → m_X7_shortest_L5 (nI S) m f (e9 b) (nI k) = some (e9 (bst A (lft J N) c k b)) := by
  have h6 := hB.1
  intro c
  induction c with
  | zero =>
    intro f k b hk hf hb
    obtain ⟨f, rfl⟩ : ∃ f', f = f' + 1 := ⟨f - 1, by omega⟩
    unfold m_X7_shortest_L5
    rw [hM.1, lt_f (by omega) (by omega)]; rfl
  | succ c ih =>
    intro f k b hk hf hb
    obtain ⟨f, rfl⟩ : ∃ f', f = f' + 1 := ⟨f - 1, by omega⟩
    unfold m_X7_shortest_L5 m_X7_shortest_B39 m_X7_shortest_B43 m_X7_shortest_B44
    have hAk := hA k (by omega)
    rw [hM.1, lt_t (by omega) (by omega), b_get hP (by omega), n_add, bst_c]
    by_cases ht : S.testBit k = true
    · rw [if_pos ht, eq_t rfl, if_pos (c := A k = true) (by rw [hAk]; exact ht)]
      cases b with
      | none =>
        rw [e9_n, lt90_t]
        exact ih f (k + 1) (some k) (by omega) (by omega) (fun q hq => by simp only [Option.some.injEq] at hq; omega)
      | some q =>
        have hq := hb q rfl
        have l1 := lft_le (N := N) hB (show k < nj by omega)
        have l2 := lft_le (N := N) hB hq
        rw [e9_s, lt_f (by omega) (by omega), m_left hB hM hS hw (by omega), bi_e, m_left hB hM hS hw hq, bi_e]
        by_cases hl : lft J N k < lft J N q
        · rw [lt_t (by omega) hl]
          simp only [hl, if_true]
          exact ih f (k + 1) (some k) (by omega) (by omega) (fun q hq => by simp only [Option.some.injEq] at hq; omega)
        · rw [lt_f (by omega) (by omega)]
          simp only [hl, if_false]
          exact ih f (k + 1) (some q) (by omega) (by omega) hb
    · rw [if_neg ht, eq_f (by omega) (by omega) (by omega), if_neg (c := A k = true) (by rw [hAk]; exact ht)]
      exact ih f (k + 1) b (by omega) (by omega) hb
/-- what is left to pick: S is the queue without P -/
def LQp (nj : Nat) (N : Nat → Nat) (P S : Nat) : Prop := P < 64 ∧ S < 64 ∧ ∀ k, k < 6 → S.testBit k = (! (plc N k == none) && ! P.testBit k)
theorem plc_big (hw : WN nj J N) {k : Nat} (hk : nj ≤ k) : plc N k = none := by
  cases h : plc N k with
  | none => rfl
  | some r =>
    obtain ⟨p1, p2⟩ := plc_s h
    have := hw.2.2.2.2.2.1 r p1
    omega
theorem soonL {a : Int32} (hB : JB nj nb J) (hX : JX x p nj nb J) (hM : JM m nj nb J) (hS : SX x 0 N) (hm : SM m 105 0 N) (hw : WN nj J N) (hp : p < 2) (hg : gn x 0 = p) : ∀ (c f f' i P S : Nat) (s o b : Int32), i + c = N 3 → c < f → c < f' → LQp nj N P S → bcnt S = c → ∃ r, m_X6_soon_L24 a x f s o b (nI P) (nI i) = some r ∧ m_X7_soon_L51 a m f' (nI S) s o b = some r := by
  obtain ⟨w1, w2, w3, w4, w5, w6, w7, w8, w9, w10⟩ := id hw
  have h6 := hB.1
  intro c
  induction c with
  | zero =>
    intro f f' i P S s o b hi hf hf' hL hc
    obtain ⟨f, rfl⟩ : ∃ g, f = g + 1 := ⟨f - 1, by omega⟩
    obtain ⟨f', rfl⟩ : ∃ g, f' = g + 1 := ⟨f' - 1, by omega⟩
    have hS0 := (b_cntF ⟨S, hL.2.1⟩).1 hc
    unfold m_X6_soon_L24 m_X7_soon_L51 m_X6_soon_B108 m_X7_soon_B102
    rw [hS.2.2.2.1, lt_f (by omega) (by omega), eq_t hS0]
    by_cases h0 : a = nI 0
    · rw [if_pos h0]; exact ⟨_, rfl, rfl⟩
    · rw [if_neg h0]; exact ⟨_, rfl, rfl⟩
  | succ c ih =>
    intro f f' i P S s o b hi hf hf' hL hc
    obtain ⟨f, rfl⟩ : ∃ g, f = g + 1 := ⟨f - 1, by omega⟩
    obtain ⟨f', rfl⟩ : ∃ g, f' = g + 1 := ⟨f' - 1, by omega⟩
    obtain ⟨l1, l2, l3⟩ := id hL
    obtain ⟨hS0, ⟨r, hr6⟩, hr⟩ := (b_cntF ⟨S, l2⟩).2 (by show ¬ bcnt S = 0; omega)
    have hr' : S.testBit r = true := hr
    have hS0' : ¬ S = 0 := hS0
    have hrn : r < nj := by
      by_cases q : r < nj
      · exact q
      · have e1 := l3 r hr6
        rw [plc_big hw (by omega)] at e1
        rw [hr'] at e1
        exact absurd e1 (by simp)
    obtain ⟨q, hq⟩ := bst_n (A := fun k => S.testBit k) (f := lft J N) hr' nj 0 (Nat.zero_le _) (by omega)
    have hqs : q < nj ∧ S.testBit q = true := by
      rcases bst_s _ _ _ hq with h | ⟨h1, h2, h3⟩
      · exact absurd h (by simp)
      · exact ⟨by omega, h3⟩
    have e1 := x_shL hB hX hS hw hp hg l1 (A := fun k => S.testBit k) (fun k hk => l3 k (by omega)) nj FU 0 none (by omega) (by show _ < 1000; omega) (fun q h => by simp at h)
    have e2 := m_shL hB hM hm hw l2 (A := fun k => S.testBit k) (fun k hk => rfl) nj FU 0 none (by omega) (by show _ < 1000; omega) (fun q h => by simp at h)
    rw [hq] at e1 e2
    have e1' : m_X6_shortestBut x (nI P) = some (nI q) := e1
    have e2' : m_X7_shortest m (nI S) = some (nI q) := e2
    obtain ⟨c1, c2, c3, c4⟩ := b_clr (P := S) (j := q) l2 (by omega)
    obtain ⟨d1, d2, d3⟩ := b_set (P := P) (j := q) l1 (by omega)
    unfold m_X6_soon_L24 m_X7_soon_L51
    rw [hS.2.2.2.1, lt_t (by omega) (by omega), eq_f (by omega) (by omega) hS0', e1', e2', bi_e, bi_e, eq9_f (by omega), hg, bd_e, gd_73 hp, x_left hB hX hS hw hp hqs.1, m_left hB hM hm hw hqs.1, d1, bi_e, bi_e, bd_e, bd_e, bd_e, c1, Int32.mul_comm (nI 10) o, n_add i 1]
    refine ih f f' (i + 1) _ _ _ _ _ (by omega) (by omega) (by omega) ⟨d2, c2, fun k hk => ?_⟩ (by have := c3 hqs.2; omega)
    rw [c4 k hk, d3 k hk, l3 k hk]
    by_cases hkq : k = q
    · simp [hkq]
    · simp [hkq]
/-- those that stand in the first k places of the queue -/
theorem m_setL {a : Int32} (hm : SM m 105 0 N) (hw : WN nj J N) (h6 : nj ≤ 6) : ∀ (c f k S : Nat), k + c = N 3 → c < f → S < 64 → (∀ j, j < 6 → (S.testBit j = true ↔ ∃ r, r < k ∧ N (13 + r) = j)) → bcnt S = k → ∃ S', m_X7_soon_L13 a m f (nI S) (nI k) = m_X7_soon_B43 a m (nI S') ∧ S' < 64 ∧ (∀ j, j < 6 → (S'.testBit j = true ↔ ∃ r, r < N 3 ∧ N (13 + r) = j)) ∧ bcnt S' = N 3 := by
  obtain ⟨w1, w2, w3, w4, w5, w6, w7, w8, w9, w10⟩ := id hw
  intro c
  induction c with
  | zero =>
    intro f k S hk hf h1 h2 h3
    obtain ⟨f, rfl⟩ : ∃ g, f = g + 1 := ⟨f - 1, by omega⟩
    unfold m_X7_soon_L13
    rw [gd_inb (by omega) (by omega), n_cl (by omega), hm.z (by omega), lt_f (by omega) (by omega)]
    have : k = N 3 := by omega
    subst this
    exact ⟨S, rfl, h1, h2, h3⟩
  | succ c ih =>
    intro f k S hk hf h1 h2 h3
    obtain ⟨f, rfl⟩ : ∃ g, f = g + 1 := ⟨f - 1, by omega⟩
    have hq := w6 k (by omega)
    obtain ⟨d1, d2, d3⟩ := b_set (P := S) (j := N (13 + k)) h1 (by omega)
    unfold m_X7_soon_L13
    rw [gd_inb (by omega) (by omega), n_cl (a := 3) (by omega), hm.z (e := 3) (by omega), lt_t (by omega) (by omega), n_add, gd_inb (by omega) (by omega), n_cl (by omega), hm.z (by omega), d1, bd_e, n_add]
    have hn : ¬ S.testBit (N (13 + k)) = true := fun q => by
      obtain ⟨r, r1, r2⟩ := (h2 _ (by omega)).mp q
      have := w7 r k (by omega) (by omega) r2
      omega
    refine ih f (k + 1) _ (by omega) (by omega) d2 (fun j hj => ?_) ?_
    · rw [d3 j hj, Bool.or_eq_true, h2 j hj, decide_eq_true_eq]
      constructor
      · rintro (h | ⟨r, r1, r2⟩)
        · exact ⟨k, by omega, h.symm⟩
        · exact ⟨r, by omega, r2⟩
      · rintro ⟨r, r1, r2⟩
        by_cases hr : r = k
        · subst hr; exact Or.inl r2.symm
        · exact Or.inr ⟨r, by omega, r2⟩
    · obtain ⟨c1, c2, c3, c4⟩ := b_clr (P := bset S (N (13 + k))) (j := N (13 + k)) d2 (by omega)
      have t1 : (bset S (N (13 + k))).testBit (N (13 + k)) = true := by rw [d3 _ (by omega)]; simp
      have e : bcnt (bclr (bset S (N (13 + k))) (N (13 + k))) = bcnt S := by
        have tk : ∀ j, j < 6 → (bclr (bset S (N (13 + k))) (N (13 + k))).testBit j = S.testBit j := fun j hj => by
          rw [c4 j hj, d3 j hj]
          by_cases hjk : j = N (13 + k)
          · have : S.testBit j = false := by rw [hjk]; cases h : S.testBit (N (13 + k)); rfl; exact absurd h hn
            rw [this]; simp [hjk]
          · simp [hjk]
        unfold bcnt
        rw [tk 0 (by omega), tk 1 (by omega), tk 2 (by omega), tk 3 (by omega), tk 4 (by omega), tk 5 (by omega)]
      rw [c3 t1, e, h3]
theorem s_soon (hR : Rl x m) (a : Int32) : Sr (m_X6_soon x a) (m_X7_soon m a) := by
  obtain ⟨p, nj, nb, J, N, un, U, tl, tx, sn, sv, ⟨hp, hg, -, hB, hX, hM⟩, hC, hI, hT, hS, ht⟩ := hR
  have hw := hC.2.2.2.1
  have h6 := hB.1
  have w3 := hw.2.2.1
  have hc := hC.1.1
  have hm := hC.2.1.1
  have go : Sr (m_X6_soon_L24 a x FU (nI 0) (nI 0) (nI 0) (nI 0) (nI 0)) (m_X7_soon_L13 a m FU (nI 0) (nI 0)) := by
    obtain ⟨S, e1, e2, e3, e4⟩ := m_setL (a := a) hm hw h6 (N 3) FU 0 0 (by omega) (by show _ < 1000; omega) (by omega) (fun j hj => by
      constructor
      · intro h; simp at h
      · rintro ⟨r, r1, r2⟩; omega) rfl
    rw [e1]
    exact soonL (a := a) hB hX hM hc hm hw hp hg (N 3) FU FU 0 0 S (nI 0) (nI 0) (nI 0) (by omega) (by show _ < 1000; omega) (by show _ < 1000; omega) ⟨by omega, e2, fun k hk => by
      have e := e3 k hk
      cases hpl : plc N k with
      | none =>
        have hn : ¬ S.testBit k = true := fun q => by
          obtain ⟨r, r1, r2⟩ := e.mp q
          exact plc_n hpl r r1 r2
        have : S.testBit k = false := by cases h : S.testBit k; rfl; exact absurd h hn
        rw [this]; simp
      | some r =>
        rw [e.mpr ⟨r, plc_s hpl⟩]; simp⟩ e4
  unfold m_X6_soon m_X7_soon m_X6_soon_B11
  by_cases b0 : a = nI 0
  · subst b0
    rw [if_pos rfl, m_isPart_t (by rw [nI_toInt (by omega)]; omega) (by rw [nI_toInt (by omega)]; omega), bi_e, eq_f (by omega) (by omega) (by omega)]; exact go
  by_cases b1 : a = nI 1
  · subst b1
    rw [if_neg b0, if_pos rfl, m_isPart_t (by rw [nI_toInt (by omega)]; omega) (by rw [nI_toInt (by omega)]; omega), bi_e, eq_f (by omega) (by omega) (by omega)]; exact go
  · rw [if_neg b0, if_neg b1]
    have hb : a.toInt < 0 ∨ 1 < a.toInt := by
      rcases n_cases a with h | ⟨j, hj, rfl⟩
      · exact Or.inl (toInt_neg h)
      · rw [nI_toInt hj]
        rw [n_eq hj (by omega)] at b0 b1
        omega
    rw [m_isPart_f hb, bi_e, eq_t rfl]; exact ⟨_, rfl, rfl⟩
end SOON
