/-! how it is at a time: 31 numbers N, as the reference lays them: 0 tick, 1 toner, 2 half, 3 queued, 4.. trays, 7.. bins, 13.. queue, 19.. made, 25.. ends -/
def SX (x : zG) (i : Nat) (N : Nat → Nat) : Prop := gi x 0 i 0 = nI (N 0) ∧ gi x 1 i 0 = nI (N 1) ∧ gi x 2 i 0 = nI (N 2) ∧ gi x 3 i 0 = nI (N 3) ∧ (∀ j, j < N 3 → gi x 4 i j = nI (N (13 + j))) ∧ (∀ j, j < 6 → gi x 5 i j = nI (N (19 + j))) ∧ (∀ j, j < 6 → gi x 6 i j = if N (25 + j) = 0 then -9 else nI (N (25 + j))) ∧ (∀ t, t < 3 → gi x 7 i t = nI (N (4 + t))) ∧ (∀ b, b < 6 → gi x 8 i b = nI (N (7 + b)))
def SM (m : zG) (k o : Nat) (N : Nat → Nat) : Prop := ∀ e, e < 31 → gi m k 0 (o + e) = nI (N e)
def WN (nj : Nat) (J : Nat → Nat → Nat) (N : Nat → Nat) : Prop := N 1 ≤ 999 ∧ N 2 ≤ 1 ∧ N 3 ≤ nj ∧ (∀ t, t < 3 → N (4 + t) ≤ 99) ∧ (∀ b, b < 6 → N (7 + b) ≤ 20) ∧ (∀ k, k < N 3 → N (13 + k) < nj) ∧ (∀ a b, a < N 3 → b < N 3 → N (13 + a) = N (13 + b) → a = b) ∧ (∀ j, j < 6 → N (19 + j) ≤ 81) ∧ (∀ k, k < N 3 → N (19 + N (13 + k)) < al J (N (13 + k))) ∧ ∀ e, e < 31 → N e < 65536
theorem SM.z {m : zG} {N : Nat → Nat} (h : SM m 105 0 N) {e : Nat} (he : e < 31) : gi m 105 0 e = nI (N e) := by have := h e he; rwa [Nat.zero_add] at this
/-- where a job stands in the queue -/
def plcF (N : Nat → Nat) (j : Nat) : Nat → Nat → Option Nat
  | 0, _ => none
  | c + 1, k => if N (13 + k) = j then some k else plcF N j c (k + 1)
def plc (N : Nat → Nat) (j : Nat) : Option Nat := plcF N j (N 3) 0
def e9 (r : Option Nat) : Int32 := match r with
  | none => -9
  | some k => nI k
theorem plcF_s {N : Nat → Nat} {j : Nat} : ∀ (c k r : Nat), plcF N j c k = some r → k ≤ r ∧ r < k + c ∧ N (13 + r) = j := by
  intro c
  induction c with
  | zero => intro k r h; cases h
  | succ c ih =>
    intro k r h
    unfold plcF at h
    by_cases hk : N (13 + k) = j
    · rw [if_pos hk] at h; cases h; exact ⟨Nat.le_refl _, by omega, hk⟩
    · rw [if_neg hk] at h
      obtain ⟨h1, h2, h3⟩ := ih (k + 1) r h
      exact ⟨by omega, by omega, h3⟩
theorem plcF_n {N : Nat → Nat} {j : Nat} : ∀ (c k : Nat), plcF N j c k = none → ∀ r, k ≤ r → r < k + c → N (13 + r) ≠ j := by
  intro c
  induction c with
  | zero => intro k h r h1 h2; omega
  | succ c ih =>
    intro k h r h1 h2
    unfold plcF at h
    by_cases hk : N (13 + k) = j
    · rw [if_pos hk] at h; cases h
    · rw [if_neg hk] at h
      by_cases hr : r = k
      · rw [hr]; exact hk
      · exact ih (k + 1) h r (by omega) (by omega)
theorem plc_s {N : Nat → Nat} {j r : Nat} (h : plc N j = some r) : r < N 3 ∧ N (13 + r) = j := by
  obtain ⟨h1, h2, h3⟩ := plcF_s _ _ _ h
  exact ⟨by omega, h3⟩
theorem plc_n {N : Nat → Nat} {j : Nat} (h : plc N j = none) : ∀ r, r < N 3 → N (13 + r) ≠ j := fun r hr => plcF_n _ _ h r (Nat.zero_le _) (by omega)
theorem plc_0 {N : Nat → Nat} (h : 0 < N 3) : plc N (N 13) = some 0 := by
  unfold plc
  obtain ⟨c, hc⟩ : ∃ c, N 3 = c + 1 := ⟨N 3 - 1, by omega⟩
  rw [hc]
  simp [plcF]
theorem plc_at {nj : Nat} {J : Nat → Nat → Nat} {N : Nat → Nat} (hw : WN nj J N) {k : Nat} (hk : k < N 3) : plc N (N (13 + k)) = some k := by
  cases h : plc N (N (13 + k)) with
  | none => exact absurd rfl (plc_n h k hk)
  | some r =>
    obtain ⟨h1, h2⟩ := plc_s h
    rw [hw.2.2.2.2.2.2.1 r k h1 hk h2]
section SNAP
variable {x m : zG} {i p nj nb j : Nat} {J : Nat → Nat → Nat} {N : Nat → Nat}
theorem x_placeL (hS : SX x i N) (h6 : N 3 ≤ 6) (hb : ∀ k, k < N 3 → N (13 + k) < 65536) (hj : j < 65536) : ∀ (c f k : Nat), k + c = N 3 → c < f → m_X2_placeOf_L2 i (nI j) x f (nI k) = some (e9 (plcF N j c k)) := by
  obtain ⟨s0, s1, s2, s3, s4, -⟩ := hS
  intro c
  induction c with
  | zero =>
    intro f k hk hf
    obtain ⟨f, rfl⟩ : ∃ f', f = f' + 1 := ⟨f - 1, by omega⟩
    unfold m_X2_placeOf_L2 plcF
    rw [s3, lt_f (by omega) (by omega)]
    rfl
  | succ c ih =>
    intro f k hk hf
    obtain ⟨f, rfl⟩ : ∃ f', f = f' + 1 := ⟨f - 1, by omega⟩
    have hb' := hb k (by omega)
    unfold m_X2_placeOf_L2 plcF
    rw [s3, lt_t (by omega) (by omega), lt_t (by omega) (by omega), gd_inb (by omega) (by omega), n_cl (by omega), s4 k (by omega)]
    by_cases h : N (13 + k) = j
    · rw [eq_t h, if_pos h]; rfl
    · rw [eq_f (by omega) (by omega) h, if_neg h, n_add]
      exact ih f (k + 1) (by omega) (by omega)
theorem x_place (hS : SX x i N) (h6 : N 3 ≤ 6) (hb : ∀ k, k < N 3 → N (13 + k) < 65536) (hj : j < 65536) : m_X2_placeOf x i (nI j) = some (e9 (plc N j)) :=
  x_placeL hS h6 hb hj (N 3) FU 0 (by omega) (by show _ < 1000; omega)
theorem m_placeL (hS : SM m 105 0 N) (h6 : N 3 ≤ 6) (hb : ∀ k, k < N 3 → N (13 + k) < 65536) (hj : j < 65536) : ∀ (c f k : Nat), k + c = N 3 → c < f → m_X7_placeOf_L2 (nI j) m f (nI k) = some (e9 (plcF N j c k)) := by
  intro c
  induction c with
  | zero =>
    intro f k hk hf
    obtain ⟨f, rfl⟩ : ∃ f', f = f' + 1 := ⟨f - 1, by omega⟩
    unfold m_X7_placeOf_L2 plcF
    rw [n_cl (by omega), hS.z (by omega), lt_f (by omega) (by omega), gd_inb (by omega) (by omega)]
    rfl
  | succ c ih =>
    intro f k hk hf
    obtain ⟨f, rfl⟩ : ∃ f', f = f' + 1 := ⟨f - 1, by omega⟩
    have hb' := hb k (by omega)
    unfold m_X7_placeOf_L2 plcF
    rw [n_cl (by omega), hS.z (by omega), n_add, n_cl (by omega), hS.z (by omega), lt_t (by omega) (by omega), gd_inb (by omega) (by omega), gd_inb (by omega) (by omega)]
    by_cases h : N (13 + k) = j
    · rw [eq_t h, if_pos h]; rfl
    · rw [eq_f (by omega) (by omega) h, if_neg h, n_add]
      exact ih f (k + 1) (by omega) (by omega)
theorem m_place (hS : SM m 105 0 N) (h6 : N 3 ≤ 6) (hb : ∀ k, k < N 3 → N (13 + k) < 65536) (hj : j < 65536) : m_X7_placeOf m (nI j) = some (e9 (plc N j)) :=
  m_placeL hS h6 hb hj (N 3) FU 0 (by omega) (by show _ < 1000; omega)
theorem x_jobAt (hB : JB nj nb J) (hX : JX x p nj nb J) (hj : j < nj) : m_X3_jobAt x p (nI j) = some (some (6 * p + j)) := by
  have := hB.1
  unfold m_X3_jobAt
  rw [hX.1]
  simp (disch := omega) only [lt_f, lt_t, gd_inb, n_cl]
theorem x_jobAt_9 (hX : JX x p nj nb J) : m_X3_jobAt x p (-9) = some none := by
  unfold m_X3_jobAt
  rw [lt90_t]
theorem x_jobAt_neg {a : Int32} (ha : a < nI 0) : m_X3_jobAt x p a = some none := by
  unfold m_X3_jobAt
  rw [if_pos ha]
theorem x_jobAt_big (hB : JB nj nb J) (hX : JX x p nj nb J) (hj : nj ≤ j) (h2 : j < 2147483648) : m_X3_jobAt x p (nI j) = some none := by
  have := hB.1
  unfold m_X3_jobAt
  rw [hX.1]
  simp (disch := omega) only [lt_f]
theorem m_isJob (hB : JB nj nb J) (hM : JM m nj nb J) (hj : j < nj) : m_X7_isJob m (nI j) = some (nI 1) := by
  have h6 := hB.1
  unfold m_X7_isJob
  rw [hM.1, n_sub (by omega), m_in_t (l := 0) (h := nj - 1) rfl (by rw [Int32.toInt_toInt64, nI_toInt (by omega)]) (by omega) (by omega) (by omega)]
  simp (disch := omega) only [bi_e, gd_isb]
theorem m_isJob_neg (hB : JB nj nb J) (hM : JM m nj nb J) {a : Int32} (ha : a < nI 0) : m_X7_isJob m a = some (nI 0) := by
  have h6 := hB.1
  have e0 : (nI 0).toInt = 0 := nI_toInt (n := 0) (by omega)
  have h1 := Int32.lt_iff_toInt_lt.mp ha
  have h2 : (0 : Int64).toInt = 0 := rfl
  unfold m_X7_isJob
  rw [m_in_f (Or.inl (by omega))]
  simp (disch := omega) only [bi_e, gd_isb]
theorem m_isJob_big (hB : JB nj nb J) (hM : JM m nj nb J) (hj : nj ≤ j) (h2 : j < 2147483648) : m_X7_isJob m (nI j) = some (nI 0) := by
  have h6 := hB.1
  have e := nI_toInt h2
  have e2 := pk_sub_toInt (a := nj) (b := 1) (by omega) (by omega)
  unfold m_X7_isJob
  rw [hM.1, m_in_f (Or.inr (by rw [Int32.toInt_toInt64]; omega))]
  simp (disch := omega) only [bi_e, gd_isb]
/-- why the first job stands -/
def stn (nb : Nat) (J : Nat → Nat → Nat) (N : Nat → Nat) : Nat := if N 3 = 0 then 0 else if N (4 + J 4 (N 13)) = 0 then 1 else if N 1 < sds J (N 13) (N (19 + N 13)) then 2 else if N (7 + bno nb J (N 13) (N (19 + N 13))) = 20 then 3 else 0
theorem stn_le : stn nb J N ≤ 3 := by unfold stn; repeat (first | omega | split)
theorem x_first (hS : SX x i N) (hw : WN nj J N) (h6 : nj ≤ 6) : m_X2_firstJob x i = some (if N 3 = 0 then -9 else nI (N 13)) := by
  obtain ⟨s0, s1, s2, s3, s4, -⟩ := hS
  have h3 := hw.2.2.1
  unfold m_X2_firstJob
  rw [s3]
  by_cases h : N 3 = 0
  · rw [lt_f (by omega) (by omega), if_pos h]
  · rw [lt_t (by omega) (by omega), if_neg h, x_at (k := 4) (n := 6) rfl (by omega) (by omega) (by omega), s4 0 (by omega)]
    rfl
theorem x_stands (hB : JB nj nb J) (hX : JX x p nj nb J) (hS : SX x i N) (hw : WN nj J N) (hp : p < 2) : m_X2_whyStands x i p = some (nI (stn nb J N)) := by
  obtain ⟨s0, s1, s2, s3, s4, s5, s6, s7, s8⟩ := id hS
  obtain ⟨w1, w2, w3, w4, w5, w6, w7, w8, w9, w10⟩ := id hw
  have h6 := hB.1
  unfold m_X2_whyStands stn
  rw [x_first hS hw h6]
  simp only [bi_e]
  by_cases h : N 3 = 0
  · rw [if_pos h, if_pos h, x_jobAt_9 hX]; rfl
  · have hj := w6 0 (by omega)
    rw [Nat.add_zero] at hj
    obtain ⟨b1, b2, b3, b4, b5, b6, b7⟩ := hB.2.2.2 (N 13) hj
    obtain ⟨a1, a2, a3, a4, a5, a6, a7⟩ := hX.2.2 (N 13) hj
    have hk := w8 (N 13) (by omega)
    have hbn := bno_lt (j := N 13) (k := N (19 + N 13)) hB
    have hnb := hB.2.2.1
    have hsd := sds_in (J := J) (j := N 13) (k := N (19 + N 13))
    rw [if_neg h, if_neg h, x_jobAt hB hX hj]
    simp (disch := omega) only [bi_e, oc_s, gd_71]
    unfold m_X2_madeOf
    rw [x_at (k := 5) (n := 6) rfl (by omega) (by omega) (by omega), s5 (N 13) (by omega)]
    simp only [bi_e]
    rw [a5, x_at (k := 7) (n := 3) rfl (by omega) (by omega) (by omega), s7 _ (by omega)]
    simp only [bi_e]
    have t1 := w4 (J 4 (N 13)) (by omega)
    have t2 := w5 (bno nb J (N 13) (N (19 + N 13))) (by omega)
    by_cases h1 : N (4 + J 4 (N 13)) = 0
    · rw [if_pos h1, lt_f (by omega) (by omega)]
    · rw [if_neg h1, lt_t (by omega) (by omega), x_sides hB hX hj (by omega), s1]
      simp only [bi_e]
      by_cases h2 : N 1 < sds J (N 13) (N (19 + N 13))
      · rw [if_pos h2, lt_t (by omega) h2]
      · rw [if_neg h2, lt_f (by omega) (by omega), x_bin hB hX hj (by omega)]
        simp only [bi_e]
        rw [x_at (k := 8) (n := 6) rfl (by omega) (by omega) (by omega), s8 _ (by omega)]
        simp only [bi_e]
        by_cases h4 : N (7 + bno nb J (N 13) (N (19 + N 13))) = 20
        · rw [if_pos h4, lt_f (by omega) (by omega)]
        · rw [if_neg h4, lt_t (by omega) (by omega)]
theorem m_stands (hB : JB nj nb J) (hM : JM m nj nb J) (hS : SM m 105 0 N) (hw : WN nj J N) : m_X7_stands m = some (nI (stn nb J N)) := by
  obtain ⟨w1, w2, w3, w4, w5, w6, w7, w8, w9, w10⟩ := id hw
  have h6 := hB.1
  unfold m_X7_stands stn
  rw [gd_inb (by omega) (by omega), n_cl (by omega), hS.z (by omega)]
  by_cases h : N 3 = 0
  · rw [if_pos h, eq_t h]
  · have hj := w6 0 (by omega)
    rw [Nat.add_zero] at hj
    obtain ⟨b1, b2, b3, b4, b5, b6, b7⟩ := hB.2.2.2 (N 13) hj
    obtain ⟨a1, a2, a3, a4, a5⟩ := hM.2.2 (N 13) hj
    have hk := w8 (N 13) (by omega)
    have hbn := bno_lt (j := N 13) (k := N (19 + N 13)) hB
    have hnb := hB.2.2.1
    have hsd := sds_in (J := J) (j := N 13) (k := N (19 + N 13))
    have t1 := w4 (J 4 (N 13)) (by omega)
    have t2 := w5 (bno nb J (N 13) (N (19 + N 13))) (by omega)
    rw [if_neg h, eq_f (by omega) (by omega) h, gd_inb (by omega) (by omega), n_cl (by omega), hS.z (by omega), bd_e, n_add, gd_inb (by omega) (by omega), n_cl (by omega), hS.z (by omega), bd_e, gd_inb (by omega) (by omega), n_cl (by omega), a5, n_add, gd_inb (by omega) (by omega), n_cl (by omega), hS.z (by omega)]
    by_cases h1 : N (4 + J 4 (N 13)) = 0
    · rw [if_pos h1, eq_t h1]
    · rw [if_neg h1, eq_f (by omega) (by omega) h1, gd_inb (by omega) (by omega), m_sides hB hM hj (by omega), n_cl (by omega), hS.z (by omega)]
      simp only [bi_e]
      by_cases h2 : N 1 < sds J (N 13) (N (19 + N 13))
      · rw [if_pos h2, lt_t (by omega) h2]
      · rw [if_neg h2, lt_f (by omega) (by omega), m_bin hB hM hj (by omega)]
        simp only [bi_e]
        rw [n_add, gd_inb (by omega) (by omega), n_cl (by omega), hS.z (by omega)]
        by_cases h4 : N (7 + bno nb J (N 13) (N (19 + N 13))) = 20
        · rw [if_pos h4, eq_t h4]
        · rw [if_neg h4, eq_f (by omega) (by omega) h4]
end SNAP
