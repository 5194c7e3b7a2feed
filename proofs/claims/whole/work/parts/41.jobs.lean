/-! jobs: what a job's numbers say of its sheets, on both sides -/
def JB (nj nb : Nat) (J : Nat → Nat → Nat) : Prop := nj ≤ 6 ∧ 1 ≤ nb ∧ nb ≤ 6 ∧ ∀ j, j < nj → 1 ≤ J 0 j ∧ J 0 j ≤ 9 ∧ 1 ≤ J 1 j ∧ J 1 j ≤ 9 ∧ J 2 j ≤ 1 ∧ J 3 j ≤ 1 ∧ J 4 j ≤ 2
def lvs (J : Nat → Nat → Nat) (j : Nat) : Nat := if J 2 j = 1 then (J 0 j + 1) / 2 else J 0 j
def al (J : Nat → Nat → Nat) (j : Nat) : Nat := lvs J j * J 1 j
def leaf (J : Nat → Nat → Nat) (j k : Nat) : Nat := if J 3 j = 1 then k % lvs J j else k / J 1 j
def cpy (J : Nat → Nat → Nat) (j k : Nat) : Nat := if J 3 j = 1 then k / lvs J j else k % J 1 j
def frt (J : Nat → Nat → Nat) (j k : Nat) : Nat := if J 2 j = 1 then 2 * leaf J j k + 1 else leaf J j k + 1
def bck (J : Nat → Nat → Nat) (j k : Nat) : Nat := if J 2 j = 1 ∧ 2 * leaf J j k + 2 ≤ J 0 j then 2 * leaf J j k + 2 else 0
def sds (J : Nat → Nat → Nat) (j k : Nat) : Nat := if bck J j k = 0 then 1 else 2
def bno (nb : Nat) (J : Nat → Nat → Nat) (j k : Nat) : Nat := (if J 3 j = 1 then cpy J j k else leaf J j k) % nb
def JX (x : zG) (p nj nb : Nat) (J : Nat → Nat → Nat) : Prop := gi x 12 p 0 = nI nj ∧ gi x 11 p 0 = nI nb ∧ ∀ j, j < nj → gi x 20 (6 * p + j) 0 = nI (J 0 j) ∧ gi x 21 (6 * p + j) 0 = nI (J 1 j) ∧ gi x 22 (6 * p + j) 0 = nI (J 2 j) ∧ gi x 23 (6 * p + j) 0 = nI (J 3 j) ∧ gi x 24 (6 * p + j) 0 = nI (J 4 j) ∧ gi x 25 (6 * p + j) 0 = nI (lvs J j) ∧ gi x 26 (6 * p + j) 0 = nI (if J 3 j = 1 then lvs J j else J 1 j)
def JM (m : zG) (nj nb : Nat) (J : Nat → Nat → Nat) : Prop := gi m 120 0 0 = nI nj ∧ gi m 121 0 0 = nI nb ∧ ∀ j, j < nj → gi m 100 0 j = nI (J 0 j) ∧ gi m 101 0 j = nI (J 1 j) ∧ gi m 102 0 j = nI (J 2 j) ∧ gi m 103 0 j = nI (J 3 j) ∧ gi m 104 0 j = nI (J 4 j)
section JOBS
variable {x m : zG} {p nj nb j k : Nat} {J : Nat → Nat → Nat}
theorem lvs_in (hB : JB nj nb J) (hj : j < nj) : 1 ≤ lvs J j ∧ lvs J j ≤ 9 := by
  obtain ⟨h1, h2, h3, h4⟩ := hB
  obtain ⟨a1, a2, a3, a4, a5, a6, a7⟩ := h4 j hj
  unfold lvs; split <;> omega
theorem al_in (hB : JB nj nb J) (hj : j < nj) : 1 ≤ al J j ∧ al J j ≤ 81 := by
  have h1 := lvs_in hB hj
  obtain ⟨a1, a2, a3, a4, a5, a6, a7⟩ := hB.2.2.2 j hj
  unfold al
  refine ⟨Nat.mul_pos h1.1 a3, ?_⟩
  have := Nat.mul_le_mul h1.2 a4
  omega
theorem leaf_le (hk : k < 1000000) : leaf J j k ≤ k := by
  unfold leaf; split
  · exact Nat.mod_le _ _
  · exact Nat.div_le_self _ _
theorem cpy_le (hk : k < 1000000) : cpy J j k ≤ k := by
  unfold cpy; split
  · exact Nat.div_le_self _ _
  · exact Nat.mod_le _ _
theorem bno_lt (hB : JB nj nb J) : bno nb J j k < nb := Nat.mod_lt _ hB.2.1
theorem sds_in : 1 ≤ sds J j k ∧ sds J j k ≤ 2 := by unfold sds; split <;> omega
theorem x_all (hX : JX x p nj nb J) (hj : j < nj) : m_X1_all x (6 * p + j) = some (nI (al J j)) := by
  obtain ⟨h1, h2, h3⟩ := hX
  obtain ⟨a1, a2, a3, a4, a5, a6, a7⟩ := h3 j hj
  simp only [m_X1_all, a6, a2, n_mul, al]
theorem x_leaf (hB : JB nj nb J) (hX : JX x p nj nb J) (hj : j < nj) (hk : k < 1000000) : m_X1_leafOf x (6 * p + j) (nI k) = some (nI (leaf J j k)) := by
  obtain ⟨h1, h2, h3⟩ := hX
  obtain ⟨a1, a2, a3, a4, a5, a6, a7⟩ := h3 j hj
  obtain ⟨b1, b2, b3, b4, b5, b6, b7⟩ := hB.2.2.2 j hj
  have hl := lvs_in hB hj
  unfold m_X1_leafOf leaf
  rw [a7, a4]
  by_cases hs : J 3 j = 1
  · simp only [hs, if_true]
    rw [n_rem (by omega) (by omega) (by omega)]
    simp (disch := omega) only [lt_t, eq_f, gd_nz]
  · simp only [hs, if_false]
    simp (disch := omega) only [lt_t, eq_t, gd_nz, n_div]
theorem x_copy (hB : JB nj nb J) (hX : JX x p nj nb J) (hj : j < nj) (hk : k < 1000000) : m_X1_copyOf x (6 * p + j) (nI k) = some (nI (cpy J j k)) := by
  obtain ⟨h1, h2, h3⟩ := hX
  obtain ⟨a1, a2, a3, a4, a5, a6, a7⟩ := h3 j hj
  obtain ⟨b1, b2, b3, b4, b5, b6, b7⟩ := hB.2.2.2 j hj
  have hl := lvs_in hB hj
  unfold m_X1_copyOf cpy
  rw [a7, a4]
  by_cases hs : J 3 j = 1
  · simp only [hs, if_true]
    simp (disch := omega) only [lt_t, eq_f, gd_nz, n_div]
  · simp only [hs, if_false]
    rw [n_rem (by omega) (by omega) (by omega)]
    simp (disch := omega) only [lt_t, eq_t, gd_nz]
theorem x_front (hB : JB nj nb J) (hX : JX x p nj nb J) (hj : j < nj) (hk : k < 1000000) : m_X1_frontOf x (6 * p + j) (nI k) = some (nI (frt J j k)) := by
  obtain ⟨a1, a2, a3, a4, a5, a6, a7⟩ := hX.2.2 j hj
  obtain ⟨b1, b2, b3, b4, b5, b6, b7⟩ := hB.2.2.2 j hj
  unfold m_X1_frontOf frt
  rw [a3, x_leaf hB hX hj hk]
  by_cases hs : J 2 j = 1
  · simp (disch := omega) only [hs, if_true, eq_f, bi_e, n_mul, n_add]
  · simp (disch := omega) only [hs, if_false, eq_t, bi_e, n_add]
theorem x_back (hB : JB nj nb J) (hX : JX x p nj nb J) (hj : j < nj) (hk : k < 1000000) : m_X1_backOf x (6 * p + j) (nI k) = some (nI (bck J j k)) := by
  obtain ⟨a1, a2, a3, a4, a5, a6, a7⟩ := hX.2.2 j hj
  obtain ⟨b1, b2, b3, b4, b5, b6, b7⟩ := hB.2.2.2 j hj
  have hle := leaf_le (J := J) (j := j) hk
  unfold m_X1_backOf bck
  rw [a3, a1, x_leaf hB hX hj hk]
  simp only [bi_e, n_mul, n_add]
  by_cases hs : J 2 j = 1
  · by_cases hp : 2 * leaf J j k + 2 ≤ J 0 j
    · simp (disch := omega) only [hs, hp, and_self, if_true, eq_f, lt_f]
    · simp (disch := omega) only [hs, hp, and_false, if_false, eq_f, lt_t]
  · simp (disch := omega) only [hs, false_and, if_false, eq_t]
theorem bck_le (hk : k < 1000000) : bck J j k ≤ 2 * k + 2 := by
  have hle := leaf_le (J := J) (j := j) hk
  unfold bck; split <;> omega
theorem x_sides (hB : JB nj nb J) (hX : JX x p nj nb J) (hj : j < nj) (hk : k < 1000000) : m_X1_sidesOf x (6 * p + j) (nI k) = some (nI (sds J j k)) := by
  have hb := bck_le (J := J) (j := j) hk
  unfold m_X1_sidesOf sds
  rw [x_back hB hX hj hk]
  simp only [bi_e]
  by_cases h0 : bck J j k = 0
  · simp (disch := omega) only [h0, if_true, eq_t]
  · simp (disch := omega) only [h0, if_false, eq_f]
theorem x_bin (hB : JB nj nb J) (hX : JX x p nj nb J) (hj : j < nj) (hk : k < 1000000) : m_X3_binOf x p (6 * p + j) (nI k) = some (nI (bno nb J j k)) := by
  obtain ⟨a1, a2, a3, a4, a5, a6, a7⟩ := hX.2.2 j hj
  obtain ⟨b1, b2, b3, b4, b5, b6, b7⟩ := hB.2.2.2 j hj
  obtain ⟨c1, c2, c3, c4⟩ := hB
  have hB : JB nj nb J := ⟨c1, c2, c3, c4⟩
  have hle := leaf_le (J := J) (j := j) hk
  have hlc := cpy_le (J := J) (j := j) hk
  unfold m_X3_binOf bno m_X3_binOf_B20
  rw [a4, x_leaf hB hX hj hk, x_copy hB hX hj hk, hX.2.1]
  simp only [bi_e]
  by_cases hs : J 3 j = 1
  · rw [n_rem (a := cpy J j k) (by omega) (by omega) (by omega)]
    simp (disch := omega) only [hs, if_true, eq_f, lt_t, gd_nz]
  · rw [n_rem (a := leaf J j k) (by omega) (by omega) (by omega)]
    simp (disch := omega) only [hs, if_false, eq_t, lt_t, gd_nz]
end JOBS
