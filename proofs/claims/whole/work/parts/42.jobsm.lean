/-! jobs of the reference -/
section JOBSM
variable {m : zG} {nj nb j k : Nat} {J : Nat → Nat → Nat}
theorem m_leaves (hB : JB nj nb J) (hM : JM m nj nb J) (hj : j < nj) : m_X7_leaves m (nI j) = some (nI (lvs J j)) := by
  obtain ⟨a1, a2, a3, a4, a5⟩ := hM.2.2 j hj
  obtain ⟨b1, b2, b3, b4, b5, b6, b7⟩ := hB.2.2.2 j hj
  have c1 := hB.1
  unfold m_X7_leaves lvs
  rw [n_cl (by omega), a3, a1]
  by_cases hs : J 2 j = 1
  · simp (disch := omega) only [hs, if_true, gd_inb, eq_t, gd_n2, n_add, n_div]
  · simp (disch := omega) only [hs, if_false, gd_inb, eq_f]
theorem m_all (hB : JB nj nb J) (hM : JM m nj nb J) (hj : j < nj) : m_X7_allOf m (nI j) = some (nI (al J j)) := by
  obtain ⟨a1, a2, a3, a4, a5⟩ := hM.2.2 j hj
  have c1 := hB.1
  unfold m_X7_allOf al
  rw [m_leaves hB hM hj, n_cl (by omega), a2]
  simp (disch := omega) only [bi_e, gd_inb, n_mul]
theorem m_copy (hB : JB nj nb J) (hM : JM m nj nb J) (hj : j < nj) (hk : k < 1000000) : m_X7_copyOf m (nI j) (nI k) = some (nI (cpy J j k)) := by
  obtain ⟨a1, a2, a3, a4, a5⟩ := hM.2.2 j hj
  obtain ⟨b1, b2, b3, b4, b5, b6, b7⟩ := hB.2.2.2 j hj
  have c1 := hB.1
  have hl := lvs_in hB hj
  unfold m_X7_copyOf cpy
  rw [m_leaves hB hM hj, n_cl (by omega), a2, a4]
  by_cases hs : J 3 j = 1
  · simp (disch := omega) only [hs, if_true, gd_inb, eq_t, bi_e, gd_nz, n_div]
  · rw [n_rem (by omega) (by omega) (by omega)]
    simp (disch := omega) only [hs, if_false, gd_inb, eq_f, gd_nz]
theorem m_leaf (hB : JB nj nb J) (hM : JM m nj nb J) (hj : j < nj) (hk : k < 1000000) : m_X7_leafOf m (nI j) (nI k) = some (nI (leaf J j k)) := by
  obtain ⟨a1, a2, a3, a4, a5⟩ := hM.2.2 j hj
  obtain ⟨b1, b2, b3, b4, b5, b6, b7⟩ := hB.2.2.2 j hj
  have c1 := hB.1
  have hl := lvs_in hB hj
  unfold m_X7_leafOf leaf
  rw [m_leaves hB hM hj, n_cl (by omega), a2, a4]
  by_cases hs : J 3 j = 1
  · simp only [bi_e]
    rw [n_rem (by omega) (by omega) (by omega)]
    simp (disch := omega) only [hs, if_true, gd_inb, eq_t, gd_nz]
  · simp (disch := omega) only [hs, if_false, gd_inb, eq_f, gd_nz, n_div]
theorem m_front (hB : JB nj nb J) (hM : JM m nj nb J) (hj : j < nj) (hk : k < 1000000) : m_X7_frontOf m (nI j) (nI k) = some (nI (frt J j k)) := by
  obtain ⟨a1, a2, a3, a4, a5⟩ := hM.2.2 j hj
  obtain ⟨b1, b2, b3, b4, b5, b6, b7⟩ := hB.2.2.2 j hj
  have c1 := hB.1
  unfold m_X7_frontOf frt
  rw [m_leaf hB hM hj hk, n_cl (by omega), a3]
  by_cases hs : J 2 j = 1
  · simp (disch := omega) only [hs, if_true, gd_inb, eq_t, bi_e, n_mul, n_add]
  · simp (disch := omega) only [hs, if_false, gd_inb, eq_f, bi_e, n_add]
theorem m_back (hB : JB nj nb J) (hM : JM m nj nb J) (hj : j < nj) (hk : k < 1000000) : m_X7_backOf m (nI j) (nI k) = some (nI (bck J j k)) := by
  obtain ⟨a1, a2, a3, a4, a5⟩ := hM.2.2 j hj
  obtain ⟨b1, b2, b3, b4, b5, b6, b7⟩ := hB.2.2.2 j hj
  have c1 := hB.1
  have hle := leaf_le (J := J) (j := j) hk
  unfold m_X7_backOf bck
  rw [m_front hB hM hj hk, n_cl (by omega), a3, a1]
  simp only [bi_e, n_add]
  by_cases hs : J 2 j = 1
  · simp only [frt, hs, if_true, true_and]
    by_cases hp : 2 * leaf J j k + 2 ≤ J 0 j
    · simp (disch := omega) only [hp, if_true, gd_inb, eq_t, lt_f]
    · simp (disch := omega) only [hp, if_false, gd_inb, eq_t, lt_t]
  · simp (disch := omega) only [hs, false_and, if_false, gd_inb, eq_f]
theorem m_sides (hB : JB nj nb J) (hM : JM m nj nb J) (hj : j < nj) (hk : k < 1000000) : m_X7_sidesOf m (nI j) (nI k) = some (nI (sds J j k)) := by
  have hb := bck_le (J := J) (j := j) hk
  unfold m_X7_sidesOf sds
  rw [m_back hB hM hj hk]
  simp only [bi_e]
  by_cases h0 : bck J j k = 0
  · simp (disch := omega) only [h0, if_true, lt_f]
  · simp (disch := omega) only [h0, if_false, lt_t]
theorem m_bin (hB : JB nj nb J) (hM : JM m nj nb J) (hj : j < nj) (hk : k < 1000000) : m_X7_binOf m (nI j) (nI k) = some (nI (bno nb J j k)) := by
  obtain ⟨a1, a2, a3, a4, a5⟩ := hM.2.2 j hj
  obtain ⟨b1, b2, b3, b4, b5, b6, b7⟩ := hB.2.2.2 j hj
  obtain ⟨c1, c2, c3, c4⟩ := id hB
  have hle := leaf_le (J := J) (j := j) hk
  have hlc := cpy_le (J := J) (j := j) hk
  unfold m_X7_binOf bno
  rw [m_leaf hB hM hj hk, m_copy hB hM hj hk, n_cl (by omega), a4, hM.2.1]
  simp only [bi_e]
  by_cases hs : J 3 j = 1
  · rw [n_rem (a := cpy J j k) (by omega) (by omega) (by omega)]
    simp (disch := omega) only [hs, if_true, gd_inb, eq_t, gd_nz]
  · rw [n_rem (a := leaf J j k) (by omega) (by omega) (by omega)]
    simp (disch := omega) only [hs, if_false, gd_inb, eq_f, gd_nz]
end JOBSM
/-! the tests of arguments -/
theorem m_in (a b c : Int64) : m_X7_in a b c = some (if b ≤ a ∧ a ≤ c then nI 1 else nI 0) := by
  unfold m_X7_in
  obtain ⟨e1, -, -⟩ := in_cmp a b
  obtain ⟨-, e2, -⟩ := in_cmp a c
  have n0 : nI 0 = 0 := rfl
  rw [n0]
  by_cases h1 : a < b
  · have h2 : ¬ b ≤ a := fun q => by have := Int64.lt_iff_toInt_lt.mp h1; have := Int64.le_iff_toInt_le.mp q; omega
    rw [if_pos (e1 ▸ h1), if_neg (fun q => h2 q.1)]
  · have h2 : b ≤ a := Int64.le_iff_toInt_le.mpr (by have : ¬ a.toInt < b.toInt := fun q => h1 (Int64.lt_iff_toInt_lt.mpr q); omega)
    rw [if_neg (by rw [e1]; exact h1)]
    by_cases h3 : c < a
    · have h4 : ¬ a ≤ c := fun q => by have := Int64.lt_iff_toInt_lt.mp h3; have := Int64.le_iff_toInt_le.mp q; omega
      rw [if_pos (e2 ▸ h3), if_neg (fun q => h4 q.2)]
    · have h4 : a ≤ c := Int64.le_iff_toInt_le.mpr (by have : ¬ c.toInt < a.toInt := fun q => h3 (Int64.lt_iff_toInt_lt.mpr q); omega)
      rw [if_neg (by rw [e2]; exact h3), if_pos ⟨h2, h4⟩]
theorem w_le (a b : Int32) : (a.toInt64 ≤ b.toInt64) ↔ (a.toInt ≤ b.toInt) := by
  rw [Int64.le_iff_toInt_le, Int32.toInt_toInt64, Int32.toInt_toInt64]
/-- an argument that the reference tests: in range, as a number; or out of it -/
theorem m_in_t {j : Nat} {lo hi : Int64} {l h : Nat} (hlo : lo.toInt = l) (hhi : hi.toInt = h) (hj : j < 2147483648) (h1 : l ≤ j) (h2 : j ≤ h) : m_X7_in (Int32.toInt64 (nI j)) lo hi = some (nI 1) := by
  rw [m_in, if_pos]
  have e := nI_toInt hj
  constructor <;> rw [Int64.le_iff_toInt_le, Int32.toInt_toInt64] <;> omega
theorem m_in_f {a : Int32} {lo hi : Int64} (h : a.toInt < lo.toInt ∨ hi.toInt < a.toInt) : m_X7_in (Int32.toInt64 a) lo hi = some (nI 0) := by
  rw [m_in, if_neg]
  intro q
  have q1 := Int64.le_iff_toInt_le.mp q.1
  have q2 := Int64.le_iff_toInt_le.mp q.2
  rw [Int32.toInt_toInt64] at q1 q2
  omega
