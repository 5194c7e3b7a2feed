/-! THE PURE PART: no machine from here on. Numbers first. -/
theorem n_lt {a b : Nat} (ha : a < 2147483648) (hb : b < 2147483648) : (nI a < nI b) = (a < b) := propext (nI_ltI ha hb)
theorem n_eq {a b : Nat} (ha : a < 2147483648) (hb : b < 2147483648) : (nI a = nI b) = (a = b) := propext (nI_eq ha hb)
theorem n_add (a b : Nat) : nI a + nI b = nI (a + b) := nI_add a b
theorem n_sub {a b : Nat} (h : b ≤ a) : nI a - nI b = nI (a - b) := pk_sub h
theorem n_mul (a b : Nat) : nI a * nI b = nI (a * b) := pk_mul a b
theorem n_div {a d : Nat} (ha : a < 2147483648) (h0 : 0 < d) (hd : d < 2147483648) : nI a / nI d = nI (a / d) := pk_div ha h0 hd
theorem n_rem {a d : Nat} (ha : a < 2147483648) (h0 : 0 < d) (hd : d < 2147483648) : nI a - nI a / nI d * nI d = nI (a % d) := pk_rem ha h0 hd
theorem n_cl {a : Nat} (h : a < 2147483648) : (nI a).toNatClampNeg = a := nI_clamp h
theorem n_inb {a n : Nat} (h : a < 2147483648) : (inb (nI a) n = true) = (a < n) := by
  unfold inb
  rw [n_cl h, decide_eq_true_eq]
  have h0 : ¬ nI a < 0 := nI_pos h
  apply propext
  constructor
  · intro q; exact Nat.not_le.mp fun q2 => q (Or.inr q2)
  · intro q q2; rcases q2 with q2 | q2
    · exact h0 q2
    · omega
theorem n_isb {a : Nat} (h : a < 2147483648) : (isb (nI a) = true) = (a ≤ 1) := by
  unfold isb
  rw [decide_eq_true_eq]
  have e0 : (nI a = 0) = (a = 0) := n_eq (b := 0) h (by omega)
  have e1 : (nI a = 1) = (a = 1) := n_eq (b := 1) h (by omega)
  rw [e0, e1]
  apply propext; omega
theorem n_ne9 {a : Nat} (h : a < 2147483648) : (nI a = -9) = False := by
  apply propext; constructor
  · intro e
    have h1 := nI_toInt h
    rw [e] at h1
    have h2 : ((-9 : Int32)).toInt = -9 := rfl
    omega
  · intro e; exact e.elim
theorem n_z {a : Nat} (h : a < 2147483648) : (nI a = 0) = (a = 0) := n_eq (b := 0) h (by omega)
theorem n_dmz {a : Nat} (h : a < 2147483648) (h0 : 0 < a) : (¬ (nI a : Int32) = 0) = True := by rw [n_z h]; apply propext; constructor <;> intro; trivial; omega
theorem gd_t {c : Prop} [Decidable c] {ρ : Type} {M : Option ρ} (h : c) : gd c M = M := if_pos h
theorem bd_e {α β : Type} (a : α) (f : α → β) : bd a f = f a := rfl
theorem bi_e {α β : Type} (a : α) (f : α → Option β) : (some a).bind f = f a := rfl
theorem sb_e {ρ : Type} (r : Int32) (g : zG) (f : Int32 → zG → Option ρ) : sb (some (r, g)) f = f r g := rfl
theorem oc_n {ρ : Type} (a : Option ρ) (f : Nat → Option ρ) : oc none a f = a := rfl
theorem oc_s {ρ : Type} (i : Nat) (a : Option ρ) (f : Nat → Option ρ) : oc (some i) a f = f i := rfl
theorem n_9lt0 : ((-9 : Int32) < nI 0) = True := by decide
theorem n_0lt9 : (nI 0 < (-9 : Int32)) = False := by decide
theorem n_99 : ((-9 : Int32) = -9) = True := by decide
theorem n_90 : ((-9 : Int32) = nI 0) = False := by decide
/-- an int: below 0, or a number -/
theorem n_cases (x : Int32) : x < nI 0 ∨ ∃ j : Nat, j < 2147483648 ∧ x = nI j := by
  by_cases h : x < 0
  · exact Or.inl h
  · obtain ⟨j, h1, h2⟩ := nI_of h
    exact Or.inr ⟨j, h1, h2⟩
theorem n_neg {x : Int32} (h : x < nI 0) {j : Nat} (hj : j < 2147483648) : (nI j < x) = False ∧ (x = nI j) = False ∧ (x < nI j) = True := by
  have e0 : (nI 0).toInt = 0 := nI_toInt (n := 0) (by omega)
  have h1 : x.toInt < 0 := by have := Int32.lt_iff_toInt_lt.mp h; omega
  have h2 := nI_toInt hj
  refine ⟨?_, ?_, ?_⟩
  · apply propext; constructor
    · intro q; have := Int32.lt_iff_toInt_lt.mp q; omega
    · intro q; exact q.elim
  · apply propext; constructor
    · intro q; rw [q] at h1; omega
    · intro q; exact q.elim
  · apply propext; constructor
    · intro; trivial
    · intro; exact Int32.lt_iff_toInt_lt.mpr (by omega)
theorem in_cmp (a b : Int64) : (lg_cmp a b < 0) = (a < b) ∧ (0 < lg_cmp a b) = (b < a) ∧ (lg_cmp a b = 0) = (a = b) := by
  unfold lg_cmp
  have hL : ∀ x y : Int64, x < y → ¬ y < x ∧ ¬ x = y := by
    intro x y h
    have := Int64.lt_iff_toInt_lt.mp h
    refine ⟨fun q => ?_, fun q => ?_⟩
    · have := Int64.lt_iff_toInt_lt.mp q; omega
    · rw [q] at this; omega
  by_cases h1 : a < b
  · obtain ⟨h2, h3⟩ := hL a b h1
    simp [h1, h2, h3]
  · by_cases h2 : b < a
    · obtain ⟨h3, h4⟩ := hL b a h2
      have h5 : ¬ a = b := fun q => h4 q.symm
      simp [h1, h2, h5]
    · have h3 : a = b := by
        apply Int64.toInt_inj.mp
        have e1 : ¬ a.toInt < b.toInt := fun q => h1 (Int64.lt_iff_toInt_lt.mpr q)
        have e2 : ¬ b.toInt < a.toInt := fun q => h2 (Int64.lt_iff_toInt_lt.mpr q)
        omega
      subst h3
      simp [h1]
/-! guards and branches that are decided by what is known of numbers -/
theorem gd_inb {a n : Nat} {ρ : Type} {M : Option ρ} (h1 : a < 2147483648) (h : a < n) : gd (inb (nI a) n = true) M = M := gd_t (by rw [n_inb h1]; exact h)
theorem gd_nz {a : Nat} {ρ : Type} {M : Option ρ} (h1 : a < 2147483648) (h : 0 < a) : gd (¬ (nI a : Int32) = 0) M = M := gd_t (by rw [n_z h1]; omega)
theorem gd_nz2 {ρ : Type} {M : Option ρ} : gd (¬ (2 : Int32) = 0) M = M := gd_t (by decide)
theorem gd_n2 {ρ : Type} {M : Option ρ} : gd (¬ (nI 2 : Int32) = 0) M = M := gd_t (by decide)
theorem gd_isb {a : Nat} {ρ : Type} {M : Option ρ} (h : a ≤ 1) : gd (isb (nI a) = true) M = M := gd_t (by rw [n_isb (by omega)]; exact h)
theorem gd_70 {n : Nat} {ρ : Type} {M : Option ρ} (h : n < 3) : gd (n < dm 70) M = M := gd_t h
theorem gd_71 {n : Nat} {ρ : Type} {M : Option ρ} (h : n < 12) : gd (n < dm 71) M = M := gd_t h
theorem gd_72 {n : Nat} {ρ : Type} {M : Option ρ} (h : n < 34) : gd (n < dm 72) M = M := gd_t h
theorem gd_73 {n : Nat} {ρ : Type} {M : Option ρ} (h : n < 2) : gd (n < dm 73) M = M := gd_t h
theorem lt_t {a b : Nat} {ρ : Type} {M1 M2 : ρ} (hb : b < 2147483648) (h : a < b) : (if nI a < nI b then M1 else M2) = M1 := if_pos (nI_lt h hb)
theorem lt_f {a b : Nat} {ρ : Type} {M1 M2 : ρ} (ha : a < 2147483648) (h : b ≤ a) : (if nI a < nI b then M1 else M2) = M2 := if_neg (nI_nlt h ha)
theorem eq_t {a b : Nat} {ρ : Type} {M1 M2 : ρ} (h : a = b) : (if nI a = nI b then M1 else M2) = M1 := if_pos (by rw [h])
theorem eq_f {a b : Nat} {ρ : Type} {M1 M2 : ρ} (ha : a < 2147483648) (hb : b < 2147483648) (h : ¬ a = b) : (if nI a = nI b then M1 else M2) = M2 := if_neg (by rw [n_eq ha hb]; exact h)
theorem eq9_f {a : Nat} {ρ : Type} {M1 M2 : ρ} (ha : a < 2147483648) : (if nI a = -9 then M1 else M2) = M2 := if_neg (by rw [n_ne9 ha]; exact id)
theorem eq9_t {ρ : Type} {M1 M2 : ρ} : (if (-9 : Int32) = -9 then M1 else M2) = M1 := if_pos rfl
theorem eq90_f {ρ : Type} {M1 M2 : ρ} : (if (-9 : Int32) = nI 0 then M1 else M2) = M2 := if_neg (by decide)
theorem lt90_t {ρ : Type} {M1 M2 : ρ} : (if (-9 : Int32) < nI 0 then M1 else M2) = M1 := if_pos (by decide)
theorem lt09_f {ρ : Type} {M1 M2 : ρ} : (if nI 0 < (-9 : Int32) then M1 else M2) = M2 := if_neg (by decide)
