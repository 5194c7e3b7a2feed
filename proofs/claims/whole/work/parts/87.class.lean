/-! the constructor of CopierJobs: its block, and the world that it is -/
def gxx : zG := (fun f _ _ => if f = 20 then nI 1 else if f = 21 then nI 1 else if f = 25 then nI 1 else if f = 26 then nI 1 else if f = 10 then nI 200 else if f = 11 then nI 4 else if f = 16 then nI 20 else nI 0, fun _ => 0, fun n => n)
theorem f_X0_len (z : zE) (a : Nat) : (f_X0 z a).length = 68 := L_X0_len z a 10
def S4 (z : zE) (a : Nat) : List va_E := f_X5 z (a + 1) ++ f_X0 z (a + 3) ++ f_X2 z (a + 71) ++ f_X4 z (a + 77)
theorem S2_len (z : zE) (a : Nat) : (f_X5 z (a + 1) ++ f_X0 z (a + 3)).length = 70 := by rw [List.length_append, f_X0_len]; rfl
theorem S3_len (z : zE) (a : Nat) : (f_X5 z (a + 1) ++ f_X0 z (a + 3) ++ f_X2 z (a + 71)).length = 76 := by rw [List.length_append, S2_len]; rfl
theorem S4_len (z : zE) (a : Nat) : (S4 z a).length = 81 := by unfold S4; rw [List.length_append, S3_len]; rfl
def ar2 (z : zE) (b k : Nat) : va_E := .inl (zc z 2, 2, .inr (.inr (.inr (.inr (fun j => if j < k then some (b + 68 * j) else none)))))
theorem ar2_0 (b : Nat) : (fun j => if j < 0 then some (b + 68 * j) else (none : Option Nat)) = fun _ => none := by
  funext j; rw [if_neg (Nat.not_lt_zero j)]
theorem ar2_s (b k n : Nat) (hn : n = k) : va_up (fun j => if j < k then some (b + 68 * j) else (none : Option Nat)) n (some (b + 68 * k)) = fun j => if j < k + 1 then some (b + 68 * j) else none := by
  subst hn
  funext j
  unfold va_up
  by_cases h : j = n
  · rw [if_pos h, if_pos (by omega), h]
  · rw [if_neg h]
    show (if j < n then some (b + 68 * j) else none) = _
    by_cases h2 : j < n
    · rw [if_pos h2, if_pos (by omega)]
    · rw [if_neg h2, if_neg (by omega)]
abbrev kz (z : zE) : va_E := .inl (zc z 1, 2, .inl (fun _ => nI 0))
def crs (z : zE) (b : Nat) : Nat → List va_E
  | 0 => []
  | k + 1 => crs z b k ++ f_X0 z (b + 68 * k)
theorem crs_len (z : zE) (b : Nat) : ∀ k, (crs z b k).length = 68 * k := by
  intro k
  induction k with
  | zero => rfl
  | succ k ih =>
    show (crs z b k ++ f_X0 z (b + 68 * k)).length = _
    rw [List.length_append, ih, f_X0_len]; omega
abbrev t6 (a : Nat) : va_E := .inr (6, [.ref (a + 1), .ref (a + 3), .ref (a + 71), .ref (a + 77), .ref (a + 82), .ref (a + 83), .ref (a + 84), .ref (a + 94), .long 0])
abbrev z_X6 : va_E := .inr (6, [.null, .null, .null, .null, .null, .null, .null, .null, .long 0])
def B6 (z : zE) (a k : Nat) : List va_E := (t6 a :: S4 z a) ++ (ar2 z (a + 104) k :: kz z :: (f_X3 z (a + 84) ++ (f_X3 z (a + 94) ++ crs z (a + 104) k)))
theorem T4_len (z : zE) (a : Nat) (x : va_E) : (x :: S4 z a).length = 82 := by rw [List.length_cons, S4_len]
theorem B6_len (z : zE) (a k : Nat) : (B6 z a k).length = 104 + 68 * k := by
  unfold B6
  rw [List.length_append, T4_len, List.length_cons, List.length_cons, List.length_append, List.length_append, crs_len]
  show 82 + (10 + (10 + 68 * k) + 1 + 1) = _
  omega
abbrev rm_X6_init : Room := { frames := 20, cells := 239, slots := 1559, locals := 1000 }
theorem ci_X6 : CI yX6_init cX6_init 2 := ⟨wC_X6_init, wI_X6_init, wZ_X6, rfl, by decide +kernel⟩
theorem d_X5 : ∀ j, j < 6 → defaultValue (tyX5 j) = vp_V [.null, .int (nI 0), .int (nI 0), .int (nI 0), .int (nI 0), .int (nI 0)] j := fun j hj => by
  rcases (show j = 0 ∨ j = 1 ∨ j = 2 ∨ j = 3 ∨ j = 4 ∨ j = 5 by omega) with rfl | rfl | rfl | rfl | rfl | rfl <;> rfl
theorem d_X0 : ∀ j, j < 4 → defaultValue (tyX0 j) = vp_V [.null, .null, .int (nI 0), .int (nI 0)] j := fun j hj => by
  rcases (show j = 0 ∨ j = 1 ∨ j = 2 ∨ j = 3 by omega) with rfl | rfl | rfl | rfl <;> rfl
theorem d_X4 : ∀ j, j < 5 → defaultValue (tyX4 j) = vp_V [.null, .null, .null, .int (nI 0), .null] j := fun j hj => by
  rcases (show j = 0 ∨ j = 1 ∨ j = 2 ∨ j = 3 ∨ j = 4 by omega) with rfl | rfl | rfl | rfl | rfl <;> rfl
theorem d_X3 : ∀ j, j < 9 → defaultValue (tyX3 j) = vp_V [.null, .int (nI 0), .int (nI 0), .null, .int (nI 0), .null, .int (nI 0), .int (nI 0), .int (nI 0)] j := fun j hj => by
  rcases (show j = 0 ∨ j = 1 ∨ j = 2 ∨ j = 3 ∨ j = 4 ∨ j = 5 ∨ j = 6 ∨ j = 7 ∨ j = 8 by omega) with rfl | rfl | rfl | rfl | rfl | rfl | rfl | rfl | rfl <;> rfl
theorem d_X6 : ∀ j, j < 9 → defaultValue (tyX6 j) = vp_V [.null, .null, .null, .null, .null, .null, .null, .null, .long 0] j := fun j hj => by
  rcases (show j = 0 ∨ j = 1 ∨ j = 2 ∨ j = 3 ∨ j = 4 ∨ j = 5 ∨ j = 6 ∨ j = 7 ∨ j = 8 by omega) with rfl | rfl | rfl | rfl | rfl | rfl | rfl | rfl | rfl <;> rfl
section ZZ
variable {D : va_G} {cA : Nat → ClassId} {sa : Nat → Nat} {a : Nat} {H : Heap}
theorem zz_W (h : BL (zz D cA sa a) a (B6 (zz D cA sa a) a 2) H) : Wd d2 (zz D cA sa a) (wx (zz D cA sa a) g00 gxx) H := by
  have h0 : SB (zz D cA sa a) a (B6 (zz D cA sa a) a 2) H := h.2
  unfold B6 at h0
  obtain ⟨ht, h4⟩ := h0.l.c
  have hr := h0.r (T4_len _ a _)
  obtain ⟨him, hr⟩ := hr.c
  obtain ⟨hkz, hr⟩ := hr.c
  have hp0 := hr.l
  have hr2 := hr.r (n := 10) rfl
  have hp1 := hr2.l
  have hr3 := hr2.r (n := 10) rfl
  have hr4 : SB (zz D cA sa a) (a + 82 + 1 + 1 + 10 + 10) (([] ++ f_X0 (zz D cA sa a) (a + 104 + 68 * 0)) ++ f_X0 (zz D cA sa a) (a + 104 + 68 * 1)) H := hr3
  have hc1 : SB (zz D cA sa a) (a + 104) (f_X0 (zz D cA sa a) (a + 104)) H := hr4.l
  have hc2 : SB (zz D cA sa a) (a + 172) (f_X0 (zz D cA sa a) (a + 172)) H := hr4.r (n := 68) (f_X0_len _ _)
  unfold S4 at h4
  have hse := h4.r (S3_len _ a)
  have hnw := h4.l.r (S2_len _ a)
  have hc0 : SB (zz D cA sa a) (a + 3) (f_X0 (zz D cA sa a) (a + 3)) H := h4.l.l.r (n := 2) rfl
  have htx := h4.l.l.l
  have hC : ∀ c, c < 3 → SB (zz D cA sa a) (a + cb c) (f_X0 (zz D cA sa a) (a + cb c)) H := fun c hc => by
    rcases (show c = 0 ∨ c = 1 ∨ c = 2 by omega) with rfl | rfl | rfl
    · exact hc0
    · exact hc1
    · exact hc2
  have hN : ∀ i, i < 34 → SB (zz D cA sa a) (a + no i) (f_X2 (zz D cA sa a) (a + no i)) H := fun i hi => by
    by_cases h33 : i = 33
    · subst h33; exact hnw
    · obtain ⟨-, h1, -, h2⟩ := sb_X0 (hC (i / 11) (by omega))
      by_cases hm : i % 11 = 0
      · have e : no i = cb (i / 11) + 1 := by unfold no; rw [if_neg h33, if_pos hm]
        rw [e]; exact h1
      · have e : a + no i = a + cb (i / 11) + 8 + 6 * (i % 11 - 1) := by unfold no; rw [if_neg h33, if_neg hm]; omega
        rw [e]; exact h2 (i % 11 - 1) (by omega)
  have hle : ∀ k i, i < d2 k → k < 200 → a ≤ za (zz D cA sa a) k i := fun k i _ hk => by rw [zz_a hk]; exact Nat.le_add_right _ _
  intro k i hi
  have hk200 : k < 200 := by have := (dm_fin (Nat.lt_of_lt_of_le hi (d2_le k))).1; omega
  refine ⟨?_, hle k i hi hk200⟩
  rcases d2_cases hi with rfl | rfl | rfl | rfl | rfl | rfl | rfl | rfl | rfl | rfl | rfl | rfl | rfl | rfl | rfl | rfl | rfl | rfl | rfl | rfl | rfl | rfl | rfl
  · exact hN i hi 1 _ rfl
  · exact hN i hi 2 _ rfl
  · exact hN i hi 3 _ rfl
  · exact hN i hi 4 _ rfl
  · exact hN i hi 5 _ rfl
  · have h1 : i < 2 := hi
    rcases (show i = 0 ∨ i = 1 by omega) with rfl | rfl
    · exact hp0 1 _ rfl
    · exact hp1 1 _ rfl
  · have h1 : i < 2 := hi
    rcases (show i = 0 ∨ i = 1 by omega) with rfl | rfl
    · exact hp0 3 _ rfl
    · exact hp1 3 _ rfl
  · have h1 : i < 1 := hi
    obtain rfl : i = 0 := by omega
    exact hse 1 _ rfl
  · have h1 : i < 1 := hi
    obtain rfl : i = 0 := by omega
    exact hse 2 _ rfl
  · have h1 : i < 1 := hi
    obtain rfl : i = 0 := by omega
    exact hse 3 _ rfl
  · have h1 : i < 1 := hi
    obtain rfl : i = 0 := by omega
    exact hse 4 _ rfl
  · have h1 : i < 1 := hi
    obtain rfl : i = 0 := by omega
    exact htx 1 _ rfl
  · have h1 : i < 1 := hi
    obtain rfl : i = 0 := by omega
    exact hkz
  · have h1 : i < 3 := hi
    rcases (show i = 0 ∨ i = 1 ∨ i = 2 by omega) with rfl | rfl | rfl
    · exact (sb_X0 hc0).1
    · exact (sb_X0 hc1).1
    · exact (sb_X0 hc2).1
  · have h1 : i < 12 := hi
    rcases (show i = 0 ∨ i = 1 ∨ i = 2 ∨ i = 3 ∨ i = 4 ∨ i = 5 ∨ i = 6 ∨ i = 7 ∨ i = 8 ∨ i = 9 ∨ i = 10 ∨ i = 11 by omega) with rfl | rfl | rfl | rfl | rfl | rfl | rfl | rfl | rfl | rfl | rfl | rfl
    · exact hp0 4 _ rfl
    · exact hp0 5 _ rfl
    · exact hp0 6 _ rfl
    · exact hp0 7 _ rfl
    · exact hp0 8 _ rfl
    · exact hp0 9 _ rfl
    · exact hp1 4 _ rfl
    · exact hp1 5 _ rfl
    · exact hp1 6 _ rfl
    · exact hp1 7 _ rfl
    · exact hp1 8 _ rfl
    · exact hp1 9 _ rfl
  · exact hN i hi 0 _ rfl
  · have h1 : i < 2 := hi
    rcases (show i = 0 ∨ i = 1 by omega) with rfl | rfl
    · exact hp0 0 _ rfl
    · exact hp1 0 _ rfl
  · have h1 : i < 1 := hi
    obtain rfl : i = 0 := by omega
    exact hse 0 _ rfl
  · have h1 : i < 1 := hi
    obtain rfl : i = 0 := by omega
    exact htx 0 _ rfl
  · have h1 : i < 1 := hi
    obtain rfl : i = 0 := by omega
    exact ht
  · have h1 : i < 3 := hi
    have e : wx (zz D cA sa a) g00 gxx 80 i = ar4 (zz D cA sa a) (a + cb i + 8) 10 := by
      show (Sum.inl (cA 4, 10, Sum.inr (Sum.inr (Sum.inr (Sum.inr (fun j => if j < 10 then some (a + no (11 * i + 1 + j)) else (none : Option Nat)))))) : va_E) = Sum.inl (cA 4, 10, Sum.inr (Sum.inr (Sum.inr (Sum.inr (fun j => if j < 10 then some (a + cb i + 8 + 6 * j) else none)))))
      have e2 : (fun j => if j < 10 then some (a + no (11 * i + 1 + j)) else (none : Option Nat)) = fun j => if j < 10 then some (a + cb i + 8 + 6 * j) else none := by
        funext j
        by_cases hj : j < 10
        · have e3 := no_kn ⟨i, h1⟩ ⟨j, hj⟩
          simp only at e3
          rw [if_pos hj, if_pos hj, e3, show a + (cb i + 8 + 6 * j) = a + cb i + 8 + 6 * j by omega]
        · rw [if_neg hj, if_neg hj]
      rw [e2]
    rw [e]
    exact (sb_X0 (hC i h1)).2.2.1
  · have h1 : i < 2 := hi
    have e : wx (zz D cA sa a) g00 gxx 81 i = ar3 (zz D cA sa a) (a + (84 + 10 * i) + 4) 6 := by
      show (Sum.inl (cA 3, 6, Sum.inr (Sum.inr (Sum.inr (Sum.inr (fun j => if j < 6 then some (a + off 71 (6 * i + j)) else (none : Option Nat)))))) : va_E) = Sum.inl (cA 3, 6, Sum.inr (Sum.inr (Sum.inr (Sum.inr (fun j => if j < 6 then some (a + (84 + 10 * i) + 4 + j) else none)))))
      have e2 : (fun j => if j < 6 then some (a + off 71 (6 * i + j)) else (none : Option Nat)) = fun j => if j < 6 then some (a + (84 + 10 * i) + 4 + j) else none := by
        funext j
        by_cases hj : j < 6
        · have e3 := of_jb ⟨i, h1⟩ ⟨j, hj⟩
          simp only at e3
          rw [if_pos hj, if_pos hj, e3, show a + (84 + 10 * i + 4 + j) = a + (84 + 10 * i) + 4 + j by omega]
        · rw [if_neg hj, if_neg hj]
      rw [e2]
    rw [e]
    rcases (show i = 0 ∨ i = 1 by omega) with rfl | rfl
    · exact hp0 2 _ rfl
    · exact hp1 2 _ rfl
  · have h1 : i < 1 := hi
    obtain rfl : i = 0 := by omega
    have e : wx (zz D cA sa a) g00 gxx 82 0 = ar2 (zz D cA sa a) (a + 104) 2 := by
      show (Sum.inl (cA 2, 2, Sum.inr (Sum.inr (Sum.inr (Sum.inr (fun j => if j < 2 then some (a + off 70 (1 + j)) else (none : Option Nat)))))) : va_E) = Sum.inl (cA 2, 2, Sum.inr (Sum.inr (Sum.inr (Sum.inr (fun j => if j < 2 then some (a + 104 + 68 * j) else none)))))
      have e2 : (fun j => if j < 2 then some (a + off 70 (1 + j)) else (none : Option Nat)) = fun j => if j < 2 then some (a + 104 + 68 * j) else none := by
        funext j
        by_cases hj : j < 2
        · have e3 := of_im ⟨j, hj⟩
          simp only at e3
          rw [if_pos hj, if_pos hj, e3, show a + (104 + 68 * j) = a + 104 + 68 * j by omega]
        · rw [if_neg hj, if_neg hj]
      rw [e2]
    rw [e]
    exact him
end ZZ
