/-! where all cells lie: the class from N on, the reference from N + 240 on -/
def cb (c : Nat) : Nat := if c = 0 then 3 else 36 + 68 * c
def no (i : Nat) : Nat := if i = 33 then 71 else cb (i / 11) + (if i % 11 = 0 then 1 else 2 + 6 * (i % 11))
def off (k i : Nat) : Nat := if k = 4 then no i + 1 else if k = 5 then no i + 2 else if k = 6 then no i + 3 else if k = 7 then no i + 4 else if k = 8 then no i + 5 else if k = 72 then no i else if k = 70 then cb i else if k = 80 then cb i + 7 else if k = 73 then 84 + 10 * i else if k = 16 then 84 + 10 * i + 1 else if k = 81 then 84 + 10 * i + 2 else if k = 17 then 84 + 10 * i + 3 else if k = 71 then 84 + 10 * (i / 6) + 4 + i % 6 else if k = 75 then 1 else if k = 55 then 2 else if k = 74 then 77 else if k = 41 then 78 else if k = 42 then 79 else if k = 43 then 80 else if k = 44 then 81 else if k = 82 then 82 else if k = 60 then 83 else if k = 76 then 0 else if k = 77 then 240 else 141 + k
def tab : List (Nat × Nat) := [(76, 0), (75, 0), (55, 0), (70, 0), (72, 0), (4, 0), (5, 0), (6, 0), (7, 0), (8, 0), (80, 0), (72, 1), (4, 1), (5, 1), (6, 1), (7, 1), (8, 1), (72, 2), (4, 2), (5, 2), (6, 2), (7, 2), (8, 2), (72, 3), (4, 3), (5, 3), (6, 3), (7, 3), (8, 3), (72, 4), (4, 4), (5, 4), (6, 4), (7, 4), (8, 4), (72, 5), (4, 5), (5, 5), (6, 5), (7, 5), (8, 5), (72, 6), (4, 6), (5, 6), (6, 6), (7, 6), (8, 6), (72, 7), (4, 7), (5, 7), (6, 7), (7, 7), (8, 7), (72, 8), (4, 8), (5, 8), (6, 8), (7, 8), (8, 8), (72, 9), (4, 9), (5, 9), (6, 9), (7, 9), (8, 9), (72, 10), (4, 10), (5, 10), (6, 10), (7, 10), (8, 10), (72, 33), (4, 33), (5, 33), (6, 33), (7, 33), (8, 33), (74, 0), (41, 0), (42, 0), (43, 0), (44, 0), (82, 0), (60, 0), (73, 0), (16, 0), (81, 0), (17, 0), (71, 0), (71, 1), (71, 2), (71, 3), (71, 4), (71, 5), (73, 1), (16, 1), (81, 1), (17, 1), (71, 6), (71, 7), (71, 8), (71, 9), (71, 10), (71, 11), (70, 1), (72, 11), (4, 11), (5, 11), (6, 11), (7, 11), (8, 11), (80, 1), (72, 12), (4, 12), (5, 12), (6, 12), (7, 12), (8, 12), (72, 13), (4, 13), (5, 13), (6, 13), (7, 13), (8, 13), (72, 14), (4, 14), (5, 14), (6, 14), (7, 14), (8, 14), (72, 15), (4, 15), (5, 15), (6, 15), (7, 15), (8, 15), (72, 16), (4, 16), (5, 16), (6, 16), (7, 16), (8, 16), (72, 17), (4, 17), (5, 17), (6, 17), (7, 17), (8, 17), (72, 18), (4, 18), (5, 18), (6, 18), (7, 18), (8, 18), (72, 19), (4, 19), (5, 19), (6, 19), (7, 19), (8, 19), (72, 20), (4, 20), (5, 20), (6, 20), (7, 20), (8, 20), (72, 21), (4, 21), (5, 21), (6, 21), (7, 21), (8, 21), (70, 2), (72, 22), (4, 22), (5, 22), (6, 22), (7, 22), (8, 22), (80, 2), (72, 23), (4, 23), (5, 23), (6, 23), (7, 23), (8, 23), (72, 24), (4, 24), (5, 24), (6, 24), (7, 24), (8, 24), (72, 25), (4, 25), (5, 25), (6, 25), (7, 25), (8, 25), (72, 26), (4, 26), (5, 26), (6, 26), (7, 26), (8, 26), (72, 27), (4, 27), (5, 27), (6, 27), (7, 27), (8, 27), (72, 28), (4, 28), (5, 28), (6, 28), (7, 28), (8, 28), (72, 29), (4, 29), (5, 29), (6, 29), (7, 29), (8, 29), (72, 30), (4, 30), (5, 30), (6, 30), (7, 30), (8, 30), (72, 31), (4, 31), (5, 31), (6, 31), (7, 31), (8, 31), (72, 32), (4, 32), (5, 32), (6, 32), (7, 32), (8, 32), (77, 0), (100, 0), (101, 0), (102, 0), (103, 0), (104, 0), (105, 0), (106, 0), (107, 0), (108, 0), (109, 0), (110, 0), (111, 0), (112, 0), (113, 0)]
theorem tab_ok : ∀ k : Fin 114, ∀ i : Fin 34, i.1 < dm k.1 → tab[off k.1 i.1]? = some (k.1, i.1) := by decide +kernel
theorem off_d2 : ∀ k : Fin 114, ∀ i : Fin 34, i.1 < d2 k.1 → off k.1 i.1 < 240 := by decide +kernel
theorem dm_fin {k i : Nat} (h : i < dm k) : k < 114 ∧ i < 34 := by
  rcases dm_cases h with rfl | rfl | rfl | rfl | rfl | rfl | rfl | rfl | rfl | rfl | rfl | rfl | rfl | rfl | rfl | rfl | rfl | rfl | rfl | rfl | rfl | rfl | rfl | rfl | rfl | rfl | rfl | rfl | rfl | rfl | rfl | rfl | rfl | rfl | rfl | rfl | rfl | rfl <;> exact ⟨Nat.le_of_ble_eq_true rfl, Nat.lt_of_lt_of_le h (Nat.le_of_ble_eq_true rfl)⟩
def zz (D : va_G) (cA : Nat → ClassId) (sa : Nat → Nat) (N : Nat) : zE := (D.1, D.2, cA, fun k i => if 200 ≤ k then sa k else N + off k i, N)
theorem zz_a {D : va_G} {cA : Nat → ClassId} {sa : Nat → Nat} {N k i : Nat} (h : k < 200) : za (zz D cA sa N) k i = N + off k i := if_neg (Nat.not_le.mpr h)
theorem zz_I (D : va_G) (cA : Nat → ClassId) (sa : Nat → Nat) (N : Nat) : zI dm (zz D cA sa N) := by
  intro k i k' i' hi hi' h
  obtain ⟨h1, h2⟩ := dm_fin hi
  obtain ⟨h3, h4⟩ := dm_fin hi'
  rw [zz_a (by omega), zz_a (by omega)] at h
  have e1 := tab_ok ⟨k, h1⟩ ⟨i, h2⟩ hi
  have e2 := tab_ok ⟨k', h3⟩ ⟨i', h4⟩ hi'
  have e3 : off k i = off k' i' := by omega
  simp only at e1 e2
  rw [e3, e2] at e1
  have e4 := Option.some.inj e1
  exact ⟨(congrArg Prod.fst e4).symm, (congrArg Prod.snd e4).symm⟩
theorem zz_I2 (D : va_G) (cA : Nat → ClassId) (sa : Nat → Nat) (N : Nat) : zI d2 (zz D cA sa N) := fun k i k' i' hi hi' h => zz_I D cA sa N k i k' i' (Nat.lt_of_lt_of_le hi (d2_le k)) (Nat.lt_of_lt_of_le hi' (d2_le k')) h
theorem no_kn : ∀ c : Fin 3, ∀ j : Fin 10, no (11 * c.1 + 1 + j.1) = cb c.1 + 8 + 6 * j.1 := by decide +kernel
theorem of_jb : ∀ p : Fin 2, ∀ j : Fin 6, off 71 (6 * p.1 + j.1) = 84 + 10 * p.1 + 4 + j.1 := by decide +kernel
theorem of_im : ∀ j : Fin 2, off 70 (1 + j.1) = 104 + 68 * j.1 := by decide +kernel
/-- a part of a block -/
def SB (z : zE) (b : Nat) (cs : List va_E) (H : Heap) : Prop := ∀ i e, cs[i]? = some e → va_at (zD z) vwCl (b + i, e) H
theorem SB.l {z : zE} {b : Nat} {A B : List va_E} {H : Heap} (h : SB z b (A ++ B) H) : SB z b A H := fun i e hi => h i e (by rw [List.getElem?_append_left (List.getElem?_eq_some_iff.mp hi).1]; exact hi)
theorem SB.r {z : zE} {b n : Nat} {A B : List va_E} {H : Heap} (h : SB z b (A ++ B) H) (hn : A.length = n) : SB z (b + n) B H := fun i e hi => by
  have := h (n + i) e (by rw [List.getElem?_append_right (by omega), hn, show n + i - n = i by omega]; exact hi)
  rw [Nat.add_assoc]
  exact this
theorem SB.c {z : zE} {b : Nat} {x : va_E} {B : List va_E} {H : Heap} (h : SB z b (x :: B) H) : va_at (zD z) vwCl (b, x) H ∧ SB z (b + 1) B H := ⟨h 0 x rfl, SB.r (A := [x]) h rfl⟩
theorem nows_sb {z : zE} {b : Nat} {H : Heap} : ∀ k, SB z b (nows z b k) H → ∀ j, j < k → SB z (b + 6 * j) (f_X2 z (b + 6 * j)) H := by
  intro k
  induction k with
  | zero => intro _ j hj; omega
  | succ k ih =>
    intro h j hj
    have h' : SB z b (nows z b k ++ f_X2 z (b + 6 * k)) H := h
    by_cases hjk : j = k
    · subst hjk; exact h'.r (nows_len z b j)
    · exact ih h'.l j (by omega)
theorem sb_X0 {z : zE} {b : Nat} {H : Heap} (h : SB z b (f_X0 z b) H) : va_at (zD z) vwCl (b, .inr (0, [.ref (b + 1), .ref (b + 7), .int (nI 0), .int (nI 0)])) H ∧ SB z (b + 1) (f_X2 z (b + 1)) H ∧ va_at (zD z) vwCl (b + 7, ar4 z (b + 8) 10) H ∧ ∀ j, j < 10 → SB z (b + 8 + 6 * j) (f_X2 z (b + 8 + 6 * j)) H := by
  have h0 : SB z b (.inr (0, [.ref (b + 1), .ref (b + 7), .int (nI 0), .int (nI 0)]) :: (f_X2 z (b + 1) ++ (ar4 z (b + 8) 10 :: nows z (b + 8) 10))) H := h
  obtain ⟨h1, h2⟩ := h0.c
  obtain ⟨h3, h4⟩ := (h2.r (n := 6) rfl).c
  exact ⟨h1, h2.l, h3, nows_sb 10 h4⟩
theorem get_mid {α : Type} {A B : List α} {x : α} {n : Nat} (h : A.length = n) : (A ++ x :: B)[n]? = some x := by
  rw [List.getElem?_append_right (by omega), h, Nat.sub_self]; rfl
theorem set_mid {α : Type} {x y : α} {B : List α} : ∀ {A : List α} {n : Nat}, A.length = n → (A ++ x :: B).set n y = A ++ y :: B := by
  intro A
  induction A with
  | nil => intro n h; subst h; rfl
  | cons a A ih =>
    intro n h
    subst h
    show a :: (A ++ x :: B).set A.length y = _
    rw [ih rfl]; rfl
