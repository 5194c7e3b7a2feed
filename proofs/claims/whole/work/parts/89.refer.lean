/-! the constructor of the reference -/
def gmm : zG := (fun f _ j => if f = 121 then nI 4 else if f = 129 then nI 200 else if f = 109 then upd (upd (upd (fun _ => nI 0) 0 (nI 20)) 1 (nI 20)) 2 (nI 20) j else nI 0, fun _ => 0, fun _ => 0)
abbrev z_X7 : va_E := .inr (7, [.null, .null, .null, .null, .null, .int (nI 0), .int (nI 0), .null, .null, .int (nI 0), .null, .int (nI 0), .long 0, .null, .int (nI 0), .int (nI 0), .int (nI 0), .int (nI 0), .int (nI 0), .null, .int (nI 0), .int (nI 0), .null, .int (nI 0), .int (nI 0), .null, .null, .null])
theorem d_X7 : ∀ j, j < 28 → defaultValue (tyX7 j) = vp_V [.null, .null, .null, .null, .null, .int (nI 0), .int (nI 0), .null, .null, .int (nI 0), .null, .int (nI 0), .long 0, .null, .int (nI 0), .int (nI 0), .int (nI 0), .int (nI 0), .int (nI 0), .null, .int (nI 0), .int (nI 0), .null, .int (nI 0), .int (nI 0), .null, .null, .null] j := fun j hj => by
  rcases (show j = 0 ∨ j = 1 ∨ j = 2 ∨ j = 3 ∨ j = 4 ∨ j = 5 ∨ j = 6 ∨ j = 7 ∨ j = 8 ∨ j = 9 ∨ j = 10 ∨ j = 11 ∨ j = 12 ∨ j = 13 ∨ j = 14 ∨ j = 15 ∨ j = 16 ∨ j = 17 ∨ j = 18 ∨ j = 19 ∨ j = 20 ∨ j = 21 ∨ j = 22 ∨ j = 23 ∨ j = 24 ∨ j = 25 ∨ j = 26 ∨ j = 27 by omega) with rfl | rfl | rfl | rfl | rfl | rfl | rfl | rfl | rfl | rfl | rfl | rfl | rfl | rfl | rfl | rfl | rfl | rfl | rfl | rfl | rfl | rfl | rfl | rfl | rfl | rfl | rfl | rfl <;> rfl
def B7 (z : zE) (a : Nat) : List va_E := (.inr (7, [.ref (a + 1), .ref (a + 2), .ref (a + 3), .ref (a + 4), .ref (a + 5), .int (nI 0), .int (nI 4), .ref (a + 6), .ref (a + 7), .int (nI 0), .ref (a + 8), .int (nI 0), .long 0, .ref (a + 9), .int (nI 0), .int (nI 0), .int (nI 0), .int (nI 0), .int (nI 0), .ref (a + 10), .int (nI 200), .int (nI 0), .ref (a + 11), .int (nI 0), .int (nI 0), .ref (a + 12), .ref (a + 13), .ref (a + 14)]) :: [ia z 6, ia z 6, ia z 6, ia z 6, ia z 6, ia z 31, ia z 310, ia z 18, ia z 120, .inl (zc z 0, 3, .inl (upd (upd (upd (fun _ => nI 0) 0 (nI 20)) 1 (nI 20)) 2 (nI 20))), ia z 30, ia z 31, ia z 684, ia z 2])
abbrev rm_X7_init : Room := { frames := 20, cells := 14, slots := 1259, locals := 1000 }
theorem ci_X7 : CI yX7_init cX7_init 1 := ⟨wC_X7_init, wI_X7_init, wZ_X7, rfl, by decide +kernel⟩
def QM (z : zE) (x1 m1 : zG) : Array Value → State → Outcome → State → Prop := fun _ st o t => o = .returned none ∧ Wd dm z (wp z (x1, m1)) t.heap ∧ va_F (zA z) st t
theorem zz_M {D : va_G} {cA : Nat → ClassId} {sa : Nat → Nat} {w : Nat} {x1 : zG} {H : Heap} (h : BL (zz D cA sa w) (w + 240) (B7 (zz D cA sa w) (w + 240)) H) (hW : Wd d2 (zz D cA sa w) (wx (zz D cA sa w) g00 x1) H) : Wd dm (zz D cA sa w) (wm (zz D cA sa w) x1 gmm) H := by
  intro k i hi
  have hle : w ≤ za (zz D cA sa w) k i := by rw [zz_a (by have := (dm_fin hi).1; omega)]; exact Nat.le_add_right _ _
  refine ⟨?_, hle⟩
  rcases dm_cases hi with rfl | rfl | rfl | rfl | rfl | rfl | rfl | rfl | rfl | rfl | rfl | rfl | rfl | rfl | rfl | rfl | rfl | rfl | rfl | rfl | rfl | rfl | rfl | rfl | rfl | rfl | rfl | rfl | rfl | rfl | rfl | rfl | rfl | rfl | rfl | rfl | rfl | rfl
  · exact (hW 4 i hi).1
  · exact (hW 5 i hi).1
  · exact (hW 6 i hi).1
  · exact (hW 7 i hi).1
  · exact (hW 8 i hi).1
  · exact (hW 16 i hi).1
  · exact (hW 17 i hi).1
  · exact (hW 41 i hi).1
  · exact (hW 42 i hi).1
  · exact (hW 43 i hi).1
  · exact (hW 44 i hi).1
  · exact (hW 55 i hi).1
  · exact (hW 60 i hi).1
  · exact (hW 70 i hi).1
  · exact (hW 71 i hi).1
  · exact (hW 72 i hi).1
  · exact (hW 73 i hi).1
  · exact (hW 74 i hi).1
  · exact (hW 75 i hi).1
  · exact (hW 76 i hi).1
  · have h1 : i < 1 := hi
    obtain rfl : i = 0 := by omega
    exact h.2 0 _ rfl
  · exact (hW 80 i hi).1
  · exact (hW 81 i hi).1
  · exact (hW 82 i hi).1
  · have h1 : i < 1 := hi
    obtain rfl : i = 0 := by omega
    exact h.2 1 _ rfl
  · have h1 : i < 1 := hi
    obtain rfl : i = 0 := by omega
    exact h.2 2 _ rfl
  · have h1 : i < 1 := hi
    obtain rfl : i = 0 := by omega
    exact h.2 3 _ rfl
  · have h1 : i < 1 := hi
    obtain rfl : i = 0 := by omega
    exact h.2 4 _ rfl
  · have h1 : i < 1 := hi
    obtain rfl : i = 0 := by omega
    exact h.2 5 _ rfl
  · have h1 : i < 1 := hi
    obtain rfl : i = 0 := by omega
    exact h.2 6 _ rfl
  · have h1 : i < 1 := hi
    obtain rfl : i = 0 := by omega
    exact h.2 7 _ rfl
  · have h1 : i < 1 := hi
    obtain rfl : i = 0 := by omega
    exact h.2 8 _ rfl
  · have h1 : i < 1 := hi
    obtain rfl : i = 0 := by omega
    exact h.2 9 _ rfl
  · have h1 : i < 1 := hi
    obtain rfl : i = 0 := by omega
    exact h.2 10 _ rfl
  · have h1 : i < 1 := hi
    obtain rfl : i = 0 := by omega
    exact h.2 11 _ rfl
  · have h1 : i < 1 := hi
    obtain rfl : i = 0 := by omega
    exact h.2 12 _ rfl
  · have h1 : i < 1 := hi
    obtain rfl : i = 0 := by omega
    exact h.2 13 _ rfl
  · have h1 : i < 1 := hi
    obtain rfl : i = 0 := by omega
    exact h.2 14 _ rfl
theorem zz_K {D : va_G} {cA : Nat → ClassId} {sa : Nat → Nat} {w : Nat} {x1 : zG} {H0 H : Heap} {locs : List Loc} (hW : Wd d2 (zz D cA sa w) (wx (zz D cA sa w) g00 x1) H0) (hS : va_S (bA (w + 240)) H0 H locs) : Wd d2 (zz D cA sa w) (wx (zz D cA sa w) g00 x1) H := fun k i hi => by
  obtain ⟨h1, h2⟩ := hW k i hi
  refine ⟨h1.kept (hS.2.1 _ h1.lt (fun q => ?_)), h2⟩
  have hf := dm_fin (Nat.lt_of_lt_of_le hi (d2_le k))
  have h3 := off_d2 ⟨k, hf.1⟩ ⟨i, hf.2⟩ hi
  have h4 : w + 240 ≤ za (zz D cA sa w) k i := q
  rw [zz_a (by omega)] at h4
  simp only at h3
  omega
set_option maxRecDepth 100000 in
set_option maxHeartbeats 4000000 in
theorem c_X7_init (l : Launch) (D : va_G) (cA : Nat → ClassId) (sa : Nat → Nat) (w a : Nat) (ha : a = w + 240) (x1 m1 : zG) (hm1 : m_X7_begin gmm = some m1) : Met l yX7_init (.code yX7_init cX7_init 1 none :: lw_gt) rm_X7_init (va_Pc [.ref a] (fun U => PB (zz D cA sa w) a [z_X7] U ∧ (fun H => Wd d2 (zz D cA sa w) (wx (zz D cA sa w) g00 x1) H) U.heap)) (QM (zz D cA sa w) x1 m1) 14 1259 (zA (zz D cA sa w)) := by
  refine ct_q (y := yX7_init) (b := cX7_init) (n := 1) (z := (zz D cA sa w)) (PC := fun H => Wd d2 (zz D cA sa w) (wx (zz D cA sa w) g00 x1) H) (by decide) rfl (Nat.le_of_ble_eq_true rfl) (by show w ≤ a; omega) (fun p e s m below meth c hin2 hr hk hsz hPC => ?_)
  refine k_aload (q := 1) (i := 0) (n := 0) dX7_init_0 rfl rfl rfl ?_
  refine k_obj (q := 4) wM_X7_1 (Nat.le_of_ble_eq_true rfl) (Nat.le_of_ble_eq_true rfl) dX7_init_1 rfl ?_
  refine k_aload (q := 5) (i := 0) (n := 0) dX7_init_4 rfl rfl rfl ?_
  refine k_bipush (q := 7) (v := nI 6) dX7_init_5 rfl rfl ?_
  refine k_newa (q := 9) (N := 6) (v := a + 1) (nI_pos (Nat.le_of_ble_eq_true rfl)) (nI_clamp (Nat.le_of_ble_eq_true rfl)) (Nat.le_of_ble_eq_true rfl) (Nat.le_of_ble_eq_true rfl) (Nat.le_of_ble_eq_true rfl) dX7_init_7 rfl rfl ?_
  refine k_cs (cs' := (.inr (7, [.null, .null, .null, .null, .null, .int (nI 0), .int (nI 0), .null, .null, .int (nI 0), .null, .int (nI 0), .long 0, .null, .int (nI 0), .int (nI 0), .int (nI 0), .int (nI 0), .int (nI 0), .null, .int (nI 0), .int (nI 0), .null, .int (nI 0), .int (nI 0), .null, .null, .null]) :: [ia (zz D cA sa w) 6])) rfl ?_
  refine k_putF (q := 12) (ci := 7) (f := 0) (i0 := 0) (cs' := (.inr (7, [.ref (a + 1), .null, .null, .null, .null, .int (nI 0), .int (nI 0), .null, .null, .int (nI 0), .null, .int (nI 0), .long 0, .null, .int (nI 0), .int (nI 0), .int (nI 0), .int (nI 0), .int (nI 0), .null, .int (nI 0), .int (nI 0), .null, .int (nI 0), .int (nI 0), .null, .null, .null]) :: [ia (zz D cA sa w) 6])) hin2 rfl hin_X7 tyX7 tyX7_ok nmX7 (Nat.le_of_ble_eq_true rfl) rfl rfl (tyX7_ok 0 (Nat.le_of_ble_eq_true rfl)) wF_X7_7 rfl rfl (Nat.le_of_ble_eq_true rfl) rfl rfl dX7_init_9 rfl rfl ?_
  refine k_aload (q := 13) (i := 0) (n := 0) dX7_init_12 rfl rfl rfl ?_
  refine k_bipush (q := 15) (v := nI 6) dX7_init_13 rfl rfl ?_
  refine k_newa (q := 17) (N := 6) (v := a + 2) (nI_pos (Nat.le_of_ble_eq_true rfl)) (nI_clamp (Nat.le_of_ble_eq_true rfl)) (Nat.le_of_ble_eq_true rfl) (Nat.le_of_ble_eq_true rfl) (Nat.le_of_ble_eq_true rfl) dX7_init_15 rfl rfl ?_
  refine k_cs (cs' := (.inr (7, [.ref (a + 1), .null, .null, .null, .null, .int (nI 0), .int (nI 0), .null, .null, .int (nI 0), .null, .int (nI 0), .long 0, .null, .int (nI 0), .int (nI 0), .int (nI 0), .int (nI 0), .int (nI 0), .null, .int (nI 0), .int (nI 0), .null, .int (nI 0), .int (nI 0), .null, .null, .null]) :: [ia (zz D cA sa w) 6, ia (zz D cA sa w) 6])) rfl ?_
  refine k_putF (q := 20) (ci := 7) (f := 1) (i0 := 0) (cs' := (.inr (7, [.ref (a + 1), .ref (a + 2), .null, .null, .null, .int (nI 0), .int (nI 0), .null, .null, .int (nI 0), .null, .int (nI 0), .long 0, .null, .int (nI 0), .int (nI 0), .int (nI 0), .int (nI 0), .int (nI 0), .null, .int (nI 0), .int (nI 0), .null, .int (nI 0), .int (nI 0), .null, .null, .null]) :: [ia (zz D cA sa w) 6, ia (zz D cA sa w) 6])) hin2 rfl hin_X7 tyX7 tyX7_ok nmX7 (Nat.le_of_ble_eq_true rfl) rfl rfl (tyX7_ok 1 (Nat.le_of_ble_eq_true rfl)) wF_X7_13 rfl rfl (Nat.le_of_ble_eq_true rfl) rfl rfl dX7_init_17 rfl rfl ?_
  refine k_aload (q := 21) (i := 0) (n := 0) dX7_init_20 rfl rfl rfl ?_
  refine k_bipush (q := 23) (v := nI 6) dX7_init_21 rfl rfl ?_
  refine k_newa (q := 25) (N := 6) (v := a + 3) (nI_pos (Nat.le_of_ble_eq_true rfl)) (nI_clamp (Nat.le_of_ble_eq_true rfl)) (Nat.le_of_ble_eq_true rfl) (Nat.le_of_ble_eq_true rfl) (Nat.le_of_ble_eq_true rfl) dX7_init_23 rfl rfl ?_
  refine k_cs (cs' := (.inr (7, [.ref (a + 1), .ref (a + 2), .null, .null, .null, .int (nI 0), .int (nI 0), .null, .null, .int (nI 0), .null, .int (nI 0), .long 0, .null, .int (nI 0), .int (nI 0), .int (nI 0), .int (nI 0), .int (nI 0), .null, .int (nI 0), .int (nI 0), .null, .int (nI 0), .int (nI 0), .null, .null, .null]) :: [ia (zz D cA sa w) 6, ia (zz D cA sa w) 6, ia (zz D cA sa w) 6])) rfl ?_
  refine k_putF (q := 28) (ci := 7) (f := 2) (i0 := 0) (cs' := (.inr (7, [.ref (a + 1), .ref (a + 2), .ref (a + 3), .null, .null, .int (nI 0), .int (nI 0), .null, .null, .int (nI 0), .null, .int (nI 0), .long 0, .null, .int (nI 0), .int (nI 0), .int (nI 0), .int (nI 0), .int (nI 0), .null, .int (nI 0), .int (nI 0), .null, .int (nI 0), .int (nI 0), .null, .null, .null]) :: [ia (zz D cA sa w) 6, ia (zz D cA sa w) 6, ia (zz D cA sa w) 6])) hin2 rfl hin_X7 tyX7 tyX7_ok nmX7 (Nat.le_of_ble_eq_true rfl) rfl rfl (tyX7_ok 2 (Nat.le_of_ble_eq_true rfl)) wF_X7_16 rfl rfl (Nat.le_of_ble_eq_true rfl) rfl rfl dX7_init_25 rfl rfl ?_
  refine k_aload (q := 29) (i := 0) (n := 0) dX7_init_28 rfl rfl rfl ?_
  refine k_bipush (q := 31) (v := nI 6) dX7_init_29 rfl rfl ?_
  refine k_newa (q := 33) (N := 6) (v := a + 4) (nI_pos (Nat.le_of_ble_eq_true rfl)) (nI_clamp (Nat.le_of_ble_eq_true rfl)) (Nat.le_of_ble_eq_true rfl) (Nat.le_of_ble_eq_true rfl) (Nat.le_of_ble_eq_true rfl) dX7_init_31 rfl rfl ?_
  refine k_cs (cs' := (.inr (7, [.ref (a + 1), .ref (a + 2), .ref (a + 3), .null, .null, .int (nI 0), .int (nI 0), .null, .null, .int (nI 0), .null, .int (nI 0), .long 0, .null, .int (nI 0), .int (nI 0), .int (nI 0), .int (nI 0), .int (nI 0), .null, .int (nI 0), .int (nI 0), .null, .int (nI 0), .int (nI 0), .null, .null, .null]) :: [ia (zz D cA sa w) 6, ia (zz D cA sa w) 6, ia (zz D cA sa w) 6, ia (zz D cA sa w) 6])) rfl ?_
  refine k_putF (q := 36) (ci := 7) (f := 3) (i0 := 0) (cs' := (.inr (7, [.ref (a + 1), .ref (a + 2), .ref (a + 3), .ref (a + 4), .null, .int (nI 0), .int (nI 0), .null, .null, .int (nI 0), .null, .int (nI 0), .long 0, .null, .int (nI 0), .int (nI 0), .int (nI 0), .int (nI 0), .int (nI 0), .null, .int (nI 0), .int (nI 0), .null, .int (nI 0), .int (nI 0), .null, .null, .null]) :: [ia (zz D cA sa w) 6, ia (zz D cA sa w) 6, ia (zz D cA sa w) 6, ia (zz D cA sa w) 6])) hin2 rfl hin_X7 tyX7 tyX7_ok nmX7 (Nat.le_of_ble_eq_true rfl) rfl rfl (tyX7_ok 3 (Nat.le_of_ble_eq_true rfl)) wF_X7_19 rfl rfl (Nat.le_of_ble_eq_true rfl) rfl rfl dX7_init_33 rfl rfl ?_
  refine k_aload (q := 37) (i := 0) (n := 0) dX7_init_36 rfl rfl rfl ?_
  refine k_bipush (q := 39) (v := nI 6) dX7_init_37 rfl rfl ?_
  refine k_newa (q := 41) (N := 6) (v := a + 5) (nI_pos (Nat.le_of_ble_eq_true rfl)) (nI_clamp (Nat.le_of_ble_eq_true rfl)) (Nat.le_of_ble_eq_true rfl) (Nat.le_of_ble_eq_true rfl) (Nat.le_of_ble_eq_true rfl) dX7_init_39 rfl rfl ?_
  refine k_cs (cs' := (.inr (7, [.ref (a + 1), .ref (a + 2), .ref (a + 3), .ref (a + 4), .null, .int (nI 0), .int (nI 0), .null, .null, .int (nI 0), .null, .int (nI 0), .long 0, .null, .int (nI 0), .int (nI 0), .int (nI 0), .int (nI 0), .int (nI 0), .null, .int (nI 0), .int (nI 0), .null, .int (nI 0), .int (nI 0), .null, .null, .null]) :: [ia (zz D cA sa w) 6, ia (zz D cA sa w) 6, ia (zz D cA sa w) 6, ia (zz D cA sa w) 6, ia (zz D cA sa w) 6])) rfl ?_
  refine k_putF (q := 44) (ci := 7) (f := 4) (i0 := 0) (cs' := (.inr (7, [.ref (a + 1), .ref (a + 2), .ref (a + 3), .ref (a + 4), .ref (a + 5), .int (nI 0), .int (nI 0), .null, .null, .int (nI 0), .null, .int (nI 0), .long 0, .null, .int (nI 0), .int (nI 0), .int (nI 0), .int (nI 0), .int (nI 0), .null, .int (nI 0), .int (nI 0), .null, .int (nI 0), .int (nI 0), .null, .null, .null]) :: [ia (zz D cA sa w) 6, ia (zz D cA sa w) 6, ia (zz D cA sa w) 6, ia (zz D cA sa w) 6, ia (zz D cA sa w) 6])) hin2 rfl hin_X7 tyX7 tyX7_ok nmX7 (Nat.le_of_ble_eq_true rfl) rfl rfl (tyX7_ok 4 (Nat.le_of_ble_eq_true rfl)) wF_X7_22 rfl rfl (Nat.le_of_ble_eq_true rfl) rfl rfl dX7_init_41 rfl rfl ?_
  refine k_aload (q := 45) (i := 0) (n := 0) dX7_init_44 rfl rfl rfl ?_
  refine k_iconst (q := 46) (v := nI 4) dX7_init_45 rfl rfl ?_
  refine k_put (q := 49) (ci := 7) (f := 6) (i0 := 0) (cs' := (.inr (7, [.ref (a + 1), .ref (a + 2), .ref (a + 3), .ref (a + 4), .ref (a + 5), .int (nI 0), .int (nI 4), .null, .null, .int (nI 0), .null, .int (nI 0), .long 0, .null, .int (nI 0), .int (nI 0), .int (nI 0), .int (nI 0), .int (nI 0), .null, .int (nI 0), .int (nI 0), .null, .int (nI 0), .int (nI 0), .null, .null, .null]) :: [ia (zz D cA sa w) 6, ia (zz D cA sa w) 6, ia (zz D cA sa w) 6, ia (zz D cA sa w) 6, ia (zz D cA sa w) 6])) rfl hin_X7 tyX7 tyX7_ok nmX7 (Nat.le_of_ble_eq_true rfl) rfl (tyX7_ok 6 (Nat.le_of_ble_eq_true rfl)) wF_X7_25 rfl rfl (Nat.le_of_ble_eq_true rfl) rfl rfl dX7_init_46 rfl rfl ?_
  refine k_aload (q := 50) (i := 0) (n := 0) dX7_init_49 rfl rfl rfl ?_
  refine k_bipush (q := 52) (v := nI 31) dX7_init_50 rfl rfl ?_
  refine k_newa (q := 54) (N := 31) (v := a + 6) (nI_pos (Nat.le_of_ble_eq_true rfl)) (nI_clamp (Nat.le_of_ble_eq_true rfl)) (Nat.le_of_ble_eq_true rfl) (Nat.le_of_ble_eq_true rfl) (Nat.le_of_ble_eq_true rfl) dX7_init_52 rfl rfl ?_
  refine k_cs (cs' := (.inr (7, [.ref (a + 1), .ref (a + 2), .ref (a + 3), .ref (a + 4), .ref (a + 5), .int (nI 0), .int (nI 4), .null, .null, .int (nI 0), .null, .int (nI 0), .long 0, .null, .int (nI 0), .int (nI 0), .int (nI 0), .int (nI 0), .int (nI 0), .null, .int (nI 0), .int (nI 0), .null, .int (nI 0), .int (nI 0), .null, .null, .null]) :: [ia (zz D cA sa w) 6, ia (zz D cA sa w) 6, ia (zz D cA sa w) 6, ia (zz D cA sa w) 6, ia (zz D cA sa w) 6, ia (zz D cA sa w) 31])) rfl ?_
  refine k_putF (q := 57) (ci := 7) (f := 7) (i0 := 0) (cs' := (.inr (7, [.ref (a + 1), .ref (a + 2), .ref (a + 3), .ref (a + 4), .ref (a + 5), .int (nI 0), .int (nI 4), .ref (a + 6), .null, .int (nI 0), .null, .int (nI 0), .long 0, .null, .int (nI 0), .int (nI 0), .int (nI 0), .int (nI 0), .int (nI 0), .null, .int (nI 0), .int (nI 0), .null, .int (nI 0), .int (nI 0), .null, .null, .null]) :: [ia (zz D cA sa w) 6, ia (zz D cA sa w) 6, ia (zz D cA sa w) 6, ia (zz D cA sa w) 6, ia (zz D cA sa w) 6, ia (zz D cA sa w) 31])) hin2 rfl hin_X7 tyX7 tyX7_ok nmX7 (Nat.le_of_ble_eq_true rfl) rfl rfl (tyX7_ok 7 (Nat.le_of_ble_eq_true rfl)) wF_X7_29 rfl rfl (Nat.le_of_ble_eq_true rfl) rfl rfl dX7_init_54 rfl rfl ?_
  refine k_aload (q := 58) (i := 0) (n := 0) dX7_init_57 rfl rfl rfl ?_
  refine k_sipush (q := 61) (v := nI 310) dX7_init_58 rfl rfl ?_
  refine k_newa (q := 63) (N := 310) (v := a + 7) (nI_pos (Nat.le_of_ble_eq_true rfl)) (nI_clamp (Nat.le_of_ble_eq_true rfl)) (Nat.le_of_ble_eq_true rfl) (Nat.le_of_ble_eq_true rfl) (Nat.le_of_ble_eq_true rfl) dX7_init_61 rfl rfl ?_
  refine k_cs (cs' := (.inr (7, [.ref (a + 1), .ref (a + 2), .ref (a + 3), .ref (a + 4), .ref (a + 5), .int (nI 0), .int (nI 4), .ref (a + 6), .null, .int (nI 0), .null, .int (nI 0), .long 0, .null, .int (nI 0), .int (nI 0), .int (nI 0), .int (nI 0), .int (nI 0), .null, .int (nI 0), .int (nI 0), .null, .int (nI 0), .int (nI 0), .null, .null, .null]) :: [ia (zz D cA sa w) 6, ia (zz D cA sa w) 6, ia (zz D cA sa w) 6, ia (zz D cA sa w) 6, ia (zz D cA sa w) 6, ia (zz D cA sa w) 31, ia (zz D cA sa w) 310])) rfl ?_
  refine k_putF (q := 66) (ci := 7) (f := 8) (i0 := 0) (cs' := (.inr (7, [.ref (a + 1), .ref (a + 2), .ref (a + 3), .ref (a + 4), .ref (a + 5), .int (nI 0), .int (nI 4), .ref (a + 6), .ref (a + 7), .int (nI 0), .null, .int (nI 0), .long 0, .null, .int (nI 0), .int (nI 0), .int (nI 0), .int (nI 0), .int (nI 0), .null, .int (nI 0), .int (nI 0), .null, .int (nI 0), .int (nI 0), .null, .null, .null]) :: [ia (zz D cA sa w) 6, ia (zz D cA sa w) 6, ia (zz D cA sa w) 6, ia (zz D cA sa w) 6, ia (zz D cA sa w) 6, ia (zz D cA sa w) 31, ia (zz D cA sa w) 310])) hin2 rfl hin_X7 tyX7 tyX7_ok nmX7 (Nat.le_of_ble_eq_true rfl) rfl rfl (tyX7_ok 8 (Nat.le_of_ble_eq_true rfl)) wF_X7_32 rfl rfl (Nat.le_of_ble_eq_true rfl) rfl rfl dX7_init_63 rfl rfl ?_
  refine k_aload (q := 67) (i := 0) (n := 0) dX7_init_66 rfl rfl rfl ?_
  refine k_bipush (q := 69) (v := nI 18) dX7_init_67 rfl rfl ?_
  refine k_newa (q := 71) (N := 18) (v := a + 8) (nI_pos (Nat.le_of_ble_eq_true rfl)) (nI_clamp (Nat.le_of_ble_eq_true rfl)) (Nat.le_of_ble_eq_true rfl) (Nat.le_of_ble_eq_true rfl) (Nat.le_of_ble_eq_true rfl) dX7_init_69 rfl rfl ?_
  refine k_cs (cs' := (.inr (7, [.ref (a + 1), .ref (a + 2), .ref (a + 3), .ref (a + 4), .ref (a + 5), .int (nI 0), .int (nI 4), .ref (a + 6), .ref (a + 7), .int (nI 0), .null, .int (nI 0), .long 0, .null, .int (nI 0), .int (nI 0), .int (nI 0), .int (nI 0), .int (nI 0), .null, .int (nI 0), .int (nI 0), .null, .int (nI 0), .int (nI 0), .null, .null, .null]) :: [ia (zz D cA sa w) 6, ia (zz D cA sa w) 6, ia (zz D cA sa w) 6, ia (zz D cA sa w) 6, ia (zz D cA sa w) 6, ia (zz D cA sa w) 31, ia (zz D cA sa w) 310, ia (zz D cA sa w) 18])) rfl ?_
  refine k_putF (q := 74) (ci := 7) (f := 10) (i0 := 0) (cs' := (.inr (7, [.ref (a + 1), .ref (a + 2), .ref (a + 3), .ref (a + 4), .ref (a + 5), .int (nI 0), .int (nI 4), .ref (a + 6), .ref (a + 7), .int (nI 0), .ref (a + 8), .int (nI 0), .long 0, .null, .int (nI 0), .int (nI 0), .int (nI 0), .int (nI 0), .int (nI 0), .null, .int (nI 0), .int (nI 0), .null, .int (nI 0), .int (nI 0), .null, .null, .null]) :: [ia (zz D cA sa w) 6, ia (zz D cA sa w) 6, ia (zz D cA sa w) 6, ia (zz D cA sa w) 6, ia (zz D cA sa w) 6, ia (zz D cA sa w) 31, ia (zz D cA sa w) 310, ia (zz D cA sa w) 18])) hin2 rfl hin_X7 tyX7 tyX7_ok nmX7 (Nat.le_of_ble_eq_true rfl) rfl rfl (tyX7_ok 10 (Nat.le_of_ble_eq_true rfl)) wF_X7_35 rfl rfl (Nat.le_of_ble_eq_true rfl) rfl rfl dX7_init_71 rfl rfl ?_
  refine k_aload (q := 75) (i := 0) (n := 0) dX7_init_74 rfl rfl rfl ?_
  refine k_bipush (q := 77) (v := nI 120) dX7_init_75 rfl rfl ?_
  refine k_newa (q := 79) (N := 120) (v := a + 9) (nI_pos (Nat.le_of_ble_eq_true rfl)) (nI_clamp (Nat.le_of_ble_eq_true rfl)) (Nat.le_of_ble_eq_true rfl) (Nat.le_of_ble_eq_true rfl) (Nat.le_of_ble_eq_true rfl) dX7_init_77 rfl rfl ?_
  refine k_cs (cs' := (.inr (7, [.ref (a + 1), .ref (a + 2), .ref (a + 3), .ref (a + 4), .ref (a + 5), .int (nI 0), .int (nI 4), .ref (a + 6), .ref (a + 7), .int (nI 0), .ref (a + 8), .int (nI 0), .long 0, .null, .int (nI 0), .int (nI 0), .int (nI 0), .int (nI 0), .int (nI 0), .null, .int (nI 0), .int (nI 0), .null, .int (nI 0), .int (nI 0), .null, .null, .null]) :: [ia (zz D cA sa w) 6, ia (zz D cA sa w) 6, ia (zz D cA sa w) 6, ia (zz D cA sa w) 6, ia (zz D cA sa w) 6, ia (zz D cA sa w) 31, ia (zz D cA sa w) 310, ia (zz D cA sa w) 18, ia (zz D cA sa w) 120])) rfl ?_
  refine k_putF (q := 82) (ci := 7) (f := 13) (i0 := 0) (cs' := (.inr (7, [.ref (a + 1), .ref (a + 2), .ref (a + 3), .ref (a + 4), .ref (a + 5), .int (nI 0), .int (nI 4), .ref (a + 6), .ref (a + 7), .int (nI 0), .ref (a + 8), .int (nI 0), .long 0, .ref (a + 9), .int (nI 0), .int (nI 0), .int (nI 0), .int (nI 0), .int (nI 0), .null, .int (nI 0), .int (nI 0), .null, .int (nI 0), .int (nI 0), .null, .null, .null]) :: [ia (zz D cA sa w) 6, ia (zz D cA sa w) 6, ia (zz D cA sa w) 6, ia (zz D cA sa w) 6, ia (zz D cA sa w) 6, ia (zz D cA sa w) 31, ia (zz D cA sa w) 310, ia (zz D cA sa w) 18, ia (zz D cA sa w) 120])) hin2 rfl hin_X7 tyX7 tyX7_ok nmX7 (Nat.le_of_ble_eq_true rfl) rfl rfl (tyX7_ok 13 (Nat.le_of_ble_eq_true rfl)) wF_X7_38 rfl rfl (Nat.le_of_ble_eq_true rfl) rfl rfl dX7_init_79 rfl rfl ?_
  refine k_aload (q := 83) (i := 0) (n := 0) dX7_init_82 rfl rfl rfl ?_
  refine k_iconst (q := 84) (v := nI 3) dX7_init_83 rfl rfl ?_
  refine k_newa (q := 86) (N := 3) (v := a + 10) (nI_pos (Nat.le_of_ble_eq_true rfl)) (nI_clamp (Nat.le_of_ble_eq_true rfl)) (Nat.le_of_ble_eq_true rfl) (Nat.le_of_ble_eq_true rfl) (Nat.le_of_ble_eq_true rfl) dX7_init_84 rfl rfl ?_
  refine k_cs (cs' := (.inr (7, [.ref (a + 1), .ref (a + 2), .ref (a + 3), .ref (a + 4), .ref (a + 5), .int (nI 0), .int (nI 4), .ref (a + 6), .ref (a + 7), .int (nI 0), .ref (a + 8), .int (nI 0), .long 0, .ref (a + 9), .int (nI 0), .int (nI 0), .int (nI 0), .int (nI 0), .int (nI 0), .null, .int (nI 0), .int (nI 0), .null, .int (nI 0), .int (nI 0), .null, .null, .null]) :: [ia (zz D cA sa w) 6, ia (zz D cA sa w) 6, ia (zz D cA sa w) 6, ia (zz D cA sa w) 6, ia (zz D cA sa w) 6, ia (zz D cA sa w) 31, ia (zz D cA sa w) 310, ia (zz D cA sa w) 18, ia (zz D cA sa w) 120, ia (zz D cA sa w) 3])) rfl ?_
  refine k_putF (q := 89) (ci := 7) (f := 19) (i0 := 0) (cs' := (.inr (7, [.ref (a + 1), .ref (a + 2), .ref (a + 3), .ref (a + 4), .ref (a + 5), .int (nI 0), .int (nI 4), .ref (a + 6), .ref (a + 7), .int (nI 0), .ref (a + 8), .int (nI 0), .long 0, .ref (a + 9), .int (nI 0), .int (nI 0), .int (nI 0), .int (nI 0), .int (nI 0), .ref (a + 10), .int (nI 0), .int (nI 0), .null, .int (nI 0), .int (nI 0), .null, .null, .null]) :: [ia (zz D cA sa w) 6, ia (zz D cA sa w) 6, ia (zz D cA sa w) 6, ia (zz D cA sa w) 6, ia (zz D cA sa w) 6, ia (zz D cA sa w) 31, ia (zz D cA sa w) 310, ia (zz D cA sa w) 18, ia (zz D cA sa w) 120, ia (zz D cA sa w) 3])) hin2 rfl hin_X7 tyX7 tyX7_ok nmX7 (Nat.le_of_ble_eq_true rfl) rfl rfl (tyX7_ok 19 (Nat.le_of_ble_eq_true rfl)) wF_X7_41 rfl rfl (Nat.le_of_ble_eq_true rfl) rfl rfl dX7_init_86 rfl rfl ?_
  refine k_aload (q := 90) (i := 0) (n := 0) dX7_init_89 rfl rfl rfl ?_
  refine k_bipush (q := 92) (v := nI 30) dX7_init_90 rfl rfl ?_
  refine k_newa (q := 94) (N := 30) (v := a + 11) (nI_pos (Nat.le_of_ble_eq_true rfl)) (nI_clamp (Nat.le_of_ble_eq_true rfl)) (Nat.le_of_ble_eq_true rfl) (Nat.le_of_ble_eq_true rfl) (Nat.le_of_ble_eq_true rfl) dX7_init_92 rfl rfl ?_
  refine k_cs (cs' := (.inr (7, [.ref (a + 1), .ref (a + 2), .ref (a + 3), .ref (a + 4), .ref (a + 5), .int (nI 0), .int (nI 4), .ref (a + 6), .ref (a + 7), .int (nI 0), .ref (a + 8), .int (nI 0), .long 0, .ref (a + 9), .int (nI 0), .int (nI 0), .int (nI 0), .int (nI 0), .int (nI 0), .ref (a + 10), .int (nI 0), .int (nI 0), .null, .int (nI 0), .int (nI 0), .null, .null, .null]) :: [ia (zz D cA sa w) 6, ia (zz D cA sa w) 6, ia (zz D cA sa w) 6, ia (zz D cA sa w) 6, ia (zz D cA sa w) 6, ia (zz D cA sa w) 31, ia (zz D cA sa w) 310, ia (zz D cA sa w) 18, ia (zz D cA sa w) 120, ia (zz D cA sa w) 3, ia (zz D cA sa w) 30])) rfl ?_
  refine k_putF (q := 97) (ci := 7) (f := 22) (i0 := 0) (cs' := (.inr (7, [.ref (a + 1), .ref (a + 2), .ref (a + 3), .ref (a + 4), .ref (a + 5), .int (nI 0), .int (nI 4), .ref (a + 6), .ref (a + 7), .int (nI 0), .ref (a + 8), .int (nI 0), .long 0, .ref (a + 9), .int (nI 0), .int (nI 0), .int (nI 0), .int (nI 0), .int (nI 0), .ref (a + 10), .int (nI 0), .int (nI 0), .ref (a + 11), .int (nI 0), .int (nI 0), .null, .null, .null]) :: [ia (zz D cA sa w) 6, ia (zz D cA sa w) 6, ia (zz D cA sa w) 6, ia (zz D cA sa w) 6, ia (zz D cA sa w) 6, ia (zz D cA sa w) 31, ia (zz D cA sa w) 310, ia (zz D cA sa w) 18, ia (zz D cA sa w) 120, ia (zz D cA sa w) 3, ia (zz D cA sa w) 30])) hin2 rfl hin_X7 tyX7 tyX7_ok nmX7 (Nat.le_of_ble_eq_true rfl) rfl rfl (tyX7_ok 22 (Nat.le_of_ble_eq_true rfl)) wF_X7_44 rfl rfl (Nat.le_of_ble_eq_true rfl) rfl rfl dX7_init_94 rfl rfl ?_
  refine k_aload (q := 98) (i := 0) (n := 0) dX7_init_97 rfl rfl rfl ?_
  refine k_bipush (q := 100) (v := nI 31) dX7_init_98 rfl rfl ?_
  refine k_newa (q := 102) (N := 31) (v := a + 12) (nI_pos (Nat.le_of_ble_eq_true rfl)) (nI_clamp (Nat.le_of_ble_eq_true rfl)) (Nat.le_of_ble_eq_true rfl) (Nat.le_of_ble_eq_true rfl) (Nat.le_of_ble_eq_true rfl) dX7_init_100 rfl rfl ?_
  refine k_cs (cs' := (.inr (7, [.ref (a + 1), .ref (a + 2), .ref (a + 3), .ref (a + 4), .ref (a + 5), .int (nI 0), .int (nI 4), .ref (a + 6), .ref (a + 7), .int (nI 0), .ref (a + 8), .int (nI 0), .long 0, .ref (a + 9), .int (nI 0), .int (nI 0), .int (nI 0), .int (nI 0), .int (nI 0), .ref (a + 10), .int (nI 0), .int (nI 0), .ref (a + 11), .int (nI 0), .int (nI 0), .null, .null, .null]) :: [ia (zz D cA sa w) 6, ia (zz D cA sa w) 6, ia (zz D cA sa w) 6, ia (zz D cA sa w) 6, ia (zz D cA sa w) 6, ia (zz D cA sa w) 31, ia (zz D cA sa w) 310, ia (zz D cA sa w) 18, ia (zz D cA sa w) 120, ia (zz D cA sa w) 3, ia (zz D cA sa w) 30, ia (zz D cA sa w) 31])) rfl ?_
  refine k_putF (q := 105) (ci := 7) (f := 25) (i0 := 0) (cs' := (.inr (7, [.ref (a + 1), .ref (a + 2), .ref (a + 3), .ref (a + 4), .ref (a + 5), .int (nI 0), .int (nI 4), .ref (a + 6), .ref (a + 7), .int (nI 0), .ref (a + 8), .int (nI 0), .long 0, .ref (a + 9), .int (nI 0), .int (nI 0), .int (nI 0), .int (nI 0), .int (nI 0), .ref (a + 10), .int (nI 0), .int (nI 0), .ref (a + 11), .int (nI 0), .int (nI 0), .ref (a + 12), .null, .null]) :: [ia (zz D cA sa w) 6, ia (zz D cA sa w) 6, ia (zz D cA sa w) 6, ia (zz D cA sa w) 6, ia (zz D cA sa w) 6, ia (zz D cA sa w) 31, ia (zz D cA sa w) 310, ia (zz D cA sa w) 18, ia (zz D cA sa w) 120, ia (zz D cA sa w) 3, ia (zz D cA sa w) 30, ia (zz D cA sa w) 31])) hin2 rfl hin_X7 tyX7 tyX7_ok nmX7 (Nat.le_of_ble_eq_true rfl) rfl rfl (tyX7_ok 25 (Nat.le_of_ble_eq_true rfl)) wF_X7_47 rfl rfl (Nat.le_of_ble_eq_true rfl) rfl rfl dX7_init_102 rfl rfl ?_
  refine k_aload (q := 106) (i := 0) (n := 0) dX7_init_105 rfl rfl rfl ?_
  refine k_sipush (q := 109) (v := nI 684) dX7_init_106 rfl rfl ?_
  refine k_newa (q := 111) (N := 684) (v := a + 13) (nI_pos (Nat.le_of_ble_eq_true rfl)) (nI_clamp (Nat.le_of_ble_eq_true rfl)) (Nat.le_of_ble_eq_true rfl) (Nat.le_of_ble_eq_true rfl) (Nat.le_of_ble_eq_true rfl) dX7_init_109 rfl rfl ?_
  refine k_cs (cs' := (.inr (7, [.ref (a + 1), .ref (a + 2), .ref (a + 3), .ref (a + 4), .ref (a + 5), .int (nI 0), .int (nI 4), .ref (a + 6), .ref (a + 7), .int (nI 0), .ref (a + 8), .int (nI 0), .long 0, .ref (a + 9), .int (nI 0), .int (nI 0), .int (nI 0), .int (nI 0), .int (nI 0), .ref (a + 10), .int (nI 0), .int (nI 0), .ref (a + 11), .int (nI 0), .int (nI 0), .ref (a + 12), .null, .null]) :: [ia (zz D cA sa w) 6, ia (zz D cA sa w) 6, ia (zz D cA sa w) 6, ia (zz D cA sa w) 6, ia (zz D cA sa w) 6, ia (zz D cA sa w) 31, ia (zz D cA sa w) 310, ia (zz D cA sa w) 18, ia (zz D cA sa w) 120, ia (zz D cA sa w) 3, ia (zz D cA sa w) 30, ia (zz D cA sa w) 31, ia (zz D cA sa w) 684])) rfl ?_
  refine k_putF (q := 114) (ci := 7) (f := 26) (i0 := 0) (cs' := (.inr (7, [.ref (a + 1), .ref (a + 2), .ref (a + 3), .ref (a + 4), .ref (a + 5), .int (nI 0), .int (nI 4), .ref (a + 6), .ref (a + 7), .int (nI 0), .ref (a + 8), .int (nI 0), .long 0, .ref (a + 9), .int (nI 0), .int (nI 0), .int (nI 0), .int (nI 0), .int (nI 0), .ref (a + 10), .int (nI 0), .int (nI 0), .ref (a + 11), .int (nI 0), .int (nI 0), .ref (a + 12), .ref (a + 13), .null]) :: [ia (zz D cA sa w) 6, ia (zz D cA sa w) 6, ia (zz D cA sa w) 6, ia (zz D cA sa w) 6, ia (zz D cA sa w) 6, ia (zz D cA sa w) 31, ia (zz D cA sa w) 310, ia (zz D cA sa w) 18, ia (zz D cA sa w) 120, ia (zz D cA sa w) 3, ia (zz D cA sa w) 30, ia (zz D cA sa w) 31, ia (zz D cA sa w) 684])) hin2 rfl hin_X7 tyX7 tyX7_ok nmX7 (Nat.le_of_ble_eq_true rfl) rfl rfl (tyX7_ok 26 (Nat.le_of_ble_eq_true rfl)) wF_X7_50 rfl rfl (Nat.le_of_ble_eq_true rfl) rfl rfl dX7_init_111 rfl rfl ?_
  refine k_aload (q := 115) (i := 0) (n := 0) dX7_init_114 rfl rfl rfl ?_
  refine k_iconst (q := 116) (v := nI 2) dX7_init_115 rfl rfl ?_
  refine k_newa (q := 118) (N := 2) (v := a + 14) (nI_pos (Nat.le_of_ble_eq_true rfl)) (nI_clamp (Nat.le_of_ble_eq_true rfl)) (Nat.le_of_ble_eq_true rfl) (Nat.le_of_ble_eq_true rfl) (Nat.le_of_ble_eq_true rfl) dX7_init_116 rfl rfl ?_
  refine k_cs (cs' := (.inr (7, [.ref (a + 1), .ref (a + 2), .ref (a + 3), .ref (a + 4), .ref (a + 5), .int (nI 0), .int (nI 4), .ref (a + 6), .ref (a + 7), .int (nI 0), .ref (a + 8), .int (nI 0), .long 0, .ref (a + 9), .int (nI 0), .int (nI 0), .int (nI 0), .int (nI 0), .int (nI 0), .ref (a + 10), .int (nI 0), .int (nI 0), .ref (a + 11), .int (nI 0), .int (nI 0), .ref (a + 12), .ref (a + 13), .null]) :: [ia (zz D cA sa w) 6, ia (zz D cA sa w) 6, ia (zz D cA sa w) 6, ia (zz D cA sa w) 6, ia (zz D cA sa w) 6, ia (zz D cA sa w) 31, ia (zz D cA sa w) 310, ia (zz D cA sa w) 18, ia (zz D cA sa w) 120, ia (zz D cA sa w) 3, ia (zz D cA sa w) 30, ia (zz D cA sa w) 31, ia (zz D cA sa w) 684, ia (zz D cA sa w) 2])) rfl ?_
  refine k_putF (q := 121) (ci := 7) (f := 27) (i0 := 0) (cs' := (.inr (7, [.ref (a + 1), .ref (a + 2), .ref (a + 3), .ref (a + 4), .ref (a + 5), .int (nI 0), .int (nI 4), .ref (a + 6), .ref (a + 7), .int (nI 0), .ref (a + 8), .int (nI 0), .long 0, .ref (a + 9), .int (nI 0), .int (nI 0), .int (nI 0), .int (nI 0), .int (nI 0), .ref (a + 10), .int (nI 0), .int (nI 0), .ref (a + 11), .int (nI 0), .int (nI 0), .ref (a + 12), .ref (a + 13), .ref (a + 14)]) :: [ia (zz D cA sa w) 6, ia (zz D cA sa w) 6, ia (zz D cA sa w) 6, ia (zz D cA sa w) 6, ia (zz D cA sa w) 6, ia (zz D cA sa w) 31, ia (zz D cA sa w) 310, ia (zz D cA sa w) 18, ia (zz D cA sa w) 120, ia (zz D cA sa w) 3, ia (zz D cA sa w) 30, ia (zz D cA sa w) 31, ia (zz D cA sa w) 684, ia (zz D cA sa w) 2])) hin2 rfl hin_X7 tyX7 tyX7_ok nmX7 (Nat.le_of_ble_eq_true rfl) rfl rfl (tyX7_ok 27 (Nat.le_of_ble_eq_true rfl)) wF_X7_53 rfl rfl (Nat.le_of_ble_eq_true rfl) rfl rfl dX7_init_118 rfl rfl ?_
  refine k_aload (q := 122) (i := 0) (n := 0) dX7_init_121 rfl rfl rfl ?_
  refine k_get (q := 125) (ci := 7) (f := 19) (i0 := 0) (v := .ref (a + 10)) rfl hin_X7 (Nat.le_of_ble_eq_true rfl) wF_X7_41 rfl rfl rfl dX7_init_122 rfl ?_
  refine k_iconst (q := 126) (v := nI 0) dX7_init_125 rfl rfl ?_
  refine k_bipush (q := 128) (v := nI 20) dX7_init_126 rfl rfl ?_
  refine k_iast (q := 129) (i0 := 10) (i := nI 0) (v := nI 20) (cs' := (.inr (7, [.ref (a + 1), .ref (a + 2), .ref (a + 3), .ref (a + 4), .ref (a + 5), .int (nI 0), .int (nI 4), .ref (a + 6), .ref (a + 7), .int (nI 0), .ref (a + 8), .int (nI 0), .long 0, .ref (a + 9), .int (nI 0), .int (nI 0), .int (nI 0), .int (nI 0), .int (nI 0), .ref (a + 10), .int (nI 0), .int (nI 0), .ref (a + 11), .int (nI 0), .int (nI 0), .ref (a + 12), .ref (a + 13), .ref (a + 14)]) :: [ia (zz D cA sa w) 6, ia (zz D cA sa w) 6, ia (zz D cA sa w) 6, ia (zz D cA sa w) 6, ia (zz D cA sa w) 6, ia (zz D cA sa w) 31, ia (zz D cA sa w) 310, ia (zz D cA sa w) 18, ia (zz D cA sa w) 120, .inl (zc (zz D cA sa w) 0, 3, .inl (upd (fun _ => nI 0) 0 (nI 20))), ia (zz D cA sa w) 30, ia (zz D cA sa w) 31, ia (zz D cA sa w) 684, ia (zz D cA sa w) 2])) rfl rfl (vp_in_nI (Nat.le_of_ble_eq_true rfl) (Nat.le_of_ble_eq_true rfl)) dX7_init_128 rfl rfl ?_
  refine k_aload (q := 130) (i := 0) (n := 0) dX7_init_129 rfl rfl rfl ?_
  refine k_get (q := 133) (ci := 7) (f := 19) (i0 := 0) (v := .ref (a + 10)) rfl hin_X7 (Nat.le_of_ble_eq_true rfl) wF_X7_41 rfl rfl rfl dX7_init_130 rfl ?_
  refine k_iconst (q := 134) (v := nI 1) dX7_init_133 rfl rfl ?_
  refine k_bipush (q := 136) (v := nI 20) dX7_init_134 rfl rfl ?_
  refine k_iast (q := 137) (i0 := 10) (i := nI 1) (v := nI 20) (cs' := (.inr (7, [.ref (a + 1), .ref (a + 2), .ref (a + 3), .ref (a + 4), .ref (a + 5), .int (nI 0), .int (nI 4), .ref (a + 6), .ref (a + 7), .int (nI 0), .ref (a + 8), .int (nI 0), .long 0, .ref (a + 9), .int (nI 0), .int (nI 0), .int (nI 0), .int (nI 0), .int (nI 0), .ref (a + 10), .int (nI 0), .int (nI 0), .ref (a + 11), .int (nI 0), .int (nI 0), .ref (a + 12), .ref (a + 13), .ref (a + 14)]) :: [ia (zz D cA sa w) 6, ia (zz D cA sa w) 6, ia (zz D cA sa w) 6, ia (zz D cA sa w) 6, ia (zz D cA sa w) 6, ia (zz D cA sa w) 31, ia (zz D cA sa w) 310, ia (zz D cA sa w) 18, ia (zz D cA sa w) 120, .inl (zc (zz D cA sa w) 0, 3, .inl (upd (upd (fun _ => nI 0) 0 (nI 20)) 1 (nI 20))), ia (zz D cA sa w) 30, ia (zz D cA sa w) 31, ia (zz D cA sa w) 684, ia (zz D cA sa w) 2])) rfl rfl (vp_in_nI (Nat.le_of_ble_eq_true rfl) (Nat.le_of_ble_eq_true rfl)) dX7_init_136 rfl rfl ?_
  refine k_aload (q := 138) (i := 0) (n := 0) dX7_init_137 rfl rfl rfl ?_
  refine k_get (q := 141) (ci := 7) (f := 19) (i0 := 0) (v := .ref (a + 10)) rfl hin_X7 (Nat.le_of_ble_eq_true rfl) wF_X7_41 rfl rfl rfl dX7_init_138 rfl ?_
  refine k_iconst (q := 142) (v := nI 2) dX7_init_141 rfl rfl ?_
  refine k_bipush (q := 144) (v := nI 20) dX7_init_142 rfl rfl ?_
  refine k_iast (q := 145) (i0 := 10) (i := nI 2) (v := nI 20) (cs' := (.inr (7, [.ref (a + 1), .ref (a + 2), .ref (a + 3), .ref (a + 4), .ref (a + 5), .int (nI 0), .int (nI 4), .ref (a + 6), .ref (a + 7), .int (nI 0), .ref (a + 8), .int (nI 0), .long 0, .ref (a + 9), .int (nI 0), .int (nI 0), .int (nI 0), .int (nI 0), .int (nI 0), .ref (a + 10), .int (nI 0), .int (nI 0), .ref (a + 11), .int (nI 0), .int (nI 0), .ref (a + 12), .ref (a + 13), .ref (a + 14)]) :: [ia (zz D cA sa w) 6, ia (zz D cA sa w) 6, ia (zz D cA sa w) 6, ia (zz D cA sa w) 6, ia (zz D cA sa w) 6, ia (zz D cA sa w) 31, ia (zz D cA sa w) 310, ia (zz D cA sa w) 18, ia (zz D cA sa w) 120, .inl (zc (zz D cA sa w) 0, 3, .inl (upd (upd (upd (fun _ => nI 0) 0 (nI 20)) 1 (nI 20)) 2 (nI 20))), ia (zz D cA sa w) 30, ia (zz D cA sa w) 31, ia (zz D cA sa w) 684, ia (zz D cA sa w) 2])) rfl rfl (vp_in_nI (Nat.le_of_ble_eq_true rfl) (Nat.le_of_ble_eq_true rfl)) dX7_init_144 rfl rfl ?_
  refine k_aload (q := 146) (i := 0) (n := 0) dX7_init_145 rfl rfl rfl ?_
  refine k_sipush (q := 149) (v := nI 200) dX7_init_146 rfl rfl ?_
  refine k_put (q := 152) (ci := 7) (f := 20) (i0 := 0) (cs' := (.inr (7, [.ref (a + 1), .ref (a + 2), .ref (a + 3), .ref (a + 4), .ref (a + 5), .int (nI 0), .int (nI 4), .ref (a + 6), .ref (a + 7), .int (nI 0), .ref (a + 8), .int (nI 0), .long 0, .ref (a + 9), .int (nI 0), .int (nI 0), .int (nI 0), .int (nI 0), .int (nI 0), .ref (a + 10), .int (nI 200), .int (nI 0), .ref (a + 11), .int (nI 0), .int (nI 0), .ref (a + 12), .ref (a + 13), .ref (a + 14)]) :: [ia (zz D cA sa w) 6, ia (zz D cA sa w) 6, ia (zz D cA sa w) 6, ia (zz D cA sa w) 6, ia (zz D cA sa w) 6, ia (zz D cA sa w) 31, ia (zz D cA sa w) 310, ia (zz D cA sa w) 18, ia (zz D cA sa w) 120, .inl (zc (zz D cA sa w) 0, 3, .inl (upd (upd (upd (fun _ => nI 0) 0 (nI 20)) 1 (nI 20)) 2 (nI 20))), ia (zz D cA sa w) 30, ia (zz D cA sa w) 31, ia (zz D cA sa w) 684, ia (zz D cA sa w) 2])) rfl hin_X7 tyX7 tyX7_ok nmX7 (Nat.le_of_ble_eq_true rfl) rfl (tyX7_ok 20 (Nat.le_of_ble_eq_true rfl)) wF_X7_56 rfl rfl (Nat.le_of_ble_eq_true rfl) rfl rfl dX7_init_149 rfl rfl ?_
  refine k_aload (q := 153) (i := 0) (n := 0) dX7_init_152 rfl rfl rfl ?_
  intro hF H locs ls hB hS hl
  subst ha
  have hX : FX dm p rm_X7_init s m #[.ref (w + 240)] c cX7_init 1 yX7_init.cls (zz D cA sa w) 14 1259 := ⟨hF.1, ⟨hF.2.1.1, hF.2.1.2.1, zz_I D cA sa w, by show w ≤ s.heap.size; omega, hF.2.1.2.2.1⟩, (Nat.le_of_ble_eq_true rfl), (Nat.le_of_ble_eq_true rfl)⟩
  have hSz : va_S (zA (zz D cA sa w)) s.heap H locs := s_wk hS (fun q hq => by show w ≤ q; have : w + 240 ≤ q := hq; omega)
  obtain ⟨arr, hrun⟩ := rn_V (δ := dm) (e := e) (below := below) (meth := meth) (R := rm_X7_init) (Wf := wm (zz D cA sa w) x1) (g := gmm) (k := 77) (i := 0) (As := []) (rest := []) (M := m_X7_begin gmm) (out := osv) (nxt := fun x => x) (c_X7_begin l (zz D cA sa w) x1 gmm) cv_X7_begin wM_X7_59 ⟨rfl, rfl⟩ ⟨(Nat.le_of_ble_eq_true rfl), (Nat.le_of_ble_eq_true rfl)⟩ (Nat.le_of_ble_eq_true rfl) (cel_77 (zz D cA sa w) x1 gmm 0) rfl rfl (Nat.le_of_ble_eq_true rfl) dX7_init_153 hX m1 hm1 H locs ls (zz_M hB (zz_K hPC hS)) hSz hl.1
  refine w_run hrun hSz (fun H1 locs1 hW1 hS1 => ?_)
  exact W.vret hF.1.1 hF.1.2.1 hr (fun t ht _ => ⟨rfl, by rw [ht]; exact hW1, va_S.F hS1 ht⟩) hS1.2.2 dX7_init_156 hk
