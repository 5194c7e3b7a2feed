/-! the constructors of Text, Now, Seen, Job -/
-- Text
abbrev z_X5 : va_E := .inr (5, [.null, .int (nI 0), .int (nI 0), .int (nI 0), .int (nI 0), .int (nI 0)])
def f_X5 (z : zE) (a : Nat) : List va_E := (.inr (5, [.ref (a + 1), .int (nI 0), .int (nI 0), .int (nI 0), .int (nI 0), .int (nI 0)]) :: [ia z 120])
abbrev rm_X5_init : Room := { frames := 1, cells := 1, slots := 120, locals := 12 }
theorem ci_X5 : CI yX5_init cX5_init 1 := ⟨wC_X5_init, wI_X5_init, wZ_X5, rfl, by decide +kernel⟩
set_option maxRecDepth 100000 in
set_option maxHeartbeats 4000000 in
theorem c_X5_init (l : Launch) (z : zE) : Ct l yX5_init cX5_init 1 rm_X5_init z z_X5 (f_X5 z) 1 120 := by
  refine ct_of (by decide) rfl (Nat.le_of_ble_eq_true rfl) (fun a ha p e s m below meth c hin2 hr hk hsz => ?_)
  refine k_aload (q := 1) (i := 0) (n := 0) dX5_init_0 rfl rfl rfl ?_
  refine k_obj (q := 4) wM_X5_3 (Nat.le_of_ble_eq_true rfl) (Nat.le_of_ble_eq_true rfl) dX5_init_1 rfl ?_
  refine k_aload (q := 5) (i := 0) (n := 0) dX5_init_4 rfl rfl rfl ?_
  refine k_bipush (q := 7) (v := nI 120) dX5_init_5 rfl rfl ?_
  refine k_newa (q := 9) (N := 120) (v := a + 1) (nI_pos (Nat.le_of_ble_eq_true rfl)) (nI_clamp (Nat.le_of_ble_eq_true rfl)) (Nat.le_of_ble_eq_true rfl) (Nat.le_of_ble_eq_true rfl) (Nat.le_of_ble_eq_true rfl) dX5_init_7 rfl rfl ?_
  refine k_cs (cs' := (.inr (5, [.null, .int (nI 0), .int (nI 0), .int (nI 0), .int (nI 0), .int (nI 0)]) :: [ia z 120])) rfl ?_
  refine k_putF (q := 12) (ci := 5) (f := 0) (i0 := 0) (cs' := (.inr (5, [.ref (a + 1), .int (nI 0), .int (nI 0), .int (nI 0), .int (nI 0), .int (nI 0)]) :: [ia z 120])) hin2 rfl hin_X5 tyX5 tyX5_ok nmX5 (Nat.le_of_ble_eq_true rfl) rfl rfl (tyX5_ok 0 (Nat.le_of_ble_eq_true rfl)) wF_X5_9 rfl rfl (Nat.le_of_ble_eq_true rfl) rfl rfl dX5_init_9 rfl rfl ?_
  exact k_ret (cs := f_X5 z a) hr hk dX5_init_12
-- Now
abbrev z_X2 : va_E := .inr (2, [.int (nI 0), .int (nI 0), .int (nI 0), .int (nI 0), .null, .null, .null, .null, .null])
def f_X2 (z : zE) (a : Nat) : List va_E := (.inr (2, [.int (nI 0), .int (nI 0), .int (nI 0), .int (nI 0), .ref (a + 1), .ref (a + 2), .ref (a + 3), .ref (a + 4), .ref (a + 5)]) :: [ia z 6, ia z 6, ia z 6, ia z 3, ia z 6])
abbrev rm_X2_init : Room := { frames := 1, cells := 5, slots := 27, locals := 12 }
theorem ci_X2 : CI yX2_init cX2_init 1 := ⟨wC_X2_init, wI_X2_init, wZ_X2, rfl, by decide +kernel⟩
set_option maxRecDepth 100000 in
set_option maxHeartbeats 4000000 in
theorem c_X2_init (l : Launch) (z : zE) : Ct l yX2_init cX2_init 1 rm_X2_init z z_X2 (f_X2 z) 5 27 := by
  refine ct_of (by decide) rfl (Nat.le_of_ble_eq_true rfl) (fun a ha p e s m below meth c hin2 hr hk hsz => ?_)
  refine k_aload (q := 1) (i := 0) (n := 0) dX2_init_0 rfl rfl rfl ?_
  refine k_obj (q := 4) wM_X2_3 (Nat.le_of_ble_eq_true rfl) (Nat.le_of_ble_eq_true rfl) dX2_init_1 rfl ?_
  refine k_aload (q := 5) (i := 0) (n := 0) dX2_init_4 rfl rfl rfl ?_
  refine k_bipush (q := 7) (v := nI 6) dX2_init_5 rfl rfl ?_
  refine k_newa (q := 9) (N := 6) (v := a + 1) (nI_pos (Nat.le_of_ble_eq_true rfl)) (nI_clamp (Nat.le_of_ble_eq_true rfl)) (Nat.le_of_ble_eq_true rfl) (Nat.le_of_ble_eq_true rfl) (Nat.le_of_ble_eq_true rfl) dX2_init_7 rfl rfl ?_
  refine k_cs (cs' := (.inr (2, [.int (nI 0), .int (nI 0), .int (nI 0), .int (nI 0), .null, .null, .null, .null, .null]) :: [ia z 6])) rfl ?_
  refine k_putF (q := 12) (ci := 2) (f := 4) (i0 := 0) (cs' := (.inr (2, [.int (nI 0), .int (nI 0), .int (nI 0), .int (nI 0), .ref (a + 1), .null, .null, .null, .null]) :: [ia z 6])) hin2 rfl hin_X2 tyX2 tyX2_ok nmX2 (Nat.le_of_ble_eq_true rfl) rfl rfl (tyX2_ok 4 (Nat.le_of_ble_eq_true rfl)) wF_X2_9 rfl rfl (Nat.le_of_ble_eq_true rfl) rfl rfl dX2_init_9 rfl rfl ?_
  refine k_aload (q := 13) (i := 0) (n := 0) dX2_init_12 rfl rfl rfl ?_
  refine k_bipush (q := 15) (v := nI 6) dX2_init_13 rfl rfl ?_
  refine k_newa (q := 17) (N := 6) (v := a + 2) (nI_pos (Nat.le_of_ble_eq_true rfl)) (nI_clamp (Nat.le_of_ble_eq_true rfl)) (Nat.le_of_ble_eq_true rfl) (Nat.le_of_ble_eq_true rfl) (Nat.le_of_ble_eq_true rfl) dX2_init_15 rfl rfl ?_
  refine k_cs (cs' := (.inr (2, [.int (nI 0), .int (nI 0), .int (nI 0), .int (nI 0), .ref (a + 1), .null, .null, .null, .null]) :: [ia z 6, ia z 6])) rfl ?_
  refine k_putF (q := 20) (ci := 2) (f := 5) (i0 := 0) (cs' := (.inr (2, [.int (nI 0), .int (nI 0), .int (nI 0), .int (nI 0), .ref (a + 1), .ref (a + 2), .null, .null, .null]) :: [ia z 6, ia z 6])) hin2 rfl hin_X2 tyX2 tyX2_ok nmX2 (Nat.le_of_ble_eq_true rfl) rfl rfl (tyX2_ok 5 (Nat.le_of_ble_eq_true rfl)) wF_X2_15 rfl rfl (Nat.le_of_ble_eq_true rfl) rfl rfl dX2_init_17 rfl rfl ?_
  refine k_aload (q := 21) (i := 0) (n := 0) dX2_init_20 rfl rfl rfl ?_
  refine k_bipush (q := 23) (v := nI 6) dX2_init_21 rfl rfl ?_
  refine k_newa (q := 25) (N := 6) (v := a + 3) (nI_pos (Nat.le_of_ble_eq_true rfl)) (nI_clamp (Nat.le_of_ble_eq_true rfl)) (Nat.le_of_ble_eq_true rfl) (Nat.le_of_ble_eq_true rfl) (Nat.le_of_ble_eq_true rfl) dX2_init_23 rfl rfl ?_
  refine k_cs (cs' := (.inr (2, [.int (nI 0), .int (nI 0), .int (nI 0), .int (nI 0), .ref (a + 1), .ref (a + 2), .null, .null, .null]) :: [ia z 6, ia z 6, ia z 6])) rfl ?_
  refine k_putF (q := 28) (ci := 2) (f := 6) (i0 := 0) (cs' := (.inr (2, [.int (nI 0), .int (nI 0), .int (nI 0), .int (nI 0), .ref (a + 1), .ref (a + 2), .ref (a + 3), .null, .null]) :: [ia z 6, ia z 6, ia z 6])) hin2 rfl hin_X2 tyX2 tyX2_ok nmX2 (Nat.le_of_ble_eq_true rfl) rfl rfl (tyX2_ok 6 (Nat.le_of_ble_eq_true rfl)) wF_X2_18 rfl rfl (Nat.le_of_ble_eq_true rfl) rfl rfl dX2_init_25 rfl rfl ?_
  refine k_aload (q := 29) (i := 0) (n := 0) dX2_init_28 rfl rfl rfl ?_
  refine k_iconst (q := 30) (v := nI 3) dX2_init_29 rfl rfl ?_
  refine k_newa (q := 32) (N := 3) (v := a + 4) (nI_pos (Nat.le_of_ble_eq_true rfl)) (nI_clamp (Nat.le_of_ble_eq_true rfl)) (Nat.le_of_ble_eq_true rfl) (Nat.le_of_ble_eq_true rfl) (Nat.le_of_ble_eq_true rfl) dX2_init_30 rfl rfl ?_
  refine k_cs (cs' := (.inr (2, [.int (nI 0), .int (nI 0), .int (nI 0), .int (nI 0), .ref (a + 1), .ref (a + 2), .ref (a + 3), .null, .null]) :: [ia z 6, ia z 6, ia z 6, ia z 3])) rfl ?_
  refine k_putF (q := 35) (ci := 2) (f := 7) (i0 := 0) (cs' := (.inr (2, [.int (nI 0), .int (nI 0), .int (nI 0), .int (nI 0), .ref (a + 1), .ref (a + 2), .ref (a + 3), .ref (a + 4), .null]) :: [ia z 6, ia z 6, ia z 6, ia z 3])) hin2 rfl hin_X2 tyX2 tyX2_ok nmX2 (Nat.le_of_ble_eq_true rfl) rfl rfl (tyX2_ok 7 (Nat.le_of_ble_eq_true rfl)) wF_X2_21 rfl rfl (Nat.le_of_ble_eq_true rfl) rfl rfl dX2_init_32 rfl rfl ?_
  refine k_aload (q := 36) (i := 0) (n := 0) dX2_init_35 rfl rfl rfl ?_
  refine k_bipush (q := 38) (v := nI 6) dX2_init_36 rfl rfl ?_
  refine k_newa (q := 40) (N := 6) (v := a + 5) (nI_pos (Nat.le_of_ble_eq_true rfl)) (nI_clamp (Nat.le_of_ble_eq_true rfl)) (Nat.le_of_ble_eq_true rfl) (Nat.le_of_ble_eq_true rfl) (Nat.le_of_ble_eq_true rfl) dX2_init_38 rfl rfl ?_
  refine k_cs (cs' := (.inr (2, [.int (nI 0), .int (nI 0), .int (nI 0), .int (nI 0), .ref (a + 1), .ref (a + 2), .ref (a + 3), .ref (a + 4), .null]) :: [ia z 6, ia z 6, ia z 6, ia z 3, ia z 6])) rfl ?_
  refine k_putF (q := 43) (ci := 2) (f := 8) (i0 := 0) (cs' := (.inr (2, [.int (nI 0), .int (nI 0), .int (nI 0), .int (nI 0), .ref (a + 1), .ref (a + 2), .ref (a + 3), .ref (a + 4), .ref (a + 5)]) :: [ia z 6, ia z 6, ia z 6, ia z 3, ia z 6])) hin2 rfl hin_X2 tyX2 tyX2_ok nmX2 (Nat.le_of_ble_eq_true rfl) rfl rfl (tyX2_ok 8 (Nat.le_of_ble_eq_true rfl)) wF_X2_24 rfl rfl (Nat.le_of_ble_eq_true rfl) rfl rfl dX2_init_40 rfl rfl ?_
  exact k_ret (cs := f_X2 z a) hr hk dX2_init_43
-- Seen
abbrev z_X4 : va_E := .inr (4, [.null, .null, .null, .int (nI 0), .null])
def f_X4 (z : zE) (a : Nat) : List va_E := (.inr (4, [.ref (a + 1), .ref (a + 2), .ref (a + 3), .int (nI 0), .ref (a + 4)]) :: [ia z 6, ia z 6, ia z 6, ia z 10])
abbrev rm_X4_init : Room := { frames := 1, cells := 4, slots := 28, locals := 12 }
theorem ci_X4 : CI yX4_init cX4_init 1 := ⟨wC_X4_init, wI_X4_init, wZ_X4, rfl, by decide +kernel⟩
set_option maxRecDepth 100000 in
set_option maxHeartbeats 4000000 in
theorem c_X4_init (l : Launch) (z : zE) : Ct l yX4_init cX4_init 1 rm_X4_init z z_X4 (f_X4 z) 4 28 := by
  refine ct_of (by decide) rfl (Nat.le_of_ble_eq_true rfl) (fun a ha p e s m below meth c hin2 hr hk hsz => ?_)
  refine k_aload (q := 1) (i := 0) (n := 0) dX4_init_0 rfl rfl rfl ?_
  refine k_obj (q := 4) wM_X4_3 (Nat.le_of_ble_eq_true rfl) (Nat.le_of_ble_eq_true rfl) dX4_init_1 rfl ?_
  refine k_aload (q := 5) (i := 0) (n := 0) dX4_init_4 rfl rfl rfl ?_
  refine k_bipush (q := 7) (v := nI 6) dX4_init_5 rfl rfl ?_
  refine k_newa (q := 9) (N := 6) (v := a + 1) (nI_pos (Nat.le_of_ble_eq_true rfl)) (nI_clamp (Nat.le_of_ble_eq_true rfl)) (Nat.le_of_ble_eq_true rfl) (Nat.le_of_ble_eq_true rfl) (Nat.le_of_ble_eq_true rfl) dX4_init_7 rfl rfl ?_
  refine k_cs (cs' := (.inr (4, [.null, .null, .null, .int (nI 0), .null]) :: [ia z 6])) rfl ?_
  refine k_putF (q := 12) (ci := 4) (f := 0) (i0 := 0) (cs' := (.inr (4, [.ref (a + 1), .null, .null, .int (nI 0), .null]) :: [ia z 6])) hin2 rfl hin_X4 tyX4 tyX4_ok nmX4 (Nat.le_of_ble_eq_true rfl) rfl rfl (tyX4_ok 0 (Nat.le_of_ble_eq_true rfl)) wF_X4_9 rfl rfl (Nat.le_of_ble_eq_true rfl) rfl rfl dX4_init_9 rfl rfl ?_
  refine k_aload (q := 13) (i := 0) (n := 0) dX4_init_12 rfl rfl rfl ?_
  refine k_bipush (q := 15) (v := nI 6) dX4_init_13 rfl rfl ?_
  refine k_newa (q := 17) (N := 6) (v := a + 2) (nI_pos (Nat.le_of_ble_eq_true rfl)) (nI_clamp (Nat.le_of_ble_eq_true rfl)) (Nat.le_of_ble_eq_true rfl) (Nat.le_of_ble_eq_true rfl) (Nat.le_of_ble_eq_true rfl) dX4_init_15 rfl rfl ?_
  refine k_cs (cs' := (.inr (4, [.ref (a + 1), .null, .null, .int (nI 0), .null]) :: [ia z 6, ia z 6])) rfl ?_
  refine k_putF (q := 20) (ci := 4) (f := 1) (i0 := 0) (cs' := (.inr (4, [.ref (a + 1), .ref (a + 2), .null, .int (nI 0), .null]) :: [ia z 6, ia z 6])) hin2 rfl hin_X4 tyX4 tyX4_ok nmX4 (Nat.le_of_ble_eq_true rfl) rfl rfl (tyX4_ok 1 (Nat.le_of_ble_eq_true rfl)) wF_X4_15 rfl rfl (Nat.le_of_ble_eq_true rfl) rfl rfl dX4_init_17 rfl rfl ?_
  refine k_aload (q := 21) (i := 0) (n := 0) dX4_init_20 rfl rfl rfl ?_
  refine k_bipush (q := 23) (v := nI 6) dX4_init_21 rfl rfl ?_
  refine k_newa (q := 25) (N := 6) (v := a + 3) (nI_pos (Nat.le_of_ble_eq_true rfl)) (nI_clamp (Nat.le_of_ble_eq_true rfl)) (Nat.le_of_ble_eq_true rfl) (Nat.le_of_ble_eq_true rfl) (Nat.le_of_ble_eq_true rfl) dX4_init_23 rfl rfl ?_
  refine k_cs (cs' := (.inr (4, [.ref (a + 1), .ref (a + 2), .null, .int (nI 0), .null]) :: [ia z 6, ia z 6, ia z 6])) rfl ?_
  refine k_putF (q := 28) (ci := 4) (f := 2) (i0 := 0) (cs' := (.inr (4, [.ref (a + 1), .ref (a + 2), .ref (a + 3), .int (nI 0), .null]) :: [ia z 6, ia z 6, ia z 6])) hin2 rfl hin_X4 tyX4 tyX4_ok nmX4 (Nat.le_of_ble_eq_true rfl) rfl rfl (tyX4_ok 2 (Nat.le_of_ble_eq_true rfl)) wF_X4_18 rfl rfl (Nat.le_of_ble_eq_true rfl) rfl rfl dX4_init_25 rfl rfl ?_
  refine k_aload (q := 29) (i := 0) (n := 0) dX4_init_28 rfl rfl rfl ?_
  refine k_bipush (q := 31) (v := nI 10) dX4_init_29 rfl rfl ?_
  refine k_newa (q := 33) (N := 10) (v := a + 4) (nI_pos (Nat.le_of_ble_eq_true rfl)) (nI_clamp (Nat.le_of_ble_eq_true rfl)) (Nat.le_of_ble_eq_true rfl) (Nat.le_of_ble_eq_true rfl) (Nat.le_of_ble_eq_true rfl) dX4_init_31 rfl rfl ?_
  refine k_cs (cs' := (.inr (4, [.ref (a + 1), .ref (a + 2), .ref (a + 3), .int (nI 0), .null]) :: [ia z 6, ia z 6, ia z 6, ia z 10])) rfl ?_
  refine k_putF (q := 36) (ci := 4) (f := 4) (i0 := 0) (cs' := (.inr (4, [.ref (a + 1), .ref (a + 2), .ref (a + 3), .int (nI 0), .ref (a + 4)]) :: [ia z 6, ia z 6, ia z 6, ia z 10])) hin2 rfl hin_X4 tyX4 tyX4_ok nmX4 (Nat.le_of_ble_eq_true rfl) rfl rfl (tyX4_ok 4 (Nat.le_of_ble_eq_true rfl)) wF_X4_21 rfl rfl (Nat.le_of_ble_eq_true rfl) rfl rfl dX4_init_33 rfl rfl ?_
  exact k_ret (cs := f_X4 z a) hr hk dX4_init_36
-- Job
abbrev z_X1 : va_E := .inr (1, [.int (nI 0), .int (nI 0), .int (nI 0), .int (nI 0), .int (nI 0), .int (nI 0), .int (nI 0)])
def f_X1 (z : zE) (a : Nat) : List va_E := (.inr (1, [.int (nI 1), .int (nI 1), .int (nI 0), .int (nI 0), .int (nI 0), .int (nI 1), .int (nI 1)]) :: [])
abbrev rm_X1_init : Room := { frames := 1, cells := 0, slots := 0, locals := 12 }
theorem ci_X1 : CI yX1_init cX1_init 1 := ⟨wC_X1_init, wI_X1_init, wZ_X1, rfl, by decide +kernel⟩
set_option maxRecDepth 100000 in
set_option maxHeartbeats 4000000 in
theorem c_X1_init (l : Launch) (z : zE) : Ct l yX1_init cX1_init 1 rm_X1_init z z_X1 (f_X1 z) 0 0 := by
  refine ct_of (by decide) rfl (Nat.le_of_ble_eq_true rfl) (fun a ha p e s m below meth c hin2 hr hk hsz => ?_)
  refine k_aload (q := 1) (i := 0) (n := 0) dX1_init_0 rfl rfl rfl ?_
  refine k_obj (q := 4) wM_X1_1 (Nat.le_of_ble_eq_true rfl) (Nat.le_of_ble_eq_true rfl) dX1_init_1 rfl ?_
  refine k_aload (q := 5) (i := 0) (n := 0) dX1_init_4 rfl rfl rfl ?_
  refine k_iconst (q := 6) (v := nI 1) dX1_init_5 rfl rfl ?_
  refine k_put (q := 9) (ci := 1) (f := 0) (i0 := 0) (cs' := (.inr (1, [.int (nI 1), .int (nI 0), .int (nI 0), .int (nI 0), .int (nI 0), .int (nI 0), .int (nI 0)]) :: [])) rfl hin_X1 tyX1 tyX1_ok nmX1 (Nat.le_of_ble_eq_true rfl) rfl (tyX1_ok 0 (Nat.le_of_ble_eq_true rfl)) wF_X1_7 rfl rfl (Nat.le_of_ble_eq_true rfl) rfl rfl dX1_init_6 rfl rfl ?_
  refine k_aload (q := 10) (i := 0) (n := 0) dX1_init_9 rfl rfl rfl ?_
  refine k_iconst (q := 11) (v := nI 1) dX1_init_10 rfl rfl ?_
  refine k_put (q := 14) (ci := 1) (f := 1) (i0 := 0) (cs' := (.inr (1, [.int (nI 1), .int (nI 1), .int (nI 0), .int (nI 0), .int (nI 0), .int (nI 0), .int (nI 0)]) :: [])) rfl hin_X1 tyX1 tyX1_ok nmX1 (Nat.le_of_ble_eq_true rfl) rfl (tyX1_ok 1 (Nat.le_of_ble_eq_true rfl)) wF_X1_13 rfl rfl (Nat.le_of_ble_eq_true rfl) rfl rfl dX1_init_11 rfl rfl ?_
  refine k_aload (q := 15) (i := 0) (n := 0) dX1_init_14 rfl rfl rfl ?_
  refine k_iconst (q := 16) (v := nI 1) dX1_init_15 rfl rfl ?_
  refine k_put (q := 19) (ci := 1) (f := 5) (i0 := 0) (cs' := (.inr (1, [.int (nI 1), .int (nI 1), .int (nI 0), .int (nI 0), .int (nI 0), .int (nI 1), .int (nI 0)]) :: [])) rfl hin_X1 tyX1 tyX1_ok nmX1 (Nat.le_of_ble_eq_true rfl) rfl (tyX1_ok 5 (Nat.le_of_ble_eq_true rfl)) wF_X1_16 rfl rfl (Nat.le_of_ble_eq_true rfl) rfl rfl dX1_init_16 rfl rfl ?_
  refine k_aload (q := 20) (i := 0) (n := 0) dX1_init_19 rfl rfl rfl ?_
  refine k_iconst (q := 21) (v := nI 1) dX1_init_20 rfl rfl ?_
  refine k_put (q := 24) (ci := 1) (f := 6) (i0 := 0) (cs' := (.inr (1, [.int (nI 1), .int (nI 1), .int (nI 0), .int (nI 0), .int (nI 0), .int (nI 1), .int (nI 1)]) :: [])) rfl hin_X1 tyX1 tyX1_ok nmX1 (Nat.le_of_ble_eq_true rfl) rfl (tyX1_ok 6 (Nat.le_of_ble_eq_true rfl)) wF_X1_19 rfl rfl (Nat.le_of_ble_eq_true rfl) rfl rfl dX1_init_21 rfl rfl ?_
  exact k_ret (cs := f_X1 z a) hr hk dX1_init_24
