/-! the constructor of Course -/
def nows (z : zE) (b : Nat) : Nat → List va_E
  | 0 => []
  | k + 1 => nows z b k ++ f_X2 z (b + 6 * k)
theorem nows_len (z : zE) (b : Nat) : ∀ k, (nows z b k).length = 6 * k := by
  intro k
  induction k with
  | zero => rfl
  | succ k ih =>
    show (nows z b k ++ f_X2 z (b + 6 * k)).length = _
    rw [List.length_append, ih]
    show 6 * k + 6 = _
    omega
def ar4 (z : zE) (b k : Nat) : va_E := .inl (zc z 4, 10, .inr (.inr (.inr (.inr (fun j => if j < k then some (b + 6 * j) else none)))))
theorem ar_0 (b : Nat) : (fun j => if j < 0 then some (b + 6 * j) else (none : Option Nat)) = fun _ => none := by
  funext j; rw [if_neg (Nat.not_lt_zero j)]
theorem ar_s (b k n : Nat) (hn : n = k) : va_up (fun j => if j < k then some (b + 6 * j) else (none : Option Nat)) n (some (b + 6 * k)) = fun j => if j < k + 1 then some (b + 6 * j) else none := by
  subst hn
  funext j
  unfold va_up
  by_cases h : j = n
  · rw [if_pos h, if_pos (by omega), h]
  · rw [if_neg h]
    show (if j < n then some (b + 6 * j) else none) = _
    by_cases h2 : j < n
    · rw [if_pos h2, if_pos (by omega)]
    · rw [if_neg h2, if_neg (by omega)]
theorem nI_nl2 {i k : Nat} (h : i < k) (hk : k < 2147483648) : ¬ nI k ≤ nI i := fun q => absurd (Int32.le_iff_toInt_le.mp q) (by rw [nI_toInt hk, nI_toInt (by omega)]; omega)
abbrev z_X0 : va_E := .inr (0, [.null, .null, .int (nI 0), .int (nI 0)])
def L_X0 (z : zE) (a k : Nat) : List va_E := .inr (0, [.ref (a + 1), .ref (a + 7), .int (nI 0), .int (nI 0)]) :: (f_X2 z (a + 1) ++ (ar4 z (a + 8) k :: nows z (a + 8) k))
def f_X0 (z : zE) (a : Nat) : List va_E := L_X0 z a 10
theorem L_X0_len (z : zE) (a k : Nat) : (L_X0 z a k).length = 8 + 6 * k := by
  show (f_X2 z (a + 1) ++ (ar4 z (a + 8) k :: nows z (a + 8) k)).length + 1 = _
  rw [List.length_append, List.length_cons, nows_len]
  show 6 + (6 * k + 1) + 1 = _
  omega
abbrev rm_X0_init : Room := { frames := 3, cells := 67, slots := 406, locals := 100 }
theorem ci_X0 : CI yX0_init cX0_init 2 := ⟨wC_X0_init, wI_X0_init, wZ_X0, rfl, by decide +kernel⟩
theorem d_X2 : ∀ j, j < 9 → defaultValue (tyX2 j) = vp_V [.int (nI 0), .int (nI 0), .int (nI 0), .int (nI 0), .null, .null, .null, .null, .null] j := fun j hj => by
  rcases (show j = 0 ∨ j = 1 ∨ j = 2 ∨ j = 3 ∨ j = 4 ∨ j = 5 ∨ j = 6 ∨ j = 7 ∨ j = 8 by omega) with rfl | rfl | rfl | rfl | rfl | rfl | rfl | rfl | rfl <;> rfl
set_option maxRecDepth 100000 in
set_option maxHeartbeats 4000000 in
theorem l_X0_init (l : Launch) (z : zE) (a : Nat) (p : Program) (e : Env) (s : State) (m : MethodId) (below : List Frame) (meth : Method) (c : Code) (hin2 : meth.name = "<init>") (hr : meth.sig.returnType = none) (hk : meth.locks = false) : ∀ (n k : Nat), k + n = 10 → bJ p l e rm_X0_init s m #[.ref a] below meth c cX0_init 2 yX0_init.cls z a (7 + 6 * k) (46 + 36 * k) (MQ below (QB z a (f_X0 z a)) #[.ref a] s 67 406 (bA a)) 26 [(1, .int (nI k)), (0, .ref a)] [] (L_X0 z a k) := by
  intro n
  induction n with
  | zero =>
    intro k hkn
    have : k = 10 := by omega
    subst this
    refine k_iload (q := 27) (i := 0) (n := 1) dX0_init_26 rfl rfl rfl ?_
    refine k_aload (q := 28) (i := 1) (n := 0) dX0_init_27 rfl rfl rfl ?_
    refine k_get (q := 31) (ci := 0) (f := 1) (i0 := 0) (v := .ref (a + 7)) rfl hin_X0 (Nat.le_of_ble_eq_true rfl) wF_X0_18 rfl rfl rfl dX0_init_28 rfl ?_
    refine k_alen (q := 32) (t0 := 4) (i0 := 7) (v := nI 10) rfl rfl rfl rfl dX0_init_31 rfl ?_
    refine k_cmp_ge (q := 35) (tgt := 54) dX0_init_32 rfl rfl (fun _ => ?_) (fun h => absurd (Int32.le_refl _) h)
    exact k_ret (cs := f_X0 z a) hr hk dX0_init_54
  | succ n ih =>
    intro k hkn
    refine k_iload (q := 27) (i := 0) (n := 1) dX0_init_26 rfl rfl rfl ?_
    refine k_aload (q := 28) (i := 1) (n := 0) dX0_init_27 rfl rfl rfl ?_
    refine k_get (q := 31) (ci := 0) (f := 1) (i0 := 0) (v := .ref (a + 7)) rfl hin_X0 (Nat.le_of_ble_eq_true rfl) wF_X0_18 rfl rfl rfl dX0_init_28 rfl ?_
    refine k_alen (q := 32) (t0 := 4) (i0 := 7) (v := nI 10) rfl rfl rfl rfl dX0_init_31 rfl ?_
    refine k_cmp_ge (q := 35) (tgt := 54) dX0_init_32 rfl rfl (fun h => absurd h (nI_nl2 (by omega) (by omega))) (fun _ => ?_)
    refine k_aload (q := 36) (i := 1) (n := 0) dX0_init_35 rfl rfl rfl ?_
    refine k_get (q := 39) (ci := 0) (f := 1) (i0 := 0) (v := .ref (a + 7)) rfl hin_X0 (Nat.le_of_ble_eq_true rfl) wF_X0_18 rfl rfl rfl dX0_init_36 rfl ?_
    refine k_iload (q := 40) (i := 0) (n := 1) dX0_init_39 rfl rfl rfl ?_
    refine k_new (q := 43) (ci := 2) (v := a + 8 + 6 * k) rfl hin_X2 tyX2 tyX2_ok wK_X0_9 wU_X2 wZ_X2 d_X2 (by show 7 + 6 * k + 1 ≤ 67; omega) (by show 46 + 36 * k + 9 ≤ 406; omega) dX0_init_40 rfl (by rw [L_X0_len]; omega) ?_
    refine k_dup (q := 44) dX0_init_43 rfl ?_
    refine k_ctorN (q := 47) (c_X2_init l z) ci_X2 wO_X0_11 ⟨rfl, rfl⟩ ⟨(Nat.le_of_ble_eq_true rfl), (Nat.le_of_ble_eq_true rfl)⟩ (Nat.le_of_ble_eq_true rfl) ⟨by show 7 + 6 * k + 1 + 5 ≤ 67; omega, by show 46 + 36 * k + 9 + 27 ≤ 406; omega⟩ dX0_init_44 (by rw [L_X0_len]; omega) rfl ?_
    refine k_ast (q := 48) (t0 := 4) (ci := 2) (i0 := 7) (j0 := 8 + 6 * k) (cs' := L_X0 z a (k + 1)) rfl rfl rfl rfl (by rw [List.getElem?_append_right (by rw [L_X0_len]; omega), L_X0_len, Nat.sub_self]; rfl) (by omega) (vp_in_nI (by omega) (by omega)) dX0_init_47 rfl ?_ ?_
    · show Sum.inr (0, [Value.ref (a + 1), Value.ref (a + 7), Value.int (nI 0), Value.int (nI 0)]) :: (f_X2 z (a + 1) ++ ((Sum.inl (zc z 4, 10, Sum.inr (Sum.inr (Sum.inr (Sum.inr (va_up (fun j => if j < k then some (a + 8 + 6 * j) else (none : Option Nat)) (nI k).toNatClampNeg (some (a + 8 + 6 * k)))))))) :: (nows z (a + 8) k ++ f_X2 z (a + 8 + 6 * k)))) = _
      rw [ar_s (a + 8) k _ (nI_clamp (by omega))]
      rfl
    refine k_iinc (q := 51) (n := 1) (i := 0) (v := nI (k + 1)) (lv' := [(1, .int (nI (k + 1))), (0, .ref a)]) dX0_init_48 rfl (by show nI k + nI 1 = _; exact n_add k 1) (Nat.le_of_ble_eq_true rfl) rfl rfl ?_
    refine k_goto (tgt := 26) dX0_init_51 rfl ?_
    exact k_widen (by omega) (by omega) (ih (k + 1) (by omega))
set_option maxRecDepth 100000 in
set_option maxHeartbeats 4000000 in
theorem c_X0_init (l : Launch) (z : zE) : Ct l yX0_init cX0_init 2 rm_X0_init z z_X0 (f_X0 z) 67 406 := by
  refine ct_of (by decide) rfl (Nat.le_of_ble_eq_true rfl) (fun a ha p e s m below meth c hin2 hr hk hsz => ?_)
  refine k_aload (q := 1) (i := 0) (n := 0) dX0_init_0 rfl rfl rfl ?_
  refine k_obj (q := 4) wM_X0_3 (Nat.le_of_ble_eq_true rfl) (Nat.le_of_ble_eq_true rfl) dX0_init_1 rfl ?_
  refine k_aload (q := 5) (i := 0) (n := 0) dX0_init_4 rfl rfl rfl ?_
  refine k_new (q := 8) (ci := 2) (v := a + 1) rfl hin_X2 tyX2 tyX2_ok wK_X0_9 wU_X2 wZ_X2 d_X2 (Nat.le_of_ble_eq_true rfl) (Nat.le_of_ble_eq_true rfl) dX0_init_5 rfl rfl ?_
  refine k_dup (q := 9) dX0_init_8 rfl ?_
  refine k_ctorN (q := 12) (c_X2_init l z) ci_X2 wO_X0_11 ⟨rfl, rfl⟩ ⟨(Nat.le_of_ble_eq_true rfl), (Nat.le_of_ble_eq_true rfl)⟩ (Nat.le_of_ble_eq_true rfl) ⟨(Nat.le_of_ble_eq_true rfl), (Nat.le_of_ble_eq_true rfl)⟩ dX0_init_9 rfl rfl ?_
  refine k_putF (q := 15) (ci := 0) (f := 0) (i0 := 0) (cs' := .inr (0, [.ref (a + 1), .null, .int (nI 0), .int (nI 0)]) :: f_X2 z (a + 1)) hin2 rfl hin_X0 tyX0 tyX0_ok nmX0 (Nat.le_of_ble_eq_true rfl) rfl rfl (tyX0_ok 0 (Nat.le_of_ble_eq_true rfl)) wF_X0_12 rfl rfl (Nat.le_of_ble_eq_true rfl) rfl rfl dX0_init_12 rfl rfl ?_
  refine k_aload (q := 16) (i := 0) (n := 0) dX0_init_15 rfl rfl rfl ?_
  refine k_bipush (q := 18) (v := nI 10) dX0_init_16 rfl rfl ?_
  refine k_newq (q := 21) (t0 := 4) (N := 10) (v := a + 7) rfl wK_X0_9 (fun U h => h.2.2.2.2.2) (nI_pos (Nat.le_of_ble_eq_true rfl)) (nI_clamp (Nat.le_of_ble_eq_true rfl)) (Nat.le_of_ble_eq_true rfl) (Nat.le_of_ble_eq_true rfl) (Nat.le_of_ble_eq_true rfl) dX0_init_18 rfl rfl ?_
  refine k_putF (q := 24) (ci := 0) (f := 1) (i0 := 0) (cs' := .inr (0, [.ref (a + 1), .ref (a + 7), .int (nI 0), .int (nI 0)]) :: (f_X2 z (a + 1) ++ [.inl (zc z 4, 10, .inr (.inr (.inr (.inr (fun _ => none)))))])) hin2 rfl hin_X0 tyX0 tyX0_ok nmX0 (Nat.le_of_ble_eq_true rfl) rfl rfl (tyX0_ok 1 (Nat.le_of_ble_eq_true rfl)) wF_X0_18 rfl rfl (Nat.le_of_ble_eq_true rfl) rfl rfl dX0_init_21 rfl rfl ?_
  refine k_iconst (q := 25) (v := nI 0) dX0_init_24 rfl rfl ?_
  refine k_istore (q := 26) (n := 1) (lv' := [(1, .int (nI 0)), (0, .ref a)]) dX0_init_25 rfl (Nat.le_of_ble_eq_true rfl) rfl rfl ?_
  refine k_cs (cs' := L_X0 z a 0) (by unfold L_X0 ar4; rw [ar_0]; rfl) ?_
  exact l_X0_init l z a p e s m below meth c hin2 hr hk 10 0 rfl
