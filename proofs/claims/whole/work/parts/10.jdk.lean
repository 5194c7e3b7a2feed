-- java/lang/Math.max(II)I
abbrev rm_J9_max_7cf53 : Room := { frames := 0, cells := 0, slots := 0, locals := 0 }
theorem cv_J9_max_7cf53 : CT yJ9_max_7cf53 cJ9_max_7cf53 2 (some .int) 2 := ⟨wC_J9_max_7cf53, wT_J9_max_7cf53, wZ_J9, by decide +kernel⟩
def m_J9_max_7cf53 (a0 : Int32) (a1 : Int32) : Option (Int32) := if a0 < a1 then some a1 else some a0
set_option maxRecDepth 100000 in
set_option maxHeartbeats 4000000 in
theorem c_J9_max_7cf53 (l : Launch) (z : zE) (gm : zG) (g : zG) (a0 : Int32) (a1 : Int32) : ∀ x, m_J9_max_7cf53 a0 a1 = some x → Ms dm l yJ9_max_7cf53 cJ9_max_7cf53 2 (some .int) rm_J9_max_7cf53 z [.int a0, .int a1] ((wx z gm) g) (oi x) ((wx z gm) ((fun _ => g) x)) := by
  refine ms_ofF (Wf := (wx z gm)) (ri := .ireturn) (out := oi) (nxt := (fun _ => g)) (ok := (fun _ => True)) (lv := [(0, .int a0), (1, .int a1)]) (by decide +kernel) ⟨rfl, rfl⟩ (Nat.le_of_ble_eq_true rfl) rfl (en_i (out := fun x => x)) (fun p e s m below meth c => ?_)
  refine j_eq (M2 := if a0 < a1 then some a1 else some a0) rfl ?_
  refine j_iload_n (q := 1) (i := 0) (n := 0) dJ9_max_7cf53_0 rfl rfl rfl ?_
  refine j_iload_n (q := 2) (i := 1) (n := 1) dJ9_max_7cf53_1 rfl rfl rfl ?_
  refine j_icmp_lt (tgt := 9) (q := 5) dJ9_max_7cf53_2 rfl rfl ?_ ?_
  · refine j_iload_n (q := 10) (i := 1) (n := 1) dJ9_max_7cf53_9 rfl rfl rfl ?_
    exact j_ret (x := a1) dJ9_max_7cf53_10 ⟨trivial, rfl, rfl⟩
  · refine j_iload_n (q := 6) (i := 0) (n := 0) dJ9_max_7cf53_5 rfl rfl rfl ?_
    refine j_goto (tgt := 10) dJ9_max_7cf53_6 rfl ?_
    exact j_ret (x := a0) dJ9_max_7cf53_10 ⟨trivial, rfl, rfl⟩
-- java/lang/Math.min(II)I
abbrev rm_J9_min_7cf53 : Room := { frames := 0, cells := 0, slots := 0, locals := 0 }
theorem cv_J9_min_7cf53 : CT yJ9_min_7cf53 cJ9_min_7cf53 2 (some .int) 2 := ⟨wC_J9_min_7cf53, wT_J9_min_7cf53, wZ_J9, by decide +kernel⟩
def m_J9_min_7cf53 (a0 : Int32) (a1 : Int32) : Option (Int32) := if a1 < a0 then some a1 else some a0
set_option maxRecDepth 100000 in
set_option maxHeartbeats 4000000 in
theorem c_J9_min_7cf53 (l : Launch) (z : zE) (gm : zG) (g : zG) (a0 : Int32) (a1 : Int32) : ∀ x, m_J9_min_7cf53 a0 a1 = some x → Ms dm l yJ9_min_7cf53 cJ9_min_7cf53 2 (some .int) rm_J9_min_7cf53 z [.int a0, .int a1] ((wx z gm) g) (oi x) ((wx z gm) ((fun _ => g) x)) := by
  refine ms_ofF (Wf := (wx z gm)) (ri := .ireturn) (out := oi) (nxt := (fun _ => g)) (ok := (fun _ => True)) (lv := [(0, .int a0), (1, .int a1)]) (by decide +kernel) ⟨rfl, rfl⟩ (Nat.le_of_ble_eq_true rfl) rfl (en_i (out := fun x => x)) (fun p e s m below meth c => ?_)
  refine j_eq (M2 := if a1 < a0 then some a1 else some a0) rfl ?_
  refine j_iload_n (q := 1) (i := 0) (n := 0) dJ9_min_7cf53_0 rfl rfl rfl ?_
  refine j_iload_n (q := 2) (i := 1) (n := 1) dJ9_min_7cf53_1 rfl rfl rfl ?_
  refine j_icmp_gt (tgt := 9) (q := 5) dJ9_min_7cf53_2 rfl rfl ?_ ?_
  · refine j_iload_n (q := 10) (i := 1) (n := 1) dJ9_min_7cf53_9 rfl rfl rfl ?_
    exact j_ret (x := a1) dJ9_min_7cf53_10 ⟨trivial, rfl, rfl⟩
  · refine j_iload_n (q := 6) (i := 0) (n := 0) dJ9_min_7cf53_5 rfl rfl rfl ?_
    refine j_goto (tgt := 10) dJ9_min_7cf53_6 rfl ?_
    exact j_ret (x := a0) dJ9_min_7cf53_10 ⟨trivial, rfl, rfl⟩
-- java/lang/Math.abs(I)I
abbrev rm_J9_abs_0f7a4 : Room := { frames := 0, cells := 0, slots := 0, locals := 0 }
theorem cv_J9_abs_0f7a4 : CT yJ9_abs_0f7a4 cJ9_abs_0f7a4 1 (some .int) 1 := ⟨wC_J9_abs_0f7a4, wT_J9_abs_0f7a4, wZ_J9, by decide +kernel⟩
def m_J9_abs_0f7a4 (a0 : Int32) : Option (Int32) := if a0 < (nI 0) then some (-a0) else some a0
set_option maxRecDepth 100000 in
set_option maxHeartbeats 4000000 in
theorem c_J9_abs_0f7a4 (l : Launch) (z : zE) (gm : zG) (g : zG) (a0 : Int32) : ∀ x, m_J9_abs_0f7a4 a0 = some x → Ms dm l yJ9_abs_0f7a4 cJ9_abs_0f7a4 1 (some .int) rm_J9_abs_0f7a4 z [.int a0] ((wx z gm) g) (oi x) ((wx z gm) ((fun _ => g) x)) := by
  refine ms_ofF (Wf := (wx z gm)) (ri := .ireturn) (out := oi) (nxt := (fun _ => g)) (ok := (fun _ => True)) (lv := [(0, .int a0)]) (by decide +kernel) ⟨rfl, rfl⟩ (Nat.le_of_ble_eq_true rfl) rfl (en_i (out := fun x => x)) (fun p e s m below meth c => ?_)
  refine j_eq (M2 := if a0 < (nI 0) then some (-a0) else some a0) rfl ?_
  refine j_iload_n (q := 1) (i := 0) (n := 0) dJ9_abs_0f7a4_0 rfl rfl rfl ?_
  refine j_if_ge (tgt := 9) (q := 4) dJ9_abs_0f7a4_1 rfl rfl ?_ ?_
  · refine j_iload_n (q := 10) (i := 0) (n := 0) dJ9_abs_0f7a4_9 rfl rfl rfl ?_
    exact j_ret (x := a0) dJ9_abs_0f7a4_10 ⟨trivial, rfl, rfl⟩
  · refine j_iload_n (q := 5) (i := 0) (n := 0) dJ9_abs_0f7a4_4 rfl rfl rfl ?_
    refine j_ineg (q := 6) dJ9_abs_0f7a4_5 rfl ?_
    refine j_goto (tgt := 10) dJ9_abs_0f7a4_6 rfl ?_
    exact j_ret (x := -a0) dJ9_abs_0f7a4_10 ⟨trivial, rfl, rfl⟩
-- java/lang/Math.floorMod(II)I
abbrev rm_J9_floorMod_7cf53 : Room := { frames := 0, cells := 0, slots := 0, locals := 0 }
theorem cv_J9_floorMod_7cf53 : CT yJ9_floorMod_7cf53 cJ9_floorMod_7cf53 3 (some .int) 2 := ⟨wC_J9_floorMod_7cf53, wT_J9_floorMod_7cf53, wZ_J9, by decide +kernel⟩
def m_J9_floorMod_7cf53 (a0 : Int32) (a1 : Int32) : Option (Int32) := gd (¬ (a1 : Int32) = 0) (if (a0 ^^^ a1) < (nI 0) then if (a0 - a0 / a1 * a1) = (nI 0) then some (a0 - a0 / a1 * a1) else some ((a0 - a0 / a1 * a1) + a1) else some (a0 - a0 / a1 * a1))
set_option maxRecDepth 100000 in
set_option maxHeartbeats 4000000 in
theorem c_J9_floorMod_7cf53 (l : Launch) (z : zE) (gm : zG) (g : zG) (a0 : Int32) (a1 : Int32) : ∀ x, m_J9_floorMod_7cf53 a0 a1 = some x → Ms dm l yJ9_floorMod_7cf53 cJ9_floorMod_7cf53 3 (some .int) rm_J9_floorMod_7cf53 z [.int a0, .int a1] ((wx z gm) g) (oi x) ((wx z gm) ((fun _ => g) x)) := by
  refine ms_ofF (Wf := (wx z gm)) (ri := .ireturn) (out := oi) (nxt := (fun _ => g)) (ok := (fun _ => True)) (lv := [(0, .int a0), (1, .int a1)]) (by decide +kernel) ⟨rfl, rfl⟩ (Nat.le_of_ble_eq_true rfl) rfl (en_i (out := fun x => x)) (fun p e s m below meth c => ?_)
  refine j_eq (M2 := gd (¬ (a1 : Int32) = 0) (if (a0 ^^^ a1) < (nI 0) then if (a0 - a0 / a1 * a1) = (nI 0) then some (a0 - a0 / a1 * a1) else some ((a0 - a0 / a1 * a1) + a1) else some (a0 - a0 / a1 * a1))) rfl ?_
  refine j_iload_n (q := 1) (i := 0) (n := 0) dJ9_floorMod_7cf53_0 rfl rfl rfl ?_
  refine j_iload_n (q := 2) (i := 1) (n := 1) dJ9_floorMod_7cf53_1 rfl rfl rfl ?_
  refine j_irem (q := 3) dJ9_floorMod_7cf53_2 rfl ?_
  refine j_istore_n (q := 4) (n := 2) (lv' := [(2, .int (a0 - a0 / a1 * a1)), (0, .int a0), (1, .int a1)]) dJ9_floorMod_7cf53_3 rfl (Nat.le_of_ble_eq_true rfl) rfl rfl ?_
  refine j_iload_n (q := 5) (i := 1) (n := 0) dJ9_floorMod_7cf53_4 rfl rfl rfl ?_
  refine j_iload_n (q := 6) (i := 2) (n := 1) dJ9_floorMod_7cf53_5 rfl rfl rfl ?_
  refine j_ixor (q := 7) dJ9_floorMod_7cf53_6 rfl ?_
  refine j_if_ge (tgt := 18) (q := 10) dJ9_floorMod_7cf53_7 rfl rfl ?_ ?_
  · refine j_iload_n (q := 19) (i := 0) (n := 2) dJ9_floorMod_7cf53_18 rfl rfl rfl ?_
    exact j_ret (x := a0 - a0 / a1 * a1) dJ9_floorMod_7cf53_19 ⟨trivial, rfl, rfl⟩
  · refine j_iload_n (q := 11) (i := 0) (n := 2) dJ9_floorMod_7cf53_10 rfl rfl rfl ?_
    refine j_if_eq (tgt := 18) (q := 14) dJ9_floorMod_7cf53_11 rfl rfl ?_ ?_
    · refine j_iload_n (q := 19) (i := 0) (n := 2) dJ9_floorMod_7cf53_18 rfl rfl rfl ?_
      exact j_ret (x := a0 - a0 / a1 * a1) dJ9_floorMod_7cf53_19 ⟨trivial, rfl, rfl⟩
    · refine j_iload_n (q := 15) (i := 0) (n := 2) dJ9_floorMod_7cf53_14 rfl rfl rfl ?_
      refine j_iload_n (q := 16) (i := 2) (n := 1) dJ9_floorMod_7cf53_15 rfl rfl rfl ?_
      refine j_iadd (q := 17) dJ9_floorMod_7cf53_16 rfl ?_
      exact j_ret (x := (a0 - a0 / a1 * a1) + a1) dJ9_floorMod_7cf53_17 ⟨trivial, rfl, rfl⟩
-- java/lang/Integer.bitCount(I)I
abbrev rm_J6_bitCount_0f7a4 : Room := { frames := 0, cells := 0, slots := 0, locals := 0 }
theorem cv_J6_bitCount_0f7a4 : CT yJ6_bitCount_0f7a4 cJ6_bitCount_0f7a4 1 (some .int) 1 := ⟨wC_J6_bitCount_0f7a4, wT_J6_bitCount_0f7a4, wZ_J6, by decide +kernel⟩
def m_J6_bitCount_0f7a4 (a0 : Int32) : Option (Int32) := bd (a0 - (((a0.toUInt32 >>> (((nI 1) : Int32).toUInt32 &&& Int32.toUInt32 31)).toInt32) &&& (nI 1431655765))) fun v1 => bd ((v1 &&& (nI 858993459)) + (((v1.toUInt32 >>> (((nI 2) : Int32).toUInt32 &&& Int32.toUInt32 31)).toInt32) &&& (nI 858993459))) fun v2 => bd ((v2 + ((v2.toUInt32 >>> (((nI 4) : Int32).toUInt32 &&& Int32.toUInt32 31)).toInt32)) &&& (nI 252645135)) fun v3 => bd (v3 + ((v3.toUInt32 >>> (((nI 8) : Int32).toUInt32 &&& Int32.toUInt32 31)).toInt32)) fun v4 => bd (v4 + ((v4.toUInt32 >>> (((nI 16) : Int32).toUInt32 &&& Int32.toUInt32 31)).toInt32)) fun v5 => some (v5 &&& (nI 63))
set_option maxRecDepth 100000 in
set_option maxHeartbeats 4000000 in
theorem c_J6_bitCount_0f7a4 (l : Launch) (z : zE) (gm : zG) (g : zG) (a0 : Int32) : ∀ x, m_J6_bitCount_0f7a4 a0 = some x → Ms dm l yJ6_bitCount_0f7a4 cJ6_bitCount_0f7a4 1 (some .int) rm_J6_bitCount_0f7a4 z [.int a0] ((wx z gm) g) (oi x) ((wx z gm) ((fun _ => g) x)) := by
  refine ms_of (Wf := (wx z gm)) (ri := .ireturn) (out := oi) (nxt := (fun _ => g)) (ok := (fun _ => True)) (lv := [(0, .int a0)]) (by decide) ⟨rfl, rfl⟩ (Nat.le_of_ble_eq_true rfl) rfl (en_i (out := fun x => x)) (fun p e s m below meth c => ?_)
  refine j_eq (M2 := bd (a0 - (((a0.toUInt32 >>> (((nI 1) : Int32).toUInt32 &&& Int32.toUInt32 31)).toInt32) &&& (nI 1431655765))) fun v1 => bd ((v1 &&& (nI 858993459)) + (((v1.toUInt32 >>> (((nI 2) : Int32).toUInt32 &&& Int32.toUInt32 31)).toInt32) &&& (nI 858993459))) fun v2 => bd ((v2 + ((v2.toUInt32 >>> (((nI 4) : Int32).toUInt32 &&& Int32.toUInt32 31)).toInt32)) &&& (nI 252645135)) fun v3 => bd (v3 + ((v3.toUInt32 >>> (((nI 8) : Int32).toUInt32 &&& Int32.toUInt32 31)).toInt32)) fun v4 => bd (v4 + ((v4.toUInt32 >>> (((nI 16) : Int32).toUInt32 &&& Int32.toUInt32 31)).toInt32)) fun v5 => some (v5 &&& (nI 63))) rfl ?_
  refine j_iload_n (q := 1) (i := 0) (n := 0) dJ6_bitCount_0f7a4_0 rfl rfl rfl ?_
  refine j_iload_n (q := 2) (i := 0) (n := 0) dJ6_bitCount_0f7a4_1 rfl rfl rfl ?_
  refine j_iconst (q := 3) (v := (nI 1)) dJ6_bitCount_0f7a4_2 rfl rfl ?_
  refine j_iushr (q := 4) dJ6_bitCount_0f7a4_3 rfl ?_
  refine j_ldcw (q := 7) (v := (nI 1431655765)) dJ6_bitCount_0f7a4_4 wV_J6_265 rfl ?_
  refine j_iand (q := 8) dJ6_bitCount_0f7a4_7 rfl ?_
  refine j_isub (q := 9) dJ6_bitCount_0f7a4_8 rfl ?_
  refine j_top (fun v1 => ?_)
  refine j_istore_n (q := 10) (n := 0) (lv' := [(0, .int v1)]) dJ6_bitCount_0f7a4_9 rfl (Nat.le_of_ble_eq_true rfl) rfl rfl ?_
  refine j_iload_n (q := 11) (i := 0) (n := 0) dJ6_bitCount_0f7a4_10 rfl rfl rfl ?_
  refine j_ldcw (q := 14) (v := (nI 858993459)) dJ6_bitCount_0f7a4_11 wV_J6_266 rfl ?_
  refine j_iand (q := 15) dJ6_bitCount_0f7a4_14 rfl ?_
  refine j_iload_n (q := 16) (i := 0) (n := 0) dJ6_bitCount_0f7a4_15 rfl rfl rfl ?_
  refine j_iconst (q := 17) (v := (nI 2)) dJ6_bitCount_0f7a4_16 rfl rfl ?_
  refine j_iushr (q := 18) dJ6_bitCount_0f7a4_17 rfl ?_
  refine j_ldcw (q := 21) (v := (nI 858993459)) dJ6_bitCount_0f7a4_18 wV_J6_266 rfl ?_
  refine j_iand (q := 22) dJ6_bitCount_0f7a4_21 rfl ?_
  refine j_iadd (q := 23) dJ6_bitCount_0f7a4_22 rfl ?_
  refine j_top (fun v2 => ?_)
  refine j_istore_n (q := 24) (n := 0) (lv' := [(0, .int v2)]) dJ6_bitCount_0f7a4_23 rfl (Nat.le_of_ble_eq_true rfl) rfl rfl ?_
  refine j_iload_n (q := 25) (i := 0) (n := 0) dJ6_bitCount_0f7a4_24 rfl rfl rfl ?_
  refine j_iload_n (q := 26) (i := 0) (n := 0) dJ6_bitCount_0f7a4_25 rfl rfl rfl ?_
  refine j_iconst (q := 27) (v := (nI 4)) dJ6_bitCount_0f7a4_26 rfl rfl ?_
  refine j_iushr (q := 28) dJ6_bitCount_0f7a4_27 rfl ?_
  refine j_iadd (q := 29) dJ6_bitCount_0f7a4_28 rfl ?_
  refine j_ldcw (q := 32) (v := (nI 252645135)) dJ6_bitCount_0f7a4_29 wV_J6_267 rfl ?_
  refine j_iand (q := 33) dJ6_bitCount_0f7a4_32 rfl ?_
  refine j_top (fun v3 => ?_)
  refine j_istore_n (q := 34) (n := 0) (lv' := [(0, .int v3)]) dJ6_bitCount_0f7a4_33 rfl (Nat.le_of_ble_eq_true rfl) rfl rfl ?_
  refine j_iload_n (q := 35) (i := 0) (n := 0) dJ6_bitCount_0f7a4_34 rfl rfl rfl ?_
  refine j_iload_n (q := 36) (i := 0) (n := 0) dJ6_bitCount_0f7a4_35 rfl rfl rfl ?_
  refine j_bipush (q := 38) (v := (nI 8)) dJ6_bitCount_0f7a4_36 rfl rfl ?_
  refine j_iushr (q := 39) dJ6_bitCount_0f7a4_38 rfl ?_
  refine j_iadd (q := 40) dJ6_bitCount_0f7a4_39 rfl ?_
  refine j_top (fun v4 => ?_)
  refine j_istore_n (q := 41) (n := 0) (lv' := [(0, .int v4)]) dJ6_bitCount_0f7a4_40 rfl (Nat.le_of_ble_eq_true rfl) rfl rfl ?_
  refine j_iload_n (q := 42) (i := 0) (n := 0) dJ6_bitCount_0f7a4_41 rfl rfl rfl ?_
  refine j_iload_n (q := 43) (i := 0) (n := 0) dJ6_bitCount_0f7a4_42 rfl rfl rfl ?_
  refine j_bipush (q := 45) (v := (nI 16)) dJ6_bitCount_0f7a4_43 rfl rfl ?_
  refine j_iushr (q := 46) dJ6_bitCount_0f7a4_45 rfl ?_
  refine j_iadd (q := 47) dJ6_bitCount_0f7a4_46 rfl ?_
  refine j_top (fun v5 => ?_)
  refine j_istore_n (q := 48) (n := 0) (lv' := [(0, .int v5)]) dJ6_bitCount_0f7a4_47 rfl (Nat.le_of_ble_eq_true rfl) rfl rfl ?_
  refine j_iload_n (q := 49) (i := 0) (n := 0) dJ6_bitCount_0f7a4_48 rfl rfl rfl ?_
  refine j_bipush (q := 51) (v := (nI 63)) dJ6_bitCount_0f7a4_49 rfl rfl ?_
  refine j_iand (q := 52) dJ6_bitCount_0f7a4_51 rfl ?_
  exact j_ret (x := v5 &&& (nI 63)) dJ6_bitCount_0f7a4_52 ⟨trivial, rfl, rfl⟩
-- java/util/Arrays.fill([II)V
abbrev rm_J7_fill_53178 : Room := { frames := 0, cells := 0, slots := 0, locals := 0 }
theorem cv_J7_fill_53178 : CT yJ7_fill_53178 cJ7_fill_53178 4 (none) 2 := ⟨wC_J7_fill_53178, wT_J7_fill_53178, wZ_J7, by decide +kernel⟩
def m_J7_fill_53178_L5 (k0 n0 : Nat) (a1 : Int32) : Nat → zG → Int32 → Int32 → Option (zG)
  | 0, _, _, _ => none
  | f + 1, g, x2, x3 => if x2 < x3 then gd (inb x2 (ln k0) = true) (bd (ui g k0 n0 x2.toNatClampNeg a1) fun g1 => m_J7_fill_53178_L5 k0 n0 a1 f g1 (x2 + (nI 1)) x3) else some g
set_option maxRecDepth 100000 in
set_option maxHeartbeats 4000000 in
theorem t_J7_fill_53178_L5 {p : Program} {l : Launch} {e : Env} {s : State} {m : MethodId} {args : Array Value} {below : List Frame} {meth : Method} {c : Code} {cells slots : Nat} {Q : zG → State → Prop} (z : zE) (gm : zG) (k0 n0 : Nat) (a1 : Int32) (hk0 : isX k0) (gk0 : n0 < dm k0) : ∀ (f : Nat) (g : zG) (x2 : Int32) (x3 : Int32), zJ dm p l e rm_J7_fill_53178 s m args below meth c cJ7_fill_53178 4 yJ7_fill_53178.cls z cells slots (wx z gm) (fn (fun _ => True) (fun x => x) osv) .return_ Q 5 [(0, .ref (za z k0 n0)), (1, .int a1), (2, .int x2), (3, .int x3)] [] g (m_J7_fill_53178_L5 k0 n0 a1 f g x2 x3) := by
  intro f
  induction f with
  | zero => intro g x2 x3; exact j_none
  | succ f ih =>
    intro g x2 x3
    refine j_eq (M2 := if x2 < x3 then gd (inb x2 (ln k0) = true) (bd (ui g k0 n0 x2.toNatClampNeg a1) fun g1 => m_J7_fill_53178_L5 k0 n0 a1 f g1 (x2 + (nI 1)) x3) else some g) rfl ?_
    refine j_iload_n (q := 6) (i := 2) (n := 2) dJ7_fill_53178_5 rfl rfl rfl ?_
    refine j_iload_n (q := 7) (i := 3) (n := 3) dJ7_fill_53178_6 rfl rfl rfl ?_
    refine j_icmp_ge (tgt := 20) (q := 10) dJ7_fill_53178_7 rfl rfl ?_ ?_
    · exact j_ret (x := g) dJ7_fill_53178_20 ⟨trivial, rfl, rfl⟩
    · refine j_aload_n (q := 11) (i := 0) (n := 0) dJ7_fill_53178_10 rfl rfl rfl ?_
      refine j_iload_n (q := 12) (i := 2) (n := 2) dJ7_fill_53178_11 rfl rfl rfl ?_
      refine j_iload_n (q := 13) (i := 1) (n := 1) dJ7_fill_53178_12 rfl rfl rfl ?_
      refine ax_st (q := 14) dm_le hk0 rfl gk0 dJ7_fill_53178_13 rfl (fun g1 => ?_)
      refine j_iinc (q := 17) (n := 2) (i := 2) (v := x2 + (nI 1)) (lv' := [(2, .int (x2 + (nI 1))), (0, .ref (za z k0 n0)), (1, .int a1), (3, .int x3)]) dJ7_fill_53178_14 rfl rfl (Nat.le_of_ble_eq_true rfl) rfl rfl ?_
      refine j_goto (tgt := 5) dJ7_fill_53178_17 rfl ?_
      refine j_lv [1, 2, 0, 3] (lv' := [(0, .ref (za z k0 n0)), (1, .int a1), (2, .int (x2 + (nI 1))), (3, .int x3)]) rfl ?_
      exact ih g1 (x2 + (nI 1)) x3
def m_J7_fill_53178 (g : zG) (k0 n0 : Nat) (a1 : Int32) : Option (zG) := m_J7_fill_53178_L5 k0 n0 a1 FU g (nI 0) (nI (ln k0))
set_option maxRecDepth 100000 in
set_option maxHeartbeats 4000000 in
theorem c_J7_fill_53178 (l : Launch) (z : zE) (gm : zG) (g : zG) (k0 n0 : Nat) (hk0 : isX k0) (gk0 : n0 < dm k0) (a1 : Int32) : ∀ x, m_J7_fill_53178 g k0 n0 a1 = some x → Ms dm l yJ7_fill_53178 cJ7_fill_53178 4 (none) rm_J7_fill_53178 z [.ref (za z k0 n0), .int a1] ((wx z gm) g) (osv x) ((wx z gm) ((fun x => x) x)) := by
  refine ms_of (Wf := (wx z gm)) (ri := .return_) (out := osv) (nxt := (fun x => x)) (ok := (fun _ => True)) (lv := [(0, .ref (za z k0 n0)), (1, .int a1)]) (by decide) ⟨rfl, rfl⟩ (Nat.le_of_ble_eq_true rfl) rfl (en_v ) (fun p e s m below meth c => ?_)
  refine j_eq (M2 := m_J7_fill_53178_L5 k0 n0 a1 FU g (nI 0) (nI (ln k0))) rfl ?_
  refine j_iconst (q := 1) (v := (nI 0)) dJ7_fill_53178_0 rfl rfl ?_
  refine j_istore_n (q := 2) (n := 2) (lv' := [(2, .int (nI 0)), (0, .ref (za z k0 n0)), (1, .int a1)]) dJ7_fill_53178_1 rfl (Nat.le_of_ble_eq_true rfl) rfl rfl ?_
  refine j_aload_n (q := 3) (i := 1) (n := 0) dJ7_fill_53178_2 rfl rfl rfl ?_
  refine ax_len (v := nI (ln k0)) (q := 4) hk0 rfl gk0 dJ7_fill_53178_3 rfl ?_
  refine j_istore_n (q := 5) (n := 3) (lv' := [(3, .int (nI (ln k0))), (2, .int (nI 0)), (0, .ref (za z k0 n0)), (1, .int a1)]) dJ7_fill_53178_4 rfl (Nat.le_of_ble_eq_true rfl) rfl rfl ?_
  refine j_lv [2, 3, 1, 0] (lv' := [(0, .ref (za z k0 n0)), (1, .int a1), (2, .int (nI 0)), (3, .int (nI (ln k0)))]) rfl ?_
  exact t_J7_fill_53178_L5 z gm k0 n0 a1 hk0 gk0 FU g (nI 0) (nI (ln k0))
