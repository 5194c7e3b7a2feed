-- CopierJobs.at([II)I
abbrev rm_X6_at : Room := { frames := 0, cells := 0, slots := 0, locals := 0 }
theorem cv_X6_at : CT yX6_at cX6_at 2 (some .int) 2 := ⟨wC_X6_at, wT_X6_at, wZ_X6, by decide +kernel⟩
def m_X6_at (g : zG) (k0 n0 : Nat) (a1 : Int32) : Option (Int32) := if a1 < (nI 0) then some (nI 0) else if a1 < (nI (ln k0)) then gd (inb a1 (ln k0) = true) (some (xr g k0 n0 a1.toNatClampNeg)) else some (nI 0)
set_option maxRecDepth 100000 in
set_option maxHeartbeats 4000000 in
theorem c_X6_at (l : Launch) (z : zE) (gm : zG) (g : zG) (k0 n0 : Nat) (hk0 : isR dm k0 n0) (a1 : Int32) : ∀ x, m_X6_at g k0 n0 a1 = some x → Ms dm l yX6_at cX6_at 2 (some .int) rm_X6_at z [.ref (za z k0 n0), .int a1] ((wx z gm) g) (oi x) ((wx z gm) ((fun _ => g) x)) := by
  refine ms_of (Wf := (wx z gm)) (ri := .ireturn) (out := oi) (nxt := (fun _ => g)) (ok := (fun _ => True)) (lv := [(0, .ref (za z k0 n0)), (1, .int a1)]) (by decide) ⟨rfl, rfl⟩ (Nat.le_of_ble_eq_true rfl) rfl (en_i (out := fun x => x)) (fun p e s m below meth c => ?_)
  refine j_eq (M2 := if a1 < (nI 0) then some (nI 0) else if a1 < (nI (ln k0)) then gd (inb a1 (ln k0) = true) (some (xr g k0 n0 a1.toNatClampNeg)) else some (nI 0)) rfl ?_
  refine j_iload_n (q := 1) (i := 1) (n := 1) dX6_at_0 rfl rfl rfl ?_
  refine j_if_lt (tgt := 16) (q := 4) dX6_at_1 rfl rfl ?_ ?_
  · refine j_iconst (q := 17) (v := (nI 0)) dX6_at_16 rfl rfl ?_
    exact j_ret (x := (nI 0)) dX6_at_17 ⟨trivial, rfl, rfl⟩
  · refine j_iload_n (q := 5) (i := 1) (n := 1) dX6_at_4 rfl rfl rfl ?_
    refine j_aload_n (q := 6) (i := 0) (n := 0) dX6_at_5 rfl rfl rfl ?_
    refine ar_len (v := nI (ln k0)) (q := 7) hk0 rfl dX6_at_6 rfl ?_
    refine j_icmp_ge (tgt := 16) (q := 10) dX6_at_7 rfl rfl ?_ ?_
    · refine j_iconst (q := 17) (v := (nI 0)) dX6_at_16 rfl rfl ?_
      exact j_ret (x := (nI 0)) dX6_at_17 ⟨trivial, rfl, rfl⟩
    · refine j_aload_n (q := 11) (i := 0) (n := 0) dX6_at_10 rfl rfl rfl ?_
      refine j_iload_n (q := 12) (i := 1) (n := 1) dX6_at_11 rfl rfl rfl ?_
      refine ar_ld (q := 13) hk0 rfl dX6_at_12 rfl ?_
      refine j_goto (tgt := 17) dX6_at_13 rfl ?_
      exact j_ret (x := xr g k0 n0 a1.toNatClampNeg) dX6_at_17 ⟨trivial, rfl, rfl⟩
-- CopierJobs.put([III)V
abbrev rm_X6_put : Room := { frames := 0, cells := 0, slots := 0, locals := 0 }
theorem cv_X6_put : CT yX6_put cX6_put 3 (none) 3 := ⟨wC_X6_put, wT_X6_put, wZ_X6, by decide +kernel⟩
def m_X6_put (g : zG) (k0 n0 : Nat) (a1 : Int32) (a2 : Int32) : Option (zG) := if a1 < (nI 0) then some g else if a1 < (nI (ln k0)) then gd (inb a1 (ln k0) = true) (bd (ui g k0 n0 a1.toNatClampNeg a2) fun g1 => some g1) else some g
set_option maxRecDepth 100000 in
set_option maxHeartbeats 4000000 in
theorem c_X6_put (l : Launch) (z : zE) (gm : zG) (g : zG) (k0 n0 : Nat) (hk0 : isX k0) (gk0 : n0 < dm k0) (a1 : Int32) (a2 : Int32) : ∀ x, m_X6_put g k0 n0 a1 a2 = some x → Ms dm l yX6_put cX6_put 3 (none) rm_X6_put z [.ref (za z k0 n0), .int a1, .int a2] ((wx z gm) g) (osv x) ((wx z gm) ((fun x => x) x)) := by
  refine ms_of (Wf := (wx z gm)) (ri := .return_) (out := osv) (nxt := (fun x => x)) (ok := (fun _ => True)) (lv := [(0, .ref (za z k0 n0)), (1, .int a1), (2, .int a2)]) (by decide) ⟨rfl, rfl⟩ (Nat.le_of_ble_eq_true rfl) rfl (en_v ) (fun p e s m below meth c => ?_)
  refine j_eq (M2 := if a1 < (nI 0) then some g else if a1 < (nI (ln k0)) then gd (inb a1 (ln k0) = true) (bd (ui g k0 n0 a1.toNatClampNeg a2) fun g1 => some g1) else some g) rfl ?_
  refine j_iload_n (q := 1) (i := 1) (n := 1) dX6_put_0 rfl rfl rfl ?_
  refine j_if_lt (tgt := 14) (q := 4) dX6_put_1 rfl rfl ?_ ?_
  · exact j_ret (x := g) dX6_put_14 ⟨trivial, rfl, rfl⟩
  · refine j_iload_n (q := 5) (i := 1) (n := 1) dX6_put_4 rfl rfl rfl ?_
    refine j_aload_n (q := 6) (i := 0) (n := 0) dX6_put_5 rfl rfl rfl ?_
    refine ax_len (v := nI (ln k0)) (q := 7) hk0 rfl gk0 dX6_put_6 rfl ?_
    refine j_icmp_ge (tgt := 14) (q := 10) dX6_put_7 rfl rfl ?_ ?_
    · exact j_ret (x := g) dX6_put_14 ⟨trivial, rfl, rfl⟩
    · refine j_aload_n (q := 11) (i := 0) (n := 0) dX6_put_10 rfl rfl rfl ?_
      refine j_iload_n (q := 12) (i := 1) (n := 1) dX6_put_11 rfl rfl rfl ?_
      refine j_iload_n (q := 13) (i := 2) (n := 2) dX6_put_12 rfl rfl rfl ?_
      refine ax_st (q := 14) dm_le hk0 rfl gk0 dX6_put_13 rfl (fun g1 => ?_)
      exact j_ret (x := g1) dX6_put_14 ⟨trivial, rfl, rfl⟩
-- CopierJobs.copyRow([I[I)V
abbrev rm_X6_copyRow : Room := { frames := 0, cells := 0, slots := 0, locals := 0 }
theorem cv_X6_copyRow : CT yX6_copyRow cX6_copyRow 3 (none) 2 := ⟨wC_X6_copyRow, wT_X6_copyRow, wZ_X6, by decide +kernel⟩
def m_X6_copyRow_L2 (k0 n0 : Nat) (k1 n1 : Nat) : Nat → zG → Int32 → Option (zG)
  | 0, _, _ => none
  | f + 1, g, x2 => if x2 < (nI (ln k0)) then if x2 < (nI (ln k1)) then gd (inb x2 (ln k0) = true) (gd (inb x2 (ln k1) = true) (bd (ui g k1 n1 x2.toNatClampNeg (gi g k0 n0 x2.toNatClampNeg)) fun g1 => m_X6_copyRow_L2 k0 n0 k1 n1 f g1 (x2 + (nI 1)))) else some g else some g
set_option maxRecDepth 100000 in
set_option maxHeartbeats 4000000 in
theorem t_X6_copyRow_L2 {p : Program} {l : Launch} {e : Env} {s : State} {m : MethodId} {args : Array Value} {below : List Frame} {meth : Method} {c : Code} {cells slots : Nat} {Q : zG → State → Prop} (z : zE) (gm : zG) (k0 n0 : Nat) (k1 n1 : Nat) (hk0 : isX k0) (gk0 : n0 < dm k0) (hk1 : isX k1) (gk1 : n1 < dm k1) : ∀ (f : Nat) (g : zG) (x2 : Int32), zJ dm p l e rm_X6_copyRow s m args below meth c cX6_copyRow 3 yX6_copyRow.cls z cells slots (wx z gm) (fn (fun _ => True) (fun x => x) osv) .return_ Q 2 [(0, .ref (za z k0 n0)), (1, .ref (za z k1 n1)), (2, .int x2)] [] g (m_X6_copyRow_L2 k0 n0 k1 n1 f g x2) := by
  intro f
  induction f with
  | zero => intro g x2; exact j_none
  | succ f ih =>
    intro g x2
    refine j_eq (M2 := if x2 < (nI (ln k0)) then if x2 < (nI (ln k1)) then gd (inb x2 (ln k0) = true) (gd (inb x2 (ln k1) = true) (bd (ui g k1 n1 x2.toNatClampNeg (gi g k0 n0 x2.toNatClampNeg)) fun g1 => m_X6_copyRow_L2 k0 n0 k1 n1 f g1 (x2 + (nI 1)))) else some g else some g) rfl ?_
    refine j_iload_n (q := 3) (i := 2) (n := 2) dX6_copyRow_2 rfl rfl rfl ?_
    refine j_aload_n (q := 4) (i := 0) (n := 0) dX6_copyRow_3 rfl rfl rfl ?_
    refine ax_len (v := nI (ln k0)) (q := 5) hk0 rfl gk0 dX6_copyRow_4 rfl ?_
    refine j_icmp_ge (tgt := 26) (q := 8) dX6_copyRow_5 rfl rfl ?_ ?_
    · exact j_ret (x := g) dX6_copyRow_26 ⟨trivial, rfl, rfl⟩
    · refine j_iload_n (q := 9) (i := 2) (n := 2) dX6_copyRow_8 rfl rfl rfl ?_
      refine j_aload_n (q := 10) (i := 1) (n := 1) dX6_copyRow_9 rfl rfl rfl ?_
      refine ax_len (v := nI (ln k1)) (q := 11) hk1 rfl gk1 dX6_copyRow_10 rfl ?_
      refine j_icmp_ge (tgt := 26) (q := 14) dX6_copyRow_11 rfl rfl ?_ ?_
      · exact j_ret (x := g) dX6_copyRow_26 ⟨trivial, rfl, rfl⟩
      · refine j_aload_n (q := 15) (i := 1) (n := 1) dX6_copyRow_14 rfl rfl rfl ?_
        refine j_iload_n (q := 16) (i := 2) (n := 2) dX6_copyRow_15 rfl rfl rfl ?_
        refine j_aload_n (q := 17) (i := 0) (n := 0) dX6_copyRow_16 rfl rfl rfl ?_
        refine j_iload_n (q := 18) (i := 2) (n := 2) dX6_copyRow_17 rfl rfl rfl ?_
        refine ax_ld (q := 19) hk0 rfl gk0 dX6_copyRow_18 rfl ?_
        refine ax_st (q := 20) dm_le hk1 rfl gk1 dX6_copyRow_19 rfl (fun g1 => ?_)
        refine j_iinc (q := 23) (n := 2) (i := 2) (v := x2 + (nI 1)) (lv' := [(2, .int (x2 + (nI 1))), (0, .ref (za z k0 n0)), (1, .ref (za z k1 n1))]) dX6_copyRow_20 rfl rfl (Nat.le_of_ble_eq_true rfl) rfl rfl ?_
        refine j_goto (tgt := 2) dX6_copyRow_23 rfl ?_
        refine j_lv [1, 2, 0] (lv' := [(0, .ref (za z k0 n0)), (1, .ref (za z k1 n1)), (2, .int (x2 + (nI 1)))]) rfl ?_
        exact ih g1 (x2 + (nI 1))
def m_X6_copyRow (g : zG) (k0 n0 : Nat) (k1 n1 : Nat) : Option (zG) := m_X6_copyRow_L2 k0 n0 k1 n1 FU g (nI 0)
set_option maxRecDepth 100000 in
set_option maxHeartbeats 4000000 in
theorem c_X6_copyRow (l : Launch) (z : zE) (gm : zG) (g : zG) (k0 n0 : Nat) (hk0 : isX k0) (gk0 : n0 < dm k0) (k1 n1 : Nat) (hk1 : isX k1) (gk1 : n1 < dm k1) : ∀ x, m_X6_copyRow g k0 n0 k1 n1 = some x → Ms dm l yX6_copyRow cX6_copyRow 3 (none) rm_X6_copyRow z [.ref (za z k0 n0), .ref (za z k1 n1)] ((wx z gm) g) (osv x) ((wx z gm) ((fun x => x) x)) := by
  refine ms_of (Wf := (wx z gm)) (ri := .return_) (out := osv) (nxt := (fun x => x)) (ok := (fun _ => True)) (lv := [(0, .ref (za z k0 n0)), (1, .ref (za z k1 n1))]) (by decide) ⟨rfl, rfl⟩ (Nat.le_of_ble_eq_true rfl) rfl (en_v ) (fun p e s m below meth c => ?_)
  refine j_eq (M2 := m_X6_copyRow_L2 k0 n0 k1 n1 FU g (nI 0)) rfl ?_
  refine j_iconst (q := 1) (v := (nI 0)) dX6_copyRow_0 rfl rfl ?_
  refine j_istore_n (q := 2) (n := 2) (lv' := [(2, .int (nI 0)), (0, .ref (za z k0 n0)), (1, .ref (za z k1 n1))]) dX6_copyRow_1 rfl (Nat.le_of_ble_eq_true rfl) rfl rfl ?_
  refine j_lv [1, 2, 0] (lv' := [(0, .ref (za z k0 n0)), (1, .ref (za z k1 n1)), (2, .int (nI 0))]) rfl ?_
  exact t_X6_copyRow_L2 z gm k0 n0 k1 n1 hk0 gk0 hk1 gk1 FU g (nI 0)
-- CopierJobs.choose(II)I
abbrev rm_X6_choose : Room := { frames := 0, cells := 0, slots := 0, locals := 0 }
theorem cv_X6_choose : CT yX6_choose cX6_choose 5 (some .int) 2 := ⟨wC_X6_choose, wT_X6_choose, wZ_X6, by decide +kernel⟩
def m_X6_choose_L21 (a0 : Int32) (a1 : Int32) : Nat → Int64 → Int32 → Option (Int32)
  | 0, _, _ => none
  | f + 1, x2, x4 => if a1 < x4 then some (Int64.toInt32 x2) else gd (¬ ((Int32.toInt64 x4) : Int64) = 0) (bd ((x2 * (Int32.toInt64 ((a0 - a1) + x4))) / (Int32.toInt64 x4)) fun v1 => m_X6_choose_L21 a0 a1 f v1 (x4 + (nI 1)))
set_option maxRecDepth 100000 in
set_option maxHeartbeats 4000000 in
theorem t_X6_choose_L21 {p : Program} {l : Launch} {e : Env} {s : State} {m : MethodId} {args : Array Value} {below : List Frame} {meth : Method} {c : Code} {cells slots : Nat} {Q : Int32 → State → Prop} (z : zE) (gm : zG) (a0 : Int32) (a1 : Int32) (g : zG) : ∀ (f : Nat) (x2 : Int64) (x4 : Int32), zJ dm p l e rm_X6_choose s m args below meth c cX6_choose 5 yX6_choose.cls z cells slots (wx z gm) (fn (fun _ => True) (fun _ => g) oi) .ireturn Q 21 [(0, .int a0), (1, .int a1), (2, .long x2), (4, .int x4)] [] g (m_X6_choose_L21 a0 a1 f x2 x4) := by
  intro f
  induction f with
  | zero => intro x2 x4; exact j_none
  | succ f ih =>
    intro x2 x4
    refine j_eq (M2 := if a1 < x4 then some (Int64.toInt32 x2) else gd (¬ ((Int32.toInt64 x4) : Int64) = 0) (bd ((x2 * (Int32.toInt64 ((a0 - a1) + x4))) / (Int32.toInt64 x4)) fun v1 => m_X6_choose_L21 a0 a1 f v1 (x4 + (nI 1)))) rfl ?_
    refine j_iload (q := 23) (i := 3) (n := 4) dX6_choose_21 rfl rfl ?_
    refine j_iload_n (q := 24) (i := 1) (n := 1) dX6_choose_23 rfl rfl rfl ?_
    refine j_icmp_gt (tgt := 47) (q := 27) dX6_choose_24 rfl rfl ?_ ?_
    · refine j_lload_n (q := 48) (i := 2) (n := 2) dX6_choose_47 rfl rfl rfl ?_
      refine j_l2i (q := 49) dX6_choose_48 rfl ?_
      exact j_ret (x := Int64.toInt32 x2) dX6_choose_49 ⟨trivial, rfl, rfl⟩
    · refine j_lload_n (q := 28) (i := 2) (n := 2) dX6_choose_27 rfl rfl rfl ?_
      refine j_iload_n (q := 29) (i := 0) (n := 0) dX6_choose_28 rfl rfl rfl ?_
      refine j_iload_n (q := 30) (i := 1) (n := 1) dX6_choose_29 rfl rfl rfl ?_
      refine j_isub (q := 31) dX6_choose_30 rfl ?_
      refine j_iload (q := 33) (i := 3) (n := 4) dX6_choose_31 rfl rfl ?_
      refine j_iadd (q := 34) dX6_choose_33 rfl ?_
      refine j_i2l (q := 35) dX6_choose_34 rfl ?_
      refine j_lmul (q := 36) dX6_choose_35 rfl ?_
      refine j_iload (q := 38) (i := 3) (n := 4) dX6_choose_36 rfl rfl ?_
      refine j_i2l (q := 39) dX6_choose_38 rfl ?_
      refine j_ldiv (q := 40) dX6_choose_39 rfl ?_
      refine j_topl (fun v1 => ?_)
      refine j_lstore_n (q := 41) (n := 2) (lv' := [(2, .long v1), (0, .int a0), (1, .int a1), (4, .int x4)]) dX6_choose_40 rfl (Nat.le_of_ble_eq_true rfl) rfl rfl ?_
      refine j_iinc (q := 44) (n := 4) (i := 3) (v := x4 + (nI 1)) (lv' := [(4, .int (x4 + (nI 1))), (2, .long v1), (0, .int a0), (1, .int a1)]) dX6_choose_41 rfl rfl (Nat.le_of_ble_eq_true rfl) rfl rfl ?_
      refine j_goto (tgt := 21) dX6_choose_44 rfl ?_
      refine j_lv [2, 3, 1, 0] (lv' := [(0, .int a0), (1, .int a1), (2, .long v1), (4, .int (x4 + (nI 1)))]) rfl ?_
      exact ih v1 (x4 + (nI 1))
def m_X6_choose (a0 : Int32) (a1 : Int32) : Option (Int32) := if a1 < (nI 0) then some (nI 0) else if (nI 4) < a1 then some (nI 0) else if a0 < a1 then some (nI 0) else m_X6_choose_L21 a0 a1 FU 1 (nI 1)
set_option maxRecDepth 100000 in
set_option maxHeartbeats 4000000 in
theorem c_X6_choose (l : Launch) (z : zE) (gm : zG) (g : zG) (a0 : Int32) (a1 : Int32) : ∀ x, m_X6_choose a0 a1 = some x → Ms dm l yX6_choose cX6_choose 5 (some .int) rm_X6_choose z [.int a0, .int a1] ((wx z gm) g) (oi x) ((wx z gm) ((fun _ => g) x)) := by
  refine ms_of (Wf := (wx z gm)) (ri := .ireturn) (out := oi) (nxt := (fun _ => g)) (ok := (fun _ => True)) (lv := [(0, .int a0), (1, .int a1)]) (by decide) ⟨rfl, rfl⟩ (Nat.le_of_ble_eq_true rfl) rfl (en_i (out := fun x => x)) (fun p e s m below meth c => ?_)
  refine j_eq (M2 := if a1 < (nI 0) then some (nI 0) else if (nI 4) < a1 then some (nI 0) else if a0 < a1 then some (nI 0) else m_X6_choose_L21 a0 a1 FU 1 (nI 1)) rfl ?_
  refine j_iload_n (q := 1) (i := 1) (n := 1) dX6_choose_0 rfl rfl rfl ?_
  refine j_if_lt (tgt := 14) (q := 4) dX6_choose_1 rfl rfl ?_ ?_
  · refine j_iconst (q := 15) (v := (nI 0)) dX6_choose_14 rfl rfl ?_
    exact j_ret (x := (nI 0)) dX6_choose_15 ⟨trivial, rfl, rfl⟩
  · refine j_iload_n (q := 5) (i := 1) (n := 1) dX6_choose_4 rfl rfl rfl ?_
    refine j_iconst (q := 6) (v := (nI 4)) dX6_choose_5 rfl rfl ?_
    refine j_icmp_gt (tgt := 14) (q := 9) dX6_choose_6 rfl rfl ?_ ?_
    · refine j_iconst (q := 15) (v := (nI 0)) dX6_choose_14 rfl rfl ?_
      exact j_ret (x := (nI 0)) dX6_choose_15 ⟨trivial, rfl, rfl⟩
    · refine j_iload_n (q := 10) (i := 0) (n := 0) dX6_choose_9 rfl rfl rfl ?_
      refine j_iload_n (q := 11) (i := 1) (n := 1) dX6_choose_10 rfl rfl rfl ?_
      refine j_icmp_ge (tgt := 16) (q := 14) dX6_choose_11 rfl rfl ?_ ?_
      · refine j_lconst (q := 17) (v := 1) dX6_choose_16 rfl rfl ?_
        refine j_lstore_n (q := 18) (n := 2) (lv' := [(2, .long 1), (0, .int a0), (1, .int a1)]) dX6_choose_17 rfl (Nat.le_of_ble_eq_true rfl) rfl rfl ?_
        refine j_iconst (q := 19) (v := (nI 1)) dX6_choose_18 rfl rfl ?_
        refine j_istore (q := 21) (n := 4) (lv' := [(4, .int (nI 1)), (2, .long 1), (0, .int a0), (1, .int a1)]) dX6_choose_19 (Nat.le_of_ble_eq_true rfl) rfl rfl ?_
        refine j_lv [2, 3, 1, 0] (lv' := [(0, .int a0), (1, .int a1), (2, .long 1), (4, .int (nI 1))]) rfl ?_
        exact t_X6_choose_L21 z gm a0 a1 g FU 1 (nI 1)
      · refine j_iconst (q := 15) (v := (nI 0)) dX6_choose_14 rfl rfl ?_
        exact j_ret (x := (nI 0)) dX6_choose_15 ⟨trivial, rfl, rfl⟩
-- CopierJobs.commonDivisor(II)I
abbrev rm_X6_commonDivisor : Room := { frames := 1, cells := 0, slots := 0, locals := 20 }
theorem cv_X6_commonDivisor : CT yX6_commonDivisor cX6_commonDivisor 6 (some .int) 2 := ⟨wC_X6_commonDivisor, wT_X6_commonDivisor, wZ_X6, by decide +kernel⟩
def m_X6_commonDivisor_L13 (a0 : Int32) (a1 : Int32) : Nat → Int32 → Int32 → Int32 → Option (Int32)
  | 0, _, _, _ => none
  | f + 1, x2, x3, x4 => if x4 < (nI 50) then if x3 = (nI 0) then some x2 else gd (¬ (x3 : Int32) = 0) (m_X6_commonDivisor_L13 a0 a1 f x3 (x2 - x2 / x3 * x3) (x4 + (nI 1))) else some x2
set_option maxRecDepth 100000 in
set_option maxHeartbeats 4000000 in
theorem t_X6_commonDivisor_L13 {p : Program} {l : Launch} {e : Env} {s : State} {m : MethodId} {args : Array Value} {below : List Frame} {meth : Method} {c : Code} {cells slots : Nat} {Q : Int32 → State → Prop} (z : zE) (gm : zG) (a0 : Int32) (a1 : Int32) (g : zG) : ∀ (f : Nat) (x2 : Int32) (x3 : Int32) (x4 : Int32), zJ dm p l e rm_X6_commonDivisor s m args below meth c cX6_commonDivisor 6 yX6_commonDivisor.cls z cells slots (wx z gm) (fn (fun _ => True) (fun _ => g) oi) .ireturn Q 13 [(2, .int x2), (3, .int x3), (4, .int x4)] [] g (m_X6_commonDivisor_L13 a0 a1 f x2 x3 x4) := by
  intro f
  induction f with
  | zero => intro x2 x3 x4; exact j_none
  | succ f ih =>
    intro x2 x3 x4
    refine j_eq (M2 := if x4 < (nI 50) then if x3 = (nI 0) then some x2 else gd (¬ (x3 : Int32) = 0) (m_X6_commonDivisor_L13 a0 a1 f x3 (x2 - x2 / x3 * x3) (x4 + (nI 1))) else some x2) rfl ?_
    refine j_iload (q := 15) (i := 2) (n := 4) dX6_commonDivisor_13 rfl rfl ?_
    refine j_bipush (q := 17) (v := (nI 50)) dX6_commonDivisor_15 rfl rfl ?_
    refine j_icmp_ge (tgt := 40) (q := 20) dX6_commonDivisor_17 rfl rfl ?_ ?_
    · refine j_iload_n (q := 41) (i := 0) (n := 2) dX6_commonDivisor_40 rfl rfl rfl ?_
      exact j_ret (x := x2) dX6_commonDivisor_41 ⟨trivial, rfl, rfl⟩
    · refine j_iload_n (q := 21) (i := 1) (n := 3) dX6_commonDivisor_20 rfl rfl rfl ?_
      refine j_if_eq (tgt := 40) (q := 24) dX6_commonDivisor_21 rfl rfl ?_ ?_
      · refine j_iload_n (q := 41) (i := 0) (n := 2) dX6_commonDivisor_40 rfl rfl rfl ?_
        exact j_ret (x := x2) dX6_commonDivisor_41 ⟨trivial, rfl, rfl⟩
      · refine j_iload_n (q := 25) (i := 0) (n := 2) dX6_commonDivisor_24 rfl rfl rfl ?_
        refine j_iload_n (q := 26) (i := 1) (n := 3) dX6_commonDivisor_25 rfl rfl rfl ?_
        refine j_irem (q := 27) dX6_commonDivisor_26 rfl ?_
        refine j_istore (q := 29) (n := 5) (lv' := [(5, .int (x2 - x2 / x3 * x3)), (2, .int x2), (3, .int x3), (4, .int x4)]) dX6_commonDivisor_27 (Nat.le_of_ble_eq_true rfl) rfl rfl ?_
        refine j_iload_n (q := 30) (i := 2) (n := 3) dX6_commonDivisor_29 rfl rfl rfl ?_
        refine j_istore_n (q := 31) (n := 2) (lv' := [(2, .int x3), (5, .int (x2 - x2 / x3 * x3)), (3, .int x3), (4, .int x4)]) dX6_commonDivisor_30 rfl (Nat.le_of_ble_eq_true rfl) rfl rfl ?_
        refine j_iload (q := 33) (i := 1) (n := 5) dX6_commonDivisor_31 rfl rfl ?_
        refine j_istore_n (q := 34) (n := 3) (lv' := [(3, .int (x2 - x2 / x3 * x3)), (2, .int x3), (5, .int (x2 - x2 / x3 * x3)), (4, .int x4)]) dX6_commonDivisor_33 rfl (Nat.le_of_ble_eq_true rfl) rfl rfl ?_
        refine j_iinc (q := 37) (n := 4) (i := 3) (v := x4 + (nI 1)) (lv' := [(4, .int (x4 + (nI 1))), (3, .int (x2 - x2 / x3 * x3)), (2, .int x3), (5, .int (x2 - x2 / x3 * x3))]) dX6_commonDivisor_34 rfl rfl (Nat.le_of_ble_eq_true rfl) rfl rfl ?_
        refine j_goto (tgt := 13) dX6_commonDivisor_37 rfl ?_
        refine j_lv [2, 1, 0] (lv' := [(2, .int x3), (3, .int (x2 - x2 / x3 * x3)), (4, .int (x4 + (nI 1)))]) rfl ?_
        exact ih x3 (x2 - x2 / x3 * x3) (x4 + (nI 1))
def m_X6_commonDivisor (a0 : Int32) (a1 : Int32) : Option (Int32) := (m_J9_abs_0f7a4 a0).bind fun r1 => (m_J9_abs_0f7a4 a1).bind fun r2 => m_X6_commonDivisor_L13 a0 a1 FU r1 r2 (nI 0)
set_option maxRecDepth 100000 in
set_option maxHeartbeats 4000000 in
theorem c_X6_commonDivisor (l : Launch) (z : zE) (gm : zG) (g : zG) (a0 : Int32) (a1 : Int32) : ∀ x, m_X6_commonDivisor a0 a1 = some x → Ms dm l yX6_commonDivisor cX6_commonDivisor 6 (some .int) rm_X6_commonDivisor z [.int a0, .int a1] ((wx z gm) g) (oi x) ((wx z gm) ((fun _ => g) x)) := by
  refine ms_of (Wf := (wx z gm)) (ri := .ireturn) (out := oi) (nxt := (fun _ => g)) (ok := (fun _ => True)) (lv := [(0, .int a0), (1, .int a1)]) (by decide) ⟨rfl, rfl⟩ (Nat.le_of_ble_eq_true rfl) rfl (en_i (out := fun x => x)) (fun p e s m below meth c => ?_)
  refine j_eq (M2 := (m_J9_abs_0f7a4 a0).bind fun r1 => (m_J9_abs_0f7a4 a1).bind fun r2 => m_X6_commonDivisor_L13 a0 a1 FU r1 r2 (nI 0)) rfl ?_
  refine j_iload_n (q := 1) (i := 0) (n := 0) dX6_commonDivisor_0 rfl rfl rfl ?_
  refine j_ci (q := 4) (rn_S (R := rm_X6_commonDivisor) (As := [.int a0]) (rest := []) (c_J9_abs_0f7a4 _ z gm g a0) cv_J9_abs_0f7a4 wM_X6_285 ⟨rfl, rfl⟩ ⟨(Nat.le_of_ble_eq_true rfl), (Nat.le_of_ble_eq_true rfl)⟩ rfl (Nat.le_of_ble_eq_true rfl) dX6_commonDivisor_1) rfl (fun r1 => ?_)
  refine j_istore_n (q := 5) (n := 2) (lv' := [(2, .int r1), (0, .int a0), (1, .int a1)]) dX6_commonDivisor_4 rfl (Nat.le_of_ble_eq_true rfl) rfl rfl ?_
  refine j_iload_n (q := 6) (i := 2) (n := 1) dX6_commonDivisor_5 rfl rfl rfl ?_
  refine j_ci (q := 9) (rn_S (R := rm_X6_commonDivisor) (As := [.int a1]) (rest := []) (c_J9_abs_0f7a4 _ z gm g a1) cv_J9_abs_0f7a4 wM_X6_285 ⟨rfl, rfl⟩ ⟨(Nat.le_of_ble_eq_true rfl), (Nat.le_of_ble_eq_true rfl)⟩ rfl (Nat.le_of_ble_eq_true rfl) dX6_commonDivisor_6) rfl (fun r2 => ?_)
  refine j_istore_n (q := 10) (n := 3) (lv' := [(3, .int r2), (2, .int r1), (0, .int a0), (1, .int a1)]) dX6_commonDivisor_9 rfl (Nat.le_of_ble_eq_true rfl) rfl rfl ?_
  refine j_iconst (q := 11) (v := (nI 0)) dX6_commonDivisor_10 rfl rfl ?_
  refine j_istore (q := 13) (n := 4) (lv' := [(4, .int (nI 0)), (3, .int r2), (2, .int r1), (0, .int a0), (1, .int a1)]) dX6_commonDivisor_11 (Nat.le_of_ble_eq_true rfl) rfl rfl ?_
  refine j_lv [2, 1, 0] (lv' := [(2, .int r1), (3, .int r2), (4, .int (nI 0))]) rfl ?_
  exact t_X6_commonDivisor_L13 z gm a0 a1 g FU r1 r2 (nI 0)
