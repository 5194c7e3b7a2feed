-- CopierJobs$Text.isFull()Z
abbrev rm_X5_isFull : Room := { frames := 0, cells := 0, slots := 0, locals := 0 }
theorem cv_X5_isFull : CV yX5_isFull cX5_isFull 1 (some .boolean) 0 := ⟨wC_X5_isFull, wI_X5_isFull, wS_X5_isFull, wZ_X5, by decide +kernel⟩
def m_X5_isFull (g : zG) : Option (Int32) := if (gi g 50 0 0) < (nI 120) then some (nI 0) else some (nI 1)
set_option maxRecDepth 100000 in
set_option maxHeartbeats 4000000 in
theorem c_X5_isFull (l : Launch) (z : zE) (gm : zG) (g : zG) : ∀ x, m_X5_isFull g = some x → Ms dm l yX5_isFull cX5_isFull 1 (some .boolean) rm_X5_isFull z [.ref (za z 75 0)] ((wx z gm) g) (oi x) ((wx z gm) ((fun _ => g) x)) := by
  refine ms_of (Wf := (wx z gm)) (ri := .ireturn) (out := oi) (nxt := (fun _ => g)) (ok := (fun x => isb x = true)) (lv := [(0, .ref (za z 75 0))]) (by decide) ⟨rfl, rfl⟩ (Nat.le_of_ble_eq_true rfl) rfl (en_z (out := fun x => x)) (fun p e s m below meth c => ?_)
  refine j_eq (M2 := if (gi g 50 0 0) < (nI 120) then some (nI 0) else some (nI 1)) rfl ?_
  refine j_aload_n (q := 1) (i := 0) (n := 0) dX5_isFull_0 rfl rfl rfl ?_
  refine g_X5_length (q := 4) wF_X5_15 (Nat.le_of_ble_eq_true rfl) dX5_isFull_1 rfl ?_
  refine j_aload_n (q := 5) (i := 0) (n := 0) dX5_isFull_4 rfl rfl rfl ?_
  refine g_X5_bytes (q := 8) wF_X5_9 (Nat.le_of_ble_eq_true rfl) dX5_isFull_5 rfl ?_
  refine ax_len (k := 55) (v := nI 120) (q := 9) isX_55 rfl (Nat.le_of_ble_eq_true rfl) dX5_isFull_8 rfl ?_
  refine j_icmp_lt (tgt := 16) (q := 12) dX5_isFull_9 rfl rfl ?_ ?_
  · refine j_iconst (q := 17) (v := (nI 0)) dX5_isFull_16 rfl rfl ?_
    exact j_ret (x := (nI 0)) dX5_isFull_17 ⟨rfl, rfl, rfl⟩
  · refine j_iconst (q := 13) (v := (nI 1)) dX5_isFull_12 rfl rfl ?_
    refine j_goto (tgt := 17) dX5_isFull_13 rfl ?_
    exact j_ret (x := (nI 1)) dX5_isFull_17 ⟨rfl, rfl, rfl⟩
-- CopierJobs$Text.add(I)I
abbrev rm_X5_add : Room := { frames := 1, cells := 0, slots := 0, locals := 22 }
theorem cv_X5_add : CV yX5_add cX5_add 2 (some .int) 1 := ⟨wC_X5_add, wI_X5_add, wS_X5_add, wZ_X5, by decide +kernel⟩
def m_X5_add (g : zG) (a0 : Int32) : Option (Int32 × zG) := (m_X6_put g 55 0 (gi g 50 0 0) a0).bind fun g1 => bd (ui g1 50 0 0 ((gi g1 50 0 0) + (nI 1))) fun g2 => some (gi g2 50 0 0, g2)
set_option maxRecDepth 100000 in
set_option maxHeartbeats 4000000 in
theorem c_X5_add (l : Launch) (z : zE) (gm : zG) (g : zG) (a0 : Int32) : ∀ x, m_X5_add g a0 = some x → Ms dm l yX5_add cX5_add 2 (some .int) rm_X5_add z [.ref (za z 75 0), .int a0] ((wx z gm) g) (osi x) ((wx z gm) ((fun x => x.2) x)) := by
  refine ms_of (Wf := (wx z gm)) (ri := .ireturn) (out := osi) (nxt := (fun x => x.2)) (ok := (fun _ => True)) (lv := [(0, .ref (za z 75 0)), (1, .int a0)]) (by decide) ⟨rfl, rfl⟩ (Nat.le_of_ble_eq_true rfl) rfl (en_i (out := fun x : Int32 × zG => x.1)) (fun p e s m below meth c => ?_)
  refine j_eq (M2 := (m_X6_put g 55 0 (gi g 50 0 0) a0).bind fun g1 => bd (ui g1 50 0 0 ((gi g1 50 0 0) + (nI 1))) fun g2 => some (gi g2 50 0 0, g2)) rfl ?_
  refine j_aload_n (q := 1) (i := 0) (n := 0) dX5_add_0 rfl rfl rfl ?_
  refine g_X5_bytes (q := 4) wF_X5_9 (Nat.le_of_ble_eq_true rfl) dX5_add_1 rfl ?_
  refine j_aload_n (q := 5) (i := 0) (n := 0) dX5_add_4 rfl rfl rfl ?_
  refine g_X5_length (q := 8) wF_X5_15 (Nat.le_of_ble_eq_true rfl) dX5_add_5 rfl ?_
  refine j_iload_n (q := 9) (i := 1) (n := 1) dX5_add_8 rfl rfl rfl ?_
  refine j_sv (q := 12) (rn_N (R := rm_X5_add) (As := [.ref (za z 55 0), .int (gi g 50 0 0), .int a0]) (rest := []) (c_X6_put _ z gm g 55 0 isX_55 (Nat.le_of_ble_eq_true rfl) (gi g 50 0 0) a0) cv_X6_put wO_X5_19 ⟨rfl, rfl⟩ ⟨(Nat.le_of_ble_eq_true rfl), (Nat.le_of_ble_eq_true rfl)⟩ rfl (Nat.le_of_ble_eq_true rfl) dX5_add_9) rfl (fun g1 => ?_)
  refine j_aload_n (q := 13) (i := 0) (n := 0) dX5_add_12 rfl rfl rfl ?_
  refine j_dup (q := 14) dX5_add_13 rfl rfl ?_
  refine g_X5_length (q := 17) wF_X5_15 (Nat.le_of_ble_eq_true rfl) dX5_add_14 rfl ?_
  refine j_iconst (q := 18) (v := (nI 1)) dX5_add_17 rfl rfl ?_
  refine j_iadd (q := 19) dX5_add_18 rfl ?_
  refine p_X5_length (q := 22) dm_le wF_X5_15 (Nat.le_of_ble_eq_true rfl) dX5_add_19 rfl (fun g2 => ?_)
  refine j_aload_n (q := 23) (i := 0) (n := 0) dX5_add_22 rfl rfl rfl ?_
  refine g_X5_length (q := 26) wF_X5_15 (Nat.le_of_ble_eq_true rfl) dX5_add_23 rfl ?_
  exact j_ret (x := (gi g2 50 0 0, g2)) dX5_add_26 ⟨trivial, rfl, rfl⟩
-- CopierJobs$Text.wipe()I
abbrev rm_X5_wipe : Room := { frames := 0, cells := 0, slots := 0, locals := 0 }
theorem cv_X5_wipe : CV yX5_wipe cX5_wipe 2 (some .int) 0 := ⟨wC_X5_wipe, wI_X5_wipe, wS_X5_wipe, wZ_X5, by decide +kernel⟩
def m_X5_wipe (g : zG) : Option (Int32 × zG) := bd (ui g 50 0 0 (nI 0)) fun g1 => some (gi g 50 0 0, g1)
set_option maxRecDepth 100000 in
set_option maxHeartbeats 4000000 in
theorem c_X5_wipe (l : Launch) (z : zE) (gm : zG) (g : zG) : ∀ x, m_X5_wipe g = some x → Ms dm l yX5_wipe cX5_wipe 2 (some .int) rm_X5_wipe z [.ref (za z 75 0)] ((wx z gm) g) (osi x) ((wx z gm) ((fun x => x.2) x)) := by
  refine ms_of (Wf := (wx z gm)) (ri := .ireturn) (out := osi) (nxt := (fun x => x.2)) (ok := (fun _ => True)) (lv := [(0, .ref (za z 75 0))]) (by decide) ⟨rfl, rfl⟩ (Nat.le_of_ble_eq_true rfl) rfl (en_i (out := fun x : Int32 × zG => x.1)) (fun p e s m below meth c => ?_)
  refine j_eq (M2 := bd (ui g 50 0 0 (nI 0)) fun g1 => some (gi g 50 0 0, g1)) rfl ?_
  refine j_aload_n (q := 1) (i := 0) (n := 0) dX5_wipe_0 rfl rfl rfl ?_
  refine g_X5_length (q := 4) wF_X5_15 (Nat.le_of_ble_eq_true rfl) dX5_wipe_1 rfl ?_
  refine j_istore_n (q := 5) (n := 1) (lv' := [(1, .int (gi g 50 0 0)), (0, .ref (za z 75 0))]) dX5_wipe_4 rfl (Nat.le_of_ble_eq_true rfl) rfl rfl ?_
  refine j_aload_n (q := 6) (i := 1) (n := 0) dX5_wipe_5 rfl rfl rfl ?_
  refine j_iconst (q := 7) (v := (nI 0)) dX5_wipe_6 rfl rfl ?_
  refine p_X5_length (q := 10) dm_le wF_X5_15 (Nat.le_of_ble_eq_true rfl) dX5_wipe_7 rfl (fun g1 => ?_)
  refine j_iload_n (q := 11) (i := 0) (n := 1) dX5_wipe_10 rfl rfl rfl ?_
  exact j_ret (x := (gi g 50 0 0, g1)) dX5_wipe_11 ⟨trivial, rfl, rfl⟩
-- CopierJobs$Text.rewind()V
abbrev rm_X5_rewind : Room := { frames := 0, cells := 0, slots := 0, locals := 0 }
theorem cv_X5_rewind : CV yX5_rewind cX5_rewind 1 (none) 0 := ⟨wC_X5_rewind, wI_X5_rewind, wS_X5_rewind, wZ_X5, by decide +kernel⟩
def m_X5_rewind (g : zG) : Option (zG) := bd (ui g 51 0 0 (nI 0)) fun g1 => some g1
set_option maxRecDepth 100000 in
set_option maxHeartbeats 4000000 in
theorem c_X5_rewind (l : Launch) (z : zE) (gm : zG) (g : zG) : ∀ x, m_X5_rewind g = some x → Ms dm l yX5_rewind cX5_rewind 1 (none) rm_X5_rewind z [.ref (za z 75 0)] ((wx z gm) g) (osv x) ((wx z gm) ((fun x => x) x)) := by
  refine ms_of (Wf := (wx z gm)) (ri := .return_) (out := osv) (nxt := (fun x => x)) (ok := (fun _ => True)) (lv := [(0, .ref (za z 75 0))]) (by decide) ⟨rfl, rfl⟩ (Nat.le_of_ble_eq_true rfl) rfl (en_v ) (fun p e s m below meth c => ?_)
  refine j_eq (M2 := bd (ui g 51 0 0 (nI 0)) fun g1 => some g1) rfl ?_
  refine j_aload_n (q := 1) (i := 0) (n := 0) dX5_rewind_0 rfl rfl rfl ?_
  refine j_iconst (q := 2) (v := (nI 0)) dX5_rewind_1 rfl rfl ?_
  refine p_X5_place (q := 5) dm_le wF_X5_23 (Nat.le_of_ble_eq_true rfl) dX5_rewind_2 rfl (fun g1 => ?_)
  exact j_ret (x := g1) dX5_rewind_5 ⟨trivial, rfl, rfl⟩
-- CopierJobs$Text.isLetter(I)Z
abbrev rm_X5_isLetter : Room := { frames := 0, cells := 0, slots := 0, locals := 0 }
theorem cv_X5_isLetter : CT yX5_isLetter cX5_isLetter 1 (some .boolean) 1 := ⟨wC_X5_isLetter, wT_X5_isLetter, wZ_X5, by decide +kernel⟩
def m_X5_isLetter (a0 : Int32) : Option (Int32) := if a0 < (nI 97) then some (nI 0) else if (nI 122) < a0 then some (nI 0) else some (nI 1)
set_option maxRecDepth 100000 in
set_option maxHeartbeats 4000000 in
theorem c_X5_isLetter (l : Launch) (z : zE) (gm : zG) (g : zG) (a0 : Int32) : ∀ x, m_X5_isLetter a0 = some x → Ms dm l yX5_isLetter cX5_isLetter 1 (some .boolean) rm_X5_isLetter z [.int a0] ((wx z gm) g) (oi x) ((wx z gm) ((fun _ => g) x)) := by
  refine ms_of (Wf := (wx z gm)) (ri := .ireturn) (out := oi) (nxt := (fun _ => g)) (ok := (fun x => isb x = true)) (lv := [(0, .int a0)]) (by decide) ⟨rfl, rfl⟩ (Nat.le_of_ble_eq_true rfl) rfl (en_z (out := fun x => x)) (fun p e s m below meth c => ?_)
  refine j_eq (M2 := if a0 < (nI 97) then some (nI 0) else if (nI 122) < a0 then some (nI 0) else some (nI 1)) rfl ?_
  refine j_iload_n (q := 1) (i := 0) (n := 0) dX5_isLetter_0 rfl rfl rfl ?_
  refine j_bipush (q := 3) (v := (nI 97)) dX5_isLetter_1 rfl rfl ?_
  refine j_icmp_lt (tgt := 16) (q := 6) dX5_isLetter_3 rfl rfl ?_ ?_
  · refine j_iconst (q := 17) (v := (nI 0)) dX5_isLetter_16 rfl rfl ?_
    exact j_ret (x := (nI 0)) dX5_isLetter_17 ⟨rfl, rfl, rfl⟩
  · refine j_iload_n (q := 7) (i := 0) (n := 0) dX5_isLetter_6 rfl rfl rfl ?_
    refine j_bipush (q := 9) (v := (nI 122)) dX5_isLetter_7 rfl rfl ?_
    refine j_icmp_gt (tgt := 16) (q := 12) dX5_isLetter_9 rfl rfl ?_ ?_
    · refine j_iconst (q := 17) (v := (nI 0)) dX5_isLetter_16 rfl rfl ?_
      exact j_ret (x := (nI 0)) dX5_isLetter_17 ⟨rfl, rfl, rfl⟩
    · refine j_iconst (q := 13) (v := (nI 1)) dX5_isLetter_12 rfl rfl ?_
      refine j_goto (tgt := 17) dX5_isLetter_13 rfl ?_
      exact j_ret (x := (nI 1)) dX5_isLetter_17 ⟨rfl, rfl, rfl⟩
-- CopierJobs$Text.isDigit(I)Z
abbrev rm_X5_isDigit : Room := { frames := 0, cells := 0, slots := 0, locals := 0 }
theorem cv_X5_isDigit : CT yX5_isDigit cX5_isDigit 1 (some .boolean) 1 := ⟨wC_X5_isDigit, wT_X5_isDigit, wZ_X5, by decide +kernel⟩
def m_X5_isDigit (a0 : Int32) : Option (Int32) := if a0 < (nI 48) then some (nI 0) else if (nI 57) < a0 then some (nI 0) else some (nI 1)
set_option maxRecDepth 100000 in
set_option maxHeartbeats 4000000 in
theorem c_X5_isDigit (l : Launch) (z : zE) (gm : zG) (g : zG) (a0 : Int32) : ∀ x, m_X5_isDigit a0 = some x → Ms dm l yX5_isDigit cX5_isDigit 1 (some .boolean) rm_X5_isDigit z [.int a0] ((wx z gm) g) (oi x) ((wx z gm) ((fun _ => g) x)) := by
  refine ms_of (Wf := (wx z gm)) (ri := .ireturn) (out := oi) (nxt := (fun _ => g)) (ok := (fun x => isb x = true)) (lv := [(0, .int a0)]) (by decide) ⟨rfl, rfl⟩ (Nat.le_of_ble_eq_true rfl) rfl (en_z (out := fun x => x)) (fun p e s m below meth c => ?_)
  refine j_eq (M2 := if a0 < (nI 48) then some (nI 0) else if (nI 57) < a0 then some (nI 0) else some (nI 1)) rfl ?_
  refine j_iload_n (q := 1) (i := 0) (n := 0) dX5_isDigit_0 rfl rfl rfl ?_
  refine j_bipush (q := 3) (v := (nI 48)) dX5_isDigit_1 rfl rfl ?_
  refine j_icmp_lt (tgt := 16) (q := 6) dX5_isDigit_3 rfl rfl ?_ ?_
  · refine j_iconst (q := 17) (v := (nI 0)) dX5_isDigit_16 rfl rfl ?_
    exact j_ret (x := (nI 0)) dX5_isDigit_17 ⟨rfl, rfl, rfl⟩
  · refine j_iload_n (q := 7) (i := 0) (n := 0) dX5_isDigit_6 rfl rfl rfl ?_
    refine j_bipush (q := 9) (v := (nI 57)) dX5_isDigit_7 rfl rfl ?_
    refine j_icmp_gt (tgt := 16) (q := 12) dX5_isDigit_9 rfl rfl ?_ ?_
    · refine j_iconst (q := 17) (v := (nI 0)) dX5_isDigit_16 rfl rfl ?_
      exact j_ret (x := (nI 0)) dX5_isDigit_17 ⟨rfl, rfl, rfl⟩
    · refine j_iconst (q := 13) (v := (nI 1)) dX5_isDigit_12 rfl rfl ?_
      refine j_goto (tgt := 17) dX5_isDigit_13 rfl ?_
      exact j_ret (x := (nI 1)) dX5_isDigit_17 ⟨rfl, rfl, rfl⟩
-- CopierJobs$Text.readLetters()V
abbrev rm_X5_readLetters : Room := { frames := 1, cells := 0, slots := 0, locals := 21 }
theorem cv_X5_readLetters : CV yX5_readLetters cX5_readLetters 1 (none) 0 := ⟨wC_X5_readLetters, wI_X5_readLetters, wS_X5_readLetters, wZ_X5, by decide +kernel⟩
def m_X5_readLetters_B41 (g : zG) : Option (zG) := bd (ui g 52 0 0 (nI 1)) fun g1 => if ((gi g1 51 0 0) - (gi g1 53 0 0)) = (nI 1) then (m_X6_at g1 55 0 (gi g1 53 0 0)).bind fun r3 => bd (ui g1 54 0 0 r3) fun g4 => some g4 else bd (ui g1 54 0 0 (nI 0)) fun g2 => some g2
set_option maxRecDepth 100000 in
set_option maxHeartbeats 4000000 in
theorem t_X5_readLetters_B41 {p : Program} {l : Launch} {e : Env} {s : State} {m : MethodId} {args : Array Value} {below : List Frame} {meth : Method} {c : Code} {cells slots : Nat} {Q : zG → State → Prop} (z : zE) (gm : zG) (g : zG) : zJ dm p l e rm_X5_readLetters s m args below meth c cX5_readLetters 1 yX5_readLetters.cls z cells slots (wx z gm) (fn (fun _ => True) (fun x => x) osv) .return_ Q 41 [(0, .ref (za z 75 0))] [] g (m_X5_readLetters_B41 g) := by
  refine j_eq (M2 := bd (ui g 52 0 0 (nI 1)) fun g1 => if ((gi g1 51 0 0) - (gi g1 53 0 0)) = (nI 1) then (m_X6_at g1 55 0 (gi g1 53 0 0)).bind fun r3 => bd (ui g1 54 0 0 r3) fun g4 => some g4 else bd (ui g1 54 0 0 (nI 0)) fun g2 => some g2) rfl ?_
  refine j_aload_n (q := 42) (i := 0) (n := 0) dX5_readLetters_41 rfl rfl rfl ?_
  refine j_iconst (q := 43) (v := (nI 1)) dX5_readLetters_42 rfl rfl ?_
  refine p_X5_token (q := 46) dm_le wF_X5_36 (Nat.le_of_ble_eq_true rfl) dX5_readLetters_43 rfl (fun g1 => ?_)
  refine j_aload_n (q := 47) (i := 0) (n := 0) dX5_readLetters_46 rfl rfl rfl ?_
  refine j_aload_n (q := 48) (i := 0) (n := 0) dX5_readLetters_47 rfl rfl rfl ?_
  refine g_X5_place (q := 51) wF_X5_23 (Nat.le_of_ble_eq_true rfl) dX5_readLetters_48 rfl ?_
  refine j_aload_n (q := 52) (i := 0) (n := 0) dX5_readLetters_51 rfl rfl rfl ?_
  refine g_X5_start (q := 55) wF_X5_30 (Nat.le_of_ble_eq_true rfl) dX5_readLetters_52 rfl ?_
  refine j_isub (q := 56) dX5_readLetters_55 rfl ?_
  refine j_iconst (q := 57) (v := (nI 1)) dX5_readLetters_56 rfl rfl ?_
  refine j_icmp_ne (tgt := 74) (q := 60) dX5_readLetters_57 rfl rfl ?_ ?_
  · refine j_iconst (q := 75) (v := (nI 0)) dX5_readLetters_74 rfl rfl ?_
    refine p_X5_value (q := 78) dm_le wF_X5_33 (Nat.le_of_ble_eq_true rfl) dX5_readLetters_75 rfl (fun g2 => ?_)
    exact j_ret (x := g2) dX5_readLetters_78 ⟨trivial, rfl, rfl⟩
  · refine j_aload_n (q := 61) (i := 0) (n := 0) dX5_readLetters_60 rfl rfl rfl ?_
    refine g_X5_bytes (q := 64) wF_X5_9 (Nat.le_of_ble_eq_true rfl) dX5_readLetters_61 rfl ?_
    refine j_aload_n (q := 65) (i := 0) (n := 0) dX5_readLetters_64 rfl rfl rfl ?_
    refine g_X5_start (q := 68) wF_X5_30 (Nat.le_of_ble_eq_true rfl) dX5_readLetters_65 rfl ?_
    refine j_ci (q := 71) (rn_N (R := rm_X5_readLetters) (As := [.ref (za z 55 0), .int (gi g1 53 0 0)]) (rest := [.ref (za z 75 0)]) (c_X6_at _ z gm g1 55 0 (Or.inl ⟨isX_55, (Nat.le_of_ble_eq_true rfl)⟩) (gi g1 53 0 0)) cv_X6_at wO_X5_26 ⟨rfl, rfl⟩ ⟨(Nat.le_of_ble_eq_true rfl), (Nat.le_of_ble_eq_true rfl)⟩ rfl (Nat.le_of_ble_eq_true rfl) dX5_readLetters_68) rfl (fun r3 => ?_)
    refine j_goto (tgt := 75) dX5_readLetters_71 rfl ?_
    refine p_X5_value (q := 78) dm_le wF_X5_33 (Nat.le_of_ble_eq_true rfl) dX5_readLetters_75 rfl (fun g4 => ?_)
    exact j_ret (x := g4) dX5_readLetters_78 ⟨trivial, rfl, rfl⟩
def m_X5_readLetters_L0 : Nat → zG → Option (zG)
  | 0, _ => none
  | f + 1, g => if (gi g 51 0 0) < (gi g 50 0 0) then (m_X6_at g 55 0 (gi g 51 0 0)).bind fun r5 => (m_X5_isLetter r5).bind fun r6 => if r6 = (nI 0) then m_X5_readLetters_B41 g else bd (ui g 51 0 0 ((gi g 51 0 0) + (nI 1))) fun g7 => m_X5_readLetters_L0 f g7 else m_X5_readLetters_B41 g
set_option maxRecDepth 100000 in
set_option maxHeartbeats 4000000 in
theorem t_X5_readLetters_L0 {p : Program} {l : Launch} {e : Env} {s : State} {m : MethodId} {args : Array Value} {below : List Frame} {meth : Method} {c : Code} {cells slots : Nat} {Q : zG → State → Prop} (z : zE) (gm : zG) : ∀ (f : Nat) (g : zG), zJ dm p l e rm_X5_readLetters s m args below meth c cX5_readLetters 1 yX5_readLetters.cls z cells slots (wx z gm) (fn (fun _ => True) (fun x => x) osv) .return_ Q 0 [(0, .ref (za z 75 0))] [] g (m_X5_readLetters_L0 f g) := by
  intro f
  induction f with
  | zero => intro g; exact j_none
  | succ f ih =>
    intro g
    refine j_eq (M2 := if (gi g 51 0 0) < (gi g 50 0 0) then (m_X6_at g 55 0 (gi g 51 0 0)).bind fun r5 => (m_X5_isLetter r5).bind fun r6 => if r6 = (nI 0) then m_X5_readLetters_B41 g else bd (ui g 51 0 0 ((gi g 51 0 0) + (nI 1))) fun g7 => m_X5_readLetters_L0 f g7 else m_X5_readLetters_B41 g) rfl ?_
    refine j_aload_n (q := 1) (i := 0) (n := 0) dX5_readLetters_0 rfl rfl rfl ?_
    refine g_X5_place (q := 4) wF_X5_23 (Nat.le_of_ble_eq_true rfl) dX5_readLetters_1 rfl ?_
    refine j_aload_n (q := 5) (i := 0) (n := 0) dX5_readLetters_4 rfl rfl rfl ?_
    refine g_X5_length (q := 8) wF_X5_15 (Nat.le_of_ble_eq_true rfl) dX5_readLetters_5 rfl ?_
    refine j_icmp_ge (tgt := 41) (q := 11) dX5_readLetters_8 rfl rfl ?_ ?_
    · exact t_X5_readLetters_B41 z gm g
    · refine j_aload_n (q := 12) (i := 0) (n := 0) dX5_readLetters_11 rfl rfl rfl ?_
      refine g_X5_bytes (q := 15) wF_X5_9 (Nat.le_of_ble_eq_true rfl) dX5_readLetters_12 rfl ?_
      refine j_aload_n (q := 16) (i := 0) (n := 0) dX5_readLetters_15 rfl rfl rfl ?_
      refine g_X5_place (q := 19) wF_X5_23 (Nat.le_of_ble_eq_true rfl) dX5_readLetters_16 rfl ?_
      refine j_ci (q := 22) (rn_N (R := rm_X5_readLetters) (As := [.ref (za z 55 0), .int (gi g 51 0 0)]) (rest := []) (c_X6_at _ z gm g 55 0 (Or.inl ⟨isX_55, (Nat.le_of_ble_eq_true rfl)⟩) (gi g 51 0 0)) cv_X6_at wO_X5_26 ⟨rfl, rfl⟩ ⟨(Nat.le_of_ble_eq_true rfl), (Nat.le_of_ble_eq_true rfl)⟩ rfl (Nat.le_of_ble_eq_true rfl) dX5_readLetters_19) rfl (fun r5 => ?_)
      refine j_ci (q := 25) (rn_S (R := rm_X5_readLetters) (As := [.int r5]) (rest := []) (c_X5_isLetter _ z gm g r5) cv_X5_isLetter wM_X5_39 ⟨rfl, rfl⟩ ⟨(Nat.le_of_ble_eq_true rfl), (Nat.le_of_ble_eq_true rfl)⟩ rfl (Nat.le_of_ble_eq_true rfl) dX5_readLetters_22) rfl (fun r6 => ?_)
      refine j_if_eq (tgt := 41) (q := 28) dX5_readLetters_25 rfl rfl ?_ ?_
      · exact t_X5_readLetters_B41 z gm g
      · refine j_aload_n (q := 29) (i := 0) (n := 0) dX5_readLetters_28 rfl rfl rfl ?_
        refine j_dup (q := 30) dX5_readLetters_29 rfl rfl ?_
        refine g_X5_place (q := 33) wF_X5_23 (Nat.le_of_ble_eq_true rfl) dX5_readLetters_30 rfl ?_
        refine j_iconst (q := 34) (v := (nI 1)) dX5_readLetters_33 rfl rfl ?_
        refine j_iadd (q := 35) dX5_readLetters_34 rfl ?_
        refine p_X5_place (q := 38) dm_le wF_X5_23 (Nat.le_of_ble_eq_true rfl) dX5_readLetters_35 rfl (fun g7 => ?_)
        refine j_goto (tgt := 0) dX5_readLetters_38 rfl ?_
        exact ih g7
def m_X5_readLetters (g : zG) : Option (zG) := m_X5_readLetters_L0 FU g
set_option maxRecDepth 100000 in
set_option maxHeartbeats 4000000 in
theorem c_X5_readLetters (l : Launch) (z : zE) (gm : zG) (g : zG) : ∀ x, m_X5_readLetters g = some x → Ms dm l yX5_readLetters cX5_readLetters 1 (none) rm_X5_readLetters z [.ref (za z 75 0)] ((wx z gm) g) (osv x) ((wx z gm) ((fun x => x) x)) := by
  refine ms_of (Wf := (wx z gm)) (ri := .return_) (out := osv) (nxt := (fun x => x)) (ok := (fun _ => True)) (lv := [(0, .ref (za z 75 0))]) (by decide) ⟨rfl, rfl⟩ (Nat.le_of_ble_eq_true rfl) rfl (en_v ) (fun p e s m below meth c => ?_)
  refine j_eq (M2 := m_X5_readLetters_L0 FU g) rfl ?_
  exact t_X5_readLetters_L0 z gm FU g
-- CopierJobs$Text.readNumber()V
abbrev rm_X5_readNumber : Room := { frames := 1, cells := 0, slots := 0, locals := 21 }
theorem cv_X5_readNumber : CV yX5_readNumber cX5_readNumber 2 (none) 0 := ⟨wC_X5_readNumber, wI_X5_readNumber, wS_X5_readNumber, wZ_X5, by decide +kernel⟩
def m_X5_readNumber_B107 (g : zG) (s0 : Int32) : Option (zG) := if s0 = (nI 0) then if (nI 999) < (gi g 54 0 0) then bd (ui g 52 0 0 (nI 4)) fun g4 => some g4 else bd (ui g 52 0 0 (nI 2)) fun g3 => some g3 else bd (ui g 52 0 0 (nI 4)) fun g2 => some g2
set_option maxRecDepth 100000 in
set_option maxHeartbeats 4000000 in
theorem t_X5_readNumber_B107 {p : Program} {l : Launch} {e : Env} {s : State} {m : MethodId} {args : Array Value} {below : List Frame} {meth : Method} {c : Code} {cells slots : Nat} {Q : zG → State → Prop} (z : zE) (gm : zG) (g : zG) (s0 : Int32) : zJ dm p l e rm_X5_readNumber s m args below meth c cX5_readNumber 2 yX5_readNumber.cls z cells slots (wx z gm) (fn (fun _ => True) (fun x => x) osv) .return_ Q 107 [(0, .ref (za z 75 0))] [.int s0] g (m_X5_readNumber_B107 g s0) := by
  refine j_eq (M2 := if s0 = (nI 0) then if (nI 999) < (gi g 54 0 0) then bd (ui g 52 0 0 (nI 4)) fun g4 => some g4 else bd (ui g 52 0 0 (nI 2)) fun g3 => some g3 else bd (ui g 52 0 0 (nI 4)) fun g2 => some g2) rfl ?_
  refine j_istore_n (q := 108) (n := 1) (lv' := [(1, .int s0), (0, .ref (za z 75 0))]) dX5_readNumber_107 rfl (Nat.le_of_ble_eq_true rfl) rfl rfl ?_
  refine j_aload_n (q := 109) (i := 1) (n := 0) dX5_readNumber_108 rfl rfl rfl ?_
  refine j_iload_n (q := 110) (i := 0) (n := 1) dX5_readNumber_109 rfl rfl rfl ?_
  refine j_if_ne (tgt := 123) (q := 113) dX5_readNumber_110 rfl rfl ?_ ?_
  · refine j_iconst (q := 124) (v := (nI 4)) dX5_readNumber_123 rfl rfl ?_
    refine j_goto (tgt := 128) dX5_readNumber_124 rfl ?_
    refine p_X5_token (q := 131) dm_le wF_X5_36 (Nat.le_of_ble_eq_true rfl) dX5_readNumber_128 rfl (fun g2 => ?_)
    exact j_ret (x := g2) dX5_readNumber_131 ⟨trivial, rfl, rfl⟩
  · refine j_aload_n (q := 114) (i := 1) (n := 0) dX5_readNumber_113 rfl rfl rfl ?_
    refine g_X5_value (q := 117) wF_X5_33 (Nat.le_of_ble_eq_true rfl) dX5_readNumber_114 rfl ?_
    refine j_sipush (q := 120) (v := (nI 999)) dX5_readNumber_117 rfl rfl ?_
    refine j_icmp_le (tgt := 127) (q := 123) dX5_readNumber_120 rfl rfl ?_ ?_
    · refine j_iconst (q := 128) (v := (nI 2)) dX5_readNumber_127 rfl rfl ?_
      refine p_X5_token (q := 131) dm_le wF_X5_36 (Nat.le_of_ble_eq_true rfl) dX5_readNumber_128 rfl (fun g3 => ?_)
      exact j_ret (x := g3) dX5_readNumber_131 ⟨trivial, rfl, rfl⟩
    · refine j_iconst (q := 124) (v := (nI 4)) dX5_readNumber_123 rfl rfl ?_
      refine j_goto (tgt := 128) dX5_readNumber_124 rfl ?_
      refine p_X5_token (q := 131) dm_le wF_X5_36 (Nat.le_of_ble_eq_true rfl) dX5_readNumber_128 rfl (fun g4 => ?_)
      exact j_ret (x := g4) dX5_readNumber_131 ⟨trivial, rfl, rfl⟩
def m_X5_readNumber_B106 (g : zG) : Option (zG) := m_X5_readNumber_B107 g (nI 0)
set_option maxRecDepth 100000 in
set_option maxHeartbeats 4000000 in
theorem t_X5_readNumber_B106 {p : Program} {l : Launch} {e : Env} {s : State} {m : MethodId} {args : Array Value} {below : List Frame} {meth : Method} {c : Code} {cells slots : Nat} {Q : zG → State → Prop} (z : zE) (gm : zG) (g : zG) : zJ dm p l e rm_X5_readNumber s m args below meth c cX5_readNumber 2 yX5_readNumber.cls z cells slots (wx z gm) (fn (fun _ => True) (fun x => x) osv) .return_ Q 106 [(0, .ref (za z 75 0))] [] g (m_X5_readNumber_B106 g) := by
  refine j_eq (M2 := m_X5_readNumber_B107 g (nI 0)) rfl ?_
  refine j_iconst (q := 107) (v := (nI 0)) dX5_readNumber_106 rfl rfl ?_
  exact t_X5_readNumber_B107 z gm g (nI 0)
def m_X5_readNumber_B73 (g : zG) : Option (zG) := (m_X6_at g 55 0 (gi g 53 0 0)).bind fun r1 => if r1 = (nI 48) then if (nI 1) < ((gi g 51 0 0) - (gi g 53 0 0)) then m_X5_readNumber_B107 g (nI 1) else m_X5_readNumber_B106 g else m_X5_readNumber_B106 g
set_option maxRecDepth 100000 in
set_option maxHeartbeats 4000000 in
theorem t_X5_readNumber_B73 {p : Program} {l : Launch} {e : Env} {s : State} {m : MethodId} {args : Array Value} {below : List Frame} {meth : Method} {c : Code} {cells slots : Nat} {Q : zG → State → Prop} (z : zE) (gm : zG) (g : zG) : zJ dm p l e rm_X5_readNumber s m args below meth c cX5_readNumber 2 yX5_readNumber.cls z cells slots (wx z gm) (fn (fun _ => True) (fun x => x) osv) .return_ Q 73 [(0, .ref (za z 75 0))] [] g (m_X5_readNumber_B73 g) := by
  refine j_eq (M2 := (m_X6_at g 55 0 (gi g 53 0 0)).bind fun r1 => if r1 = (nI 48) then if (nI 1) < ((gi g 51 0 0) - (gi g 53 0 0)) then m_X5_readNumber_B107 g (nI 1) else m_X5_readNumber_B106 g else m_X5_readNumber_B106 g) rfl ?_
  refine j_aload_n (q := 74) (i := 0) (n := 0) dX5_readNumber_73 rfl rfl rfl ?_
  refine g_X5_bytes (q := 77) wF_X5_9 (Nat.le_of_ble_eq_true rfl) dX5_readNumber_74 rfl ?_
  refine j_aload_n (q := 78) (i := 0) (n := 0) dX5_readNumber_77 rfl rfl rfl ?_
  refine g_X5_start (q := 81) wF_X5_30 (Nat.le_of_ble_eq_true rfl) dX5_readNumber_78 rfl ?_
  refine j_ci (q := 84) (rn_N (R := rm_X5_readNumber) (As := [.ref (za z 55 0), .int (gi g 53 0 0)]) (rest := []) (c_X6_at _ z gm g 55 0 (Or.inl ⟨isX_55, (Nat.le_of_ble_eq_true rfl)⟩) (gi g 53 0 0)) cv_X6_at wO_X5_26 ⟨rfl, rfl⟩ ⟨(Nat.le_of_ble_eq_true rfl), (Nat.le_of_ble_eq_true rfl)⟩ rfl (Nat.le_of_ble_eq_true rfl) dX5_readNumber_81) rfl (fun r1 => ?_)
  refine j_bipush (q := 86) (v := (nI 48)) dX5_readNumber_84 rfl rfl ?_
  refine j_icmp_ne (tgt := 106) (q := 89) dX5_readNumber_86 rfl rfl ?_ ?_
  · exact t_X5_readNumber_B106 z gm g
  · refine j_aload_n (q := 90) (i := 0) (n := 0) dX5_readNumber_89 rfl rfl rfl ?_
    refine g_X5_place (q := 93) wF_X5_23 (Nat.le_of_ble_eq_true rfl) dX5_readNumber_90 rfl ?_
    refine j_aload_n (q := 94) (i := 0) (n := 0) dX5_readNumber_93 rfl rfl rfl ?_
    refine g_X5_start (q := 97) wF_X5_30 (Nat.le_of_ble_eq_true rfl) dX5_readNumber_94 rfl ?_
    refine j_isub (q := 98) dX5_readNumber_97 rfl ?_
    refine j_iconst (q := 99) (v := (nI 1)) dX5_readNumber_98 rfl rfl ?_
    refine j_icmp_le (tgt := 106) (q := 102) dX5_readNumber_99 rfl rfl ?_ ?_
    · exact t_X5_readNumber_B106 z gm g
    · refine j_iconst (q := 103) (v := (nI 1)) dX5_readNumber_102 rfl rfl ?_
      refine j_goto (tgt := 107) dX5_readNumber_103 rfl ?_
      exact t_X5_readNumber_B107 z gm g (nI 1)
def m_X5_readNumber_L0 : Nat → zG → Option (zG)
  | 0, _ => none
  | f + 1, g => if (gi g 51 0 0) < (gi g 50 0 0) then (m_X6_at g 55 0 (gi g 51 0 0)).bind fun r5 => (m_X5_isDigit r5).bind fun r6 => if r6 = (nI 0) then m_X5_readNumber_B73 g else (m_X6_at g 55 0 (gi g 51 0 0)).bind fun r7 => (m_J9_min_7cf53 (nI 1000) ((((gi g 54 0 0) * (nI 10)) + r7) - (nI 48))).bind fun r8 => bd (ui g 54 0 0 r8) fun g9 => bd (ui g9 51 0 0 ((gi g9 51 0 0) + (nI 1))) fun g10 => m_X5_readNumber_L0 f g10 else m_X5_readNumber_B73 g
set_option maxRecDepth 100000 in
set_option maxHeartbeats 4000000 in
theorem t_X5_readNumber_L0 {p : Program} {l : Launch} {e : Env} {s : State} {m : MethodId} {args : Array Value} {below : List Frame} {meth : Method} {c : Code} {cells slots : Nat} {Q : zG → State → Prop} (z : zE) (gm : zG) : ∀ (f : Nat) (g : zG), zJ dm p l e rm_X5_readNumber s m args below meth c cX5_readNumber 2 yX5_readNumber.cls z cells slots (wx z gm) (fn (fun _ => True) (fun x => x) osv) .return_ Q 0 [(0, .ref (za z 75 0))] [] g (m_X5_readNumber_L0 f g) := by
  intro f
  induction f with
  | zero => intro g; exact j_none
  | succ f ih =>
    intro g
    refine j_eq (M2 := if (gi g 51 0 0) < (gi g 50 0 0) then (m_X6_at g 55 0 (gi g 51 0 0)).bind fun r5 => (m_X5_isDigit r5).bind fun r6 => if r6 = (nI 0) then m_X5_readNumber_B73 g else (m_X6_at g 55 0 (gi g 51 0 0)).bind fun r7 => (m_J9_min_7cf53 (nI 1000) ((((gi g 54 0 0) * (nI 10)) + r7) - (nI 48))).bind fun r8 => bd (ui g 54 0 0 r8) fun g9 => bd (ui g9 51 0 0 ((gi g9 51 0 0) + (nI 1))) fun g10 => m_X5_readNumber_L0 f g10 else m_X5_readNumber_B73 g) rfl ?_
    refine j_aload_n (q := 1) (i := 0) (n := 0) dX5_readNumber_0 rfl rfl rfl ?_
    refine g_X5_place (q := 4) wF_X5_23 (Nat.le_of_ble_eq_true rfl) dX5_readNumber_1 rfl ?_
    refine j_aload_n (q := 5) (i := 0) (n := 0) dX5_readNumber_4 rfl rfl rfl ?_
    refine g_X5_length (q := 8) wF_X5_15 (Nat.le_of_ble_eq_true rfl) dX5_readNumber_5 rfl ?_
    refine j_icmp_ge (tgt := 73) (q := 11) dX5_readNumber_8 rfl rfl ?_ ?_
    · exact t_X5_readNumber_B73 z gm g
    · refine j_aload_n (q := 12) (i := 0) (n := 0) dX5_readNumber_11 rfl rfl rfl ?_
      refine g_X5_bytes (q := 15) wF_X5_9 (Nat.le_of_ble_eq_true rfl) dX5_readNumber_12 rfl ?_
      refine j_aload_n (q := 16) (i := 0) (n := 0) dX5_readNumber_15 rfl rfl rfl ?_
      refine g_X5_place (q := 19) wF_X5_23 (Nat.le_of_ble_eq_true rfl) dX5_readNumber_16 rfl ?_
      refine j_ci (q := 22) (rn_N (R := rm_X5_readNumber) (As := [.ref (za z 55 0), .int (gi g 51 0 0)]) (rest := []) (c_X6_at _ z gm g 55 0 (Or.inl ⟨isX_55, (Nat.le_of_ble_eq_true rfl)⟩) (gi g 51 0 0)) cv_X6_at wO_X5_26 ⟨rfl, rfl⟩ ⟨(Nat.le_of_ble_eq_true rfl), (Nat.le_of_ble_eq_true rfl)⟩ rfl (Nat.le_of_ble_eq_true rfl) dX5_readNumber_19) rfl (fun r5 => ?_)
      refine j_ci (q := 25) (rn_S (R := rm_X5_readNumber) (As := [.int r5]) (rest := []) (c_X5_isDigit _ z gm g r5) cv_X5_isDigit wM_X5_46 ⟨rfl, rfl⟩ ⟨(Nat.le_of_ble_eq_true rfl), (Nat.le_of_ble_eq_true rfl)⟩ rfl (Nat.le_of_ble_eq_true rfl) dX5_readNumber_22) rfl (fun r6 => ?_)
      refine j_if_eq (tgt := 73) (q := 28) dX5_readNumber_25 rfl rfl ?_ ?_
      · exact t_X5_readNumber_B73 z gm g
      · refine j_aload_n (q := 29) (i := 0) (n := 0) dX5_readNumber_28 rfl rfl rfl ?_
        refine j_sipush (q := 32) (v := (nI 1000)) dX5_readNumber_29 rfl rfl ?_
        refine j_aload_n (q := 33) (i := 0) (n := 0) dX5_readNumber_32 rfl rfl rfl ?_
        refine g_X5_value (q := 36) wF_X5_33 (Nat.le_of_ble_eq_true rfl) dX5_readNumber_33 rfl ?_
        refine j_bipush (q := 38) (v := (nI 10)) dX5_readNumber_36 rfl rfl ?_
        refine j_imul (q := 39) dX5_readNumber_38 rfl ?_
        refine j_aload_n (q := 40) (i := 0) (n := 0) dX5_readNumber_39 rfl rfl rfl ?_
        refine g_X5_bytes (q := 43) wF_X5_9 (Nat.le_of_ble_eq_true rfl) dX5_readNumber_40 rfl ?_
        refine j_aload_n (q := 44) (i := 0) (n := 0) dX5_readNumber_43 rfl rfl rfl ?_
        refine g_X5_place (q := 47) wF_X5_23 (Nat.le_of_ble_eq_true rfl) dX5_readNumber_44 rfl ?_
        refine j_ci (q := 50) (rn_N (R := rm_X5_readNumber) (As := [.ref (za z 55 0), .int (gi g 51 0 0)]) (rest := [.int ((gi g 54 0 0) * (nI 10)), .int (nI 1000), .ref (za z 75 0)]) (c_X6_at _ z gm g 55 0 (Or.inl ⟨isX_55, (Nat.le_of_ble_eq_true rfl)⟩) (gi g 51 0 0)) cv_X6_at wO_X5_26 ⟨rfl, rfl⟩ ⟨(Nat.le_of_ble_eq_true rfl), (Nat.le_of_ble_eq_true rfl)⟩ rfl (Nat.le_of_ble_eq_true rfl) dX5_readNumber_47) rfl (fun r7 => ?_)
        refine j_iadd (q := 51) dX5_readNumber_50 rfl ?_
        refine j_bipush (q := 53) (v := (nI 48)) dX5_readNumber_51 rfl rfl ?_
        refine j_isub (q := 54) dX5_readNumber_53 rfl ?_
        refine j_ci (q := 57) (rn_S (R := rm_X5_readNumber) (As := [.int (nI 1000), .int ((((gi g 54 0 0) * (nI 10)) + r7) - (nI 48))]) (rest := [.ref (za z 75 0)]) (c_J9_min_7cf53 _ z gm g (nI 1000) ((((gi g 54 0 0) * (nI 10)) + r7) - (nI 48))) cv_J9_min_7cf53 wM_X5_52 ⟨rfl, rfl⟩ ⟨(Nat.le_of_ble_eq_true rfl), (Nat.le_of_ble_eq_true rfl)⟩ rfl (Nat.le_of_ble_eq_true rfl) dX5_readNumber_54) rfl (fun r8 => ?_)
        refine p_X5_value (q := 60) dm_le wF_X5_33 (Nat.le_of_ble_eq_true rfl) dX5_readNumber_57 rfl (fun g9 => ?_)
        refine j_aload_n (q := 61) (i := 0) (n := 0) dX5_readNumber_60 rfl rfl rfl ?_
        refine j_dup (q := 62) dX5_readNumber_61 rfl rfl ?_
        refine g_X5_place (q := 65) wF_X5_23 (Nat.le_of_ble_eq_true rfl) dX5_readNumber_62 rfl ?_
        refine j_iconst (q := 66) (v := (nI 1)) dX5_readNumber_65 rfl rfl ?_
        refine j_iadd (q := 67) dX5_readNumber_66 rfl ?_
        refine p_X5_place (q := 70) dm_le wF_X5_23 (Nat.le_of_ble_eq_true rfl) dX5_readNumber_67 rfl (fun g10 => ?_)
        refine j_goto (tgt := 0) dX5_readNumber_70 rfl ?_
        exact ih g10
def m_X5_readNumber (g : zG) : Option (zG) := m_X5_readNumber_L0 FU g
set_option maxRecDepth 100000 in
set_option maxHeartbeats 4000000 in
theorem c_X5_readNumber (l : Launch) (z : zE) (gm : zG) (g : zG) : ∀ x, m_X5_readNumber g = some x → Ms dm l yX5_readNumber cX5_readNumber 2 (none) rm_X5_readNumber z [.ref (za z 75 0)] ((wx z gm) g) (osv x) ((wx z gm) ((fun x => x) x)) := by
  refine ms_of (Wf := (wx z gm)) (ri := .return_) (out := osv) (nxt := (fun x => x)) (ok := (fun _ => True)) (lv := [(0, .ref (za z 75 0))]) (by decide) ⟨rfl, rfl⟩ (Nat.le_of_ble_eq_true rfl) rfl (en_v ) (fun p e s m below meth c => ?_)
  refine j_eq (M2 := m_X5_readNumber_L0 FU g) rfl ?_
  exact t_X5_readNumber_L0 z gm FU g
-- CopierJobs$Text.readToken()V
abbrev rm_X5_readToken : Room := { frames := 2, cells := 0, slots := 0, locals := 42 }
theorem cv_X5_readToken : CV yX5_readToken cX5_readToken 2 (none) 0 := ⟨wC_X5_readToken, wI_X5_readToken, wS_X5_readToken, wZ_X5, by decide +kernel⟩
def m_X5_readToken_B40 (g : zG) : Option (zG) := bd (ui g 53 0 0 (gi g 51 0 0)) fun g1 => bd (ui g1 54 0 0 (nI 0)) fun g2 => (m_X6_at g2 55 0 (gi g2 51 0 0)).bind fun r3 => if (gi g2 51 0 0) < (gi g2 50 0 0) then (m_X5_isLetter r3).bind fun r4 => if r4 = (nI 0) then (m_X5_isDigit r3).bind fun r5 => if r5 = (nI 0) then if r3 = (nI 59) then bd (ui g2 52 0 0 (nI 3)) fun g8 => bd (ui g8 51 0 0 ((gi g8 51 0 0) + (nI 1))) fun g9 => some g9 else bd (ui g2 52 0 0 (nI 4)) fun g6 => bd (ui g6 51 0 0 ((gi g6 51 0 0) + (nI 1))) fun g7 => some g7 else (m_X5_readNumber g2).bind fun g10 => some g10 else (m_X5_readLetters g2).bind fun g11 => some g11 else bd (ui g2 52 0 0 (nI 0)) fun g12 => some g12
set_option maxRecDepth 100000 in
set_option maxHeartbeats 4000000 in
theorem t_X5_readToken_B40 {p : Program} {l : Launch} {e : Env} {s : State} {m : MethodId} {args : Array Value} {below : List Frame} {meth : Method} {c : Code} {cells slots : Nat} {Q : zG → State → Prop} (z : zE) (gm : zG) (g : zG) : zJ dm p l e rm_X5_readToken s m args below meth c cX5_readToken 2 yX5_readToken.cls z cells slots (wx z gm) (fn (fun _ => True) (fun x => x) osv) .return_ Q 40 [(0, .ref (za z 75 0))] [] g (m_X5_readToken_B40 g) := by
  refine j_eq (M2 := bd (ui g 53 0 0 (gi g 51 0 0)) fun g1 => bd (ui g1 54 0 0 (nI 0)) fun g2 => (m_X6_at g2 55 0 (gi g2 51 0 0)).bind fun r3 => if (gi g2 51 0 0) < (gi g2 50 0 0) then (m_X5_isLetter r3).bind fun r4 => if r4 = (nI 0) then (m_X5_isDigit r3).bind fun r5 => if r5 = (nI 0) then if r3 = (nI 59) then bd (ui g2 52 0 0 (nI 3)) fun g8 => bd (ui g8 51 0 0 ((gi g8 51 0 0) + (nI 1))) fun g9 => some g9 else bd (ui g2 52 0 0 (nI 4)) fun g6 => bd (ui g6 51 0 0 ((gi g6 51 0 0) + (nI 1))) fun g7 => some g7 else (m_X5_readNumber g2).bind fun g10 => some g10 else (m_X5_readLetters g2).bind fun g11 => some g11 else bd (ui g2 52 0 0 (nI 0)) fun g12 => some g12) rfl ?_
  refine j_aload_n (q := 41) (i := 0) (n := 0) dX5_readToken_40 rfl rfl rfl ?_
  refine j_aload_n (q := 42) (i := 0) (n := 0) dX5_readToken_41 rfl rfl rfl ?_
  refine g_X5_place (q := 45) wF_X5_23 (Nat.le_of_ble_eq_true rfl) dX5_readToken_42 rfl ?_
  refine p_X5_start (q := 48) dm_le wF_X5_30 (Nat.le_of_ble_eq_true rfl) dX5_readToken_45 rfl (fun g1 => ?_)
  refine j_aload_n (q := 49) (i := 0) (n := 0) dX5_readToken_48 rfl rfl rfl ?_
  refine j_iconst (q := 50) (v := (nI 0)) dX5_readToken_49 rfl rfl ?_
  refine p_X5_value (q := 53) dm_le wF_X5_33 (Nat.le_of_ble_eq_true rfl) dX5_readToken_50 rfl (fun g2 => ?_)
  refine j_aload_n (q := 54) (i := 0) (n := 0) dX5_readToken_53 rfl rfl rfl ?_
  refine g_X5_bytes (q := 57) wF_X5_9 (Nat.le_of_ble_eq_true rfl) dX5_readToken_54 rfl ?_
  refine j_aload_n (q := 58) (i := 0) (n := 0) dX5_readToken_57 rfl rfl rfl ?_
  refine g_X5_place (q := 61) wF_X5_23 (Nat.le_of_ble_eq_true rfl) dX5_readToken_58 rfl ?_
  refine j_ci (q := 64) (rn_N (R := rm_X5_readToken) (As := [.ref (za z 55 0), .int (gi g2 51 0 0)]) (rest := []) (c_X6_at _ z gm g2 55 0 (Or.inl ⟨isX_55, (Nat.le_of_ble_eq_true rfl)⟩) (gi g2 51 0 0)) cv_X6_at wO_X5_26 ⟨rfl, rfl⟩ ⟨(Nat.le_of_ble_eq_true rfl), (Nat.le_of_ble_eq_true rfl)⟩ rfl (Nat.le_of_ble_eq_true rfl) dX5_readToken_61) rfl (fun r3 => ?_)
  refine j_istore_n (q := 65) (n := 1) (lv' := [(1, .int r3), (0, .ref (za z 75 0))]) dX5_readToken_64 rfl (Nat.le_of_ble_eq_true rfl) rfl rfl ?_
  refine j_aload_n (q := 66) (i := 1) (n := 0) dX5_readToken_65 rfl rfl rfl ?_
  refine g_X5_place (q := 69) wF_X5_23 (Nat.le_of_ble_eq_true rfl) dX5_readToken_66 rfl ?_
  refine j_aload_n (q := 70) (i := 1) (n := 0) dX5_readToken_69 rfl rfl rfl ?_
  refine g_X5_length (q := 73) wF_X5_15 (Nat.le_of_ble_eq_true rfl) dX5_readToken_70 rfl ?_
  refine j_icmp_lt (tgt := 84) (q := 76) dX5_readToken_73 rfl rfl ?_ ?_
  · refine j_iload_n (q := 85) (i := 0) (n := 1) dX5_readToken_84 rfl rfl rfl ?_
    refine j_ci (q := 88) (rn_S (R := rm_X5_readToken) (As := [.int r3]) (rest := []) (c_X5_isLetter _ z gm g2 r3) cv_X5_isLetter wM_X5_39 ⟨rfl, rfl⟩ ⟨(Nat.le_of_ble_eq_true rfl), (Nat.le_of_ble_eq_true rfl)⟩ rfl (Nat.le_of_ble_eq_true rfl) dX5_readToken_85) rfl (fun r4 => ?_)
    refine j_if_eq (tgt := 98) (q := 91) dX5_readToken_88 rfl rfl ?_ ?_
    · refine j_iload_n (q := 99) (i := 0) (n := 1) dX5_readToken_98 rfl rfl rfl ?_
      refine j_ci (q := 102) (rn_S (R := rm_X5_readToken) (As := [.int r3]) (rest := []) (c_X5_isDigit _ z gm g2 r3) cv_X5_isDigit wM_X5_46 ⟨rfl, rfl⟩ ⟨(Nat.le_of_ble_eq_true rfl), (Nat.le_of_ble_eq_true rfl)⟩ rfl (Nat.le_of_ble_eq_true rfl) dX5_readToken_99) rfl (fun r5 => ?_)
      refine j_if_eq (tgt := 112) (q := 105) dX5_readToken_102 rfl rfl ?_ ?_
      · refine j_aload_n (q := 113) (i := 1) (n := 0) dX5_readToken_112 rfl rfl rfl ?_
        refine j_iload_n (q := 114) (i := 0) (n := 1) dX5_readToken_113 rfl rfl rfl ?_
        refine j_bipush (q := 116) (v := (nI 59)) dX5_readToken_114 rfl rfl ?_
        refine j_icmp_ne (tgt := 123) (q := 119) dX5_readToken_116 rfl rfl ?_ ?_
        · refine j_iconst (q := 124) (v := (nI 4)) dX5_readToken_123 rfl rfl ?_
          refine p_X5_token (q := 127) dm_le wF_X5_36 (Nat.le_of_ble_eq_true rfl) dX5_readToken_124 rfl (fun g6 => ?_)
          refine j_aload_n (q := 128) (i := 1) (n := 0) dX5_readToken_127 rfl rfl rfl ?_
          refine j_dup (q := 129) dX5_readToken_128 rfl rfl ?_
          refine g_X5_place (q := 132) wF_X5_23 (Nat.le_of_ble_eq_true rfl) dX5_readToken_129 rfl ?_
          refine j_iconst (q := 133) (v := (nI 1)) dX5_readToken_132 rfl rfl ?_
          refine j_iadd (q := 134) dX5_readToken_133 rfl ?_
          refine p_X5_place (q := 137) dm_le wF_X5_23 (Nat.le_of_ble_eq_true rfl) dX5_readToken_134 rfl (fun g7 => ?_)
          exact j_ret (x := g7) dX5_readToken_137 ⟨trivial, rfl, rfl⟩
        · refine j_iconst (q := 120) (v := (nI 3)) dX5_readToken_119 rfl rfl ?_
          refine j_goto (tgt := 124) dX5_readToken_120 rfl ?_
          refine p_X5_token (q := 127) dm_le wF_X5_36 (Nat.le_of_ble_eq_true rfl) dX5_readToken_124 rfl (fun g8 => ?_)
          refine j_aload_n (q := 128) (i := 1) (n := 0) dX5_readToken_127 rfl rfl rfl ?_
          refine j_dup (q := 129) dX5_readToken_128 rfl rfl ?_
          refine g_X5_place (q := 132) wF_X5_23 (Nat.le_of_ble_eq_true rfl) dX5_readToken_129 rfl ?_
          refine j_iconst (q := 133) (v := (nI 1)) dX5_readToken_132 rfl rfl ?_
          refine j_iadd (q := 134) dX5_readToken_133 rfl ?_
          refine p_X5_place (q := 137) dm_le wF_X5_23 (Nat.le_of_ble_eq_true rfl) dX5_readToken_134 rfl (fun g9 => ?_)
          exact j_ret (x := g9) dX5_readToken_137 ⟨trivial, rfl, rfl⟩
      · refine j_aload_n (q := 106) (i := 1) (n := 0) dX5_readToken_105 rfl rfl rfl ?_
        refine j_sv (q := 109) (rn_V (R := rm_X5_readToken) (As := []) (rest := []) (c_X5_readNumber _ z gm g2) cv_X5_readNumber wM_X5_49 ⟨rfl, rfl⟩ ⟨(Nat.le_of_ble_eq_true rfl), (Nat.le_of_ble_eq_true rfl)⟩ (Nat.le_of_ble_eq_true rfl) rfl rfl rfl (Nat.le_of_ble_eq_true rfl) dX5_readToken_106) rfl (fun g10 => ?_)
        refine j_goto (tgt := 137) dX5_readToken_109 rfl ?_
        exact j_ret (x := g10) dX5_readToken_137 ⟨trivial, rfl, rfl⟩
    · refine j_aload_n (q := 92) (i := 1) (n := 0) dX5_readToken_91 rfl rfl rfl ?_
      refine j_sv (q := 95) (rn_V (R := rm_X5_readToken) (As := []) (rest := []) (c_X5_readLetters _ z gm g2) cv_X5_readLetters wM_X5_43 ⟨rfl, rfl⟩ ⟨(Nat.le_of_ble_eq_true rfl), (Nat.le_of_ble_eq_true rfl)⟩ (Nat.le_of_ble_eq_true rfl) rfl rfl rfl (Nat.le_of_ble_eq_true rfl) dX5_readToken_92) rfl (fun g11 => ?_)
      refine j_goto (tgt := 137) dX5_readToken_95 rfl ?_
      exact j_ret (x := g11) dX5_readToken_137 ⟨trivial, rfl, rfl⟩
  · refine j_aload_n (q := 77) (i := 1) (n := 0) dX5_readToken_76 rfl rfl rfl ?_
    refine j_iconst (q := 78) (v := (nI 0)) dX5_readToken_77 rfl rfl ?_
    refine p_X5_token (q := 81) dm_le wF_X5_36 (Nat.le_of_ble_eq_true rfl) dX5_readToken_78 rfl (fun g12 => ?_)
    refine j_goto (tgt := 137) dX5_readToken_81 rfl ?_
    exact j_ret (x := g12) dX5_readToken_137 ⟨trivial, rfl, rfl⟩
def m_X5_readToken_L0 : Nat → zG → Option (zG)
  | 0, _ => none
  | f + 1, g => if (gi g 51 0 0) < (gi g 50 0 0) then (m_X6_at g 55 0 (gi g 51 0 0)).bind fun r13 => if r13 = (nI 32) then bd (ui g 51 0 0 ((gi g 51 0 0) + (nI 1))) fun g14 => m_X5_readToken_L0 f g14 else m_X5_readToken_B40 g else m_X5_readToken_B40 g
set_option maxRecDepth 100000 in
set_option maxHeartbeats 4000000 in
theorem t_X5_readToken_L0 {p : Program} {l : Launch} {e : Env} {s : State} {m : MethodId} {args : Array Value} {below : List Frame} {meth : Method} {c : Code} {cells slots : Nat} {Q : zG → State → Prop} (z : zE) (gm : zG) : ∀ (f : Nat) (g : zG), zJ dm p l e rm_X5_readToken s m args below meth c cX5_readToken 2 yX5_readToken.cls z cells slots (wx z gm) (fn (fun _ => True) (fun x => x) osv) .return_ Q 0 [(0, .ref (za z 75 0))] [] g (m_X5_readToken_L0 f g) := by
  intro f
  induction f with
  | zero => intro g; exact j_none
  | succ f ih =>
    intro g
    refine j_eq (M2 := if (gi g 51 0 0) < (gi g 50 0 0) then (m_X6_at g 55 0 (gi g 51 0 0)).bind fun r13 => if r13 = (nI 32) then bd (ui g 51 0 0 ((gi g 51 0 0) + (nI 1))) fun g14 => m_X5_readToken_L0 f g14 else m_X5_readToken_B40 g else m_X5_readToken_B40 g) rfl ?_
    refine j_aload_n (q := 1) (i := 0) (n := 0) dX5_readToken_0 rfl rfl rfl ?_
    refine g_X5_place (q := 4) wF_X5_23 (Nat.le_of_ble_eq_true rfl) dX5_readToken_1 rfl ?_
    refine j_aload_n (q := 5) (i := 0) (n := 0) dX5_readToken_4 rfl rfl rfl ?_
    refine g_X5_length (q := 8) wF_X5_15 (Nat.le_of_ble_eq_true rfl) dX5_readToken_5 rfl ?_
    refine j_icmp_ge (tgt := 40) (q := 11) dX5_readToken_8 rfl rfl ?_ ?_
    · exact t_X5_readToken_B40 z gm g
    · refine j_aload_n (q := 12) (i := 0) (n := 0) dX5_readToken_11 rfl rfl rfl ?_
      refine g_X5_bytes (q := 15) wF_X5_9 (Nat.le_of_ble_eq_true rfl) dX5_readToken_12 rfl ?_
      refine j_aload_n (q := 16) (i := 0) (n := 0) dX5_readToken_15 rfl rfl rfl ?_
      refine g_X5_place (q := 19) wF_X5_23 (Nat.le_of_ble_eq_true rfl) dX5_readToken_16 rfl ?_
      refine j_ci (q := 22) (rn_N (R := rm_X5_readToken) (As := [.ref (za z 55 0), .int (gi g 51 0 0)]) (rest := []) (c_X6_at _ z gm g 55 0 (Or.inl ⟨isX_55, (Nat.le_of_ble_eq_true rfl)⟩) (gi g 51 0 0)) cv_X6_at wO_X5_26 ⟨rfl, rfl⟩ ⟨(Nat.le_of_ble_eq_true rfl), (Nat.le_of_ble_eq_true rfl)⟩ rfl (Nat.le_of_ble_eq_true rfl) dX5_readToken_19) rfl (fun r13 => ?_)
      refine j_bipush (q := 24) (v := (nI 32)) dX5_readToken_22 rfl rfl ?_
      refine j_icmp_ne (tgt := 40) (q := 27) dX5_readToken_24 rfl rfl ?_ ?_
      · exact t_X5_readToken_B40 z gm g
      · refine j_aload_n (q := 28) (i := 0) (n := 0) dX5_readToken_27 rfl rfl rfl ?_
        refine j_dup (q := 29) dX5_readToken_28 rfl rfl ?_
        refine g_X5_place (q := 32) wF_X5_23 (Nat.le_of_ble_eq_true rfl) dX5_readToken_29 rfl ?_
        refine j_iconst (q := 33) (v := (nI 1)) dX5_readToken_32 rfl rfl ?_
        refine j_iadd (q := 34) dX5_readToken_33 rfl ?_
        refine p_X5_place (q := 37) dm_le wF_X5_23 (Nat.le_of_ble_eq_true rfl) dX5_readToken_34 rfl (fun g14 => ?_)
        refine j_goto (tgt := 0) dX5_readToken_37 rfl ?_
        exact ih g14
def m_X5_readToken (g : zG) : Option (zG) := m_X5_readToken_L0 FU g
set_option maxRecDepth 100000 in
set_option maxHeartbeats 4000000 in
theorem c_X5_readToken (l : Launch) (z : zE) (gm : zG) (g : zG) : ∀ x, m_X5_readToken g = some x → Ms dm l yX5_readToken cX5_readToken 2 (none) rm_X5_readToken z [.ref (za z 75 0)] ((wx z gm) g) (osv x) ((wx z gm) ((fun x => x) x)) := by
  refine ms_of (Wf := (wx z gm)) (ri := .return_) (out := osv) (nxt := (fun x => x)) (ok := (fun _ => True)) (lv := [(0, .ref (za z 75 0))]) (by decide) ⟨rfl, rfl⟩ (Nat.le_of_ble_eq_true rfl) rfl (en_v ) (fun p e s m below meth c => ?_)
  refine j_eq (M2 := m_X5_readToken_L0 FU g) rfl ?_
  exact t_X5_readToken_L0 z gm FU g
