-- CopierJobsModel.in(JJJ)Z
abbrev rm_X7_in : Room := { frames := 0, cells := 0, slots := 0, locals := 0 }
theorem cv_X7_in : CT yX7_in cX7_in 6 (some .boolean) 3 := ⟨wC_X7_in, wT_X7_in, wZ_X7, by decide +kernel⟩
def m_X7_in (a0 : Int64) (a1 : Int64) (a2 : Int64) : Option (Int32) := if (lg_cmp a0 a1) < (nI 0) then some (nI 0) else if (nI 0) < (lg_cmp a0 a2) then some (nI 0) else some (nI 1)
set_option maxRecDepth 100000 in
set_option maxHeartbeats 4000000 in
theorem c_X7_in (l : Launch) (z : zE) (gx : zG) (g : zG) (a0 : Int64) (a1 : Int64) (a2 : Int64) : ∀ x, m_X7_in a0 a1 a2 = some x → Ms dm l yX7_in cX7_in 6 (some .boolean) rm_X7_in z [.long a0, .long a1, .long a2] ((wm z gx) g) (oi x) ((wm z gx) ((fun _ => g) x)) := by
  refine ms_of (Wf := (wm z gx)) (ri := .ireturn) (out := oi) (nxt := (fun _ => g)) (ok := (fun x => isb x = true)) (lv := [(0, .long a0), (2, .long a1), (4, .long a2)]) (by decide) ⟨rfl, rfl⟩ (Nat.le_of_ble_eq_true rfl) rfl (en_z (out := fun x => x)) (fun p e s m below meth c => ?_)
  refine j_eq (M2 := if (lg_cmp a0 a1) < (nI 0) then some (nI 0) else if (nI 0) < (lg_cmp a0 a2) then some (nI 0) else some (nI 1)) rfl ?_
  refine j_lload_n (q := 1) (i := 0) (n := 0) dX7_in_0 rfl rfl rfl ?_
  refine j_lload_n (q := 2) (i := 1) (n := 2) dX7_in_1 rfl rfl rfl ?_
  refine j_lcmp (q := 3) dX7_in_2 rfl ?_
  refine j_if_lt (tgt := 17) (q := 6) dX7_in_3 rfl rfl ?_ ?_
  · refine j_iconst (q := 18) (v := (nI 0)) dX7_in_17 rfl rfl ?_
    exact j_ret (x := (nI 0)) dX7_in_18 ⟨rfl, rfl, rfl⟩
  · refine j_lload_n (q := 7) (i := 0) (n := 0) dX7_in_6 rfl rfl rfl ?_
    refine j_lload (q := 9) (i := 2) (n := 4) dX7_in_7 rfl rfl ?_
    refine j_lcmp (q := 10) dX7_in_9 rfl ?_
    refine j_if_gt (tgt := 17) (q := 13) dX7_in_10 rfl rfl ?_ ?_
    · refine j_iconst (q := 18) (v := (nI 0)) dX7_in_17 rfl rfl ?_
      exact j_ret (x := (nI 0)) dX7_in_18 ⟨rfl, rfl, rfl⟩
    · refine j_iconst (q := 14) (v := (nI 1)) dX7_in_13 rfl rfl ?_
      refine j_goto (tgt := 18) dX7_in_14 rfl ?_
      exact j_ret (x := (nI 1)) dX7_in_18 ⟨rfl, rfl, rfl⟩
-- CopierJobsModel.isPart(I)Z
abbrev rm_X7_isPart : Room := { frames := 1, cells := 0, slots := 0, locals := 25 }
theorem cv_X7_isPart : CT yX7_isPart cX7_isPart 1 (some .boolean) 1 := ⟨wC_X7_isPart, wT_X7_isPart, wZ_X7, by decide +kernel⟩
def m_X7_isPart (a0 : Int32) : Option (Int32) := (m_X7_in (Int32.toInt64 a0) 0 1).bind fun r1 => gd (isb r1 = true) (some r1)
set_option maxRecDepth 100000 in
set_option maxHeartbeats 4000000 in
theorem c_X7_isPart (l : Launch) (z : zE) (gx : zG) (g : zG) (a0 : Int32) : ∀ x, m_X7_isPart a0 = some x → Ms dm l yX7_isPart cX7_isPart 1 (some .boolean) rm_X7_isPart z [.int a0] ((wm z gx) g) (oi x) ((wm z gx) ((fun _ => g) x)) := by
  refine ms_of (Wf := (wm z gx)) (ri := .ireturn) (out := oi) (nxt := (fun _ => g)) (ok := (fun x => isb x = true)) (lv := [(0, .int a0)]) (by decide) ⟨rfl, rfl⟩ (Nat.le_of_ble_eq_true rfl) rfl (en_z (out := fun x => x)) (fun p e s m below meth c => ?_)
  refine j_eq (M2 := (m_X7_in (Int32.toInt64 a0) 0 1).bind fun r1 => gd (isb r1 = true) (some r1)) rfl ?_
  refine j_iload_n (q := 1) (i := 0) (n := 0) dX7_isPart_0 rfl rfl rfl ?_
  refine j_i2l (q := 2) dX7_isPart_1 rfl ?_
  refine j_lconst (q := 3) (v := 0) dX7_isPart_2 rfl rfl ?_
  refine j_lconst (q := 4) (v := 1) dX7_isPart_3 rfl rfl ?_
  refine j_ci (q := 7) (rn_S (R := rm_X7_isPart) (As := [.long (Int32.toInt64 a0), .long 0, .long 1]) (rest := []) (c_X7_in _ z gx g (Int32.toInt64 a0) 0 1) cv_X7_in wM_X7_62 ⟨rfl, rfl⟩ ⟨(Nat.le_of_ble_eq_true rfl), (Nat.le_of_ble_eq_true rfl)⟩ rfl (Nat.le_of_ble_eq_true rfl) dX7_isPart_4) rfl (fun r1 => ?_)
  exact j_retz (x := r1) (r := r1) dX7_isPart_7 (fun h => ⟨h, rfl, rfl⟩)
-- CopierJobsModel.isJob(I)Z
abbrev rm_X7_isJob : Room := { frames := 1, cells := 0, slots := 0, locals := 25 }
theorem cv_X7_isJob : CV yX7_isJob cX7_isJob 2 (some .boolean) 1 := ⟨wC_X7_isJob, wI_X7_isJob, wS_X7_isJob, wZ_X7, by decide +kernel⟩
def m_X7_isJob (g : zG) (a0 : Int32) : Option (Int32) := (m_X7_in (Int32.toInt64 a0) 0 (Int32.toInt64 ((gi g 120 0 0) - (nI 1)))).bind fun r1 => gd (isb r1 = true) (some r1)
set_option maxRecDepth 100000 in
set_option maxHeartbeats 4000000 in
theorem c_X7_isJob (l : Launch) (z : zE) (gx : zG) (g : zG) (a0 : Int32) : ∀ x, m_X7_isJob g a0 = some x → Ms dm l yX7_isJob cX7_isJob 2 (some .boolean) rm_X7_isJob z [.ref (za z 77 0), .int a0] ((wm z gx) g) (oi x) ((wm z gx) ((fun _ => g) x)) := by
  refine ms_of (Wf := (wm z gx)) (ri := .ireturn) (out := oi) (nxt := (fun _ => g)) (ok := (fun x => isb x = true)) (lv := [(0, .ref (za z 77 0)), (1, .int a0)]) (by decide) ⟨rfl, rfl⟩ (Nat.le_of_ble_eq_true rfl) rfl (en_z (out := fun x => x)) (fun p e s m below meth c => ?_)
  refine j_eq (M2 := (m_X7_in (Int32.toInt64 a0) 0 (Int32.toInt64 ((gi g 120 0 0) - (nI 1)))).bind fun r1 => gd (isb r1 = true) (some r1)) rfl ?_
  refine j_iload_n (q := 1) (i := 1) (n := 1) dX7_isJob_0 rfl rfl rfl ?_
  refine j_i2l (q := 2) dX7_isJob_1 rfl ?_
  refine j_lconst (q := 3) (v := 0) dX7_isJob_2 rfl rfl ?_
  refine j_aload_n (q := 4) (i := 0) (n := 0) dX7_isJob_3 rfl rfl rfl ?_
  refine g_X7_jobs (q := 7) wF_X7_66 (Nat.le_of_ble_eq_true rfl) dX7_isJob_4 rfl ?_
  refine j_iconst (q := 8) (v := (nI 1)) dX7_isJob_7 rfl rfl ?_
  refine j_isub (q := 9) dX7_isJob_8 rfl ?_
  refine j_i2l (q := 10) dX7_isJob_9 rfl ?_
  refine j_ci (q := 13) (rn_S (R := rm_X7_isJob) (As := [.long (Int32.toInt64 a0), .long 0, .long (Int32.toInt64 ((gi g 120 0 0) - (nI 1)))]) (rest := []) (c_X7_in _ z gx g (Int32.toInt64 a0) 0 (Int32.toInt64 ((gi g 120 0 0) - (nI 1)))) cv_X7_in wM_X7_62 ⟨rfl, rfl⟩ ⟨(Nat.le_of_ble_eq_true rfl), (Nat.le_of_ble_eq_true rfl)⟩ rfl (Nat.le_of_ble_eq_true rfl) dX7_isJob_10) rfl (fun r1 => ?_)
  exact j_retz (x := r1) (r := r1) dX7_isJob_13 (fun h => ⟨h, rfl, rfl⟩)
-- CopierJobsModel.type(I)I
abbrev rm_X7_type : Room := { frames := 1, cells := 0, slots := 0, locals := 25 }
theorem cv_X7_type : CV yX7_type cX7_type 2 (some .int) 1 := ⟨wC_X7_type, wI_X7_type, wS_X7_type, wZ_X7, by decide +kernel⟩
def m_X7_type (g : zG) (a0 : Int32) : Option (Int32 × zG) := (m_X7_in (Int32.toInt64 a0) 0 255).bind fun r1 => if r1 = (nI 0) then some ((-1), g) else if (gi g 124 0 0) = (nI 120) then some ((-3), g) else gd (inb (gi g 124 0 0) 120 = true) (bd (ui g 108 0 (gi g 124 0 0).toNatClampNeg a0) fun g2 => bd (ui g2 124 0 0 ((gi g2 124 0 0) + (nI 1))) fun g3 => some (gi g3 124 0 0, g3))
set_option maxRecDepth 100000 in
set_option maxHeartbeats 4000000 in
theorem c_X7_type (l : Launch) (z : zE) (gx : zG) (g : zG) (a0 : Int32) : ∀ x, m_X7_type g a0 = some x → Ms dm l yX7_type cX7_type 2 (some .int) rm_X7_type z [.ref (za z 77 0), .int a0] ((wm z gx) g) (osi x) ((wm z gx) ((fun x => x.2) x)) := by
  refine ms_of (Wf := (wm z gx)) (ri := .ireturn) (out := osi) (nxt := (fun x => x.2)) (ok := (fun _ => True)) (lv := [(0, .ref (za z 77 0)), (1, .int a0)]) (by decide) ⟨rfl, rfl⟩ (Nat.le_of_ble_eq_true rfl) rfl (en_i (out := fun x : Int32 × zG => x.1)) (fun p e s m below meth c => ?_)
  refine j_eq (M2 := (m_X7_in (Int32.toInt64 a0) 0 255).bind fun r1 => if r1 = (nI 0) then some ((-1), g) else if (gi g 124 0 0) = (nI 120) then some ((-3), g) else gd (inb (gi g 124 0 0) 120 = true) (bd (ui g 108 0 (gi g 124 0 0).toNatClampNeg a0) fun g2 => bd (ui g2 124 0 0 ((gi g2 124 0 0) + (nI 1))) fun g3 => some (gi g3 124 0 0, g3))) rfl ?_
  refine j_iload_n (q := 1) (i := 1) (n := 1) dX7_type_0 rfl rfl rfl ?_
  refine j_i2l (q := 2) dX7_type_1 rfl ?_
  refine j_lconst (q := 3) (v := 0) dX7_type_2 rfl rfl ?_
  refine j_ldc2 (q := 6) (v := 255) dX7_type_3 wW_X7_69 rfl ?_
  refine j_ci (q := 9) (rn_S (R := rm_X7_type) (As := [.long (Int32.toInt64 a0), .long 0, .long 255]) (rest := []) (c_X7_in _ z gx g (Int32.toInt64 a0) 0 255) cv_X7_in wM_X7_62 ⟨rfl, rfl⟩ ⟨(Nat.le_of_ble_eq_true rfl), (Nat.le_of_ble_eq_true rfl)⟩ rfl (Nat.le_of_ble_eq_true rfl) dX7_type_6) rfl (fun r1 => ?_)
  refine j_if_ne (tgt := 14) (q := 12) dX7_type_9 rfl rfl ?_ ?_
  · refine j_aload_n (q := 15) (i := 0) (n := 0) dX7_type_14 rfl rfl rfl ?_
    refine g_X7_length (q := 18) wF_X7_71 (Nat.le_of_ble_eq_true rfl) dX7_type_15 rfl ?_
    refine j_bipush (q := 20) (v := (nI 120)) dX7_type_18 rfl rfl ?_
    refine j_icmp_ne (tgt := 26) (q := 23) dX7_type_20 rfl rfl ?_ ?_
    · refine j_aload_n (q := 27) (i := 0) (n := 0) dX7_type_26 rfl rfl rfl ?_
      refine g_X7_text (q := 30) wF_X7_38 (Nat.le_of_ble_eq_true rfl) dX7_type_27 rfl ?_
      refine j_aload_n (q := 31) (i := 0) (n := 0) dX7_type_30 rfl rfl rfl ?_
      refine g_X7_length (q := 34) wF_X7_71 (Nat.le_of_ble_eq_true rfl) dX7_type_31 rfl ?_
      refine j_iload_n (q := 35) (i := 1) (n := 1) dX7_type_34 rfl rfl rfl ?_
      refine am_st (k := 108) (n := 120) (q := 36) dm_le isM_108 rfl (Nat.le_of_ble_eq_true rfl) dX7_type_35 rfl (fun g2 => ?_)
      refine j_aload_n (q := 37) (i := 0) (n := 0) dX7_type_36 rfl rfl rfl ?_
      refine j_dup (q := 38) dX7_type_37 rfl rfl ?_
      refine g_X7_length (q := 41) wF_X7_71 (Nat.le_of_ble_eq_true rfl) dX7_type_38 rfl ?_
      refine j_iconst (q := 42) (v := (nI 1)) dX7_type_41 rfl rfl ?_
      refine j_iadd (q := 43) dX7_type_42 rfl ?_
      refine p_X7_length (q := 46) dm_le wF_X7_71 (Nat.le_of_ble_eq_true rfl) dX7_type_43 rfl (fun g3 => ?_)
      refine j_aload_n (q := 47) (i := 0) (n := 0) dX7_type_46 rfl rfl rfl ?_
      refine g_X7_length (q := 50) wF_X7_71 (Nat.le_of_ble_eq_true rfl) dX7_type_47 rfl ?_
      exact j_ret (x := (gi g3 124 0 0, g3)) dX7_type_50 ⟨trivial, rfl, rfl⟩
    · refine j_bipush (q := 25) (v := (-3)) dX7_type_23 rfl rfl ?_
      exact j_ret (x := ((-3), g)) dX7_type_25 ⟨trivial, rfl, rfl⟩
  · refine j_iconst (q := 13) (v := (-1)) dX7_type_12 rfl rfl ?_
    exact j_ret (x := ((-1), g)) dX7_type_13 ⟨trivial, rfl, rfl⟩
-- CopierJobsModel.clear()I
abbrev rm_X7_clear : Room := { frames := 0, cells := 0, slots := 0, locals := 0 }
theorem cv_X7_clear : CV yX7_clear cX7_clear 2 (some .int) 0 := ⟨wC_X7_clear, wI_X7_clear, wS_X7_clear, wZ_X7, by decide +kernel⟩
def m_X7_clear (g : zG) : Option (Int32 × zG) := bd (ui g 124 0 0 (nI 0)) fun g1 => some (gi g 124 0 0, g1)
set_option maxRecDepth 100000 in
set_option maxHeartbeats 4000000 in
theorem c_X7_clear (l : Launch) (z : zE) (gx : zG) (g : zG) : ∀ x, m_X7_clear g = some x → Ms dm l yX7_clear cX7_clear 2 (some .int) rm_X7_clear z [.ref (za z 77 0)] ((wm z gx) g) (osi x) ((wm z gx) ((fun x => x.2) x)) := by
  refine ms_of (Wf := (wm z gx)) (ri := .ireturn) (out := osi) (nxt := (fun x => x.2)) (ok := (fun _ => True)) (lv := [(0, .ref (za z 77 0))]) (by decide) ⟨rfl, rfl⟩ (Nat.le_of_ble_eq_true rfl) rfl (en_i (out := fun x : Int32 × zG => x.1)) (fun p e s m below meth c => ?_)
  refine j_eq (M2 := bd (ui g 124 0 0 (nI 0)) fun g1 => some (gi g 124 0 0, g1)) rfl ?_
  refine j_aload_n (q := 1) (i := 0) (n := 0) dX7_clear_0 rfl rfl rfl ?_
  refine g_X7_length (q := 4) wF_X7_71 (Nat.le_of_ble_eq_true rfl) dX7_clear_1 rfl ?_
  refine j_istore_n (q := 5) (n := 1) (lv' := [(1, .int (gi g 124 0 0)), (0, .ref (za z 77 0))]) dX7_clear_4 rfl (Nat.le_of_ble_eq_true rfl) rfl rfl ?_
  refine j_aload_n (q := 6) (i := 1) (n := 0) dX7_clear_5 rfl rfl rfl ?_
  refine j_iconst (q := 7) (v := (nI 0)) dX7_clear_6 rfl rfl ?_
  refine p_X7_length (q := 10) dm_le wF_X7_71 (Nat.le_of_ble_eq_true rfl) dX7_clear_7 rfl (fun g1 => ?_)
  refine j_iload_n (q := 11) (i := 0) (n := 1) dX7_clear_10 rfl rfl rfl ?_
  exact j_ret (x := (gi g 124 0 0, g1)) dX7_clear_11 ⟨trivial, rfl, rfl⟩
-- CopierJobsModel.letter()I
abbrev rm_X7_letter : Room := { frames := 0, cells := 0, slots := 0, locals := 0 }
theorem cv_X7_letter : CV yX7_letter cX7_letter 1 (some .int) 0 := ⟨wC_X7_letter, wI_X7_letter, wS_X7_letter, wZ_X7, by decide +kernel⟩
def m_X7_letter (g : zG) : Option (Int32) := if (gi g 125 0 0) < (gi g 124 0 0) then gd (inb (gi g 125 0 0) 120 = true) (some (gi g 108 0 (gi g 125 0 0).toNatClampNeg)) else some (-1)
set_option maxRecDepth 100000 in
set_option maxHeartbeats 4000000 in
theorem c_X7_letter (l : Launch) (z : zE) (gx : zG) (g : zG) : ∀ x, m_X7_letter g = some x → Ms dm l yX7_letter cX7_letter 1 (some .int) rm_X7_letter z [.ref (za z 77 0)] ((wm z gx) g) (oi x) ((wm z gx) ((fun _ => g) x)) := by
  refine ms_of (Wf := (wm z gx)) (ri := .ireturn) (out := oi) (nxt := (fun _ => g)) (ok := (fun _ => True)) (lv := [(0, .ref (za z 77 0))]) (by decide) ⟨rfl, rfl⟩ (Nat.le_of_ble_eq_true rfl) rfl (en_i (out := fun x => x)) (fun p e s m below meth c => ?_)
  refine j_eq (M2 := if (gi g 125 0 0) < (gi g 124 0 0) then gd (inb (gi g 125 0 0) 120 = true) (some (gi g 108 0 (gi g 125 0 0).toNatClampNeg)) else some (-1)) rfl ?_
  refine j_aload_n (q := 1) (i := 0) (n := 0) dX7_letter_0 rfl rfl rfl ?_
  refine g_X7_place (q := 4) wF_X7_74 (Nat.le_of_ble_eq_true rfl) dX7_letter_1 rfl ?_
  refine j_aload_n (q := 5) (i := 0) (n := 0) dX7_letter_4 rfl rfl rfl ?_
  refine g_X7_length (q := 8) wF_X7_71 (Nat.le_of_ble_eq_true rfl) dX7_letter_5 rfl ?_
  refine j_icmp_ge (tgt := 23) (q := 11) dX7_letter_8 rfl rfl ?_ ?_
  · refine j_iconst (q := 24) (v := (-1)) dX7_letter_23 rfl rfl ?_
    exact j_ret (x := (-1)) dX7_letter_24 ⟨trivial, rfl, rfl⟩
  · refine j_aload_n (q := 12) (i := 0) (n := 0) dX7_letter_11 rfl rfl rfl ?_
    refine g_X7_text (q := 15) wF_X7_38 (Nat.le_of_ble_eq_true rfl) dX7_letter_12 rfl ?_
    refine j_aload_n (q := 16) (i := 0) (n := 0) dX7_letter_15 rfl rfl rfl ?_
    refine g_X7_place (q := 19) wF_X7_74 (Nat.le_of_ble_eq_true rfl) dX7_letter_16 rfl ?_
    refine am_ld (k := 108) (n := 120) (q := 20) isM_108 rfl (Nat.le_of_ble_eq_true rfl) dX7_letter_19 rfl ?_
    refine j_goto (tgt := 24) dX7_letter_20 rfl ?_
    exact j_ret (x := gi g 108 0 (gi g 125 0 0).toNatClampNeg) dX7_letter_24 ⟨trivial, rfl, rfl⟩
-- CopierJobsModel.readNumber()V
abbrev rm_X7_readNumber : Room := { frames := 1, cells := 0, slots := 0, locals := 25 }
theorem cv_X7_readNumber : CV yX7_readNumber cX7_readNumber 1 (none) 0 := ⟨wC_X7_readNumber, wI_X7_readNumber, wS_X7_readNumber, wZ_X7, by decide +kernel⟩
def m_X7_readNumber_B71 (g : zG) : Option (zG) := if (nI 999) < (gi g 128 0 0) then bd (ui g 127 0 0 (-1)) fun g4 => some g4 else if ((gi g 126 0 0) + (nI 1)) < (gi g 125 0 0) then gd (inb (gi g 126 0 0) 120 = true) (if (gi g 108 0 (gi g 126 0 0).toNatClampNeg) = (nI 48) then bd (ui g 127 0 0 (-1)) fun g7 => some g7 else bd (ui g 127 0 0 (nI 2)) fun g6 => some g6) else bd (ui g 127 0 0 (nI 2)) fun g5 => some g5
set_option maxRecDepth 100000 in
set_option maxHeartbeats 4000000 in
theorem t_X7_readNumber_B71 {p : Program} {l : Launch} {e : Env} {s : State} {m : MethodId} {args : Array Value} {below : List Frame} {meth : Method} {c : Code} {cells slots : Nat} {Q : zG → State → Prop} (z : zE) (gx : zG) (g : zG) : zJ dm p l e rm_X7_readNumber s m args below meth c cX7_readNumber 1 yX7_readNumber.cls z cells slots (wm z gx) (fn (fun _ => True) (fun x => x) osv) .return_ Q 71 [(0, .ref (za z 77 0))] [] g (m_X7_readNumber_B71 g) := by
  refine j_eq (M2 := if (nI 999) < (gi g 128 0 0) then bd (ui g 127 0 0 (-1)) fun g4 => some g4 else if ((gi g 126 0 0) + (nI 1)) < (gi g 125 0 0) then gd (inb (gi g 126 0 0) 120 = true) (if (gi g 108 0 (gi g 126 0 0).toNatClampNeg) = (nI 48) then bd (ui g 127 0 0 (-1)) fun g7 => some g7 else bd (ui g 127 0 0 (nI 2)) fun g6 => some g6) else bd (ui g 127 0 0 (nI 2)) fun g5 => some g5) rfl ?_
  refine j_aload_n (q := 72) (i := 0) (n := 0) dX7_readNumber_71 rfl rfl rfl ?_
  refine j_aload_n (q := 73) (i := 0) (n := 0) dX7_readNumber_72 rfl rfl rfl ?_
  refine g_X7_value (q := 76) wF_X7_77 (Nat.le_of_ble_eq_true rfl) dX7_readNumber_73 rfl ?_
  refine j_sipush (q := 79) (v := (nI 999)) dX7_readNumber_76 rfl rfl ?_
  refine j_icmp_gt (tgt := 109) (q := 82) dX7_readNumber_79 rfl rfl ?_ ?_
  · refine j_iconst (q := 110) (v := (-1)) dX7_readNumber_109 rfl rfl ?_
    refine j_goto (tgt := 114) dX7_readNumber_110 rfl ?_
    refine p_X7_sort (q := 117) dm_le wF_X7_91 (Nat.le_of_ble_eq_true rfl) dX7_readNumber_114 rfl (fun g4 => ?_)
    exact j_ret (x := g4) dX7_readNumber_117 ⟨trivial, rfl, rfl⟩
  · refine j_aload_n (q := 83) (i := 0) (n := 0) dX7_readNumber_82 rfl rfl rfl ?_
    refine g_X7_place (q := 86) wF_X7_74 (Nat.le_of_ble_eq_true rfl) dX7_readNumber_83 rfl ?_
    refine j_aload_n (q := 87) (i := 0) (n := 0) dX7_readNumber_86 rfl rfl rfl ?_
    refine g_X7_from (q := 90) wF_X7_88 (Nat.le_of_ble_eq_true rfl) dX7_readNumber_87 rfl ?_
    refine j_iconst (q := 91) (v := (nI 1)) dX7_readNumber_90 rfl rfl ?_
    refine j_iadd (q := 92) dX7_readNumber_91 rfl ?_
    refine j_icmp_le (tgt := 113) (q := 95) dX7_readNumber_92 rfl rfl ?_ ?_
    · refine j_iconst (q := 114) (v := (nI 2)) dX7_readNumber_113 rfl rfl ?_
      refine p_X7_sort (q := 117) dm_le wF_X7_91 (Nat.le_of_ble_eq_true rfl) dX7_readNumber_114 rfl (fun g5 => ?_)
      exact j_ret (x := g5) dX7_readNumber_117 ⟨trivial, rfl, rfl⟩
    · refine j_aload_n (q := 96) (i := 0) (n := 0) dX7_readNumber_95 rfl rfl rfl ?_
      refine g_X7_text (q := 99) wF_X7_38 (Nat.le_of_ble_eq_true rfl) dX7_readNumber_96 rfl ?_
      refine j_aload_n (q := 100) (i := 0) (n := 0) dX7_readNumber_99 rfl rfl rfl ?_
      refine g_X7_from (q := 103) wF_X7_88 (Nat.le_of_ble_eq_true rfl) dX7_readNumber_100 rfl ?_
      refine am_ld (k := 108) (n := 120) (q := 104) isM_108 rfl (Nat.le_of_ble_eq_true rfl) dX7_readNumber_103 rfl ?_
      refine j_bipush (q := 106) (v := (nI 48)) dX7_readNumber_104 rfl rfl ?_
      refine j_icmp_ne (tgt := 113) (q := 109) dX7_readNumber_106 rfl rfl ?_ ?_
      · refine j_iconst (q := 114) (v := (nI 2)) dX7_readNumber_113 rfl rfl ?_
        refine p_X7_sort (q := 117) dm_le wF_X7_91 (Nat.le_of_ble_eq_true rfl) dX7_readNumber_114 rfl (fun g6 => ?_)
        exact j_ret (x := g6) dX7_readNumber_117 ⟨trivial, rfl, rfl⟩
      · refine j_iconst (q := 110) (v := (-1)) dX7_readNumber_109 rfl rfl ?_
        refine j_goto (tgt := 114) dX7_readNumber_110 rfl ?_
        refine p_X7_sort (q := 117) dm_le wF_X7_91 (Nat.le_of_ble_eq_true rfl) dX7_readNumber_114 rfl (fun g7 => ?_)
        exact j_ret (x := g7) dX7_readNumber_117 ⟨trivial, rfl, rfl⟩
def m_X7_readNumber_B55 (K5 : zG → Option (zG)) (g : zG) (s0 : Int32) : Option (zG) := bd (ui g 128 0 0 s0) fun g8 => bd (ui g8 125 0 0 ((gi g8 125 0 0) + (nI 1))) fun g9 => K5 g9
set_option maxRecDepth 100000 in
set_option maxHeartbeats 4000000 in
theorem t_X7_readNumber_B55 {p : Program} {l : Launch} {e : Env} {s : State} {m : MethodId} {args : Array Value} {below : List Frame} {meth : Method} {c : Code} {cells slots : Nat} {Q : zG → State → Prop} (z : zE) (gx : zG) (K5 : zG → Option (zG)) (hK5 : ∀ (g : zG), zJ dm p l e rm_X7_readNumber s m args below meth c cX7_readNumber 1 yX7_readNumber.cls z cells slots (wm z gx) (fn (fun _ => True) (fun x => x) osv) .return_ Q 5 [(0, .ref (za z 77 0))] [] g (K5 g)) (g : zG) (s0 : Int32) : zJ dm p l e rm_X7_readNumber s m args below meth c cX7_readNumber 1 yX7_readNumber.cls z cells slots (wm z gx) (fn (fun _ => True) (fun x => x) osv) .return_ Q 55 [(0, .ref (za z 77 0))] [.int s0, .ref (za z 77 0)] g (m_X7_readNumber_B55 K5 g s0) := by
  refine j_eq (M2 := bd (ui g 128 0 0 s0) fun g8 => bd (ui g8 125 0 0 ((gi g8 125 0 0) + (nI 1))) fun g9 => K5 g9) rfl ?_
  refine p_X7_value (q := 58) dm_le wF_X7_77 (Nat.le_of_ble_eq_true rfl) dX7_readNumber_55 rfl (fun g8 => ?_)
  refine j_aload_n (q := 59) (i := 0) (n := 0) dX7_readNumber_58 rfl rfl rfl ?_
  refine j_dup (q := 60) dX7_readNumber_59 rfl rfl ?_
  refine g_X7_place (q := 63) wF_X7_74 (Nat.le_of_ble_eq_true rfl) dX7_readNumber_60 rfl ?_
  refine j_iconst (q := 64) (v := (nI 1)) dX7_readNumber_63 rfl rfl ?_
  refine j_iadd (q := 65) dX7_readNumber_64 rfl ?_
  refine p_X7_place (q := 68) dm_le wF_X7_74 (Nat.le_of_ble_eq_true rfl) dX7_readNumber_65 rfl (fun g9 => ?_)
  refine j_goto (tgt := 5) dX7_readNumber_68 rfl ?_
  exact hK5 g9
def m_X7_readNumber_L5 : Nat → zG → Option (zG)
  | 0, _ => none
  | f + 1, g => (m_X7_letter g).bind fun r2 => (m_X7_in (Int32.toInt64 r2) 48 57).bind fun r3 => if r3 = (nI 0) then m_X7_readNumber_B71 g else if (gi g 128 0 0) < (nI 1000) then (m_X7_letter g).bind fun r10 => m_X7_readNumber_B55 (m_X7_readNumber_L5 f) g ((((nI 10) * (gi g 128 0 0)) + r10) - (nI 48)) else m_X7_readNumber_B55 (m_X7_readNumber_L5 f) g (gi g 128 0 0)
set_option maxRecDepth 100000 in
set_option maxHeartbeats 4000000 in
theorem t_X7_readNumber_L5 {p : Program} {l : Launch} {e : Env} {s : State} {m : MethodId} {args : Array Value} {below : List Frame} {meth : Method} {c : Code} {cells slots : Nat} {Q : zG → State → Prop} (z : zE) (gx : zG) : ∀ (f : Nat) (g : zG), zJ dm p l e rm_X7_readNumber s m args below meth c cX7_readNumber 1 yX7_readNumber.cls z cells slots (wm z gx) (fn (fun _ => True) (fun x => x) osv) .return_ Q 5 [(0, .ref (za z 77 0))] [] g (m_X7_readNumber_L5 f g) := by
  intro f
  induction f with
  | zero => intro g; exact j_none
  | succ f ih =>
    intro g
    refine j_eq (M2 := (m_X7_letter g).bind fun r2 => (m_X7_in (Int32.toInt64 r2) 48 57).bind fun r3 => if r3 = (nI 0) then m_X7_readNumber_B71 g else if (gi g 128 0 0) < (nI 1000) then (m_X7_letter g).bind fun r10 => m_X7_readNumber_B55 (m_X7_readNumber_L5 f) g ((((nI 10) * (gi g 128 0 0)) + r10) - (nI 48)) else m_X7_readNumber_B55 (m_X7_readNumber_L5 f) g (gi g 128 0 0)) rfl ?_
    refine j_aload_n (q := 6) (i := 0) (n := 0) dX7_readNumber_5 rfl rfl rfl ?_
    refine j_ci (q := 9) (rn_V (R := rm_X7_readNumber) (As := []) (rest := []) (c_X7_letter _ z gx g) cv_X7_letter wM_X7_80 ⟨rfl, rfl⟩ ⟨(Nat.le_of_ble_eq_true rfl), (Nat.le_of_ble_eq_true rfl)⟩ (Nat.le_of_ble_eq_true rfl) rfl rfl rfl (Nat.le_of_ble_eq_true rfl) dX7_readNumber_6) rfl (fun r2 => ?_)
    refine j_i2l (q := 10) dX7_readNumber_9 rfl ?_
    refine j_ldc2 (q := 13) (v := 48) dX7_readNumber_10 wW_X7_84 rfl ?_
    refine j_ldc2 (q := 16) (v := 57) dX7_readNumber_13 wW_X7_86 rfl ?_
    refine j_ci (q := 19) (rn_S (R := rm_X7_readNumber) (As := [.long (Int32.toInt64 r2), .long 48, .long 57]) (rest := []) (c_X7_in _ z gx g (Int32.toInt64 r2) 48 57) cv_X7_in wM_X7_62 ⟨rfl, rfl⟩ ⟨(Nat.le_of_ble_eq_true rfl), (Nat.le_of_ble_eq_true rfl)⟩ rfl (Nat.le_of_ble_eq_true rfl) dX7_readNumber_16) rfl (fun r3 => ?_)
    refine j_if_eq (tgt := 71) (q := 22) dX7_readNumber_19 rfl rfl ?_ ?_
    · exact t_X7_readNumber_B71 z gx g
    · refine j_aload_n (q := 23) (i := 0) (n := 0) dX7_readNumber_22 rfl rfl rfl ?_
      refine j_aload_n (q := 24) (i := 0) (n := 0) dX7_readNumber_23 rfl rfl rfl ?_
      refine g_X7_value (q := 27) wF_X7_77 (Nat.le_of_ble_eq_true rfl) dX7_readNumber_24 rfl ?_
      refine j_sipush (q := 30) (v := (nI 1000)) dX7_readNumber_27 rfl rfl ?_
      refine j_icmp_ge (tgt := 51) (q := 33) dX7_readNumber_30 rfl rfl ?_ ?_
      · refine j_aload_n (q := 52) (i := 0) (n := 0) dX7_readNumber_51 rfl rfl rfl ?_
        refine g_X7_value (q := 55) wF_X7_77 (Nat.le_of_ble_eq_true rfl) dX7_readNumber_52 rfl ?_
        exact t_X7_readNumber_B55 z gx (m_X7_readNumber_L5 f) ih g (gi g 128 0 0)
      · refine j_bipush (q := 35) (v := (nI 10)) dX7_readNumber_33 rfl rfl ?_
        refine j_aload_n (q := 36) (i := 0) (n := 0) dX7_readNumber_35 rfl rfl rfl ?_
        refine g_X7_value (q := 39) wF_X7_77 (Nat.le_of_ble_eq_true rfl) dX7_readNumber_36 rfl ?_
        refine j_imul (q := 40) dX7_readNumber_39 rfl ?_
        refine j_aload_n (q := 41) (i := 0) (n := 0) dX7_readNumber_40 rfl rfl rfl ?_
        refine j_ci (q := 44) (rn_V (R := rm_X7_readNumber) (As := []) (rest := [.int ((nI 10) * (gi g 128 0 0)), .ref (za z 77 0)]) (c_X7_letter _ z gx g) cv_X7_letter wM_X7_80 ⟨rfl, rfl⟩ ⟨(Nat.le_of_ble_eq_true rfl), (Nat.le_of_ble_eq_true rfl)⟩ (Nat.le_of_ble_eq_true rfl) rfl rfl rfl (Nat.le_of_ble_eq_true rfl) dX7_readNumber_41) rfl (fun r10 => ?_)
        refine j_iadd (q := 45) dX7_readNumber_44 rfl ?_
        refine j_bipush (q := 47) (v := (nI 48)) dX7_readNumber_45 rfl rfl ?_
        refine j_isub (q := 48) dX7_readNumber_47 rfl ?_
        refine j_goto (tgt := 55) dX7_readNumber_48 rfl ?_
        exact t_X7_readNumber_B55 z gx (m_X7_readNumber_L5 f) ih g ((((nI 10) * (gi g 128 0 0)) + r10) - (nI 48))
def m_X7_readNumber (g : zG) : Option (zG) := bd (ui g 128 0 0 (nI 0)) fun g1 => m_X7_readNumber_L5 FU g1
set_option maxRecDepth 100000 in
set_option maxHeartbeats 4000000 in
theorem c_X7_readNumber (l : Launch) (z : zE) (gx : zG) (g : zG) : ∀ x, m_X7_readNumber g = some x → Ms dm l yX7_readNumber cX7_readNumber 1 (none) rm_X7_readNumber z [.ref (za z 77 0)] ((wm z gx) g) (osv x) ((wm z gx) ((fun x => x) x)) := by
  refine ms_of (Wf := (wm z gx)) (ri := .return_) (out := osv) (nxt := (fun x => x)) (ok := (fun _ => True)) (lv := [(0, .ref (za z 77 0))]) (by decide) ⟨rfl, rfl⟩ (Nat.le_of_ble_eq_true rfl) rfl (en_v ) (fun p e s m below meth c => ?_)
  refine j_eq (M2 := bd (ui g 128 0 0 (nI 0)) fun g1 => m_X7_readNumber_L5 FU g1) rfl ?_
  refine j_aload_n (q := 1) (i := 0) (n := 0) dX7_readNumber_0 rfl rfl rfl ?_
  refine j_iconst (q := 2) (v := (nI 0)) dX7_readNumber_1 rfl rfl ?_
  refine p_X7_value (q := 5) dm_le wF_X7_77 (Nat.le_of_ble_eq_true rfl) dX7_readNumber_2 rfl (fun g1 => ?_)
  exact t_X7_readNumber_L5 z gx FU g1
-- CopierJobsModel.readLetters()V
abbrev rm_X7_readLetters : Room := { frames := 1, cells := 0, slots := 0, locals := 25 }
theorem cv_X7_readLetters : CV yX7_readLetters cX7_readLetters 1 (none) 0 := ⟨wC_X7_readLetters, wI_X7_readLetters, wS_X7_readLetters, wZ_X7, by decide +kernel⟩
def m_X7_readLetters_B38 (g : zG) : Option (zG) := if ((gi g 126 0 0) + (nI 1)) < (gi g 125 0 0) then bd (ui g 128 0 0 (nI 0)) fun g7 => bd (ui g7 127 0 0 (nI 1)) fun g8 => some g8 else bd (ui g 128 0 0 (gi g 128 0 0)) fun g5 => bd (ui g5 127 0 0 (nI 1)) fun g6 => some g6
set_option maxRecDepth 100000 in
set_option maxHeartbeats 4000000 in
theorem t_X7_readLetters_B38 {p : Program} {l : Launch} {e : Env} {s : State} {m : MethodId} {args : Array Value} {below : List Frame} {meth : Method} {c : Code} {cells slots : Nat} {Q : zG → State → Prop} (z : zE) (gx : zG) (g : zG) : zJ dm p l e rm_X7_readLetters s m args below meth c cX7_readLetters 1 yX7_readLetters.cls z cells slots (wm z gx) (fn (fun _ => True) (fun x => x) osv) .return_ Q 38 [(0, .ref (za z 77 0))] [] g (m_X7_readLetters_B38 g) := by
  refine j_eq (M2 := if ((gi g 126 0 0) + (nI 1)) < (gi g 125 0 0) then bd (ui g 128 0 0 (nI 0)) fun g7 => bd (ui g7 127 0 0 (nI 1)) fun g8 => some g8 else bd (ui g 128 0 0 (gi g 128 0 0)) fun g5 => bd (ui g5 127 0 0 (nI 1)) fun g6 => some g6) rfl ?_
  refine j_aload_n (q := 39) (i := 0) (n := 0) dX7_readLetters_38 rfl rfl rfl ?_
  refine j_aload_n (q := 40) (i := 0) (n := 0) dX7_readLetters_39 rfl rfl rfl ?_
  refine g_X7_place (q := 43) wF_X7_74 (Nat.le_of_ble_eq_true rfl) dX7_readLetters_40 rfl ?_
  refine j_aload_n (q := 44) (i := 0) (n := 0) dX7_readLetters_43 rfl rfl rfl ?_
  refine g_X7_from (q := 47) wF_X7_88 (Nat.le_of_ble_eq_true rfl) dX7_readLetters_44 rfl ?_
  refine j_iconst (q := 48) (v := (nI 1)) dX7_readLetters_47 rfl rfl ?_
  refine j_iadd (q := 49) dX7_readLetters_48 rfl ?_
  refine j_icmp_le (tgt := 56) (q := 52) dX7_readLetters_49 rfl rfl ?_ ?_
  · refine j_aload_n (q := 57) (i := 0) (n := 0) dX7_readLetters_56 rfl rfl rfl ?_
    refine g_X7_value (q := 60) wF_X7_77 (Nat.le_of_ble_eq_true rfl) dX7_readLetters_57 rfl ?_
    refine p_X7_value (q := 63) dm_le wF_X7_77 (Nat.le_of_ble_eq_true rfl) dX7_readLetters_60 rfl (fun g5 => ?_)
    refine j_aload_n (q := 64) (i := 0) (n := 0) dX7_readLetters_63 rfl rfl rfl ?_
    refine j_iconst (q := 65) (v := (nI 1)) dX7_readLetters_64 rfl rfl ?_
    refine p_X7_sort (q := 68) dm_le wF_X7_91 (Nat.le_of_ble_eq_true rfl) dX7_readLetters_65 rfl (fun g6 => ?_)
    exact j_ret (x := g6) dX7_readLetters_68 ⟨trivial, rfl, rfl⟩
  · refine j_iconst (q := 53) (v := (nI 0)) dX7_readLetters_52 rfl rfl ?_
    refine j_goto (tgt := 60) dX7_readLetters_53 rfl ?_
    refine p_X7_value (q := 63) dm_le wF_X7_77 (Nat.le_of_ble_eq_true rfl) dX7_readLetters_60 rfl (fun g7 => ?_)
    refine j_aload_n (q := 64) (i := 0) (n := 0) dX7_readLetters_63 rfl rfl rfl ?_
    refine j_iconst (q := 65) (v := (nI 1)) dX7_readLetters_64 rfl rfl ?_
    refine p_X7_sort (q := 68) dm_le wF_X7_91 (Nat.le_of_ble_eq_true rfl) dX7_readLetters_65 rfl (fun g8 => ?_)
    exact j_ret (x := g8) dX7_readLetters_68 ⟨trivial, rfl, rfl⟩
def m_X7_readLetters_L8 : Nat → zG → Option (zG)
  | 0, _ => none
  | f + 1, g => (m_X7_letter g).bind fun r3 => (m_X7_in (Int32.toInt64 r3) 97 122).bind fun r4 => if r4 = (nI 0) then m_X7_readLetters_B38 g else bd (ui g 125 0 0 ((gi g 125 0 0) + (nI 1))) fun g9 => m_X7_readLetters_L8 f g9
set_option maxRecDepth 100000 in
set_option maxHeartbeats 4000000 in
theorem t_X7_readLetters_L8 {p : Program} {l : Launch} {e : Env} {s : State} {m : MethodId} {args : Array Value} {below : List Frame} {meth : Method} {c : Code} {cells slots : Nat} {Q : zG → State → Prop} (z : zE) (gx : zG) : ∀ (f : Nat) (g : zG), zJ dm p l e rm_X7_readLetters s m args below meth c cX7_readLetters 1 yX7_readLetters.cls z cells slots (wm z gx) (fn (fun _ => True) (fun x => x) osv) .return_ Q 8 [(0, .ref (za z 77 0))] [] g (m_X7_readLetters_L8 f g) := by
  intro f
  induction f with
  | zero => intro g; exact j_none
  | succ f ih =>
    intro g
    refine j_eq (M2 := (m_X7_letter g).bind fun r3 => (m_X7_in (Int32.toInt64 r3) 97 122).bind fun r4 => if r4 = (nI 0) then m_X7_readLetters_B38 g else bd (ui g 125 0 0 ((gi g 125 0 0) + (nI 1))) fun g9 => m_X7_readLetters_L8 f g9) rfl ?_
    refine j_aload_n (q := 9) (i := 0) (n := 0) dX7_readLetters_8 rfl rfl rfl ?_
    refine j_ci (q := 12) (rn_V (R := rm_X7_readLetters) (As := []) (rest := []) (c_X7_letter _ z gx g) cv_X7_letter wM_X7_80 ⟨rfl, rfl⟩ ⟨(Nat.le_of_ble_eq_true rfl), (Nat.le_of_ble_eq_true rfl)⟩ (Nat.le_of_ble_eq_true rfl) rfl rfl rfl (Nat.le_of_ble_eq_true rfl) dX7_readLetters_9) rfl (fun r3 => ?_)
    refine j_i2l (q := 13) dX7_readLetters_12 rfl ?_
    refine j_ldc2 (q := 16) (v := 97) dX7_readLetters_13 wW_X7_94 rfl ?_
    refine j_ldc2 (q := 19) (v := 122) dX7_readLetters_16 wW_X7_96 rfl ?_
    refine j_ci (q := 22) (rn_S (R := rm_X7_readLetters) (As := [.long (Int32.toInt64 r3), .long 97, .long 122]) (rest := []) (c_X7_in _ z gx g (Int32.toInt64 r3) 97 122) cv_X7_in wM_X7_62 ⟨rfl, rfl⟩ ⟨(Nat.le_of_ble_eq_true rfl), (Nat.le_of_ble_eq_true rfl)⟩ rfl (Nat.le_of_ble_eq_true rfl) dX7_readLetters_19) rfl (fun r4 => ?_)
    refine j_if_eq (tgt := 38) (q := 25) dX7_readLetters_22 rfl rfl ?_ ?_
    · exact t_X7_readLetters_B38 z gx g
    · refine j_aload_n (q := 26) (i := 0) (n := 0) dX7_readLetters_25 rfl rfl rfl ?_
      refine j_dup (q := 27) dX7_readLetters_26 rfl rfl ?_
      refine g_X7_place (q := 30) wF_X7_74 (Nat.le_of_ble_eq_true rfl) dX7_readLetters_27 rfl ?_
      refine j_iconst (q := 31) (v := (nI 1)) dX7_readLetters_30 rfl rfl ?_
      refine j_iadd (q := 32) dX7_readLetters_31 rfl ?_
      refine p_X7_place (q := 35) dm_le wF_X7_74 (Nat.le_of_ble_eq_true rfl) dX7_readLetters_32 rfl (fun g9 => ?_)
      refine j_goto (tgt := 8) dX7_readLetters_35 rfl ?_
      exact ih g9
def m_X7_readLetters (g : zG) : Option (zG) := (m_X7_letter g).bind fun r1 => bd (ui g 128 0 0 r1) fun g2 => m_X7_readLetters_L8 FU g2
set_option maxRecDepth 100000 in
set_option maxHeartbeats 4000000 in
theorem c_X7_readLetters (l : Launch) (z : zE) (gx : zG) (g : zG) : ∀ x, m_X7_readLetters g = some x → Ms dm l yX7_readLetters cX7_readLetters 1 (none) rm_X7_readLetters z [.ref (za z 77 0)] ((wm z gx) g) (osv x) ((wm z gx) ((fun x => x) x)) := by
  refine ms_of (Wf := (wm z gx)) (ri := .return_) (out := osv) (nxt := (fun x => x)) (ok := (fun _ => True)) (lv := [(0, .ref (za z 77 0))]) (by decide) ⟨rfl, rfl⟩ (Nat.le_of_ble_eq_true rfl) rfl (en_v ) (fun p e s m below meth c => ?_)
  refine j_eq (M2 := (m_X7_letter g).bind fun r1 => bd (ui g 128 0 0 r1) fun g2 => m_X7_readLetters_L8 FU g2) rfl ?_
  refine j_aload_n (q := 1) (i := 0) (n := 0) dX7_readLetters_0 rfl rfl rfl ?_
  refine j_aload_n (q := 2) (i := 0) (n := 0) dX7_readLetters_1 rfl rfl rfl ?_
  refine j_ci (q := 5) (rn_V (R := rm_X7_readLetters) (As := []) (rest := [.ref (za z 77 0)]) (c_X7_letter _ z gx g) cv_X7_letter wM_X7_80 ⟨rfl, rfl⟩ ⟨(Nat.le_of_ble_eq_true rfl), (Nat.le_of_ble_eq_true rfl)⟩ (Nat.le_of_ble_eq_true rfl) rfl rfl rfl (Nat.le_of_ble_eq_true rfl) dX7_readLetters_2) rfl (fun r1 => ?_)
  refine p_X7_value (q := 8) dm_le wF_X7_77 (Nat.le_of_ble_eq_true rfl) dX7_readLetters_5 rfl (fun g2 => ?_)
  exact t_X7_readLetters_L8 z gx FU g2
-- CopierJobsModel.next()V
abbrev rm_X7_next : Room := { frames := 2, cells := 0, slots := 0, locals := 45 }
theorem cv_X7_next : CV yX7_next cX7_next 2 (none) 0 := ⟨wC_X7_next, wI_X7_next, wS_X7_next, wZ_X7, by decide +kernel⟩
def m_X7_next_B22 (g : zG) : Option (zG) := bd (ui g 126 0 0 (gi g 125 0 0)) fun g2 => (m_X7_letter g2).bind fun r3 => (m_X7_in (Int32.toInt64 r3) 48 57).bind fun r4 => if r4 = (nI 0) then (m_X7_in (Int32.toInt64 r3) 97 122).bind fun r5 => if r5 = (nI 0) then if r3 < (nI 0) then bd (ui g2 127 0 0 (nI 0)) fun g10 => bd (ui g10 125 0 0 ((gi g10 125 0 0) + (nI 1))) fun g11 => some g11 else if r3 = (nI 59) then bd (ui g2 127 0 0 (nI 3)) fun g8 => bd (ui g8 125 0 0 ((gi g8 125 0 0) + (nI 1))) fun g9 => some g9 else bd (ui g2 127 0 0 (-1)) fun g6 => bd (ui g6 125 0 0 ((gi g6 125 0 0) + (nI 1))) fun g7 => some g7 else (m_X7_readLetters g2).bind fun g12 => some g12 else (m_X7_readNumber g2).bind fun g13 => some g13
set_option maxRecDepth 100000 in
set_option maxHeartbeats 4000000 in
theorem t_X7_next_B22 {p : Program} {l : Launch} {e : Env} {s : State} {m : MethodId} {args : Array Value} {below : List Frame} {meth : Method} {c : Code} {cells slots : Nat} {Q : zG → State → Prop} (z : zE) (gx : zG) (g : zG) : zJ dm p l e rm_X7_next s m args below meth c cX7_next 2 yX7_next.cls z cells slots (wm z gx) (fn (fun _ => True) (fun x => x) osv) .return_ Q 22 [(0, .ref (za z 77 0))] [] g (m_X7_next_B22 g) := by
  refine j_eq (M2 := bd (ui g 126 0 0 (gi g 125 0 0)) fun g2 => (m_X7_letter g2).bind fun r3 => (m_X7_in (Int32.toInt64 r3) 48 57).bind fun r4 => if r4 = (nI 0) then (m_X7_in (Int32.toInt64 r3) 97 122).bind fun r5 => if r5 = (nI 0) then if r3 < (nI 0) then bd (ui g2 127 0 0 (nI 0)) fun g10 => bd (ui g10 125 0 0 ((gi g10 125 0 0) + (nI 1))) fun g11 => some g11 else if r3 = (nI 59) then bd (ui g2 127 0 0 (nI 3)) fun g8 => bd (ui g8 125 0 0 ((gi g8 125 0 0) + (nI 1))) fun g9 => some g9 else bd (ui g2 127 0 0 (-1)) fun g6 => bd (ui g6 125 0 0 ((gi g6 125 0 0) + (nI 1))) fun g7 => some g7 else (m_X7_readLetters g2).bind fun g12 => some g12 else (m_X7_readNumber g2).bind fun g13 => some g13) rfl ?_
  refine j_aload_n (q := 23) (i := 0) (n := 0) dX7_next_22 rfl rfl rfl ?_
  refine j_aload_n (q := 24) (i := 0) (n := 0) dX7_next_23 rfl rfl rfl ?_
  refine g_X7_place (q := 27) wF_X7_74 (Nat.le_of_ble_eq_true rfl) dX7_next_24 rfl ?_
  refine p_X7_from (q := 30) dm_le wF_X7_88 (Nat.le_of_ble_eq_true rfl) dX7_next_27 rfl (fun g2 => ?_)
  refine j_aload_n (q := 31) (i := 0) (n := 0) dX7_next_30 rfl rfl rfl ?_
  refine j_ci (q := 34) (rn_V (R := rm_X7_next) (As := []) (rest := []) (c_X7_letter _ z gx g2) cv_X7_letter wM_X7_80 ⟨rfl, rfl⟩ ⟨(Nat.le_of_ble_eq_true rfl), (Nat.le_of_ble_eq_true rfl)⟩ (Nat.le_of_ble_eq_true rfl) rfl rfl rfl (Nat.le_of_ble_eq_true rfl) dX7_next_31) rfl (fun r3 => ?_)
  refine j_istore_n (q := 35) (n := 1) (lv' := [(1, .int r3), (0, .ref (za z 77 0))]) dX7_next_34 rfl (Nat.le_of_ble_eq_true rfl) rfl rfl ?_
  refine j_iload_n (q := 36) (i := 0) (n := 1) dX7_next_35 rfl rfl rfl ?_
  refine j_i2l (q := 37) dX7_next_36 rfl ?_
  refine j_ldc2 (q := 40) (v := 48) dX7_next_37 wW_X7_84 rfl ?_
  refine j_ldc2 (q := 43) (v := 57) dX7_next_40 wW_X7_86 rfl ?_
  refine j_ci (q := 46) (rn_S (R := rm_X7_next) (As := [.long (Int32.toInt64 r3), .long 48, .long 57]) (rest := []) (c_X7_in _ z gx g2 (Int32.toInt64 r3) 48 57) cv_X7_in wM_X7_62 ⟨rfl, rfl⟩ ⟨(Nat.le_of_ble_eq_true rfl), (Nat.le_of_ble_eq_true rfl)⟩ rfl (Nat.le_of_ble_eq_true rfl) dX7_next_43) rfl (fun r4 => ?_)
  refine j_if_eq (tgt := 56) (q := 49) dX7_next_46 rfl rfl ?_ ?_
  · refine j_iload_n (q := 57) (i := 0) (n := 1) dX7_next_56 rfl rfl rfl ?_
    refine j_i2l (q := 58) dX7_next_57 rfl ?_
    refine j_ldc2 (q := 61) (v := 97) dX7_next_58 wW_X7_94 rfl ?_
    refine j_ldc2 (q := 64) (v := 122) dX7_next_61 wW_X7_96 rfl ?_
    refine j_ci (q := 67) (rn_S (R := rm_X7_next) (As := [.long (Int32.toInt64 r3), .long 97, .long 122]) (rest := []) (c_X7_in _ z gx g2 (Int32.toInt64 r3) 97 122) cv_X7_in wM_X7_62 ⟨rfl, rfl⟩ ⟨(Nat.le_of_ble_eq_true rfl), (Nat.le_of_ble_eq_true rfl)⟩ rfl (Nat.le_of_ble_eq_true rfl) dX7_next_64) rfl (fun r5 => ?_)
    refine j_if_eq (tgt := 77) (q := 70) dX7_next_67 rfl rfl ?_ ?_
    · refine j_aload_n (q := 78) (i := 1) (n := 0) dX7_next_77 rfl rfl rfl ?_
      refine j_iload_n (q := 79) (i := 0) (n := 1) dX7_next_78 rfl rfl rfl ?_
      refine j_if_ge (tgt := 86) (q := 82) dX7_next_79 rfl rfl ?_ ?_
      · refine j_iload_n (q := 87) (i := 0) (n := 1) dX7_next_86 rfl rfl rfl ?_
        refine j_bipush (q := 89) (v := (nI 59)) dX7_next_87 rfl rfl ?_
        refine j_icmp_ne (tgt := 96) (q := 92) dX7_next_89 rfl rfl ?_ ?_
        · refine j_iconst (q := 97) (v := (-1)) dX7_next_96 rfl rfl ?_
          refine p_X7_sort (q := 100) dm_le wF_X7_91 (Nat.le_of_ble_eq_true rfl) dX7_next_97 rfl (fun g6 => ?_)
          refine j_aload_n (q := 101) (i := 1) (n := 0) dX7_next_100 rfl rfl rfl ?_
          refine j_dup (q := 102) dX7_next_101 rfl rfl ?_
          refine g_X7_place (q := 105) wF_X7_74 (Nat.le_of_ble_eq_true rfl) dX7_next_102 rfl ?_
          refine j_iconst (q := 106) (v := (nI 1)) dX7_next_105 rfl rfl ?_
          refine j_iadd (q := 107) dX7_next_106 rfl ?_
          refine p_X7_place (q := 110) dm_le wF_X7_74 (Nat.le_of_ble_eq_true rfl) dX7_next_107 rfl (fun g7 => ?_)
          exact j_ret (x := g7) dX7_next_110 ⟨trivial, rfl, rfl⟩
        · refine j_iconst (q := 93) (v := (nI 3)) dX7_next_92 rfl rfl ?_
          refine j_goto (tgt := 97) dX7_next_93 rfl ?_
          refine p_X7_sort (q := 100) dm_le wF_X7_91 (Nat.le_of_ble_eq_true rfl) dX7_next_97 rfl (fun g8 => ?_)
          refine j_aload_n (q := 101) (i := 1) (n := 0) dX7_next_100 rfl rfl rfl ?_
          refine j_dup (q := 102) dX7_next_101 rfl rfl ?_
          refine g_X7_place (q := 105) wF_X7_74 (Nat.le_of_ble_eq_true rfl) dX7_next_102 rfl ?_
          refine j_iconst (q := 106) (v := (nI 1)) dX7_next_105 rfl rfl ?_
          refine j_iadd (q := 107) dX7_next_106 rfl ?_
          refine p_X7_place (q := 110) dm_le wF_X7_74 (Nat.le_of_ble_eq_true rfl) dX7_next_107 rfl (fun g9 => ?_)
          exact j_ret (x := g9) dX7_next_110 ⟨trivial, rfl, rfl⟩
      · refine j_iconst (q := 83) (v := (nI 0)) dX7_next_82 rfl rfl ?_
        refine j_goto (tgt := 97) dX7_next_83 rfl ?_
        refine p_X7_sort (q := 100) dm_le wF_X7_91 (Nat.le_of_ble_eq_true rfl) dX7_next_97 rfl (fun g10 => ?_)
        refine j_aload_n (q := 101) (i := 1) (n := 0) dX7_next_100 rfl rfl rfl ?_
        refine j_dup (q := 102) dX7_next_101 rfl rfl ?_
        refine g_X7_place (q := 105) wF_X7_74 (Nat.le_of_ble_eq_true rfl) dX7_next_102 rfl ?_
        refine j_iconst (q := 106) (v := (nI 1)) dX7_next_105 rfl rfl ?_
        refine j_iadd (q := 107) dX7_next_106 rfl ?_
        refine p_X7_place (q := 110) dm_le wF_X7_74 (Nat.le_of_ble_eq_true rfl) dX7_next_107 rfl (fun g11 => ?_)
        exact j_ret (x := g11) dX7_next_110 ⟨trivial, rfl, rfl⟩
    · refine j_aload_n (q := 71) (i := 1) (n := 0) dX7_next_70 rfl rfl rfl ?_
      refine j_sv (q := 74) (rn_V (R := rm_X7_next) (As := []) (rest := []) (c_X7_readLetters _ z gx g2) cv_X7_readLetters wM_X7_101 ⟨rfl, rfl⟩ ⟨(Nat.le_of_ble_eq_true rfl), (Nat.le_of_ble_eq_true rfl)⟩ (Nat.le_of_ble_eq_true rfl) rfl rfl rfl (Nat.le_of_ble_eq_true rfl) dX7_next_71) rfl (fun g12 => ?_)
      refine j_goto (tgt := 110) dX7_next_74 rfl ?_
      exact j_ret (x := g12) dX7_next_110 ⟨trivial, rfl, rfl⟩
  · refine j_aload_n (q := 50) (i := 1) (n := 0) dX7_next_49 rfl rfl rfl ?_
    refine j_sv (q := 53) (rn_V (R := rm_X7_next) (As := []) (rest := []) (c_X7_readNumber _ z gx g2) cv_X7_readNumber wM_X7_98 ⟨rfl, rfl⟩ ⟨(Nat.le_of_ble_eq_true rfl), (Nat.le_of_ble_eq_true rfl)⟩ (Nat.le_of_ble_eq_true rfl) rfl rfl rfl (Nat.le_of_ble_eq_true rfl) dX7_next_50) rfl (fun g13 => ?_)
    refine j_goto (tgt := 110) dX7_next_53 rfl ?_
    exact j_ret (x := g13) dX7_next_110 ⟨trivial, rfl, rfl⟩
def m_X7_next_L0 : Nat → zG → Option (zG)
  | 0, _ => none
  | f + 1, g => (m_X7_letter g).bind fun r1 => if r1 = (nI 32) then bd (ui g 125 0 0 ((gi g 125 0 0) + (nI 1))) fun g14 => m_X7_next_L0 f g14 else m_X7_next_B22 g
set_option maxRecDepth 100000 in
set_option maxHeartbeats 4000000 in
theorem t_X7_next_L0 {p : Program} {l : Launch} {e : Env} {s : State} {m : MethodId} {args : Array Value} {below : List Frame} {meth : Method} {c : Code} {cells slots : Nat} {Q : zG → State → Prop} (z : zE) (gx : zG) : ∀ (f : Nat) (g : zG), zJ dm p l e rm_X7_next s m args below meth c cX7_next 2 yX7_next.cls z cells slots (wm z gx) (fn (fun _ => True) (fun x => x) osv) .return_ Q 0 [(0, .ref (za z 77 0))] [] g (m_X7_next_L0 f g) := by
  intro f
  induction f with
  | zero => intro g; exact j_none
  | succ f ih =>
    intro g
    refine j_eq (M2 := (m_X7_letter g).bind fun r1 => if r1 = (nI 32) then bd (ui g 125 0 0 ((gi g 125 0 0) + (nI 1))) fun g14 => m_X7_next_L0 f g14 else m_X7_next_B22 g) rfl ?_
    refine j_aload_n (q := 1) (i := 0) (n := 0) dX7_next_0 rfl rfl rfl ?_
    refine j_ci (q := 4) (rn_V (R := rm_X7_next) (As := []) (rest := []) (c_X7_letter _ z gx g) cv_X7_letter wM_X7_80 ⟨rfl, rfl⟩ ⟨(Nat.le_of_ble_eq_true rfl), (Nat.le_of_ble_eq_true rfl)⟩ (Nat.le_of_ble_eq_true rfl) rfl rfl rfl (Nat.le_of_ble_eq_true rfl) dX7_next_1) rfl (fun r1 => ?_)
    refine j_bipush (q := 6) (v := (nI 32)) dX7_next_4 rfl rfl ?_
    refine j_icmp_ne (tgt := 22) (q := 9) dX7_next_6 rfl rfl ?_ ?_
    · exact t_X7_next_B22 z gx g
    · refine j_aload_n (q := 10) (i := 0) (n := 0) dX7_next_9 rfl rfl rfl ?_
      refine j_dup (q := 11) dX7_next_10 rfl rfl ?_
      refine g_X7_place (q := 14) wF_X7_74 (Nat.le_of_ble_eq_true rfl) dX7_next_11 rfl ?_
      refine j_iconst (q := 15) (v := (nI 1)) dX7_next_14 rfl rfl ?_
      refine j_iadd (q := 16) dX7_next_15 rfl ?_
      refine p_X7_place (q := 19) dm_le wF_X7_74 (Nat.le_of_ble_eq_true rfl) dX7_next_16 rfl (fun g14 => ?_)
      refine j_goto (tgt := 0) dX7_next_19 rfl ?_
      exact ih g14
def m_X7_next (g : zG) : Option (zG) := m_X7_next_L0 FU g
set_option maxRecDepth 100000 in
set_option maxHeartbeats 4000000 in
theorem c_X7_next (l : Launch) (z : zE) (gx : zG) (g : zG) : ∀ x, m_X7_next g = some x → Ms dm l yX7_next cX7_next 2 (none) rm_X7_next z [.ref (za z 77 0)] ((wm z gx) g) (osv x) ((wm z gx) ((fun x => x) x)) := by
  refine ms_of (Wf := (wm z gx)) (ri := .return_) (out := osv) (nxt := (fun x => x)) (ok := (fun _ => True)) (lv := [(0, .ref (za z 77 0))]) (by decide) ⟨rfl, rfl⟩ (Nat.le_of_ble_eq_true rfl) rfl (en_v ) (fun p e s m below meth c => ?_)
  refine j_eq (M2 := m_X7_next_L0 FU g) rfl ?_
  exact t_X7_next_L0 z gx FU g
-- CopierJobsModel.takesNumber(II)Z
abbrev rm_X7_takesNumber : Room := { frames := 3, cells := 0, slots := 0, locals := 66 }
theorem cv_X7_takesNumber : CV yX7_takesNumber cX7_takesNumber 3 (some .boolean) 2 := ⟨wC_X7_takesNumber, wI_X7_takesNumber, wS_X7_takesNumber, wZ_X7, by decide +kernel⟩
def m_X7_takesNumber (g : zG) (a0 : Int32) (a1 : Int32) : Option (Int32 × zG) := (m_X7_next g).bind fun g1 => if (gi g1 127 0 0) = (nI 2) then (m_X7_in (Int32.toInt64 (gi g1 128 0 0)) (Int32.toInt64 a0) (Int32.toInt64 a1)).bind fun r2 => if r2 = (nI 0) then some ((nI 0), g1) else some ((nI 1), g1) else some ((nI 0), g1)
set_option maxRecDepth 100000 in
set_option maxHeartbeats 4000000 in
theorem c_X7_takesNumber (l : Launch) (z : zE) (gx : zG) (g : zG) (a0 : Int32) (a1 : Int32) : ∀ x, m_X7_takesNumber g a0 a1 = some x → Ms dm l yX7_takesNumber cX7_takesNumber 3 (some .boolean) rm_X7_takesNumber z [.ref (za z 77 0), .int a0, .int a1] ((wm z gx) g) (osi x) ((wm z gx) ((fun x => x.2) x)) := by
  refine ms_of (Wf := (wm z gx)) (ri := .ireturn) (out := osi) (nxt := (fun x => x.2)) (ok := (fun x => isb x.1 = true)) (lv := [(0, .ref (za z 77 0)), (1, .int a0), (2, .int a1)]) (by decide) ⟨rfl, rfl⟩ (Nat.le_of_ble_eq_true rfl) rfl (en_z (out := fun x : Int32 × zG => x.1)) (fun p e s m below meth c => ?_)
  refine j_eq (M2 := (m_X7_next g).bind fun g1 => if (gi g1 127 0 0) = (nI 2) then (m_X7_in (Int32.toInt64 (gi g1 128 0 0)) (Int32.toInt64 a0) (Int32.toInt64 a1)).bind fun r2 => if r2 = (nI 0) then some ((nI 0), g1) else some ((nI 1), g1) else some ((nI 0), g1)) rfl ?_
  refine j_aload_n (q := 1) (i := 0) (n := 0) dX7_takesNumber_0 rfl rfl rfl ?_
  refine j_sv (q := 4) (rn_V (R := rm_X7_takesNumber) (As := []) (rest := []) (c_X7_next _ z gx g) cv_X7_next wM_X7_104 ⟨rfl, rfl⟩ ⟨(Nat.le_of_ble_eq_true rfl), (Nat.le_of_ble_eq_true rfl)⟩ (Nat.le_of_ble_eq_true rfl) rfl rfl rfl (Nat.le_of_ble_eq_true rfl) dX7_takesNumber_1) rfl (fun g1 => ?_)
  refine j_aload_n (q := 5) (i := 0) (n := 0) dX7_takesNumber_4 rfl rfl rfl ?_
  refine g_X7_sort (q := 8) wF_X7_91 (Nat.le_of_ble_eq_true rfl) dX7_takesNumber_5 rfl ?_
  refine j_iconst (q := 9) (v := (nI 2)) dX7_takesNumber_8 rfl rfl ?_
  refine j_icmp_ne (tgt := 31) (q := 12) dX7_takesNumber_9 rfl rfl ?_ ?_
  · refine j_iconst (q := 32) (v := (nI 0)) dX7_takesNumber_31 rfl rfl ?_
    exact j_ret (x := ((nI 0), g1)) dX7_takesNumber_32 ⟨rfl, rfl, rfl⟩
  · refine j_aload_n (q := 13) (i := 0) (n := 0) dX7_takesNumber_12 rfl rfl rfl ?_
    refine g_X7_value (q := 16) wF_X7_77 (Nat.le_of_ble_eq_true rfl) dX7_takesNumber_13 rfl ?_
    refine j_i2l (q := 17) dX7_takesNumber_16 rfl ?_
    refine j_iload_n (q := 18) (i := 1) (n := 1) dX7_takesNumber_17 rfl rfl rfl ?_
    refine j_i2l (q := 19) dX7_takesNumber_18 rfl ?_
    refine j_iload_n (q := 20) (i := 2) (n := 2) dX7_takesNumber_19 rfl rfl rfl ?_
    refine j_i2l (q := 21) dX7_takesNumber_20 rfl ?_
    refine j_ci (q := 24) (rn_S (R := rm_X7_takesNumber) (As := [.long (Int32.toInt64 (gi g1 128 0 0)), .long (Int32.toInt64 a0), .long (Int32.toInt64 a1)]) (rest := []) (c_X7_in _ z gx g1 (Int32.toInt64 (gi g1 128 0 0)) (Int32.toInt64 a0) (Int32.toInt64 a1)) cv_X7_in wM_X7_62 ⟨rfl, rfl⟩ ⟨(Nat.le_of_ble_eq_true rfl), (Nat.le_of_ble_eq_true rfl)⟩ rfl (Nat.le_of_ble_eq_true rfl) dX7_takesNumber_21) rfl (fun r2 => ?_)
    refine j_if_eq (tgt := 31) (q := 27) dX7_takesNumber_24 rfl rfl ?_ ?_
    · refine j_iconst (q := 32) (v := (nI 0)) dX7_takesNumber_31 rfl rfl ?_
      exact j_ret (x := ((nI 0), g1)) dX7_takesNumber_32 ⟨rfl, rfl, rfl⟩
    · refine j_iconst (q := 28) (v := (nI 1)) dX7_takesNumber_27 rfl rfl ?_
      refine j_goto (tgt := 32) dX7_takesNumber_28 rfl ?_
      exact j_ret (x := ((nI 1), g1)) dX7_takesNumber_32 ⟨rfl, rfl, rfl⟩
-- CopierJobsModel.ends()Z
abbrev rm_X7_ends : Room := { frames := 3, cells := 0, slots := 0, locals := 66 }
theorem cv_X7_ends : CV yX7_ends cX7_ends 1 (some .boolean) 0 := ⟨wC_X7_ends, wI_X7_ends, wS_X7_ends, wZ_X7, by decide +kernel⟩
def m_X7_ends (g : zG) : Option (Int32 × zG) := (m_X7_next g).bind fun g1 => if (gi g1 127 0 0) = (nI 3) then some ((nI 1), g1) else some ((nI 0), g1)
set_option maxRecDepth 100000 in
set_option maxHeartbeats 4000000 in
theorem c_X7_ends (l : Launch) (z : zE) (gx : zG) (g : zG) : ∀ x, m_X7_ends g = some x → Ms dm l yX7_ends cX7_ends 1 (some .boolean) rm_X7_ends z [.ref (za z 77 0)] ((wm z gx) g) (osi x) ((wm z gx) ((fun x => x.2) x)) := by
  refine ms_of (Wf := (wm z gx)) (ri := .ireturn) (out := osi) (nxt := (fun x => x.2)) (ok := (fun x => isb x.1 = true)) (lv := [(0, .ref (za z 77 0))]) (by decide) ⟨rfl, rfl⟩ (Nat.le_of_ble_eq_true rfl) rfl (en_z (out := fun x : Int32 × zG => x.1)) (fun p e s m below meth c => ?_)
  refine j_eq (M2 := (m_X7_next g).bind fun g1 => if (gi g1 127 0 0) = (nI 3) then some ((nI 1), g1) else some ((nI 0), g1)) rfl ?_
  refine j_aload_n (q := 1) (i := 0) (n := 0) dX7_ends_0 rfl rfl rfl ?_
  refine j_sv (q := 4) (rn_V (R := rm_X7_ends) (As := []) (rest := []) (c_X7_next _ z gx g) cv_X7_next wM_X7_104 ⟨rfl, rfl⟩ ⟨(Nat.le_of_ble_eq_true rfl), (Nat.le_of_ble_eq_true rfl)⟩ (Nat.le_of_ble_eq_true rfl) rfl rfl rfl (Nat.le_of_ble_eq_true rfl) dX7_ends_1) rfl (fun g1 => ?_)
  refine j_aload_n (q := 5) (i := 0) (n := 0) dX7_ends_4 rfl rfl rfl ?_
  refine g_X7_sort (q := 8) wF_X7_91 (Nat.le_of_ble_eq_true rfl) dX7_ends_5 rfl ?_
  refine j_iconst (q := 9) (v := (nI 3)) dX7_ends_8 rfl rfl ?_
  refine j_icmp_ne (tgt := 16) (q := 12) dX7_ends_9 rfl rfl ?_ ?_
  · refine j_iconst (q := 17) (v := (nI 0)) dX7_ends_16 rfl rfl ?_
    exact j_ret (x := ((nI 0), g1)) dX7_ends_17 ⟨rfl, rfl, rfl⟩
  · refine j_iconst (q := 13) (v := (nI 1)) dX7_ends_12 rfl rfl ?_
    refine j_goto (tgt := 17) dX7_ends_13 rfl ?_
    exact j_ret (x := ((nI 1), g1)) dX7_ends_17 ⟨rfl, rfl, rfl⟩
-- CopierJobsModel.readTrays()Z
abbrev rm_X7_readTrays : Room := { frames := 4, cells := 0, slots := 0, locals := 88 }
theorem cv_X7_readTrays : CV yX7_readTrays cX7_readTrays 3 (some .boolean) 0 := ⟨wC_X7_readTrays, wI_X7_readTrays, wS_X7_readTrays, wZ_X7, by decide +kernel⟩
def m_X7_readTrays_B43 (K4 : zG → Int32 → Int32 → Option (Int32 × zG)) (g : zG) (x1 : Int32) (x2 : Int32) (s0 : Int32) (s1 : Int32) : Option (Int32 × zG) := gd (inb s1 3 = true) (bd (ui g 109 0 s1.toNatClampNeg s0) fun g4 => K4 g4 x1 (x2 + (nI 1)))
set_option maxRecDepth 100000 in
set_option maxHeartbeats 4000000 in
theorem t_X7_readTrays_B43 {p : Program} {l : Launch} {e : Env} {s : State} {m : MethodId} {args : Array Value} {below : List Frame} {meth : Method} {c : Code} {cells slots : Nat} {Q : (Int32 × zG) → State → Prop} (z : zE) (gx : zG) (K4 : zG → Int32 → Int32 → Option (Int32 × zG)) (hK4 : ∀ (g : zG) (x1 : Int32) (x2 : Int32), zJ dm p l e rm_X7_readTrays s m args below meth c cX7_readTrays 3 yX7_readTrays.cls z cells slots (wm z gx) (fn (fun x => isb x.1 = true) (fun x => x.2) osi) .ireturn Q 4 [(0, .ref (za z 77 0)), (1, .int x1), (2, .int x2)] [] g (K4 g x1 x2)) (g : zG) (x1 : Int32) (x2 : Int32) (s0 : Int32) (s1 : Int32) : zJ dm p l e rm_X7_readTrays s m args below meth c cX7_readTrays 3 yX7_readTrays.cls z cells slots (wm z gx) (fn (fun x => isb x.1 = true) (fun x => x.2) osi) .ireturn Q 43 [(0, .ref (za z 77 0)), (1, .int x1), (2, .int x2)] [.int s0, .int s1, .ref (za z 109 0)] g (m_X7_readTrays_B43 K4 g x1 x2 s0 s1) := by
  refine j_eq (M2 := gd (inb s1 3 = true) (bd (ui g 109 0 s1.toNatClampNeg s0) fun g4 => K4 g4 x1 (x2 + (nI 1)))) rfl ?_
  refine am_st (k := 109) (n := 3) (q := 44) dm_le isM_109 rfl (Nat.le_of_ble_eq_true rfl) dX7_readTrays_43 rfl (fun g4 => ?_)
  refine j_iinc (q := 47) (n := 2) (i := 2) (v := x2 + (nI 1)) (lv' := [(2, .int (x2 + (nI 1))), (0, .ref (za z 77 0)), (1, .int x1)]) dX7_readTrays_44 rfl rfl (Nat.le_of_ble_eq_true rfl) rfl rfl ?_
  refine j_goto (tgt := 4) dX7_readTrays_47 rfl ?_
  refine j_lv [1, 2, 0] (lv' := [(0, .ref (za z 77 0)), (1, .int x1), (2, .int (x2 + (nI 1)))]) rfl ?_
  exact hK4 g4 x1 (x2 + (nI 1))
def m_X7_readTrays_L4 : Nat → zG → Int32 → Int32 → Option (Int32 × zG)
  | 0, _, _, _ => none
  | f + 1, g, x1, x2 => if x2 < (nI 3) then if x1 = (nI 0) then gd (isb x1 = true) (some (x1, g)) else sb (m_X7_takesNumber g (nI 0) (nI 99)) fun r1 g2 => if r1 = (nI 0) then gd (inb x2 3 = true) (m_X7_readTrays_B43 (m_X7_readTrays_L4 f) g2 r1 x2 (gi g2 109 0 x2.toNatClampNeg) x2) else m_X7_readTrays_B43 (m_X7_readTrays_L4 f) g2 r1 x2 (gi g2 128 0 0) x2 else gd (isb x1 = true) (some (x1, g))
set_option maxRecDepth 100000 in
set_option maxHeartbeats 4000000 in
theorem t_X7_readTrays_L4 {p : Program} {l : Launch} {e : Env} {s : State} {m : MethodId} {args : Array Value} {below : List Frame} {meth : Method} {c : Code} {cells slots : Nat} {Q : (Int32 × zG) → State → Prop} (z : zE) (gx : zG) : ∀ (f : Nat) (g : zG) (x1 : Int32) (x2 : Int32), zJ dm p l e rm_X7_readTrays s m args below meth c cX7_readTrays 3 yX7_readTrays.cls z cells slots (wm z gx) (fn (fun x => isb x.1 = true) (fun x => x.2) osi) .ireturn Q 4 [(0, .ref (za z 77 0)), (1, .int x1), (2, .int x2)] [] g (m_X7_readTrays_L4 f g x1 x2) := by
  intro f
  induction f with
  | zero => intro g x1 x2; exact j_none
  | succ f ih =>
    intro g x1 x2
    refine j_eq (M2 := if x2 < (nI 3) then if x1 = (nI 0) then gd (isb x1 = true) (some (x1, g)) else sb (m_X7_takesNumber g (nI 0) (nI 99)) fun r1 g2 => if r1 = (nI 0) then gd (inb x2 3 = true) (m_X7_readTrays_B43 (m_X7_readTrays_L4 f) g2 r1 x2 (gi g2 109 0 x2.toNatClampNeg) x2) else m_X7_readTrays_B43 (m_X7_readTrays_L4 f) g2 r1 x2 (gi g2 128 0 0) x2 else gd (isb x1 = true) (some (x1, g))) rfl ?_
    refine j_iload_n (q := 5) (i := 2) (n := 2) dX7_readTrays_4 rfl rfl rfl ?_
    refine j_iconst (q := 6) (v := (nI 3)) dX7_readTrays_5 rfl rfl ?_
    refine j_icmp_ge (tgt := 50) (q := 9) dX7_readTrays_6 rfl rfl ?_ ?_
    · refine j_iload_n (q := 51) (i := 1) (n := 1) dX7_readTrays_50 rfl rfl rfl ?_
      exact j_retz (x := (x1, g)) (r := x1) dX7_readTrays_51 (fun h => ⟨h, rfl, rfl⟩)
    · refine j_iload_n (q := 10) (i := 1) (n := 1) dX7_readTrays_9 rfl rfl rfl ?_
      refine j_if_eq (tgt := 50) (q := 13) dX7_readTrays_10 rfl rfl ?_ ?_
      · refine j_iload_n (q := 51) (i := 1) (n := 1) dX7_readTrays_50 rfl rfl rfl ?_
        exact j_retz (x := (x1, g)) (r := x1) dX7_readTrays_51 (fun h => ⟨h, rfl, rfl⟩)
      · refine j_aload_n (q := 14) (i := 0) (n := 0) dX7_readTrays_13 rfl rfl rfl ?_
        refine j_iconst (q := 15) (v := (nI 0)) dX7_readTrays_14 rfl rfl ?_
        refine j_bipush (q := 17) (v := (nI 99)) dX7_readTrays_15 rfl rfl ?_
        refine j_ss (q := 20) (rn_V (R := rm_X7_readTrays) (As := [.int (nI 0), .int (nI 99)]) (rest := []) (c_X7_takesNumber _ z gx g (nI 0) (nI 99)) cv_X7_takesNumber wM_X7_107 ⟨rfl, rfl⟩ ⟨(Nat.le_of_ble_eq_true rfl), (Nat.le_of_ble_eq_true rfl)⟩ (Nat.le_of_ble_eq_true rfl) rfl rfl rfl (Nat.le_of_ble_eq_true rfl) dX7_readTrays_17) rfl (fun r1 g2 => ?_)
        refine j_istore_n (q := 21) (n := 1) (lv' := [(1, .int r1), (0, .ref (za z 77 0)), (2, .int x2)]) dX7_readTrays_20 rfl (Nat.le_of_ble_eq_true rfl) rfl rfl ?_
        refine j_aload_n (q := 22) (i := 1) (n := 0) dX7_readTrays_21 rfl rfl rfl ?_
        refine g_X7_newTrays (q := 25) wF_X7_41 (Nat.le_of_ble_eq_true rfl) dX7_readTrays_22 rfl ?_
        refine j_iload_n (q := 26) (i := 2) (n := 2) dX7_readTrays_25 rfl rfl rfl ?_
        refine j_iload_n (q := 27) (i := 0) (n := 1) dX7_readTrays_26 rfl rfl rfl ?_
        refine j_if_eq (tgt := 37) (q := 30) dX7_readTrays_27 rfl rfl ?_ ?_
        · refine j_aload_n (q := 38) (i := 1) (n := 0) dX7_readTrays_37 rfl rfl rfl ?_
          refine g_X7_newTrays (q := 41) wF_X7_41 (Nat.le_of_ble_eq_true rfl) dX7_readTrays_38 rfl ?_
          refine j_iload_n (q := 42) (i := 2) (n := 2) dX7_readTrays_41 rfl rfl rfl ?_
          refine am_ld (k := 109) (n := 3) (q := 43) isM_109 rfl (Nat.le_of_ble_eq_true rfl) dX7_readTrays_42 rfl ?_
          refine j_lv [1, 0, 2] (lv' := [(0, .ref (za z 77 0)), (1, .int r1), (2, .int x2)]) rfl ?_
          exact t_X7_readTrays_B43 z gx (m_X7_readTrays_L4 f) ih g2 r1 x2 (gi g2 109 0 x2.toNatClampNeg) x2
        · refine j_aload_n (q := 31) (i := 1) (n := 0) dX7_readTrays_30 rfl rfl rfl ?_
          refine g_X7_value (q := 34) wF_X7_77 (Nat.le_of_ble_eq_true rfl) dX7_readTrays_31 rfl ?_
          refine j_goto (tgt := 43) dX7_readTrays_34 rfl ?_
          refine j_lv [1, 0, 2] (lv' := [(0, .ref (za z 77 0)), (1, .int r1), (2, .int x2)]) rfl ?_
          exact t_X7_readTrays_B43 z gx (m_X7_readTrays_L4 f) ih g2 r1 x2 (gi g2 128 0 0) x2
def m_X7_readTrays (g : zG) : Option (Int32 × zG) := m_X7_readTrays_L4 FU g (nI 1) (nI 0)
set_option maxRecDepth 100000 in
set_option maxHeartbeats 4000000 in
theorem c_X7_readTrays (l : Launch) (z : zE) (gx : zG) (g : zG) : ∀ x, m_X7_readTrays g = some x → Ms dm l yX7_readTrays cX7_readTrays 3 (some .boolean) rm_X7_readTrays z [.ref (za z 77 0)] ((wm z gx) g) (osi x) ((wm z gx) ((fun x => x.2) x)) := by
  refine ms_of (Wf := (wm z gx)) (ri := .ireturn) (out := osi) (nxt := (fun x => x.2)) (ok := (fun x => isb x.1 = true)) (lv := [(0, .ref (za z 77 0))]) (by decide) ⟨rfl, rfl⟩ (Nat.le_of_ble_eq_true rfl) rfl (en_z (out := fun x : Int32 × zG => x.1)) (fun p e s m below meth c => ?_)
  refine j_eq (M2 := m_X7_readTrays_L4 FU g (nI 1) (nI 0)) rfl ?_
  refine j_iconst (q := 1) (v := (nI 1)) dX7_readTrays_0 rfl rfl ?_
  refine j_istore_n (q := 2) (n := 1) (lv' := [(1, .int (nI 1)), (0, .ref (za z 77 0))]) dX7_readTrays_1 rfl (Nat.le_of_ble_eq_true rfl) rfl rfl ?_
  refine j_iconst (q := 3) (v := (nI 0)) dX7_readTrays_2 rfl rfl ?_
  refine j_istore_n (q := 4) (n := 2) (lv' := [(2, .int (nI 0)), (1, .int (nI 1)), (0, .ref (za z 77 0))]) dX7_readTrays_3 rfl (Nat.le_of_ble_eq_true rfl) rfl rfl ?_
  refine j_lv [2, 1, 0] (lv' := [(0, .ref (za z 77 0)), (1, .int (nI 1)), (2, .int (nI 0))]) rfl ?_
  exact t_X7_readTrays_L4 z gx FU g (nI 1) (nI 0)
-- CopierJobsModel.readJob()Z
abbrev rm_X7_readJob : Room := { frames := 4, cells := 0, slots := 0, locals := 88 }
theorem cv_X7_readJob : CV yX7_readJob cX7_readJob 3 (some .boolean) 0 := ⟨wC_X7_readJob, wI_X7_readJob, wS_X7_readJob, wZ_X7, by decide +kernel⟩
def m_X7_readJob_B71 (g : zG) (x1 : Int32) : Option (Int32 × zG) := bd (ui g 131 0 0 ((gi g 131 0 0) + (nI 1))) fun g1 => gd (isb x1 = true) (some (x1, g1))
set_option maxRecDepth 100000 in
set_option maxHeartbeats 4000000 in
theorem t_X7_readJob_B71 {p : Program} {l : Launch} {e : Env} {s : State} {m : MethodId} {args : Array Value} {below : List Frame} {meth : Method} {c : Code} {cells slots : Nat} {Q : (Int32 × zG) → State → Prop} (z : zE) (gx : zG) (g : zG) (x1 : Int32) : zJ dm p l e rm_X7_readJob s m args below meth c cX7_readJob 3 yX7_readJob.cls z cells slots (wm z gx) (fn (fun x => isb x.1 = true) (fun x => x.2) osi) .ireturn Q 71 [(0, .ref (za z 77 0)), (1, .int x1)] [] g (m_X7_readJob_B71 g x1) := by
  refine j_eq (M2 := bd (ui g 131 0 0 ((gi g 131 0 0) + (nI 1))) fun g1 => gd (isb x1 = true) (some (x1, g1))) rfl ?_
  refine j_aload_n (q := 72) (i := 0) (n := 0) dX7_readJob_71 rfl rfl rfl ?_
  refine j_dup (q := 73) dX7_readJob_72 rfl rfl ?_
  refine g_X7_newMany (q := 76) wF_X7_111 (Nat.le_of_ble_eq_true rfl) dX7_readJob_73 rfl ?_
  refine j_iconst (q := 77) (v := (nI 1)) dX7_readJob_76 rfl rfl ?_
  refine j_iadd (q := 78) dX7_readJob_77 rfl ?_
  refine p_X7_newMany (q := 81) dm_le wF_X7_111 (Nat.le_of_ble_eq_true rfl) dX7_readJob_78 rfl (fun g1 => ?_)
  refine j_iload_n (q := 82) (i := 1) (n := 1) dX7_readJob_81 rfl rfl rfl ?_
  exact j_retz (x := (x1, g1)) (r := x1) dX7_readJob_82 (fun h => ⟨h, rfl, rfl⟩)
def m_X7_readJob_B44 (K4 : zG → Int32 → Int32 → Option (Int32 × zG)) (g : zG) (x2 : Int32) (s0 : Int32) (s1 : Int32) : Option (Int32 × zG) := sb (m_X7_takesNumber g s1 s0) fun r2 g3 => gd (inb (((nI 5) * (gi g3 131 0 0)) + x2) 30 = true) (bd (ui g3 110 0 (((nI 5) * (gi g3 131 0 0)) + x2).toNatClampNeg (gi g3 128 0 0)) fun g5 => K4 g5 r2 (x2 + (nI 1)))
set_option maxRecDepth 100000 in
set_option maxHeartbeats 4000000 in
theorem t_X7_readJob_B44 {p : Program} {l : Launch} {e : Env} {s : State} {m : MethodId} {args : Array Value} {below : List Frame} {meth : Method} {c : Code} {cells slots : Nat} {Q : (Int32 × zG) → State → Prop} (z : zE) (gx : zG) (K4 : zG → Int32 → Int32 → Option (Int32 × zG)) (hK4 : ∀ (g : zG) (x1 : Int32) (x2 : Int32), zJ dm p l e rm_X7_readJob s m args below meth c cX7_readJob 3 yX7_readJob.cls z cells slots (wm z gx) (fn (fun x => isb x.1 = true) (fun x => x.2) osi) .ireturn Q 4 [(0, .ref (za z 77 0)), (1, .int x1), (2, .int x2)] [] g (K4 g x1 x2)) (g : zG) (x2 : Int32) (s0 : Int32) (s1 : Int32) : zJ dm p l e rm_X7_readJob s m args below meth c cX7_readJob 3 yX7_readJob.cls z cells slots (wm z gx) (fn (fun x => isb x.1 = true) (fun x => x.2) osi) .ireturn Q 44 [(0, .ref (za z 77 0)), (2, .int x2)] [.int s0, .int s1, .ref (za z 77 0)] g (m_X7_readJob_B44 K4 g x2 s0 s1) := by
  refine j_eq (M2 := sb (m_X7_takesNumber g s1 s0) fun r2 g3 => gd (inb (((nI 5) * (gi g3 131 0 0)) + x2) 30 = true) (bd (ui g3 110 0 (((nI 5) * (gi g3 131 0 0)) + x2).toNatClampNeg (gi g3 128 0 0)) fun g5 => K4 g5 r2 (x2 + (nI 1)))) rfl ?_
  refine j_ss (q := 47) (rn_V (R := rm_X7_readJob) (As := [.int s1, .int s0]) (rest := []) (c_X7_takesNumber _ z gx g s1 s0) cv_X7_takesNumber wM_X7_107 ⟨rfl, rfl⟩ ⟨(Nat.le_of_ble_eq_true rfl), (Nat.le_of_ble_eq_true rfl)⟩ (Nat.le_of_ble_eq_true rfl) rfl rfl rfl (Nat.le_of_ble_eq_true rfl) dX7_readJob_44) rfl (fun r2 g3 => ?_)
  refine j_istore_n (q := 48) (n := 1) (lv' := [(1, .int r2), (0, .ref (za z 77 0)), (2, .int x2)]) dX7_readJob_47 rfl (Nat.le_of_ble_eq_true rfl) rfl rfl ?_
  refine j_aload_n (q := 49) (i := 1) (n := 0) dX7_readJob_48 rfl rfl rfl ?_
  refine g_X7_newJobs (q := 52) wF_X7_44 (Nat.le_of_ble_eq_true rfl) dX7_readJob_49 rfl ?_
  refine j_iconst (q := 53) (v := (nI 5)) dX7_readJob_52 rfl rfl ?_
  refine j_aload_n (q := 54) (i := 1) (n := 0) dX7_readJob_53 rfl rfl rfl ?_
  refine g_X7_newMany (q := 57) wF_X7_111 (Nat.le_of_ble_eq_true rfl) dX7_readJob_54 rfl ?_
  refine j_imul (q := 58) dX7_readJob_57 rfl ?_
  refine j_iload_n (q := 59) (i := 2) (n := 2) dX7_readJob_58 rfl rfl rfl ?_
  refine j_iadd (q := 60) dX7_readJob_59 rfl ?_
  refine j_aload_n (q := 61) (i := 1) (n := 0) dX7_readJob_60 rfl rfl rfl ?_
  refine g_X7_value (q := 64) wF_X7_77 (Nat.le_of_ble_eq_true rfl) dX7_readJob_61 rfl ?_
  refine am_st (k := 110) (n := 30) (q := 65) dm_le isM_110 rfl (Nat.le_of_ble_eq_true rfl) dX7_readJob_64 rfl (fun g5 => ?_)
  refine j_iinc (q := 68) (n := 2) (i := 2) (v := x2 + (nI 1)) (lv' := [(2, .int (x2 + (nI 1))), (1, .int r2), (0, .ref (za z 77 0))]) dX7_readJob_65 rfl rfl (Nat.le_of_ble_eq_true rfl) rfl rfl ?_
  refine j_goto (tgt := 4) dX7_readJob_68 rfl ?_
  refine j_lv [2, 1, 0] (lv' := [(0, .ref (za z 77 0)), (1, .int r2), (2, .int (x2 + (nI 1)))]) rfl ?_
  exact hK4 g5 r2 (x2 + (nI 1))
def m_X7_readJob_B24 (K4 : zG → Int32 → Int32 → Option (Int32 × zG)) (g : zG) (x2 : Int32) (s0 : Int32) : Option (Int32 × zG) := if x2 < (nI 2) then m_X7_readJob_B44 K4 g x2 (nI 9) s0 else if x2 = (nI 4) then m_X7_readJob_B44 K4 g x2 (nI 2) s0 else m_X7_readJob_B44 K4 g x2 (nI 1) s0
set_option maxRecDepth 100000 in
set_option maxHeartbeats 4000000 in
theorem t_X7_readJob_B24 {p : Program} {l : Launch} {e : Env} {s : State} {m : MethodId} {args : Array Value} {below : List Frame} {meth : Method} {c : Code} {cells slots : Nat} {Q : (Int32 × zG) → State → Prop} (z : zE) (gx : zG) (K4 : zG → Int32 → Int32 → Option (Int32 × zG)) (hK4 : ∀ (g : zG) (x1 : Int32) (x2 : Int32), zJ dm p l e rm_X7_readJob s m args below meth c cX7_readJob 3 yX7_readJob.cls z cells slots (wm z gx) (fn (fun x => isb x.1 = true) (fun x => x.2) osi) .ireturn Q 4 [(0, .ref (za z 77 0)), (1, .int x1), (2, .int x2)] [] g (K4 g x1 x2)) (g : zG) (x2 : Int32) (s0 : Int32) : zJ dm p l e rm_X7_readJob s m args below meth c cX7_readJob 3 yX7_readJob.cls z cells slots (wm z gx) (fn (fun x => isb x.1 = true) (fun x => x.2) osi) .ireturn Q 24 [(0, .ref (za z 77 0)), (2, .int x2)] [.int s0, .ref (za z 77 0)] g (m_X7_readJob_B24 K4 g x2 s0) := by
  refine j_eq (M2 := if x2 < (nI 2) then m_X7_readJob_B44 K4 g x2 (nI 9) s0 else if x2 = (nI 4) then m_X7_readJob_B44 K4 g x2 (nI 2) s0 else m_X7_readJob_B44 K4 g x2 (nI 1) s0) rfl ?_
  refine j_iload_n (q := 25) (i := 1) (n := 2) dX7_readJob_24 rfl rfl rfl ?_
  refine j_iconst (q := 26) (v := (nI 2)) dX7_readJob_25 rfl rfl ?_
  refine j_icmp_ge (tgt := 34) (q := 29) dX7_readJob_26 rfl rfl ?_ ?_
  · refine j_iload_n (q := 35) (i := 1) (n := 2) dX7_readJob_34 rfl rfl rfl ?_
    refine j_iconst (q := 36) (v := (nI 4)) dX7_readJob_35 rfl rfl ?_
    refine j_icmp_ne (tgt := 43) (q := 39) dX7_readJob_36 rfl rfl ?_ ?_
    · refine j_iconst (q := 44) (v := (nI 1)) dX7_readJob_43 rfl rfl ?_
      exact t_X7_readJob_B44 z gx K4 hK4 g x2 (nI 1) s0
    · refine j_iconst (q := 40) (v := (nI 2)) dX7_readJob_39 rfl rfl ?_
      refine j_goto (tgt := 44) dX7_readJob_40 rfl ?_
      exact t_X7_readJob_B44 z gx K4 hK4 g x2 (nI 2) s0
  · refine j_bipush (q := 31) (v := (nI 9)) dX7_readJob_29 rfl rfl ?_
    refine j_goto (tgt := 44) dX7_readJob_31 rfl ?_
    exact t_X7_readJob_B44 z gx K4 hK4 g x2 (nI 9) s0
def m_X7_readJob_L4 : Nat → zG → Int32 → Int32 → Option (Int32 × zG)
  | 0, _, _, _ => none
  | f + 1, g, x1, x2 => if x2 < (nI 5) then if x1 = (nI 0) then m_X7_readJob_B71 g x1 else if x2 < (nI 2) then m_X7_readJob_B24 (m_X7_readJob_L4 f) g x2 (nI 1) else m_X7_readJob_B24 (m_X7_readJob_L4 f) g x2 (nI 0) else m_X7_readJob_B71 g x1
set_option maxRecDepth 100000 in
set_option maxHeartbeats 4000000 in
theorem t_X7_readJob_L4 {p : Program} {l : Launch} {e : Env} {s : State} {m : MethodId} {args : Array Value} {below : List Frame} {meth : Method} {c : Code} {cells slots : Nat} {Q : (Int32 × zG) → State → Prop} (z : zE) (gx : zG) : ∀ (f : Nat) (g : zG) (x1 : Int32) (x2 : Int32), zJ dm p l e rm_X7_readJob s m args below meth c cX7_readJob 3 yX7_readJob.cls z cells slots (wm z gx) (fn (fun x => isb x.1 = true) (fun x => x.2) osi) .ireturn Q 4 [(0, .ref (za z 77 0)), (1, .int x1), (2, .int x2)] [] g (m_X7_readJob_L4 f g x1 x2) := by
  intro f
  induction f with
  | zero => intro g x1 x2; exact j_none
  | succ f ih =>
    intro g x1 x2
    refine j_eq (M2 := if x2 < (nI 5) then if x1 = (nI 0) then m_X7_readJob_B71 g x1 else if x2 < (nI 2) then m_X7_readJob_B24 (m_X7_readJob_L4 f) g x2 (nI 1) else m_X7_readJob_B24 (m_X7_readJob_L4 f) g x2 (nI 0) else m_X7_readJob_B71 g x1) rfl ?_
    refine j_iload_n (q := 5) (i := 2) (n := 2) dX7_readJob_4 rfl rfl rfl ?_
    refine j_iconst (q := 6) (v := (nI 5)) dX7_readJob_5 rfl rfl ?_
    refine j_icmp_ge (tgt := 71) (q := 9) dX7_readJob_6 rfl rfl ?_ ?_
    · refine j_lv [0, 1] (lv' := [(0, .ref (za z 77 0)), (1, .int x1)]) rfl ?_
      exact t_X7_readJob_B71 z gx g x1
    · refine j_iload_n (q := 10) (i := 1) (n := 1) dX7_readJob_9 rfl rfl rfl ?_
      refine j_if_eq (tgt := 71) (q := 13) dX7_readJob_10 rfl rfl ?_ ?_
      · refine j_lv [0, 1] (lv' := [(0, .ref (za z 77 0)), (1, .int x1)]) rfl ?_
        exact t_X7_readJob_B71 z gx g x1
      · refine j_aload_n (q := 14) (i := 0) (n := 0) dX7_readJob_13 rfl rfl rfl ?_
        refine j_iload_n (q := 15) (i := 2) (n := 2) dX7_readJob_14 rfl rfl rfl ?_
        refine j_iconst (q := 16) (v := (nI 2)) dX7_readJob_15 rfl rfl ?_
        refine j_icmp_ge (tgt := 23) (q := 19) dX7_readJob_16 rfl rfl ?_ ?_
        · refine j_iconst (q := 24) (v := (nI 0)) dX7_readJob_23 rfl rfl ?_
          refine j_lv [0, 2] (lv' := [(0, .ref (za z 77 0)), (2, .int x2)]) rfl ?_
          exact t_X7_readJob_B24 z gx (m_X7_readJob_L4 f) ih g x2 (nI 0)
        · refine j_iconst (q := 20) (v := (nI 1)) dX7_readJob_19 rfl rfl ?_
          refine j_goto (tgt := 24) dX7_readJob_20 rfl ?_
          refine j_lv [0, 2] (lv' := [(0, .ref (za z 77 0)), (2, .int x2)]) rfl ?_
          exact t_X7_readJob_B24 z gx (m_X7_readJob_L4 f) ih g x2 (nI 1)
def m_X7_readJob (g : zG) : Option (Int32 × zG) := m_X7_readJob_L4 FU g (nI 1) (nI 0)
set_option maxRecDepth 100000 in
set_option maxHeartbeats 4000000 in
theorem c_X7_readJob (l : Launch) (z : zE) (gx : zG) (g : zG) : ∀ x, m_X7_readJob g = some x → Ms dm l yX7_readJob cX7_readJob 3 (some .boolean) rm_X7_readJob z [.ref (za z 77 0)] ((wm z gx) g) (osi x) ((wm z gx) ((fun x => x.2) x)) := by
  refine ms_of (Wf := (wm z gx)) (ri := .ireturn) (out := osi) (nxt := (fun x => x.2)) (ok := (fun x => isb x.1 = true)) (lv := [(0, .ref (za z 77 0))]) (by decide) ⟨rfl, rfl⟩ (Nat.le_of_ble_eq_true rfl) rfl (en_z (out := fun x : Int32 × zG => x.1)) (fun p e s m below meth c => ?_)
  refine j_eq (M2 := m_X7_readJob_L4 FU g (nI 1) (nI 0)) rfl ?_
  refine j_iconst (q := 1) (v := (nI 1)) dX7_readJob_0 rfl rfl ?_
  refine j_istore_n (q := 2) (n := 1) (lv' := [(1, .int (nI 1)), (0, .ref (za z 77 0))]) dX7_readJob_1 rfl (Nat.le_of_ble_eq_true rfl) rfl rfl ?_
  refine j_iconst (q := 3) (v := (nI 0)) dX7_readJob_2 rfl rfl ?_
  refine j_istore_n (q := 4) (n := 2) (lv' := [(2, .int (nI 0)), (1, .int (nI 1)), (0, .ref (za z 77 0))]) dX7_readJob_3 rfl (Nat.le_of_ble_eq_true rfl) rfl rfl ?_
  refine j_lv [2, 1, 0] (lv' := [(0, .ref (za z 77 0)), (1, .int (nI 1)), (2, .int (nI 0))]) rfl ?_
  exact t_X7_readJob_L4 z gx FU g (nI 1) (nI 0)
-- CopierJobsModel.readItem()Z
abbrev rm_X7_readItem : Room := { frames := 5, cells := 0, slots := 0, locals := 110 }
theorem cv_X7_readItem : CV yX7_readItem cX7_readItem 4 (some .boolean) 0 := ⟨wC_X7_readItem, wI_X7_readItem, wS_X7_readItem, wZ_X7, by decide +kernel⟩
def m_X7_readItem_B81 (g : zG) (x1 : Int32) (x2 : Int32) : Option (Int32 × zG) := bd (ui g 132 0 0 ((gi g 132 0 0) ||| x2)) fun g1 => if x1 = (nI 98) then (sb (m_X7_takesNumber g1 (nI 1) (nI 6)) fun r2 g3 => bd (ui g3 130 0 0 (gi g3 128 0 0)) fun g5 => if r2 = (nI 0) then some ((nI 0), g5) else sb (m_X7_ends g5) fun r6 g7 => if r6 = (nI 0) then some ((nI 0), g7) else some ((nI 1), g7)) else if x1 = (nI 107) then (sb (m_X7_takesNumber g1 (nI 0) (nI 999)) fun r10 g11 => bd (ui g11 129 0 0 (gi g11 128 0 0)) fun g13 => if r10 = (nI 0) then some ((nI 0), g13) else sb (m_X7_ends g13) fun r14 g15 => if r14 = (nI 0) then some ((nI 0), g15) else some ((nI 1), g15)) else if x1 = (nI 116) then (sb (m_X7_readTrays g1) fun r18 g19 => if r18 = (nI 0) then some ((nI 0), g19) else sb (m_X7_ends g19) fun r21 g22 => if r21 = (nI 0) then some ((nI 0), g22) else some ((nI 1), g22)) else (sb (m_X7_readJob g1) fun r25 g26 => if r25 = (nI 0) then some ((nI 0), g26) else sb (m_X7_ends g26) fun r28 g29 => if r28 = (nI 0) then some ((nI 0), g29) else some ((nI 1), g29))
set_option maxRecDepth 100000 in
set_option maxHeartbeats 4000000 in
theorem t_X7_readItem_B81 {p : Program} {l : Launch} {e : Env} {s : State} {m : MethodId} {args : Array Value} {below : List Frame} {meth : Method} {c : Code} {cells slots : Nat} {Q : (Int32 × zG) → State → Prop} (z : zE) (gx : zG) (g : zG) (x1 : Int32) (x2 : Int32) : zJ dm p l e rm_X7_readItem s m args below meth c cX7_readItem 4 yX7_readItem.cls z cells slots (wm z gx) (fn (fun x => isb x.1 = true) (fun x => x.2) osi) .ireturn Q 81 [(0, .ref (za z 77 0)), (1, .int x1), (2, .int x2)] [] g (m_X7_readItem_B81 g x1 x2) := by
  refine j_eq (M2 := bd (ui g 132 0 0 ((gi g 132 0 0) ||| x2)) fun g1 => if x1 = (nI 98) then (sb (m_X7_takesNumber g1 (nI 1) (nI 6)) fun r2 g3 => bd (ui g3 130 0 0 (gi g3 128 0 0)) fun g5 => if r2 = (nI 0) then some ((nI 0), g5) else sb (m_X7_ends g5) fun r6 g7 => if r6 = (nI 0) then some ((nI 0), g7) else some ((nI 1), g7)) else if x1 = (nI 107) then (sb (m_X7_takesNumber g1 (nI 0) (nI 999)) fun r10 g11 => bd (ui g11 129 0 0 (gi g11 128 0 0)) fun g13 => if r10 = (nI 0) then some ((nI 0), g13) else sb (m_X7_ends g13) fun r14 g15 => if r14 = (nI 0) then some ((nI 0), g15) else some ((nI 1), g15)) else if x1 = (nI 116) then (sb (m_X7_readTrays g1) fun r18 g19 => if r18 = (nI 0) then some ((nI 0), g19) else sb (m_X7_ends g19) fun r21 g22 => if r21 = (nI 0) then some ((nI 0), g22) else some ((nI 1), g22)) else (sb (m_X7_readJob g1) fun r25 g26 => if r25 = (nI 0) then some ((nI 0), g26) else sb (m_X7_ends g26) fun r28 g29 => if r28 = (nI 0) then some ((nI 0), g29) else some ((nI 1), g29))) rfl ?_
  refine j_aload_n (q := 82) (i := 0) (n := 0) dX7_readItem_81 rfl rfl rfl ?_
  refine j_dup (q := 83) dX7_readItem_82 rfl rfl ?_
  refine g_X7_told (q := 86) wF_X7_114 (Nat.le_of_ble_eq_true rfl) dX7_readItem_83 rfl ?_
  refine j_iload_n (q := 87) (i := 2) (n := 2) dX7_readItem_86 rfl rfl rfl ?_
  refine j_ior (q := 88) dX7_readItem_87 rfl ?_
  refine p_X7_told (q := 91) dm_le wF_X7_114 (Nat.le_of_ble_eq_true rfl) dX7_readItem_88 rfl (fun g1 => ?_)
  refine j_iconst (q := 92) (v := (nI 1)) dX7_readItem_91 rfl rfl ?_
  refine j_istore_n (q := 93) (n := 3) (lv' := [(3, .int (nI 1)), (0, .ref (za z 77 0)), (1, .int x1), (2, .int x2)]) dX7_readItem_92 rfl (Nat.le_of_ble_eq_true rfl) rfl rfl ?_
  refine j_iload_n (q := 94) (i := 2) (n := 1) dX7_readItem_93 rfl rfl rfl ?_
  refine j_case (v := (nI 98)) ?_ (fun h9 => ?_)
  · refine j_lookup (tgt := 156) dX7_readItem_94 rfl rfl rfl ?_
    refine j_aload_n (q := 157) (i := 1) (n := 0) dX7_readItem_156 rfl rfl rfl ?_
    refine j_iconst (q := 158) (v := (nI 1)) dX7_readItem_157 rfl rfl ?_
    refine j_bipush (q := 160) (v := (nI 6)) dX7_readItem_158 rfl rfl ?_
    refine j_ss (q := 163) (rn_V (R := rm_X7_readItem) (As := [.int (nI 1), .int (nI 6)]) (rest := []) (c_X7_takesNumber _ z gx g1 (nI 1) (nI 6)) cv_X7_takesNumber wM_X7_107 ⟨rfl, rfl⟩ ⟨(Nat.le_of_ble_eq_true rfl), (Nat.le_of_ble_eq_true rfl)⟩ (Nat.le_of_ble_eq_true rfl) rfl rfl rfl (Nat.le_of_ble_eq_true rfl) dX7_readItem_160) rfl (fun r2 g3 => ?_)
    refine j_istore_n (q := 164) (n := 3) (lv' := [(3, .int r2), (0, .ref (za z 77 0)), (1, .int x1), (2, .int x2)]) dX7_readItem_163 rfl (Nat.le_of_ble_eq_true rfl) rfl rfl ?_
    refine j_aload_n (q := 165) (i := 1) (n := 0) dX7_readItem_164 rfl rfl rfl ?_
    refine j_aload_n (q := 166) (i := 1) (n := 0) dX7_readItem_165 rfl rfl rfl ?_
    refine g_X7_value (q := 169) wF_X7_77 (Nat.le_of_ble_eq_true rfl) dX7_readItem_166 rfl ?_
    refine p_X7_newBins (q := 172) dm_le wF_X7_121 (Nat.le_of_ble_eq_true rfl) dX7_readItem_169 rfl (fun g5 => ?_)
    refine j_goto (tgt := 180) dX7_readItem_172 rfl ?_
    refine j_iload_n (q := 181) (i := 0) (n := 3) dX7_readItem_180 rfl rfl rfl ?_
    refine j_if_eq (tgt := 195) (q := 184) dX7_readItem_181 rfl rfl ?_ ?_
    · refine j_iconst (q := 196) (v := (nI 0)) dX7_readItem_195 rfl rfl ?_
      exact j_ret (x := ((nI 0), g5)) dX7_readItem_196 ⟨rfl, rfl, rfl⟩
    · refine j_aload_n (q := 185) (i := 1) (n := 0) dX7_readItem_184 rfl rfl rfl ?_
      refine j_ss (q := 188) (rn_V (R := rm_X7_readItem) (As := []) (rest := []) (c_X7_ends _ z gx g5) cv_X7_ends wM_X7_127 ⟨rfl, rfl⟩ ⟨(Nat.le_of_ble_eq_true rfl), (Nat.le_of_ble_eq_true rfl)⟩ (Nat.le_of_ble_eq_true rfl) rfl rfl rfl (Nat.le_of_ble_eq_true rfl) dX7_readItem_185) rfl (fun r6 g7 => ?_)
      refine j_if_eq (tgt := 195) (q := 191) dX7_readItem_188 rfl rfl ?_ ?_
      · refine j_iconst (q := 196) (v := (nI 0)) dX7_readItem_195 rfl rfl ?_
        exact j_ret (x := ((nI 0), g7)) dX7_readItem_196 ⟨rfl, rfl, rfl⟩
      · refine j_iconst (q := 192) (v := (nI 1)) dX7_readItem_191 rfl rfl ?_
        refine j_goto (tgt := 196) dX7_readItem_192 rfl ?_
        exact j_ret (x := ((nI 1), g7)) dX7_readItem_196 ⟨rfl, rfl, rfl⟩
  refine j_case (v := (nI 107)) ?_ (fun h17 => ?_)
  · refine j_lookup (tgt := 136) dX7_readItem_94 rfl rfl rfl ?_
    refine j_aload_n (q := 137) (i := 1) (n := 0) dX7_readItem_136 rfl rfl rfl ?_
    refine j_iconst (q := 138) (v := (nI 0)) dX7_readItem_137 rfl rfl ?_
    refine j_sipush (q := 141) (v := (nI 999)) dX7_readItem_138 rfl rfl ?_
    refine j_ss (q := 144) (rn_V (R := rm_X7_readItem) (As := [.int (nI 0), .int (nI 999)]) (rest := []) (c_X7_takesNumber _ z gx g1 (nI 0) (nI 999)) cv_X7_takesNumber wM_X7_107 ⟨rfl, rfl⟩ ⟨(Nat.le_of_ble_eq_true rfl), (Nat.le_of_ble_eq_true rfl)⟩ (Nat.le_of_ble_eq_true rfl) rfl rfl rfl (Nat.le_of_ble_eq_true rfl) dX7_readItem_141) rfl (fun r10 g11 => ?_)
    refine j_istore_n (q := 145) (n := 3) (lv' := [(3, .int r10), (0, .ref (za z 77 0)), (1, .int x1), (2, .int x2)]) dX7_readItem_144 rfl (Nat.le_of_ble_eq_true rfl) rfl rfl ?_
    refine j_aload_n (q := 146) (i := 1) (n := 0) dX7_readItem_145 rfl rfl rfl ?_
    refine j_aload_n (q := 147) (i := 1) (n := 0) dX7_readItem_146 rfl rfl rfl ?_
    refine g_X7_value (q := 150) wF_X7_77 (Nat.le_of_ble_eq_true rfl) dX7_readItem_147 rfl ?_
    refine p_X7_newInk (q := 153) dm_le wF_X7_56 (Nat.le_of_ble_eq_true rfl) dX7_readItem_150 rfl (fun g13 => ?_)
    refine j_goto (tgt := 180) dX7_readItem_153 rfl ?_
    refine j_iload_n (q := 181) (i := 0) (n := 3) dX7_readItem_180 rfl rfl rfl ?_
    refine j_if_eq (tgt := 195) (q := 184) dX7_readItem_181 rfl rfl ?_ ?_
    · refine j_iconst (q := 196) (v := (nI 0)) dX7_readItem_195 rfl rfl ?_
      exact j_ret (x := ((nI 0), g13)) dX7_readItem_196 ⟨rfl, rfl, rfl⟩
    · refine j_aload_n (q := 185) (i := 1) (n := 0) dX7_readItem_184 rfl rfl rfl ?_
      refine j_ss (q := 188) (rn_V (R := rm_X7_readItem) (As := []) (rest := []) (c_X7_ends _ z gx g13) cv_X7_ends wM_X7_127 ⟨rfl, rfl⟩ ⟨(Nat.le_of_ble_eq_true rfl), (Nat.le_of_ble_eq_true rfl)⟩ (Nat.le_of_ble_eq_true rfl) rfl rfl rfl (Nat.le_of_ble_eq_true rfl) dX7_readItem_185) rfl (fun r14 g15 => ?_)
      refine j_if_eq (tgt := 195) (q := 191) dX7_readItem_188 rfl rfl ?_ ?_
      · refine j_iconst (q := 196) (v := (nI 0)) dX7_readItem_195 rfl rfl ?_
        exact j_ret (x := ((nI 0), g15)) dX7_readItem_196 ⟨rfl, rfl, rfl⟩
      · refine j_iconst (q := 192) (v := (nI 1)) dX7_readItem_191 rfl rfl ?_
        refine j_goto (tgt := 196) dX7_readItem_192 rfl ?_
        exact j_ret (x := ((nI 1), g15)) dX7_readItem_196 ⟨rfl, rfl, rfl⟩
  refine j_case (v := (nI 116)) ?_ (fun h24 => ?_)
  · refine j_lookup (tgt := 128) dX7_readItem_94 rfl rfl rfl ?_
    refine j_aload_n (q := 129) (i := 1) (n := 0) dX7_readItem_128 rfl rfl rfl ?_
    refine j_ss (q := 132) (rn_V (R := rm_X7_readItem) (As := []) (rest := []) (c_X7_readTrays _ z gx g1) cv_X7_readTrays wM_X7_117 ⟨rfl, rfl⟩ ⟨(Nat.le_of_ble_eq_true rfl), (Nat.le_of_ble_eq_true rfl)⟩ (Nat.le_of_ble_eq_true rfl) rfl rfl rfl (Nat.le_of_ble_eq_true rfl) dX7_readItem_129) rfl (fun r18 g19 => ?_)
    refine j_istore_n (q := 133) (n := 3) (lv' := [(3, .int r18), (0, .ref (za z 77 0)), (1, .int x1), (2, .int x2)]) dX7_readItem_132 rfl (Nat.le_of_ble_eq_true rfl) rfl rfl ?_
    refine j_goto (tgt := 180) dX7_readItem_133 rfl ?_
    refine j_iload_n (q := 181) (i := 0) (n := 3) dX7_readItem_180 rfl rfl rfl ?_
    refine j_if_eq (tgt := 195) (q := 184) dX7_readItem_181 rfl rfl ?_ ?_
    · refine j_iconst (q := 196) (v := (nI 0)) dX7_readItem_195 rfl rfl ?_
      exact j_ret (x := ((nI 0), g19)) dX7_readItem_196 ⟨rfl, rfl, rfl⟩
    · refine j_aload_n (q := 185) (i := 1) (n := 0) dX7_readItem_184 rfl rfl rfl ?_
      refine j_ss (q := 188) (rn_V (R := rm_X7_readItem) (As := []) (rest := []) (c_X7_ends _ z gx g19) cv_X7_ends wM_X7_127 ⟨rfl, rfl⟩ ⟨(Nat.le_of_ble_eq_true rfl), (Nat.le_of_ble_eq_true rfl)⟩ (Nat.le_of_ble_eq_true rfl) rfl rfl rfl (Nat.le_of_ble_eq_true rfl) dX7_readItem_185) rfl (fun r21 g22 => ?_)
      refine j_if_eq (tgt := 195) (q := 191) dX7_readItem_188 rfl rfl ?_ ?_
      · refine j_iconst (q := 196) (v := (nI 0)) dX7_readItem_195 rfl rfl ?_
        exact j_ret (x := ((nI 0), g22)) dX7_readItem_196 ⟨rfl, rfl, rfl⟩
      · refine j_iconst (q := 192) (v := (nI 1)) dX7_readItem_191 rfl rfl ?_
        refine j_goto (tgt := 196) dX7_readItem_192 rfl ?_
        exact j_ret (x := ((nI 1), g22)) dX7_readItem_196 ⟨rfl, rfl, rfl⟩
  refine j_lookup (tgt := 175) (off := 81) dX7_readItem_94 rfl (by have e0 := (q_ne (n := 98) h9 rfl).symm; have e1 := (q_ne (n := 107) h17 rfl).symm; have e2 := (q_ne (n := 116) h24 rfl).symm; simp [Op.lookupswitch.offset, e0, e0.symm, e1, e1.symm, e2, e2.symm]) rfl ?_
  refine j_aload_n (q := 176) (i := 1) (n := 0) dX7_readItem_175 rfl rfl rfl ?_
  refine j_ss (q := 179) (rn_V (R := rm_X7_readItem) (As := []) (rest := []) (c_X7_readJob _ z gx g1) cv_X7_readJob wM_X7_124 ⟨rfl, rfl⟩ ⟨(Nat.le_of_ble_eq_true rfl), (Nat.le_of_ble_eq_true rfl)⟩ (Nat.le_of_ble_eq_true rfl) rfl rfl rfl (Nat.le_of_ble_eq_true rfl) dX7_readItem_176) rfl (fun r25 g26 => ?_)
  refine j_istore_n (q := 180) (n := 3) (lv' := [(3, .int r25), (0, .ref (za z 77 0)), (1, .int x1), (2, .int x2)]) dX7_readItem_179 rfl (Nat.le_of_ble_eq_true rfl) rfl rfl ?_
  refine j_iload_n (q := 181) (i := 0) (n := 3) dX7_readItem_180 rfl rfl rfl ?_
  refine j_if_eq (tgt := 195) (q := 184) dX7_readItem_181 rfl rfl ?_ ?_
  · refine j_iconst (q := 196) (v := (nI 0)) dX7_readItem_195 rfl rfl ?_
    exact j_ret (x := ((nI 0), g26)) dX7_readItem_196 ⟨rfl, rfl, rfl⟩
  · refine j_aload_n (q := 185) (i := 1) (n := 0) dX7_readItem_184 rfl rfl rfl ?_
    refine j_ss (q := 188) (rn_V (R := rm_X7_readItem) (As := []) (rest := []) (c_X7_ends _ z gx g26) cv_X7_ends wM_X7_127 ⟨rfl, rfl⟩ ⟨(Nat.le_of_ble_eq_true rfl), (Nat.le_of_ble_eq_true rfl)⟩ (Nat.le_of_ble_eq_true rfl) rfl rfl rfl (Nat.le_of_ble_eq_true rfl) dX7_readItem_185) rfl (fun r28 g29 => ?_)
    refine j_if_eq (tgt := 195) (q := 191) dX7_readItem_188 rfl rfl ?_ ?_
    · refine j_iconst (q := 196) (v := (nI 0)) dX7_readItem_195 rfl rfl ?_
      exact j_ret (x := ((nI 0), g29)) dX7_readItem_196 ⟨rfl, rfl, rfl⟩
    · refine j_iconst (q := 192) (v := (nI 1)) dX7_readItem_191 rfl rfl ?_
      refine j_goto (tgt := 196) dX7_readItem_192 rfl ?_
      exact j_ret (x := ((nI 1), g29)) dX7_readItem_196 ⟨rfl, rfl, rfl⟩
def m_X7_readItem_B55 (g : zG) (x1 : Int32) (x2 : Int32) : Option (Int32 × zG) := if ((gi g 132 0 0) &&& x2) = (nI 0) then if x1 = (nI 106) then if (gi g 131 0 0) = (nI 6) then some ((nI 0), g) else m_X7_readItem_B81 g x1 x2 else m_X7_readItem_B81 g x1 x2 else some ((nI 0), g)
set_option maxRecDepth 100000 in
set_option maxHeartbeats 4000000 in
theorem t_X7_readItem_B55 {p : Program} {l : Launch} {e : Env} {s : State} {m : MethodId} {args : Array Value} {below : List Frame} {meth : Method} {c : Code} {cells slots : Nat} {Q : (Int32 × zG) → State → Prop} (z : zE) (gx : zG) (g : zG) (x1 : Int32) (x2 : Int32) : zJ dm p l e rm_X7_readItem s m args below meth c cX7_readItem 4 yX7_readItem.cls z cells slots (wm z gx) (fn (fun x => isb x.1 = true) (fun x => x.2) osi) .ireturn Q 55 [(0, .ref (za z 77 0)), (1, .int x1), (2, .int x2)] [] g (m_X7_readItem_B55 g x1 x2) := by
  refine j_eq (M2 := if ((gi g 132 0 0) &&& x2) = (nI 0) then if x1 = (nI 106) then if (gi g 131 0 0) = (nI 6) then some ((nI 0), g) else m_X7_readItem_B81 g x1 x2 else m_X7_readItem_B81 g x1 x2 else some ((nI 0), g)) rfl ?_
  refine j_aload_n (q := 56) (i := 0) (n := 0) dX7_readItem_55 rfl rfl rfl ?_
  refine g_X7_told (q := 59) wF_X7_114 (Nat.le_of_ble_eq_true rfl) dX7_readItem_56 rfl ?_
  refine j_iload_n (q := 60) (i := 2) (n := 2) dX7_readItem_59 rfl rfl rfl ?_
  refine j_iand (q := 61) dX7_readItem_60 rfl ?_
  refine j_if_ne (tgt := 79) (q := 64) dX7_readItem_61 rfl rfl ?_ ?_
  · refine j_iconst (q := 80) (v := (nI 0)) dX7_readItem_79 rfl rfl ?_
    exact j_ret (x := ((nI 0), g)) dX7_readItem_80 ⟨rfl, rfl, rfl⟩
  · refine j_iload_n (q := 65) (i := 1) (n := 1) dX7_readItem_64 rfl rfl rfl ?_
    refine j_bipush (q := 67) (v := (nI 106)) dX7_readItem_65 rfl rfl ?_
    refine j_icmp_ne (tgt := 81) (q := 70) dX7_readItem_67 rfl rfl ?_ ?_
    · exact t_X7_readItem_B81 z gx g x1 x2
    · refine j_aload_n (q := 71) (i := 0) (n := 0) dX7_readItem_70 rfl rfl rfl ?_
      refine g_X7_newMany (q := 74) wF_X7_111 (Nat.le_of_ble_eq_true rfl) dX7_readItem_71 rfl ?_
      refine j_bipush (q := 76) (v := (nI 6)) dX7_readItem_74 rfl rfl ?_
      refine j_icmp_ne (tgt := 81) (q := 79) dX7_readItem_76 rfl rfl ?_ ?_
      · exact t_X7_readItem_B81 z gx g x1 x2
      · refine j_iconst (q := 80) (v := (nI 0)) dX7_readItem_79 rfl rfl ?_
        exact j_ret (x := ((nI 0), g)) dX7_readItem_80 ⟨rfl, rfl, rfl⟩
def m_X7_readItem_B36 (g : zG) (x1 : Int32) (s0 : Int32) : Option (Int32 × zG) := if (gi g 127 0 0) = (nI 1) then if s0 = (nI 0) then if x1 = (nI 106) then m_X7_readItem_B55 g x1 s0 else some ((nI 0), g) else m_X7_readItem_B55 g x1 s0 else some ((nI 0), g)
set_option maxRecDepth 100000 in
set_option maxHeartbeats 4000000 in
theorem t_X7_readItem_B36 {p : Program} {l : Launch} {e : Env} {s : State} {m : MethodId} {args : Array Value} {below : List Frame} {meth : Method} {c : Code} {cells slots : Nat} {Q : (Int32 × zG) → State → Prop} (z : zE) (gx : zG) (g : zG) (x1 : Int32) (s0 : Int32) : zJ dm p l e rm_X7_readItem s m args below meth c cX7_readItem 4 yX7_readItem.cls z cells slots (wm z gx) (fn (fun x => isb x.1 = true) (fun x => x.2) osi) .ireturn Q 36 [(0, .ref (za z 77 0)), (1, .int x1)] [.int s0] g (m_X7_readItem_B36 g x1 s0) := by
  refine j_eq (M2 := if (gi g 127 0 0) = (nI 1) then if s0 = (nI 0) then if x1 = (nI 106) then m_X7_readItem_B55 g x1 s0 else some ((nI 0), g) else m_X7_readItem_B55 g x1 s0 else some ((nI 0), g)) rfl ?_
  refine j_istore_n (q := 37) (n := 2) (lv' := [(2, .int s0), (0, .ref (za z 77 0)), (1, .int x1)]) dX7_readItem_36 rfl (Nat.le_of_ble_eq_true rfl) rfl rfl ?_
  refine j_aload_n (q := 38) (i := 1) (n := 0) dX7_readItem_37 rfl rfl rfl ?_
  refine g_X7_sort (q := 41) wF_X7_91 (Nat.le_of_ble_eq_true rfl) dX7_readItem_38 rfl ?_
  refine j_iconst (q := 42) (v := (nI 1)) dX7_readItem_41 rfl rfl ?_
  refine j_icmp_ne (tgt := 79) (q := 45) dX7_readItem_42 rfl rfl ?_ ?_
  · refine j_iconst (q := 80) (v := (nI 0)) dX7_readItem_79 rfl rfl ?_
    exact j_ret (x := ((nI 0), g)) dX7_readItem_80 ⟨rfl, rfl, rfl⟩
  · refine j_iload_n (q := 46) (i := 0) (n := 2) dX7_readItem_45 rfl rfl rfl ?_
    refine j_if_ne (tgt := 55) (q := 49) dX7_readItem_46 rfl rfl ?_ ?_
    · refine j_lv [1, 2, 0] (lv' := [(0, .ref (za z 77 0)), (1, .int x1), (2, .int s0)]) rfl ?_
      exact t_X7_readItem_B55 z gx g x1 s0
    · refine j_iload_n (q := 50) (i := 2) (n := 1) dX7_readItem_49 rfl rfl rfl ?_
      refine j_bipush (q := 52) (v := (nI 106)) dX7_readItem_50 rfl rfl ?_
      refine j_icmp_ne (tgt := 79) (q := 55) dX7_readItem_52 rfl rfl ?_ ?_
      · refine j_iconst (q := 80) (v := (nI 0)) dX7_readItem_79 rfl rfl ?_
        exact j_ret (x := ((nI 0), g)) dX7_readItem_80 ⟨rfl, rfl, rfl⟩
      · refine j_lv [1, 2, 0] (lv' := [(0, .ref (za z 77 0)), (1, .int x1), (2, .int s0)]) rfl ?_
        exact t_X7_readItem_B55 z gx g x1 s0
def m_X7_readItem (g : zG) : Option (Int32 × zG) := if (gi g 128 0 0) = (nI 116) then m_X7_readItem_B36 g (gi g 128 0 0) (nI 1) else if (gi g 128 0 0) = (nI 107) then m_X7_readItem_B36 g (gi g 128 0 0) (nI 2) else if (gi g 128 0 0) = (nI 98) then m_X7_readItem_B36 g (gi g 128 0 0) (nI 4) else m_X7_readItem_B36 g (gi g 128 0 0) (nI 0)
set_option maxRecDepth 100000 in
set_option maxHeartbeats 4000000 in
theorem c_X7_readItem (l : Launch) (z : zE) (gx : zG) (g : zG) : ∀ x, m_X7_readItem g = some x → Ms dm l yX7_readItem cX7_readItem 4 (some .boolean) rm_X7_readItem z [.ref (za z 77 0)] ((wm z gx) g) (osi x) ((wm z gx) ((fun x => x.2) x)) := by
  refine ms_of (Wf := (wm z gx)) (ri := .ireturn) (out := osi) (nxt := (fun x => x.2)) (ok := (fun x => isb x.1 = true)) (lv := [(0, .ref (za z 77 0))]) (by decide) ⟨rfl, rfl⟩ (Nat.le_of_ble_eq_true rfl) rfl (en_z (out := fun x : Int32 × zG => x.1)) (fun p e s m below meth c => ?_)
  refine j_eq (M2 := if (gi g 128 0 0) = (nI 116) then m_X7_readItem_B36 g (gi g 128 0 0) (nI 1) else if (gi g 128 0 0) = (nI 107) then m_X7_readItem_B36 g (gi g 128 0 0) (nI 2) else if (gi g 128 0 0) = (nI 98) then m_X7_readItem_B36 g (gi g 128 0 0) (nI 4) else m_X7_readItem_B36 g (gi g 128 0 0) (nI 0)) rfl ?_
  refine j_aload_n (q := 1) (i := 0) (n := 0) dX7_readItem_0 rfl rfl rfl ?_
  refine g_X7_value (q := 4) wF_X7_77 (Nat.le_of_ble_eq_true rfl) dX7_readItem_1 rfl ?_
  refine j_istore_n (q := 5) (n := 1) (lv' := [(1, .int (gi g 128 0 0)), (0, .ref (za z 77 0))]) dX7_readItem_4 rfl (Nat.le_of_ble_eq_true rfl) rfl rfl ?_
  refine j_iload_n (q := 6) (i := 0) (n := 1) dX7_readItem_5 rfl rfl rfl ?_
  refine j_bipush (q := 8) (v := (nI 116)) dX7_readItem_6 rfl rfl ?_
  refine j_icmp_ne (tgt := 15) (q := 11) dX7_readItem_8 rfl rfl ?_ ?_
  · refine j_iload_n (q := 16) (i := 0) (n := 1) dX7_readItem_15 rfl rfl rfl ?_
    refine j_bipush (q := 18) (v := (nI 107)) dX7_readItem_16 rfl rfl ?_
    refine j_icmp_ne (tgt := 25) (q := 21) dX7_readItem_18 rfl rfl ?_ ?_
    · refine j_iload_n (q := 26) (i := 0) (n := 1) dX7_readItem_25 rfl rfl rfl ?_
      refine j_bipush (q := 28) (v := (nI 98)) dX7_readItem_26 rfl rfl ?_
      refine j_icmp_ne (tgt := 35) (q := 31) dX7_readItem_28 rfl rfl ?_ ?_
      · refine j_iconst (q := 36) (v := (nI 0)) dX7_readItem_35 rfl rfl ?_
        refine j_lv [1, 0] (lv' := [(0, .ref (za z 77 0)), (1, .int (gi g 128 0 0))]) rfl ?_
        exact t_X7_readItem_B36 z gx g (gi g 128 0 0) (nI 0)
      · refine j_iconst (q := 32) (v := (nI 4)) dX7_readItem_31 rfl rfl ?_
        refine j_goto (tgt := 36) dX7_readItem_32 rfl ?_
        refine j_lv [1, 0] (lv' := [(0, .ref (za z 77 0)), (1, .int (gi g 128 0 0))]) rfl ?_
        exact t_X7_readItem_B36 z gx g (gi g 128 0 0) (nI 4)
    · refine j_iconst (q := 22) (v := (nI 2)) dX7_readItem_21 rfl rfl ?_
      refine j_goto (tgt := 36) dX7_readItem_22 rfl ?_
      refine j_lv [1, 0] (lv' := [(0, .ref (za z 77 0)), (1, .int (gi g 128 0 0))]) rfl ?_
      exact t_X7_readItem_B36 z gx g (gi g 128 0 0) (nI 2)
  · refine j_iconst (q := 12) (v := (nI 1)) dX7_readItem_11 rfl rfl ?_
    refine j_goto (tgt := 36) dX7_readItem_12 rfl ?_
    refine j_lv [1, 0] (lv' := [(0, .ref (za z 77 0)), (1, .int (gi g 128 0 0))]) rfl ?_
    exact t_X7_readItem_B36 z gx g (gi g 128 0 0) (nI 1)
-- CopierJobsModel.begin()V
abbrev rm_X7_begin : Room := { frames := 0, cells := 0, slots := 0, locals := 0 }
theorem cv_X7_begin : CV yX7_begin cX7_begin 2 (none) 0 := ⟨wC_X7_begin, wI_X7_begin, wS_X7_begin, wZ_X7, by decide +kernel⟩
def m_X7_begin_B94 (g : zG) : Option (zG) := bd (ui g 122 0 0 (nI 0)) fun g3 => bd (ui g3 123 0 0 (nI 0)) fun g4 => gd (inb (nI 0) 2 = true) (bd (ui g4 113 0 (nI 0).toNatClampNeg (nI 0)) fun g5 => gd (inb (nI 1) 2 = true) (bd (ui g5 113 0 (nI 1).toNatClampNeg (nI 0)) fun g6 => some g6))
set_option maxRecDepth 100000 in
set_option maxHeartbeats 4000000 in
theorem t_X7_begin_B94 {p : Program} {l : Launch} {e : Env} {s : State} {m : MethodId} {args : Array Value} {below : List Frame} {meth : Method} {c : Code} {cells slots : Nat} {Q : zG → State → Prop} (z : zE) (gx : zG) (g : zG) : zJ dm p l e rm_X7_begin s m args below meth c cX7_begin 2 yX7_begin.cls z cells slots (wm z gx) (fn (fun _ => True) (fun x => x) osv) .return_ Q 94 [(0, .ref (za z 77 0))] [] g (m_X7_begin_B94 g) := by
  refine j_eq (M2 := bd (ui g 122 0 0 (nI 0)) fun g3 => bd (ui g3 123 0 0 (nI 0)) fun g4 => gd (inb (nI 0) 2 = true) (bd (ui g4 113 0 (nI 0).toNatClampNeg (nI 0)) fun g5 => gd (inb (nI 1) 2 = true) (bd (ui g5 113 0 (nI 1).toNatClampNeg (nI 0)) fun g6 => some g6))) rfl ?_
  refine j_aload_n (q := 95) (i := 0) (n := 0) dX7_begin_94 rfl rfl rfl ?_
  refine j_iconst (q := 96) (v := (nI 0)) dX7_begin_95 rfl rfl ?_
  refine p_X7_undoMany (q := 99) dm_le wF_X7_133 (Nat.le_of_ble_eq_true rfl) dX7_begin_96 rfl (fun g3 => ?_)
  refine j_aload_n (q := 100) (i := 0) (n := 0) dX7_begin_99 rfl rfl rfl ?_
  refine j_iconst (q := 101) (v := (nI 0)) dX7_begin_100 rfl rfl ?_
  refine p_X7_seenMany (q := 104) dm_le wF_X7_136 (Nat.le_of_ble_eq_true rfl) dX7_begin_101 rfl (fun g4 => ?_)
  refine j_aload_n (q := 105) (i := 0) (n := 0) dX7_begin_104 rfl rfl rfl ?_
  refine g_X7_isKept (q := 108) wF_X7_53 (Nat.le_of_ble_eq_true rfl) dX7_begin_105 rfl ?_
  refine j_iconst (q := 109) (v := (nI 0)) dX7_begin_108 rfl rfl ?_
  refine j_iconst (q := 110) (v := (nI 0)) dX7_begin_109 rfl rfl ?_
  refine am_st (k := 113) (n := 2) (q := 111) dm_le isM_113 rfl (Nat.le_of_ble_eq_true rfl) dX7_begin_110 rfl (fun g5 => ?_)
  refine j_aload_n (q := 112) (i := 0) (n := 0) dX7_begin_111 rfl rfl rfl ?_
  refine g_X7_isKept (q := 115) wF_X7_53 (Nat.le_of_ble_eq_true rfl) dX7_begin_112 rfl ?_
  refine j_iconst (q := 116) (v := (nI 1)) dX7_begin_115 rfl rfl ?_
  refine j_iconst (q := 117) (v := (nI 0)) dX7_begin_116 rfl rfl ?_
  refine am_st (k := 113) (n := 2) (q := 118) dm_le isM_113 rfl (Nat.le_of_ble_eq_true rfl) dX7_begin_117 rfl (fun g6 => ?_)
  exact j_ret (x := g6) dX7_begin_118 ⟨trivial, rfl, rfl⟩
def m_X7_begin_L70 : Nat → zG → Int32 → Option (zG)
  | 0, _, _ => none
  | f + 1, g, x1 => if x1 < (gi g 120 0 0) then gd (inb ((nI 13) + x1) 31 = true) (bd (ui g 105 0 ((nI 13) + x1).toNatClampNeg x1) fun g7 => m_X7_begin_L70 f g7 (x1 + (nI 1))) else m_X7_begin_B94 g
set_option maxRecDepth 100000 in
set_option maxHeartbeats 4000000 in
theorem t_X7_begin_L70 {p : Program} {l : Launch} {e : Env} {s : State} {m : MethodId} {args : Array Value} {below : List Frame} {meth : Method} {c : Code} {cells slots : Nat} {Q : zG → State → Prop} (z : zE) (gx : zG) : ∀ (f : Nat) (g : zG) (x1 : Int32), zJ dm p l e rm_X7_begin s m args below meth c cX7_begin 2 yX7_begin.cls z cells slots (wm z gx) (fn (fun _ => True) (fun x => x) osv) .return_ Q 70 [(0, .ref (za z 77 0)), (1, .int x1)] [] g (m_X7_begin_L70 f g x1) := by
  intro f
  induction f with
  | zero => intro g x1; exact j_none
  | succ f ih =>
    intro g x1
    refine j_eq (M2 := if x1 < (gi g 120 0 0) then gd (inb ((nI 13) + x1) 31 = true) (bd (ui g 105 0 ((nI 13) + x1).toNatClampNeg x1) fun g7 => m_X7_begin_L70 f g7 (x1 + (nI 1))) else m_X7_begin_B94 g) rfl ?_
    refine j_iload_n (q := 71) (i := 1) (n := 1) dX7_begin_70 rfl rfl rfl ?_
    refine j_aload_n (q := 72) (i := 0) (n := 0) dX7_begin_71 rfl rfl rfl ?_
    refine g_X7_jobs (q := 75) wF_X7_66 (Nat.le_of_ble_eq_true rfl) dX7_begin_72 rfl ?_
    refine j_icmp_ge (tgt := 94) (q := 78) dX7_begin_75 rfl rfl ?_ ?_
    · refine j_lv [0] (lv' := [(0, .ref (za z 77 0))]) rfl ?_
      exact t_X7_begin_B94 z gx g
    · refine j_aload_n (q := 79) (i := 0) (n := 0) dX7_begin_78 rfl rfl rfl ?_
      refine g_X7_st (q := 82) wF_X7_29 (Nat.le_of_ble_eq_true rfl) dX7_begin_79 rfl ?_
      refine j_bipush (q := 84) (v := (nI 13)) dX7_begin_82 rfl rfl ?_
      refine j_iload_n (q := 85) (i := 1) (n := 1) dX7_begin_84 rfl rfl rfl ?_
      refine j_iadd (q := 86) dX7_begin_85 rfl ?_
      refine j_iload_n (q := 87) (i := 1) (n := 1) dX7_begin_86 rfl rfl rfl ?_
      refine am_st (k := 105) (n := 31) (q := 88) dm_le isM_105 rfl (Nat.le_of_ble_eq_true rfl) dX7_begin_87 rfl (fun g7 => ?_)
      refine j_iinc (q := 91) (n := 1) (i := 1) (v := x1 + (nI 1)) (lv' := [(1, .int (x1 + (nI 1))), (0, .ref (za z 77 0))]) dX7_begin_88 rfl rfl (Nat.le_of_ble_eq_true rfl) rfl rfl ?_
      refine j_goto (tgt := 70) dX7_begin_91 rfl ?_
      refine j_lv [1, 0] (lv' := [(0, .ref (za z 77 0)), (1, .int (x1 + (nI 1)))]) rfl ?_
      exact ih g7 (x1 + (nI 1))
def m_X7_begin_B58 (g : zG) : Option (zG) := gd (inb (nI 3) 31 = true) (bd (ui g 105 0 (nI 3).toNatClampNeg (gi g 120 0 0)) fun g2 => m_X7_begin_L70 FU g2 (nI 0))
set_option maxRecDepth 100000 in
set_option maxHeartbeats 4000000 in
theorem t_X7_begin_B58 {p : Program} {l : Launch} {e : Env} {s : State} {m : MethodId} {args : Array Value} {below : List Frame} {meth : Method} {c : Code} {cells slots : Nat} {Q : zG → State → Prop} (z : zE) (gx : zG) (g : zG) : zJ dm p l e rm_X7_begin s m args below meth c cX7_begin 2 yX7_begin.cls z cells slots (wm z gx) (fn (fun _ => True) (fun x => x) osv) .return_ Q 58 [(0, .ref (za z 77 0))] [] g (m_X7_begin_B58 g) := by
  refine j_eq (M2 := gd (inb (nI 3) 31 = true) (bd (ui g 105 0 (nI 3).toNatClampNeg (gi g 120 0 0)) fun g2 => m_X7_begin_L70 FU g2 (nI 0))) rfl ?_
  refine j_aload_n (q := 59) (i := 0) (n := 0) dX7_begin_58 rfl rfl rfl ?_
  refine g_X7_st (q := 62) wF_X7_29 (Nat.le_of_ble_eq_true rfl) dX7_begin_59 rfl ?_
  refine j_iconst (q := 63) (v := (nI 3)) dX7_begin_62 rfl rfl ?_
  refine j_aload_n (q := 64) (i := 0) (n := 0) dX7_begin_63 rfl rfl rfl ?_
  refine g_X7_jobs (q := 67) wF_X7_66 (Nat.le_of_ble_eq_true rfl) dX7_begin_64 rfl ?_
  refine am_st (k := 105) (n := 31) (q := 68) dm_le isM_105 rfl (Nat.le_of_ble_eq_true rfl) dX7_begin_67 rfl (fun g2 => ?_)
  refine j_iconst (q := 69) (v := (nI 0)) dX7_begin_68 rfl rfl ?_
  refine j_istore_n (q := 70) (n := 1) (lv' := [(1, .int (nI 0)), (0, .ref (za z 77 0))]) dX7_begin_69 rfl (Nat.le_of_ble_eq_true rfl) rfl rfl ?_
  refine j_lv [1, 0] (lv' := [(0, .ref (za z 77 0)), (1, .int (nI 0))]) rfl ?_
  exact t_X7_begin_L70 z gx FU g2 (nI 0)
def m_X7_begin_L33 : Nat → zG → Int32 → Option (zG)
  | 0, _, _ => none
  | f + 1, g, x1 => if x1 < (nI 3) then gd (inb x1 3 = true) (gd (inb ((nI 4) + x1) 31 = true) (bd (ui g 105 0 ((nI 4) + x1).toNatClampNeg (gi g 109 0 x1.toNatClampNeg)) fun g8 => m_X7_begin_L33 f g8 (x1 + (nI 1)))) else m_X7_begin_B58 g
set_option maxRecDepth 100000 in
set_option maxHeartbeats 4000000 in
theorem t_X7_begin_L33 {p : Program} {l : Launch} {e : Env} {s : State} {m : MethodId} {args : Array Value} {below : List Frame} {meth : Method} {c : Code} {cells slots : Nat} {Q : zG → State → Prop} (z : zE) (gx : zG) : ∀ (f : Nat) (g : zG) (x1 : Int32), zJ dm p l e rm_X7_begin s m args below meth c cX7_begin 2 yX7_begin.cls z cells slots (wm z gx) (fn (fun _ => True) (fun x => x) osv) .return_ Q 33 [(0, .ref (za z 77 0)), (1, .int x1)] [] g (m_X7_begin_L33 f g x1) := by
  intro f
  induction f with
  | zero => intro g x1; exact j_none
  | succ f ih =>
    intro g x1
    refine j_eq (M2 := if x1 < (nI 3) then gd (inb x1 3 = true) (gd (inb ((nI 4) + x1) 31 = true) (bd (ui g 105 0 ((nI 4) + x1).toNatClampNeg (gi g 109 0 x1.toNatClampNeg)) fun g8 => m_X7_begin_L33 f g8 (x1 + (nI 1)))) else m_X7_begin_B58 g) rfl ?_
    refine j_iload_n (q := 34) (i := 1) (n := 1) dX7_begin_33 rfl rfl rfl ?_
    refine j_iconst (q := 35) (v := (nI 3)) dX7_begin_34 rfl rfl ?_
    refine j_icmp_ge (tgt := 58) (q := 38) dX7_begin_35 rfl rfl ?_ ?_
    · refine j_lv [0] (lv' := [(0, .ref (za z 77 0))]) rfl ?_
      exact t_X7_begin_B58 z gx g
    · refine j_aload_n (q := 39) (i := 0) (n := 0) dX7_begin_38 rfl rfl rfl ?_
      refine g_X7_st (q := 42) wF_X7_29 (Nat.le_of_ble_eq_true rfl) dX7_begin_39 rfl ?_
      refine j_iconst (q := 43) (v := (nI 4)) dX7_begin_42 rfl rfl ?_
      refine j_iload_n (q := 44) (i := 1) (n := 1) dX7_begin_43 rfl rfl rfl ?_
      refine j_iadd (q := 45) dX7_begin_44 rfl ?_
      refine j_aload_n (q := 46) (i := 0) (n := 0) dX7_begin_45 rfl rfl rfl ?_
      refine g_X7_newTrays (q := 49) wF_X7_41 (Nat.le_of_ble_eq_true rfl) dX7_begin_46 rfl ?_
      refine j_iload_n (q := 50) (i := 1) (n := 1) dX7_begin_49 rfl rfl rfl ?_
      refine am_ld (k := 109) (n := 3) (q := 51) isM_109 rfl (Nat.le_of_ble_eq_true rfl) dX7_begin_50 rfl ?_
      refine am_st (k := 105) (n := 31) (q := 52) dm_le isM_105 rfl (Nat.le_of_ble_eq_true rfl) dX7_begin_51 rfl (fun g8 => ?_)
      refine j_iinc (q := 55) (n := 1) (i := 1) (v := x1 + (nI 1)) (lv' := [(1, .int (x1 + (nI 1))), (0, .ref (za z 77 0))]) dX7_begin_52 rfl rfl (Nat.le_of_ble_eq_true rfl) rfl rfl ?_
      refine j_goto (tgt := 33) dX7_begin_55 rfl ?_
      refine j_lv [1, 0] (lv' := [(0, .ref (za z 77 0)), (1, .int (x1 + (nI 1)))]) rfl ?_
      exact ih g8 (x1 + (nI 1))
def m_X7_begin_B21 (g : zG) : Option (zG) := gd (inb (nI 1) 31 = true) (bd (ui g 105 0 (nI 1).toNatClampNeg (gi g 129 0 0)) fun g1 => m_X7_begin_L33 FU g1 (nI 0))
set_option maxRecDepth 100000 in
set_option maxHeartbeats 4000000 in
theorem t_X7_begin_B21 {p : Program} {l : Launch} {e : Env} {s : State} {m : MethodId} {args : Array Value} {below : List Frame} {meth : Method} {c : Code} {cells slots : Nat} {Q : zG → State → Prop} (z : zE) (gx : zG) (g : zG) : zJ dm p l e rm_X7_begin s m args below meth c cX7_begin 2 yX7_begin.cls z cells slots (wm z gx) (fn (fun _ => True) (fun x => x) osv) .return_ Q 21 [(0, .ref (za z 77 0))] [] g (m_X7_begin_B21 g) := by
  refine j_eq (M2 := gd (inb (nI 1) 31 = true) (bd (ui g 105 0 (nI 1).toNatClampNeg (gi g 129 0 0)) fun g1 => m_X7_begin_L33 FU g1 (nI 0))) rfl ?_
  refine j_aload_n (q := 22) (i := 0) (n := 0) dX7_begin_21 rfl rfl rfl ?_
  refine g_X7_st (q := 25) wF_X7_29 (Nat.le_of_ble_eq_true rfl) dX7_begin_22 rfl ?_
  refine j_iconst (q := 26) (v := (nI 1)) dX7_begin_25 rfl rfl ?_
  refine j_aload_n (q := 27) (i := 0) (n := 0) dX7_begin_26 rfl rfl rfl ?_
  refine g_X7_newInk (q := 30) wF_X7_56 (Nat.le_of_ble_eq_true rfl) dX7_begin_27 rfl ?_
  refine am_st (k := 105) (n := 31) (q := 31) dm_le isM_105 rfl (Nat.le_of_ble_eq_true rfl) dX7_begin_30 rfl (fun g1 => ?_)
  refine j_iconst (q := 32) (v := (nI 0)) dX7_begin_31 rfl rfl ?_
  refine j_istore_n (q := 33) (n := 1) (lv' := [(1, .int (nI 0)), (0, .ref (za z 77 0))]) dX7_begin_32 rfl (Nat.le_of_ble_eq_true rfl) rfl rfl ?_
  refine j_lv [1, 0] (lv' := [(0, .ref (za z 77 0)), (1, .int (nI 0))]) rfl ?_
  exact t_X7_begin_L33 z gx FU g1 (nI 0)
def m_X7_begin_L2 : Nat → zG → Int32 → Option (zG)
  | 0, _, _ => none
  | f + 1, g, x1 => if x1 < (nI 31) then gd (inb x1 31 = true) (bd (ui g 105 0 x1.toNatClampNeg (nI 0)) fun g9 => m_X7_begin_L2 f g9 (x1 + (nI 1))) else m_X7_begin_B21 g
set_option maxRecDepth 100000 in
set_option maxHeartbeats 4000000 in
theorem t_X7_begin_L2 {p : Program} {l : Launch} {e : Env} {s : State} {m : MethodId} {args : Array Value} {below : List Frame} {meth : Method} {c : Code} {cells slots : Nat} {Q : zG → State → Prop} (z : zE) (gx : zG) : ∀ (f : Nat) (g : zG) (x1 : Int32), zJ dm p l e rm_X7_begin s m args below meth c cX7_begin 2 yX7_begin.cls z cells slots (wm z gx) (fn (fun _ => True) (fun x => x) osv) .return_ Q 2 [(0, .ref (za z 77 0)), (1, .int x1)] [] g (m_X7_begin_L2 f g x1) := by
  intro f
  induction f with
  | zero => intro g x1; exact j_none
  | succ f ih =>
    intro g x1
    refine j_eq (M2 := if x1 < (nI 31) then gd (inb x1 31 = true) (bd (ui g 105 0 x1.toNatClampNeg (nI 0)) fun g9 => m_X7_begin_L2 f g9 (x1 + (nI 1))) else m_X7_begin_B21 g) rfl ?_
    refine j_iload_n (q := 3) (i := 1) (n := 1) dX7_begin_2 rfl rfl rfl ?_
    refine j_bipush (q := 5) (v := (nI 31)) dX7_begin_3 rfl rfl ?_
    refine j_icmp_ge (tgt := 21) (q := 8) dX7_begin_5 rfl rfl ?_ ?_
    · refine j_lv [0] (lv' := [(0, .ref (za z 77 0))]) rfl ?_
      exact t_X7_begin_B21 z gx g
    · refine j_aload_n (q := 9) (i := 0) (n := 0) dX7_begin_8 rfl rfl rfl ?_
      refine g_X7_st (q := 12) wF_X7_29 (Nat.le_of_ble_eq_true rfl) dX7_begin_9 rfl ?_
      refine j_iload_n (q := 13) (i := 1) (n := 1) dX7_begin_12 rfl rfl rfl ?_
      refine j_iconst (q := 14) (v := (nI 0)) dX7_begin_13 rfl rfl ?_
      refine am_st (k := 105) (n := 31) (q := 15) dm_le isM_105 rfl (Nat.le_of_ble_eq_true rfl) dX7_begin_14 rfl (fun g9 => ?_)
      refine j_iinc (q := 18) (n := 1) (i := 1) (v := x1 + (nI 1)) (lv' := [(1, .int (x1 + (nI 1))), (0, .ref (za z 77 0))]) dX7_begin_15 rfl rfl (Nat.le_of_ble_eq_true rfl) rfl rfl ?_
      refine j_goto (tgt := 2) dX7_begin_18 rfl ?_
      refine j_lv [1, 0] (lv' := [(0, .ref (za z 77 0)), (1, .int (x1 + (nI 1)))]) rfl ?_
      exact ih g9 (x1 + (nI 1))
def m_X7_begin (g : zG) : Option (zG) := m_X7_begin_L2 FU g (nI 0)
set_option maxRecDepth 100000 in
set_option maxHeartbeats 4000000 in
theorem c_X7_begin (l : Launch) (z : zE) (gx : zG) (g : zG) : ∀ x, m_X7_begin g = some x → Ms dm l yX7_begin cX7_begin 2 (none) rm_X7_begin z [.ref (za z 77 0)] ((wm z gx) g) (osv x) ((wm z gx) ((fun x => x) x)) := by
  refine ms_of (Wf := (wm z gx)) (ri := .return_) (out := osv) (nxt := (fun x => x)) (ok := (fun _ => True)) (lv := [(0, .ref (za z 77 0))]) (by decide) ⟨rfl, rfl⟩ (Nat.le_of_ble_eq_true rfl) rfl (en_v ) (fun p e s m below meth c => ?_)
  refine j_eq (M2 := m_X7_begin_L2 FU g (nI 0)) rfl ?_
  refine j_iconst (q := 1) (v := (nI 0)) dX7_begin_0 rfl rfl ?_
  refine j_istore_n (q := 2) (n := 1) (lv' := [(1, .int (nI 0)), (0, .ref (za z 77 0))]) dX7_begin_1 rfl (Nat.le_of_ble_eq_true rfl) rfl rfl ?_
  refine j_lv [1, 0] (lv' := [(0, .ref (za z 77 0)), (1, .int (nI 0))]) rfl ?_
  exact t_X7_begin_L2 z gx FU g (nI 0)
-- CopierJobsModel.office()I
abbrev rm_X7_office : Room := { frames := 6, cells := 0, slots := 0, locals := 133 }
theorem cv_X7_office : CV yX7_office cX7_office 4 (some .int) 0 := ⟨wC_X7_office, wI_X7_office, wS_X7_office, wZ_X7, by decide +kernel⟩
def m_X7_office_L139 : Nat → zG → Int32 → Int32 → Option (Int32 × zG)
  | 0, _, _, _ => none
  | f + 1, g, x1, x3 => if x3 < (gi g 120 0 0) then gd (inb ((nI 5) * x3) 30 = true) (gd (inb x3 6 = true) (bd (ui g 100 0 x3.toNatClampNeg (gi g 110 0 ((nI 5) * x3).toNatClampNeg)) fun g11 => gd (inb (((nI 5) * x3) + (nI 1)) 30 = true) (gd (inb x3 6 = true) (bd (ui g11 101 0 x3.toNatClampNeg (gi g11 110 0 (((nI 5) * x3) + (nI 1)).toNatClampNeg)) fun g12 => gd (inb (((nI 5) * x3) + (nI 2)) 30 = true) (gd (inb x3 6 = true) (bd (ui g12 102 0 x3.toNatClampNeg (gi g12 110 0 (((nI 5) * x3) + (nI 2)).toNatClampNeg)) fun g13 => gd (inb (((nI 5) * x3) + (nI 3)) 30 = true) (gd (inb x3 6 = true) (bd (ui g13 103 0 x3.toNatClampNeg (gi g13 110 0 (((nI 5) * x3) + (nI 3)).toNatClampNeg)) fun g14 => gd (inb (((nI 5) * x3) + (nI 4)) 30 = true) (gd (inb x3 6 = true) (bd (ui g14 104 0 x3.toNatClampNeg (gi g14 110 0 (((nI 5) * x3) + (nI 4)).toNatClampNeg)) fun g15 => m_X7_office_L139 f g15 x1 (x3 + (nI 1)))))))))))) else (m_X7_begin g).bind fun g10 => some (x1, g10)
set_option maxRecDepth 100000 in
set_option maxHeartbeats 4000000 in
theorem t_X7_office_L139 {p : Program} {l : Launch} {e : Env} {s : State} {m : MethodId} {args : Array Value} {below : List Frame} {meth : Method} {c : Code} {cells slots : Nat} {Q : (Int32 × zG) → State → Prop} (z : zE) (gx : zG) : ∀ (f : Nat) (g : zG) (x1 : Int32) (x3 : Int32), zJ dm p l e rm_X7_office s m args below meth c cX7_office 4 yX7_office.cls z cells slots (wm z gx) (fn (fun _ => True) (fun x => x.2) osi) .ireturn Q 139 [(0, .ref (za z 77 0)), (1, .int x1), (3, .int x3)] [] g (m_X7_office_L139 f g x1 x3) := by
  intro f
  induction f with
  | zero => intro g x1 x3; exact j_none
  | succ f ih =>
    intro g x1 x3
    refine j_eq (M2 := if x3 < (gi g 120 0 0) then gd (inb ((nI 5) * x3) 30 = true) (gd (inb x3 6 = true) (bd (ui g 100 0 x3.toNatClampNeg (gi g 110 0 ((nI 5) * x3).toNatClampNeg)) fun g11 => gd (inb (((nI 5) * x3) + (nI 1)) 30 = true) (gd (inb x3 6 = true) (bd (ui g11 101 0 x3.toNatClampNeg (gi g11 110 0 (((nI 5) * x3) + (nI 1)).toNatClampNeg)) fun g12 => gd (inb (((nI 5) * x3) + (nI 2)) 30 = true) (gd (inb x3 6 = true) (bd (ui g12 102 0 x3.toNatClampNeg (gi g12 110 0 (((nI 5) * x3) + (nI 2)).toNatClampNeg)) fun g13 => gd (inb (((nI 5) * x3) + (nI 3)) 30 = true) (gd (inb x3 6 = true) (bd (ui g13 103 0 x3.toNatClampNeg (gi g13 110 0 (((nI 5) * x3) + (nI 3)).toNatClampNeg)) fun g14 => gd (inb (((nI 5) * x3) + (nI 4)) 30 = true) (gd (inb x3 6 = true) (bd (ui g14 104 0 x3.toNatClampNeg (gi g14 110 0 (((nI 5) * x3) + (nI 4)).toNatClampNeg)) fun g15 => m_X7_office_L139 f g15 x1 (x3 + (nI 1)))))))))))) else (m_X7_begin g).bind fun g10 => some (x1, g10)) rfl ?_
    refine j_iload_n (q := 140) (i := 2) (n := 3) dX7_office_139 rfl rfl rfl ?_
    refine j_aload_n (q := 141) (i := 0) (n := 0) dX7_office_140 rfl rfl rfl ?_
    refine g_X7_jobs (q := 144) wF_X7_66 (Nat.le_of_ble_eq_true rfl) dX7_office_141 rfl ?_
    refine j_icmp_ge (tgt := 231) (q := 147) dX7_office_144 rfl rfl ?_ ?_
    · refine j_aload_n (q := 232) (i := 0) (n := 0) dX7_office_231 rfl rfl rfl ?_
      refine j_sv (q := 235) (rn_V (R := rm_X7_office) (As := []) (rest := []) (c_X7_begin _ z gx g) cv_X7_begin wM_X7_59 ⟨rfl, rfl⟩ ⟨(Nat.le_of_ble_eq_true rfl), (Nat.le_of_ble_eq_true rfl)⟩ (Nat.le_of_ble_eq_true rfl) rfl rfl rfl (Nat.le_of_ble_eq_true rfl) dX7_office_232) rfl (fun g10 => ?_)
      refine j_iload_n (q := 236) (i := 1) (n := 1) dX7_office_235 rfl rfl rfl ?_
      exact j_ret (x := (x1, g10)) dX7_office_236 ⟨trivial, rfl, rfl⟩
    · refine j_aload_n (q := 148) (i := 0) (n := 0) dX7_office_147 rfl rfl rfl ?_
      refine g_X7_pages (q := 151) wF_X7_7 (Nat.le_of_ble_eq_true rfl) dX7_office_148 rfl ?_
      refine j_iload_n (q := 152) (i := 2) (n := 3) dX7_office_151 rfl rfl rfl ?_
      refine j_aload_n (q := 153) (i := 0) (n := 0) dX7_office_152 rfl rfl rfl ?_
      refine g_X7_newJobs (q := 156) wF_X7_44 (Nat.le_of_ble_eq_true rfl) dX7_office_153 rfl ?_
      refine j_iconst (q := 157) (v := (nI 5)) dX7_office_156 rfl rfl ?_
      refine j_iload_n (q := 158) (i := 2) (n := 3) dX7_office_157 rfl rfl rfl ?_
      refine j_imul (q := 159) dX7_office_158 rfl ?_
      refine am_ld (k := 110) (n := 30) (q := 160) isM_110 rfl (Nat.le_of_ble_eq_true rfl) dX7_office_159 rfl ?_
      refine am_st (k := 100) (n := 6) (q := 161) dm_le isM_100 rfl (Nat.le_of_ble_eq_true rfl) dX7_office_160 rfl (fun g11 => ?_)
      refine j_aload_n (q := 162) (i := 0) (n := 0) dX7_office_161 rfl rfl rfl ?_
      refine g_X7_copies (q := 165) wF_X7_13 (Nat.le_of_ble_eq_true rfl) dX7_office_162 rfl ?_
      refine j_iload_n (q := 166) (i := 2) (n := 3) dX7_office_165 rfl rfl rfl ?_
      refine j_aload_n (q := 167) (i := 0) (n := 0) dX7_office_166 rfl rfl rfl ?_
      refine g_X7_newJobs (q := 170) wF_X7_44 (Nat.le_of_ble_eq_true rfl) dX7_office_167 rfl ?_
      refine j_iconst (q := 171) (v := (nI 5)) dX7_office_170 rfl rfl ?_
      refine j_iload_n (q := 172) (i := 2) (n := 3) dX7_office_171 rfl rfl rfl ?_
      refine j_imul (q := 173) dX7_office_172 rfl ?_
      refine j_iconst (q := 174) (v := (nI 1)) dX7_office_173 rfl rfl ?_
      refine j_iadd (q := 175) dX7_office_174 rfl ?_
      refine am_ld (k := 110) (n := 30) (q := 176) isM_110 rfl (Nat.le_of_ble_eq_true rfl) dX7_office_175 rfl ?_
      refine am_st (k := 101) (n := 6) (q := 177) dm_le isM_101 rfl (Nat.le_of_ble_eq_true rfl) dX7_office_176 rfl (fun g12 => ?_)
      refine j_aload_n (q := 178) (i := 0) (n := 0) dX7_office_177 rfl rfl rfl ?_
      refine g_X7_both (q := 181) wF_X7_16 (Nat.le_of_ble_eq_true rfl) dX7_office_178 rfl ?_
      refine j_iload_n (q := 182) (i := 2) (n := 3) dX7_office_181 rfl rfl rfl ?_
      refine j_aload_n (q := 183) (i := 0) (n := 0) dX7_office_182 rfl rfl rfl ?_
      refine g_X7_newJobs (q := 186) wF_X7_44 (Nat.le_of_ble_eq_true rfl) dX7_office_183 rfl ?_
      refine j_iconst (q := 187) (v := (nI 5)) dX7_office_186 rfl rfl ?_
      refine j_iload_n (q := 188) (i := 2) (n := 3) dX7_office_187 rfl rfl rfl ?_
      refine j_imul (q := 189) dX7_office_188 rfl ?_
      refine j_iconst (q := 190) (v := (nI 2)) dX7_office_189 rfl rfl ?_
      refine j_iadd (q := 191) dX7_office_190 rfl ?_
      refine am_ld (k := 110) (n := 30) (q := 192) isM_110 rfl (Nat.le_of_ble_eq_true rfl) dX7_office_191 rfl ?_
      refine am_st (k := 102) (n := 6) (q := 193) dm_le isM_102 rfl (Nat.le_of_ble_eq_true rfl) dX7_office_192 rfl (fun g13 => ?_)
      refine j_aload_n (q := 194) (i := 0) (n := 0) dX7_office_193 rfl rfl rfl ?_
      refine g_X7_sorted (q := 197) wF_X7_19 (Nat.le_of_ble_eq_true rfl) dX7_office_194 rfl ?_
      refine j_iload_n (q := 198) (i := 2) (n := 3) dX7_office_197 rfl rfl rfl ?_
      refine j_aload_n (q := 199) (i := 0) (n := 0) dX7_office_198 rfl rfl rfl ?_
      refine g_X7_newJobs (q := 202) wF_X7_44 (Nat.le_of_ble_eq_true rfl) dX7_office_199 rfl ?_
      refine j_iconst (q := 203) (v := (nI 5)) dX7_office_202 rfl rfl ?_
      refine j_iload_n (q := 204) (i := 2) (n := 3) dX7_office_203 rfl rfl rfl ?_
      refine j_imul (q := 205) dX7_office_204 rfl ?_
      refine j_iconst (q := 206) (v := (nI 3)) dX7_office_205 rfl rfl ?_
      refine j_iadd (q := 207) dX7_office_206 rfl ?_
      refine am_ld (k := 110) (n := 30) (q := 208) isM_110 rfl (Nat.le_of_ble_eq_true rfl) dX7_office_207 rfl ?_
      refine am_st (k := 103) (n := 6) (q := 209) dm_le isM_103 rfl (Nat.le_of_ble_eq_true rfl) dX7_office_208 rfl (fun g14 => ?_)
      refine j_aload_n (q := 210) (i := 0) (n := 0) dX7_office_209 rfl rfl rfl ?_
      refine g_X7_trays (q := 213) wF_X7_22 (Nat.le_of_ble_eq_true rfl) dX7_office_210 rfl ?_
      refine j_iload_n (q := 214) (i := 2) (n := 3) dX7_office_213 rfl rfl rfl ?_
      refine j_aload_n (q := 215) (i := 0) (n := 0) dX7_office_214 rfl rfl rfl ?_
      refine g_X7_newJobs (q := 218) wF_X7_44 (Nat.le_of_ble_eq_true rfl) dX7_office_215 rfl ?_
      refine j_iconst (q := 219) (v := (nI 5)) dX7_office_218 rfl rfl ?_
      refine j_iload_n (q := 220) (i := 2) (n := 3) dX7_office_219 rfl rfl rfl ?_
      refine j_imul (q := 221) dX7_office_220 rfl ?_
      refine j_iconst (q := 222) (v := (nI 4)) dX7_office_221 rfl rfl ?_
      refine j_iadd (q := 223) dX7_office_222 rfl ?_
      refine am_ld (k := 110) (n := 30) (q := 224) isM_110 rfl (Nat.le_of_ble_eq_true rfl) dX7_office_223 rfl ?_
      refine am_st (k := 104) (n := 6) (q := 225) dm_le isM_104 rfl (Nat.le_of_ble_eq_true rfl) dX7_office_224 rfl (fun g15 => ?_)
      refine j_iinc (q := 228) (n := 3) (i := 2) (v := x3 + (nI 1)) (lv' := [(3, .int (x3 + (nI 1))), (0, .ref (za z 77 0)), (1, .int x1)]) dX7_office_225 rfl rfl (Nat.le_of_ble_eq_true rfl) rfl rfl ?_
      refine j_goto (tgt := 139) dX7_office_228 rfl ?_
      refine j_lv [1, 2, 0] (lv' := [(0, .ref (za z 77 0)), (1, .int x1), (3, .int (x3 + (nI 1)))]) rfl ?_
      exact ih g15 x1 (x3 + (nI 1))
def m_X7_office_B86 (g : zG) (x1 : Int32) (x2 : Int32) : Option (Int32 × zG) := if x2 = (nI 0) then if (gi g 126 0 0) < (gi g 124 0 0) then some ((-10) - (gi g 126 0 0), g) else some ((-10) - (gi g 124 0 0), g) else bd (ui g 124 0 0 (nI 0)) fun g7 => bd (ui g7 120 0 0 (gi g7 131 0 0)) fun g8 => bd (ui g8 121 0 0 (gi g8 130 0 0)) fun g9 => m_X7_office_L139 FU g9 x1 (nI 0)
set_option maxRecDepth 100000 in
set_option maxHeartbeats 4000000 in
theorem t_X7_office_B86 {p : Program} {l : Launch} {e : Env} {s : State} {m : MethodId} {args : Array Value} {below : List Frame} {meth : Method} {c : Code} {cells slots : Nat} {Q : (Int32 × zG) → State → Prop} (z : zE) (gx : zG) (g : zG) (x1 : Int32) (x2 : Int32) : zJ dm p l e rm_X7_office s m args below meth c cX7_office 4 yX7_office.cls z cells slots (wm z gx) (fn (fun _ => True) (fun x => x.2) osi) .ireturn Q 86 [(0, .ref (za z 77 0)), (1, .int x1), (2, .int x2)] [] g (m_X7_office_B86 g x1 x2) := by
  refine j_eq (M2 := if x2 = (nI 0) then if (gi g 126 0 0) < (gi g 124 0 0) then some ((-10) - (gi g 126 0 0), g) else some ((-10) - (gi g 124 0 0), g) else bd (ui g 124 0 0 (nI 0)) fun g7 => bd (ui g7 120 0 0 (gi g7 131 0 0)) fun g8 => bd (ui g8 121 0 0 (gi g8 130 0 0)) fun g9 => m_X7_office_L139 FU g9 x1 (nI 0)) rfl ?_
  refine j_iload_n (q := 87) (i := 2) (n := 2) dX7_office_86 rfl rfl rfl ?_
  refine j_if_ne (tgt := 116) (q := 90) dX7_office_87 rfl rfl ?_ ?_
  · refine j_aload_n (q := 117) (i := 0) (n := 0) dX7_office_116 rfl rfl rfl ?_
    refine j_iconst (q := 118) (v := (nI 0)) dX7_office_117 rfl rfl ?_
    refine p_X7_length (q := 121) dm_le wF_X7_71 (Nat.le_of_ble_eq_true rfl) dX7_office_118 rfl (fun g7 => ?_)
    refine j_aload_n (q := 122) (i := 0) (n := 0) dX7_office_121 rfl rfl rfl ?_
    refine j_aload_n (q := 123) (i := 0) (n := 0) dX7_office_122 rfl rfl rfl ?_
    refine g_X7_newMany (q := 126) wF_X7_111 (Nat.le_of_ble_eq_true rfl) dX7_office_123 rfl ?_
    refine p_X7_jobs (q := 129) dm_le wF_X7_66 (Nat.le_of_ble_eq_true rfl) dX7_office_126 rfl (fun g8 => ?_)
    refine j_aload_n (q := 130) (i := 0) (n := 0) dX7_office_129 rfl rfl rfl ?_
    refine j_aload_n (q := 131) (i := 0) (n := 0) dX7_office_130 rfl rfl rfl ?_
    refine g_X7_newBins (q := 134) wF_X7_121 (Nat.le_of_ble_eq_true rfl) dX7_office_131 rfl ?_
    refine p_X7_bins (q := 137) dm_le wF_X7_25 (Nat.le_of_ble_eq_true rfl) dX7_office_134 rfl (fun g9 => ?_)
    refine j_iconst (q := 138) (v := (nI 0)) dX7_office_137 rfl rfl ?_
    refine j_istore_n (q := 139) (n := 3) (lv' := [(3, .int (nI 0)), (0, .ref (za z 77 0)), (1, .int x1), (2, .int x2)]) dX7_office_138 rfl (Nat.le_of_ble_eq_true rfl) rfl rfl ?_
    refine j_lv [1, 2, 0] (lv' := [(0, .ref (za z 77 0)), (1, .int x1), (3, .int (nI 0))]) rfl ?_
    exact t_X7_office_L139 z gx FU g9 x1 (nI 0)
  · refine j_bipush (q := 92) (v := (-10)) dX7_office_90 rfl rfl ?_
    refine j_aload_n (q := 93) (i := 0) (n := 0) dX7_office_92 rfl rfl rfl ?_
    refine g_X7_from (q := 96) wF_X7_88 (Nat.le_of_ble_eq_true rfl) dX7_office_93 rfl ?_
    refine j_aload_n (q := 97) (i := 0) (n := 0) dX7_office_96 rfl rfl rfl ?_
    refine g_X7_length (q := 100) wF_X7_71 (Nat.le_of_ble_eq_true rfl) dX7_office_97 rfl ?_
    refine j_icmp_ge (tgt := 110) (q := 103) dX7_office_100 rfl rfl ?_ ?_
    · refine j_aload_n (q := 111) (i := 0) (n := 0) dX7_office_110 rfl rfl rfl ?_
      refine g_X7_length (q := 114) wF_X7_71 (Nat.le_of_ble_eq_true rfl) dX7_office_111 rfl ?_
      refine j_isub (q := 115) dX7_office_114 rfl ?_
      exact j_ret (x := ((-10) - (gi g 124 0 0), g)) dX7_office_115 ⟨trivial, rfl, rfl⟩
    · refine j_aload_n (q := 104) (i := 0) (n := 0) dX7_office_103 rfl rfl rfl ?_
      refine g_X7_from (q := 107) wF_X7_88 (Nat.le_of_ble_eq_true rfl) dX7_office_104 rfl ?_
      refine j_goto (tgt := 114) dX7_office_107 rfl ?_
      refine j_isub (q := 115) dX7_office_114 rfl ?_
      exact j_ret (x := ((-10) - (gi g 126 0 0), g)) dX7_office_115 ⟨trivial, rfl, rfl⟩
def m_X7_office_L56 : Nat → zG → Int32 → Int32 → Option (Int32 × zG)
  | 0, _, _, _ => none
  | f + 1, g, x1, x2 => if x2 = (nI 0) then m_X7_office_B86 g x1 x2 else if (gi g 127 0 0) = (nI 0) then m_X7_office_B86 g x1 x2 else sb (m_X7_readItem g) fun r16 g17 => if r16 = (nI 0) then m_X7_office_L56 f g17 x1 r16 else (m_X7_next g17).bind fun g19 => m_X7_office_L56 f g19 (x1 + (nI 1)) r16
set_option maxRecDepth 100000 in
set_option maxHeartbeats 4000000 in
theorem t_X7_office_L56 {p : Program} {l : Launch} {e : Env} {s : State} {m : MethodId} {args : Array Value} {below : List Frame} {meth : Method} {c : Code} {cells slots : Nat} {Q : (Int32 × zG) → State → Prop} (z : zE) (gx : zG) : ∀ (f : Nat) (g : zG) (x1 : Int32) (x2 : Int32), zJ dm p l e rm_X7_office s m args below meth c cX7_office 4 yX7_office.cls z cells slots (wm z gx) (fn (fun _ => True) (fun x => x.2) osi) .ireturn Q 56 [(0, .ref (za z 77 0)), (1, .int x1), (2, .int x2)] [] g (m_X7_office_L56 f g x1 x2) := by
  intro f
  induction f with
  | zero => intro g x1 x2; exact j_none
  | succ f ih =>
    intro g x1 x2
    refine j_eq (M2 := if x2 = (nI 0) then m_X7_office_B86 g x1 x2 else if (gi g 127 0 0) = (nI 0) then m_X7_office_B86 g x1 x2 else sb (m_X7_readItem g) fun r16 g17 => if r16 = (nI 0) then m_X7_office_L56 f g17 x1 r16 else (m_X7_next g17).bind fun g19 => m_X7_office_L56 f g19 (x1 + (nI 1)) r16) rfl ?_
    refine j_iload_n (q := 57) (i := 2) (n := 2) dX7_office_56 rfl rfl rfl ?_
    refine j_if_eq (tgt := 86) (q := 60) dX7_office_57 rfl rfl ?_ ?_
    · exact t_X7_office_B86 z gx g x1 x2
    · refine j_aload_n (q := 61) (i := 0) (n := 0) dX7_office_60 rfl rfl rfl ?_
      refine g_X7_sort (q := 64) wF_X7_91 (Nat.le_of_ble_eq_true rfl) dX7_office_61 rfl ?_
      refine j_if_eq (tgt := 86) (q := 67) dX7_office_64 rfl rfl ?_ ?_
      · exact t_X7_office_B86 z gx g x1 x2
      · refine j_aload_n (q := 68) (i := 0) (n := 0) dX7_office_67 rfl rfl rfl ?_
        refine j_ss (q := 71) (rn_V (R := rm_X7_office) (As := []) (rest := []) (c_X7_readItem _ z gx g) cv_X7_readItem wM_X7_130 ⟨rfl, rfl⟩ ⟨(Nat.le_of_ble_eq_true rfl), (Nat.le_of_ble_eq_true rfl)⟩ (Nat.le_of_ble_eq_true rfl) rfl rfl rfl (Nat.le_of_ble_eq_true rfl) dX7_office_68) rfl (fun r16 g17 => ?_)
        refine j_istore_n (q := 72) (n := 2) (lv' := [(2, .int r16), (0, .ref (za z 77 0)), (1, .int x1)]) dX7_office_71 rfl (Nat.le_of_ble_eq_true rfl) rfl rfl ?_
        refine j_iload_n (q := 73) (i := 0) (n := 2) dX7_office_72 rfl rfl rfl ?_
        refine j_if_eq (tgt := 56) (q := 76) dX7_office_73 rfl rfl ?_ ?_
        · refine j_lv [1, 2, 0] (lv' := [(0, .ref (za z 77 0)), (1, .int x1), (2, .int r16)]) rfl ?_
          exact ih g17 x1 r16
        · refine j_iinc (q := 79) (n := 1) (i := 2) (v := x1 + (nI 1)) (lv' := [(1, .int (x1 + (nI 1))), (2, .int r16), (0, .ref (za z 77 0))]) dX7_office_76 rfl rfl (Nat.le_of_ble_eq_true rfl) rfl rfl ?_
          refine j_aload_n (q := 80) (i := 2) (n := 0) dX7_office_79 rfl rfl rfl ?_
          refine j_sv (q := 83) (rn_V (R := rm_X7_office) (As := []) (rest := []) (c_X7_next _ z gx g17) cv_X7_next wM_X7_104 ⟨rfl, rfl⟩ ⟨(Nat.le_of_ble_eq_true rfl), (Nat.le_of_ble_eq_true rfl)⟩ (Nat.le_of_ble_eq_true rfl) rfl rfl rfl (Nat.le_of_ble_eq_true rfl) dX7_office_80) rfl (fun g19 => ?_)
          refine j_goto (tgt := 56) dX7_office_83 rfl ?_
          refine j_lv [2, 0, 1] (lv' := [(0, .ref (za z 77 0)), (1, .int (x1 + (nI 1))), (2, .int r16)]) rfl ?_
          exact ih g19 (x1 + (nI 1)) r16
def m_X7_office_B48 (g : zG) : Option (Int32 × zG) := (m_X7_next g).bind fun g6 => m_X7_office_L56 FU g6 (nI 0) (nI 1)
set_option maxRecDepth 100000 in
set_option maxHeartbeats 4000000 in
theorem t_X7_office_B48 {p : Program} {l : Launch} {e : Env} {s : State} {m : MethodId} {args : Array Value} {below : List Frame} {meth : Method} {c : Code} {cells slots : Nat} {Q : (Int32 × zG) → State → Prop} (z : zE) (gx : zG) (g : zG) : zJ dm p l e rm_X7_office s m args below meth c cX7_office 4 yX7_office.cls z cells slots (wm z gx) (fn (fun _ => True) (fun x => x.2) osi) .ireturn Q 48 [(0, .ref (za z 77 0))] [] g (m_X7_office_B48 g) := by
  refine j_eq (M2 := (m_X7_next g).bind fun g6 => m_X7_office_L56 FU g6 (nI 0) (nI 1)) rfl ?_
  refine j_iconst (q := 49) (v := (nI 0)) dX7_office_48 rfl rfl ?_
  refine j_istore_n (q := 50) (n := 1) (lv' := [(1, .int (nI 0)), (0, .ref (za z 77 0))]) dX7_office_49 rfl (Nat.le_of_ble_eq_true rfl) rfl rfl ?_
  refine j_iconst (q := 51) (v := (nI 1)) dX7_office_50 rfl rfl ?_
  refine j_istore_n (q := 52) (n := 2) (lv' := [(2, .int (nI 1)), (1, .int (nI 0)), (0, .ref (za z 77 0))]) dX7_office_51 rfl (Nat.le_of_ble_eq_true rfl) rfl rfl ?_
  refine j_aload_n (q := 53) (i := 2) (n := 0) dX7_office_52 rfl rfl rfl ?_
  refine j_sv (q := 56) (rn_V (R := rm_X7_office) (As := []) (rest := []) (c_X7_next _ z gx g) cv_X7_next wM_X7_104 ⟨rfl, rfl⟩ ⟨(Nat.le_of_ble_eq_true rfl), (Nat.le_of_ble_eq_true rfl)⟩ (Nat.le_of_ble_eq_true rfl) rfl rfl rfl (Nat.le_of_ble_eq_true rfl) dX7_office_53) rfl (fun g6 => ?_)
  refine j_lv [2, 1, 0] (lv' := [(0, .ref (za z 77 0)), (1, .int (nI 0)), (2, .int (nI 1))]) rfl ?_
  exact t_X7_office_L56 z gx FU g6 (nI 0) (nI 1)
def m_X7_office_L29 : Nat → zG → Int32 → Option (Int32 × zG)
  | 0, _, _ => none
  | f + 1, g, x1 => if x1 < (nI 3) then gd (inb x1 3 = true) (bd (ui g 109 0 x1.toNatClampNeg (nI 20)) fun g20 => m_X7_office_L29 f g20 (x1 + (nI 1))) else m_X7_office_B48 g
set_option maxRecDepth 100000 in
set_option maxHeartbeats 4000000 in
theorem t_X7_office_L29 {p : Program} {l : Launch} {e : Env} {s : State} {m : MethodId} {args : Array Value} {below : List Frame} {meth : Method} {c : Code} {cells slots : Nat} {Q : (Int32 × zG) → State → Prop} (z : zE) (gx : zG) : ∀ (f : Nat) (g : zG) (x1 : Int32), zJ dm p l e rm_X7_office s m args below meth c cX7_office 4 yX7_office.cls z cells slots (wm z gx) (fn (fun _ => True) (fun x => x.2) osi) .ireturn Q 29 [(0, .ref (za z 77 0)), (1, .int x1)] [] g (m_X7_office_L29 f g x1) := by
  intro f
  induction f with
  | zero => intro g x1; exact j_none
  | succ f ih =>
    intro g x1
    refine j_eq (M2 := if x1 < (nI 3) then gd (inb x1 3 = true) (bd (ui g 109 0 x1.toNatClampNeg (nI 20)) fun g20 => m_X7_office_L29 f g20 (x1 + (nI 1))) else m_X7_office_B48 g) rfl ?_
    refine j_iload_n (q := 30) (i := 1) (n := 1) dX7_office_29 rfl rfl rfl ?_
    refine j_iconst (q := 31) (v := (nI 3)) dX7_office_30 rfl rfl ?_
    refine j_icmp_ge (tgt := 48) (q := 34) dX7_office_31 rfl rfl ?_ ?_
    · refine j_lv [0] (lv' := [(0, .ref (za z 77 0))]) rfl ?_
      exact t_X7_office_B48 z gx g
    · refine j_aload_n (q := 35) (i := 0) (n := 0) dX7_office_34 rfl rfl rfl ?_
      refine g_X7_newTrays (q := 38) wF_X7_41 (Nat.le_of_ble_eq_true rfl) dX7_office_35 rfl ?_
      refine j_iload_n (q := 39) (i := 1) (n := 1) dX7_office_38 rfl rfl rfl ?_
      refine j_bipush (q := 41) (v := (nI 20)) dX7_office_39 rfl rfl ?_
      refine am_st (k := 109) (n := 3) (q := 42) dm_le isM_109 rfl (Nat.le_of_ble_eq_true rfl) dX7_office_41 rfl (fun g20 => ?_)
      refine j_iinc (q := 45) (n := 1) (i := 1) (v := x1 + (nI 1)) (lv' := [(1, .int (x1 + (nI 1))), (0, .ref (za z 77 0))]) dX7_office_42 rfl rfl (Nat.le_of_ble_eq_true rfl) rfl rfl ?_
      refine j_goto (tgt := 29) dX7_office_45 rfl ?_
      refine j_lv [1, 0] (lv' := [(0, .ref (za z 77 0)), (1, .int (x1 + (nI 1)))]) rfl ?_
      exact ih g20 (x1 + (nI 1))
def m_X7_office (g : zG) : Option (Int32 × zG) := bd (ui g 125 0 0 (nI 0)) fun g1 => bd (ui g1 132 0 0 (nI 0)) fun g2 => bd (ui g2 131 0 0 (nI 0)) fun g3 => bd (ui g3 129 0 0 (nI 200)) fun g4 => bd (ui g4 130 0 0 (nI 4)) fun g5 => m_X7_office_L29 FU g5 (nI 0)
set_option maxRecDepth 100000 in
set_option maxHeartbeats 4000000 in
theorem c_X7_office (l : Launch) (z : zE) (gx : zG) (g : zG) : ∀ x, m_X7_office g = some x → Ms dm l yX7_office cX7_office 4 (some .int) rm_X7_office z [.ref (za z 77 0)] ((wm z gx) g) (osi x) ((wm z gx) ((fun x => x.2) x)) := by
  refine ms_of (Wf := (wm z gx)) (ri := .ireturn) (out := osi) (nxt := (fun x => x.2)) (ok := (fun _ => True)) (lv := [(0, .ref (za z 77 0))]) (by decide) ⟨rfl, rfl⟩ (Nat.le_of_ble_eq_true rfl) rfl (en_i (out := fun x : Int32 × zG => x.1)) (fun p e s m below meth c => ?_)
  refine j_eq (M2 := bd (ui g 125 0 0 (nI 0)) fun g1 => bd (ui g1 132 0 0 (nI 0)) fun g2 => bd (ui g2 131 0 0 (nI 0)) fun g3 => bd (ui g3 129 0 0 (nI 200)) fun g4 => bd (ui g4 130 0 0 (nI 4)) fun g5 => m_X7_office_L29 FU g5 (nI 0)) rfl ?_
  refine j_aload_n (q := 1) (i := 0) (n := 0) dX7_office_0 rfl rfl rfl ?_
  refine j_iconst (q := 2) (v := (nI 0)) dX7_office_1 rfl rfl ?_
  refine p_X7_place (q := 5) dm_le wF_X7_74 (Nat.le_of_ble_eq_true rfl) dX7_office_2 rfl (fun g1 => ?_)
  refine j_aload_n (q := 6) (i := 0) (n := 0) dX7_office_5 rfl rfl rfl ?_
  refine j_iconst (q := 7) (v := (nI 0)) dX7_office_6 rfl rfl ?_
  refine p_X7_told (q := 10) dm_le wF_X7_114 (Nat.le_of_ble_eq_true rfl) dX7_office_7 rfl (fun g2 => ?_)
  refine j_aload_n (q := 11) (i := 0) (n := 0) dX7_office_10 rfl rfl rfl ?_
  refine j_iconst (q := 12) (v := (nI 0)) dX7_office_11 rfl rfl ?_
  refine p_X7_newMany (q := 15) dm_le wF_X7_111 (Nat.le_of_ble_eq_true rfl) dX7_office_12 rfl (fun g3 => ?_)
  refine j_aload_n (q := 16) (i := 0) (n := 0) dX7_office_15 rfl rfl rfl ?_
  refine j_sipush (q := 19) (v := (nI 200)) dX7_office_16 rfl rfl ?_
  refine p_X7_newInk (q := 22) dm_le wF_X7_56 (Nat.le_of_ble_eq_true rfl) dX7_office_19 rfl (fun g4 => ?_)
  refine j_aload_n (q := 23) (i := 0) (n := 0) dX7_office_22 rfl rfl rfl ?_
  refine j_iconst (q := 24) (v := (nI 4)) dX7_office_23 rfl rfl ?_
  refine p_X7_newBins (q := 27) dm_le wF_X7_121 (Nat.le_of_ble_eq_true rfl) dX7_office_24 rfl (fun g5 => ?_)
  refine j_iconst (q := 28) (v := (nI 0)) dX7_office_27 rfl rfl ?_
  refine j_istore_n (q := 29) (n := 1) (lv' := [(1, .int (nI 0)), (0, .ref (za z 77 0))]) dX7_office_28 rfl (Nat.le_of_ble_eq_true rfl) rfl rfl ?_
  refine j_lv [1, 0] (lv' := [(0, .ref (za z 77 0)), (1, .int (nI 0))]) rfl ?_
  exact t_X7_office_L29 z gx FU g5 (nI 0)
-- CopierJobsModel.leaves(I)I
abbrev rm_X7_leaves : Room := { frames := 0, cells := 0, slots := 0, locals := 0 }
theorem cv_X7_leaves : CV yX7_leaves cX7_leaves 2 (some .int) 1 := ⟨wC_X7_leaves, wI_X7_leaves, wS_X7_leaves, wZ_X7, by decide +kernel⟩
def m_X7_leaves (g : zG) (a0 : Int32) : Option (Int32) := gd (inb a0 6 = true) (if (gi g 102 0 a0.toNatClampNeg) = (nI 1) then gd (inb a0 6 = true) (gd (¬ ((nI 2) : Int32) = 0) (some (((gi g 100 0 a0.toNatClampNeg) + (nI 1)) / (nI 2)))) else gd (inb a0 6 = true) (some (gi g 100 0 a0.toNatClampNeg)))
set_option maxRecDepth 100000 in
set_option maxHeartbeats 4000000 in
theorem c_X7_leaves (l : Launch) (z : zE) (gx : zG) (g : zG) (a0 : Int32) : ∀ x, m_X7_leaves g a0 = some x → Ms dm l yX7_leaves cX7_leaves 2 (some .int) rm_X7_leaves z [.ref (za z 77 0), .int a0] ((wm z gx) g) (oi x) ((wm z gx) ((fun _ => g) x)) := by
  refine ms_of (Wf := (wm z gx)) (ri := .ireturn) (out := oi) (nxt := (fun _ => g)) (ok := (fun _ => True)) (lv := [(0, .ref (za z 77 0)), (1, .int a0)]) (by decide) ⟨rfl, rfl⟩ (Nat.le_of_ble_eq_true rfl) rfl (en_i (out := fun x => x)) (fun p e s m below meth c => ?_)
  refine j_eq (M2 := gd (inb a0 6 = true) (if (gi g 102 0 a0.toNatClampNeg) = (nI 1) then gd (inb a0 6 = true) (gd (¬ ((nI 2) : Int32) = 0) (some (((gi g 100 0 a0.toNatClampNeg) + (nI 1)) / (nI 2)))) else gd (inb a0 6 = true) (some (gi g 100 0 a0.toNatClampNeg)))) rfl ?_
  refine j_aload_n (q := 1) (i := 0) (n := 0) dX7_leaves_0 rfl rfl rfl ?_
  refine g_X7_both (q := 4) wF_X7_16 (Nat.le_of_ble_eq_true rfl) dX7_leaves_1 rfl ?_
  refine j_iload_n (q := 5) (i := 1) (n := 1) dX7_leaves_4 rfl rfl rfl ?_
  refine am_ld (k := 102) (n := 6) (q := 6) isM_102 rfl (Nat.le_of_ble_eq_true rfl) dX7_leaves_5 rfl ?_
  refine j_iconst (q := 7) (v := (nI 1)) dX7_leaves_6 rfl rfl ?_
  refine j_icmp_ne (tgt := 23) (q := 10) dX7_leaves_7 rfl rfl ?_ ?_
  · refine j_aload_n (q := 24) (i := 0) (n := 0) dX7_leaves_23 rfl rfl rfl ?_
    refine g_X7_pages (q := 27) wF_X7_7 (Nat.le_of_ble_eq_true rfl) dX7_leaves_24 rfl ?_
    refine j_iload_n (q := 28) (i := 1) (n := 1) dX7_leaves_27 rfl rfl rfl ?_
    refine am_ld (k := 100) (n := 6) (q := 29) isM_100 rfl (Nat.le_of_ble_eq_true rfl) dX7_leaves_28 rfl ?_
    exact j_ret (x := gi g 100 0 a0.toNatClampNeg) dX7_leaves_29 ⟨trivial, rfl, rfl⟩
  · refine j_aload_n (q := 11) (i := 0) (n := 0) dX7_leaves_10 rfl rfl rfl ?_
    refine g_X7_pages (q := 14) wF_X7_7 (Nat.le_of_ble_eq_true rfl) dX7_leaves_11 rfl ?_
    refine j_iload_n (q := 15) (i := 1) (n := 1) dX7_leaves_14 rfl rfl rfl ?_
    refine am_ld (k := 100) (n := 6) (q := 16) isM_100 rfl (Nat.le_of_ble_eq_true rfl) dX7_leaves_15 rfl ?_
    refine j_iconst (q := 17) (v := (nI 1)) dX7_leaves_16 rfl rfl ?_
    refine j_iadd (q := 18) dX7_leaves_17 rfl ?_
    refine j_iconst (q := 19) (v := (nI 2)) dX7_leaves_18 rfl rfl ?_
    refine j_idiv (q := 20) dX7_leaves_19 rfl ?_
    refine j_goto (tgt := 29) dX7_leaves_20 rfl ?_
    exact j_ret (x := ((gi g 100 0 a0.toNatClampNeg) + (nI 1)) / (nI 2)) dX7_leaves_29 ⟨trivial, rfl, rfl⟩
-- CopierJobsModel.allOf(I)I
abbrev rm_X7_allOf : Room := { frames := 1, cells := 0, slots := 0, locals := 21 }
theorem cv_X7_allOf : CV yX7_allOf cX7_allOf 2 (some .int) 1 := ⟨wC_X7_allOf, wI_X7_allOf, wS_X7_allOf, wZ_X7, by decide +kernel⟩
def m_X7_allOf (g : zG) (a0 : Int32) : Option (Int32) := (m_X7_leaves g a0).bind fun r1 => gd (inb a0 6 = true) (some (r1 * (gi g 101 0 a0.toNatClampNeg)))
set_option maxRecDepth 100000 in
set_option maxHeartbeats 4000000 in
theorem c_X7_allOf (l : Launch) (z : zE) (gx : zG) (g : zG) (a0 : Int32) : ∀ x, m_X7_allOf g a0 = some x → Ms dm l yX7_allOf cX7_allOf 2 (some .int) rm_X7_allOf z [.ref (za z 77 0), .int a0] ((wm z gx) g) (oi x) ((wm z gx) ((fun _ => g) x)) := by
  refine ms_of (Wf := (wm z gx)) (ri := .ireturn) (out := oi) (nxt := (fun _ => g)) (ok := (fun _ => True)) (lv := [(0, .ref (za z 77 0)), (1, .int a0)]) (by decide) ⟨rfl, rfl⟩ (Nat.le_of_ble_eq_true rfl) rfl (en_i (out := fun x => x)) (fun p e s m below meth c => ?_)
  refine j_eq (M2 := (m_X7_leaves g a0).bind fun r1 => gd (inb a0 6 = true) (some (r1 * (gi g 101 0 a0.toNatClampNeg)))) rfl ?_
  refine j_aload_n (q := 1) (i := 0) (n := 0) dX7_allOf_0 rfl rfl rfl ?_
  refine j_iload_n (q := 2) (i := 1) (n := 1) dX7_allOf_1 rfl rfl rfl ?_
  refine j_ci (q := 5) (rn_V (R := rm_X7_allOf) (As := [.int a0]) (rest := []) (c_X7_leaves _ z gx g a0) cv_X7_leaves wM_X7_139 ⟨rfl, rfl⟩ ⟨(Nat.le_of_ble_eq_true rfl), (Nat.le_of_ble_eq_true rfl)⟩ (Nat.le_of_ble_eq_true rfl) rfl rfl rfl (Nat.le_of_ble_eq_true rfl) dX7_allOf_2) rfl (fun r1 => ?_)
  refine j_aload_n (q := 6) (i := 0) (n := 0) dX7_allOf_5 rfl rfl rfl ?_
  refine g_X7_copies (q := 9) wF_X7_13 (Nat.le_of_ble_eq_true rfl) dX7_allOf_6 rfl ?_
  refine j_iload_n (q := 10) (i := 1) (n := 1) dX7_allOf_9 rfl rfl rfl ?_
  refine am_ld (k := 101) (n := 6) (q := 11) isM_101 rfl (Nat.le_of_ble_eq_true rfl) dX7_allOf_10 rfl ?_
  refine j_imul (q := 12) dX7_allOf_11 rfl ?_
  exact j_ret (x := r1 * (gi g 101 0 a0.toNatClampNeg)) dX7_allOf_12 ⟨trivial, rfl, rfl⟩
-- CopierJobsModel.copyOf(II)I
abbrev rm_X7_copyOf : Room := { frames := 1, cells := 0, slots := 0, locals := 21 }
theorem cv_X7_copyOf : CV yX7_copyOf cX7_copyOf 3 (some .int) 2 := ⟨wC_X7_copyOf, wI_X7_copyOf, wS_X7_copyOf, wZ_X7, by decide +kernel⟩
def m_X7_copyOf (g : zG) (a0 : Int32) (a1 : Int32) : Option (Int32) := gd (inb a0 6 = true) (if (gi g 103 0 a0.toNatClampNeg) = (nI 1) then (m_X7_leaves g a0).bind fun r1 => gd (¬ (r1 : Int32) = 0) (some (a1 / r1)) else gd (inb a0 6 = true) (gd (¬ ((gi g 101 0 a0.toNatClampNeg) : Int32) = 0) (some (a1 - a1 / (gi g 101 0 a0.toNatClampNeg) * (gi g 101 0 a0.toNatClampNeg)))))
set_option maxRecDepth 100000 in
set_option maxHeartbeats 4000000 in
theorem c_X7_copyOf (l : Launch) (z : zE) (gx : zG) (g : zG) (a0 : Int32) (a1 : Int32) : ∀ x, m_X7_copyOf g a0 a1 = some x → Ms dm l yX7_copyOf cX7_copyOf 3 (some .int) rm_X7_copyOf z [.ref (za z 77 0), .int a0, .int a1] ((wm z gx) g) (oi x) ((wm z gx) ((fun _ => g) x)) := by
  refine ms_of (Wf := (wm z gx)) (ri := .ireturn) (out := oi) (nxt := (fun _ => g)) (ok := (fun _ => True)) (lv := [(0, .ref (za z 77 0)), (1, .int a0), (2, .int a1)]) (by decide) ⟨rfl, rfl⟩ (Nat.le_of_ble_eq_true rfl) rfl (en_i (out := fun x => x)) (fun p e s m below meth c => ?_)
  refine j_eq (M2 := gd (inb a0 6 = true) (if (gi g 103 0 a0.toNatClampNeg) = (nI 1) then (m_X7_leaves g a0).bind fun r1 => gd (¬ (r1 : Int32) = 0) (some (a1 / r1)) else gd (inb a0 6 = true) (gd (¬ ((gi g 101 0 a0.toNatClampNeg) : Int32) = 0) (some (a1 - a1 / (gi g 101 0 a0.toNatClampNeg) * (gi g 101 0 a0.toNatClampNeg)))))) rfl ?_
  refine j_aload_n (q := 1) (i := 0) (n := 0) dX7_copyOf_0 rfl rfl rfl ?_
  refine g_X7_sorted (q := 4) wF_X7_19 (Nat.le_of_ble_eq_true rfl) dX7_copyOf_1 rfl ?_
  refine j_iload_n (q := 5) (i := 1) (n := 1) dX7_copyOf_4 rfl rfl rfl ?_
  refine am_ld (k := 103) (n := 6) (q := 6) isM_103 rfl (Nat.le_of_ble_eq_true rfl) dX7_copyOf_5 rfl ?_
  refine j_iconst (q := 7) (v := (nI 1)) dX7_copyOf_6 rfl rfl ?_
  refine j_icmp_ne (tgt := 20) (q := 10) dX7_copyOf_7 rfl rfl ?_ ?_
  · refine j_iload_n (q := 21) (i := 2) (n := 2) dX7_copyOf_20 rfl rfl rfl ?_
    refine j_aload_n (q := 22) (i := 0) (n := 0) dX7_copyOf_21 rfl rfl rfl ?_
    refine g_X7_copies (q := 25) wF_X7_13 (Nat.le_of_ble_eq_true rfl) dX7_copyOf_22 rfl ?_
    refine j_iload_n (q := 26) (i := 1) (n := 1) dX7_copyOf_25 rfl rfl rfl ?_
    refine am_ld (k := 101) (n := 6) (q := 27) isM_101 rfl (Nat.le_of_ble_eq_true rfl) dX7_copyOf_26 rfl ?_
    refine j_irem (q := 28) dX7_copyOf_27 rfl ?_
    exact j_ret (x := a1 - a1 / (gi g 101 0 a0.toNatClampNeg) * (gi g 101 0 a0.toNatClampNeg)) dX7_copyOf_28 ⟨trivial, rfl, rfl⟩
  · refine j_iload_n (q := 11) (i := 2) (n := 2) dX7_copyOf_10 rfl rfl rfl ?_
    refine j_aload_n (q := 12) (i := 0) (n := 0) dX7_copyOf_11 rfl rfl rfl ?_
    refine j_iload_n (q := 13) (i := 1) (n := 1) dX7_copyOf_12 rfl rfl rfl ?_
    refine j_ci (q := 16) (rn_V (R := rm_X7_copyOf) (As := [.int a0]) (rest := [.int a1]) (c_X7_leaves _ z gx g a0) cv_X7_leaves wM_X7_139 ⟨rfl, rfl⟩ ⟨(Nat.le_of_ble_eq_true rfl), (Nat.le_of_ble_eq_true rfl)⟩ (Nat.le_of_ble_eq_true rfl) rfl rfl rfl (Nat.le_of_ble_eq_true rfl) dX7_copyOf_13) rfl (fun r1 => ?_)
    refine j_idiv (q := 17) dX7_copyOf_16 rfl ?_
    refine j_goto (tgt := 28) dX7_copyOf_17 rfl ?_
    exact j_ret (x := a1 / r1) dX7_copyOf_28 ⟨trivial, rfl, rfl⟩
-- CopierJobsModel.leafOf(II)I
abbrev rm_X7_leafOf : Room := { frames := 1, cells := 0, slots := 0, locals := 21 }
theorem cv_X7_leafOf : CV yX7_leafOf cX7_leafOf 3 (some .int) 2 := ⟨wC_X7_leafOf, wI_X7_leafOf, wS_X7_leafOf, wZ_X7, by decide +kernel⟩
def m_X7_leafOf (g : zG) (a0 : Int32) (a1 : Int32) : Option (Int32) := gd (inb a0 6 = true) (if (gi g 103 0 a0.toNatClampNeg) = (nI 1) then (m_X7_leaves g a0).bind fun r1 => gd (¬ (r1 : Int32) = 0) (some (a1 - a1 / r1 * r1)) else gd (inb a0 6 = true) (gd (¬ ((gi g 101 0 a0.toNatClampNeg) : Int32) = 0) (some (a1 / (gi g 101 0 a0.toNatClampNeg)))))
set_option maxRecDepth 100000 in
set_option maxHeartbeats 4000000 in
theorem c_X7_leafOf (l : Launch) (z : zE) (gx : zG) (g : zG) (a0 : Int32) (a1 : Int32) : ∀ x, m_X7_leafOf g a0 a1 = some x → Ms dm l yX7_leafOf cX7_leafOf 3 (some .int) rm_X7_leafOf z [.ref (za z 77 0), .int a0, .int a1] ((wm z gx) g) (oi x) ((wm z gx) ((fun _ => g) x)) := by
  refine ms_of (Wf := (wm z gx)) (ri := .ireturn) (out := oi) (nxt := (fun _ => g)) (ok := (fun _ => True)) (lv := [(0, .ref (za z 77 0)), (1, .int a0), (2, .int a1)]) (by decide) ⟨rfl, rfl⟩ (Nat.le_of_ble_eq_true rfl) rfl (en_i (out := fun x => x)) (fun p e s m below meth c => ?_)
  refine j_eq (M2 := gd (inb a0 6 = true) (if (gi g 103 0 a0.toNatClampNeg) = (nI 1) then (m_X7_leaves g a0).bind fun r1 => gd (¬ (r1 : Int32) = 0) (some (a1 - a1 / r1 * r1)) else gd (inb a0 6 = true) (gd (¬ ((gi g 101 0 a0.toNatClampNeg) : Int32) = 0) (some (a1 / (gi g 101 0 a0.toNatClampNeg)))))) rfl ?_
  refine j_aload_n (q := 1) (i := 0) (n := 0) dX7_leafOf_0 rfl rfl rfl ?_
  refine g_X7_sorted (q := 4) wF_X7_19 (Nat.le_of_ble_eq_true rfl) dX7_leafOf_1 rfl ?_
  refine j_iload_n (q := 5) (i := 1) (n := 1) dX7_leafOf_4 rfl rfl rfl ?_
  refine am_ld (k := 103) (n := 6) (q := 6) isM_103 rfl (Nat.le_of_ble_eq_true rfl) dX7_leafOf_5 rfl ?_
  refine j_iconst (q := 7) (v := (nI 1)) dX7_leafOf_6 rfl rfl ?_
  refine j_icmp_ne (tgt := 20) (q := 10) dX7_leafOf_7 rfl rfl ?_ ?_
  · refine j_iload_n (q := 21) (i := 2) (n := 2) dX7_leafOf_20 rfl rfl rfl ?_
    refine j_aload_n (q := 22) (i := 0) (n := 0) dX7_leafOf_21 rfl rfl rfl ?_
    refine g_X7_copies (q := 25) wF_X7_13 (Nat.le_of_ble_eq_true rfl) dX7_leafOf_22 rfl ?_
    refine j_iload_n (q := 26) (i := 1) (n := 1) dX7_leafOf_25 rfl rfl rfl ?_
    refine am_ld (k := 101) (n := 6) (q := 27) isM_101 rfl (Nat.le_of_ble_eq_true rfl) dX7_leafOf_26 rfl ?_
    refine j_idiv (q := 28) dX7_leafOf_27 rfl ?_
    exact j_ret (x := a1 / (gi g 101 0 a0.toNatClampNeg)) dX7_leafOf_28 ⟨trivial, rfl, rfl⟩
  · refine j_iload_n (q := 11) (i := 2) (n := 2) dX7_leafOf_10 rfl rfl rfl ?_
    refine j_aload_n (q := 12) (i := 0) (n := 0) dX7_leafOf_11 rfl rfl rfl ?_
    refine j_iload_n (q := 13) (i := 1) (n := 1) dX7_leafOf_12 rfl rfl rfl ?_
    refine j_ci (q := 16) (rn_V (R := rm_X7_leafOf) (As := [.int a0]) (rest := [.int a1]) (c_X7_leaves _ z gx g a0) cv_X7_leaves wM_X7_139 ⟨rfl, rfl⟩ ⟨(Nat.le_of_ble_eq_true rfl), (Nat.le_of_ble_eq_true rfl)⟩ (Nat.le_of_ble_eq_true rfl) rfl rfl rfl (Nat.le_of_ble_eq_true rfl) dX7_leafOf_13) rfl (fun r1 => ?_)
    refine j_irem (q := 17) dX7_leafOf_16 rfl ?_
    refine j_goto (tgt := 28) dX7_leafOf_17 rfl ?_
    exact j_ret (x := a1 - a1 / r1 * r1) dX7_leafOf_28 ⟨trivial, rfl, rfl⟩
-- CopierJobsModel.frontOf(II)I
abbrev rm_X7_frontOf : Room := { frames := 2, cells := 0, slots := 0, locals := 43 }
theorem cv_X7_frontOf : CV yX7_frontOf cX7_frontOf 3 (some .int) 2 := ⟨wC_X7_frontOf, wI_X7_frontOf, wS_X7_frontOf, wZ_X7, by decide +kernel⟩
def m_X7_frontOf (g : zG) (a0 : Int32) (a1 : Int32) : Option (Int32) := gd (inb a0 6 = true) (if (gi g 102 0 a0.toNatClampNeg) = (nI 1) then (m_X7_leafOf g a0 a1).bind fun r2 => some (((nI 2) * r2) + (nI 1)) else (m_X7_leafOf g a0 a1).bind fun r1 => some (r1 + (nI 1)))
set_option maxRecDepth 100000 in
set_option maxHeartbeats 4000000 in
theorem c_X7_frontOf (l : Launch) (z : zE) (gx : zG) (g : zG) (a0 : Int32) (a1 : Int32) : ∀ x, m_X7_frontOf g a0 a1 = some x → Ms dm l yX7_frontOf cX7_frontOf 3 (some .int) rm_X7_frontOf z [.ref (za z 77 0), .int a0, .int a1] ((wm z gx) g) (oi x) ((wm z gx) ((fun _ => g) x)) := by
  refine ms_of (Wf := (wm z gx)) (ri := .ireturn) (out := oi) (nxt := (fun _ => g)) (ok := (fun _ => True)) (lv := [(0, .ref (za z 77 0)), (1, .int a0), (2, .int a1)]) (by decide) ⟨rfl, rfl⟩ (Nat.le_of_ble_eq_true rfl) rfl (en_i (out := fun x => x)) (fun p e s m below meth c => ?_)
  refine j_eq (M2 := gd (inb a0 6 = true) (if (gi g 102 0 a0.toNatClampNeg) = (nI 1) then (m_X7_leafOf g a0 a1).bind fun r2 => some (((nI 2) * r2) + (nI 1)) else (m_X7_leafOf g a0 a1).bind fun r1 => some (r1 + (nI 1)))) rfl ?_
  refine j_aload_n (q := 1) (i := 0) (n := 0) dX7_frontOf_0 rfl rfl rfl ?_
  refine g_X7_both (q := 4) wF_X7_16 (Nat.le_of_ble_eq_true rfl) dX7_frontOf_1 rfl ?_
  refine j_iload_n (q := 5) (i := 1) (n := 1) dX7_frontOf_4 rfl rfl rfl ?_
  refine am_ld (k := 102) (n := 6) (q := 6) isM_102 rfl (Nat.le_of_ble_eq_true rfl) dX7_frontOf_5 rfl ?_
  refine j_iconst (q := 7) (v := (nI 1)) dX7_frontOf_6 rfl rfl ?_
  refine j_icmp_ne (tgt := 23) (q := 10) dX7_frontOf_7 rfl rfl ?_ ?_
  · refine j_aload_n (q := 24) (i := 0) (n := 0) dX7_frontOf_23 rfl rfl rfl ?_
    refine j_iload_n (q := 25) (i := 1) (n := 1) dX7_frontOf_24 rfl rfl rfl ?_
    refine j_iload_n (q := 26) (i := 2) (n := 2) dX7_frontOf_25 rfl rfl rfl ?_
    refine j_ci (q := 29) (rn_V (R := rm_X7_frontOf) (As := [.int a0, .int a1]) (rest := []) (c_X7_leafOf _ z gx g a0 a1) cv_X7_leafOf wM_X7_143 ⟨rfl, rfl⟩ ⟨(Nat.le_of_ble_eq_true rfl), (Nat.le_of_ble_eq_true rfl)⟩ (Nat.le_of_ble_eq_true rfl) rfl rfl rfl (Nat.le_of_ble_eq_true rfl) dX7_frontOf_26) rfl (fun r1 => ?_)
    refine j_iconst (q := 30) (v := (nI 1)) dX7_frontOf_29 rfl rfl ?_
    refine j_iadd (q := 31) dX7_frontOf_30 rfl ?_
    exact j_ret (x := r1 + (nI 1)) dX7_frontOf_31 ⟨trivial, rfl, rfl⟩
  · refine j_iconst (q := 11) (v := (nI 2)) dX7_frontOf_10 rfl rfl ?_
    refine j_aload_n (q := 12) (i := 0) (n := 0) dX7_frontOf_11 rfl rfl rfl ?_
    refine j_iload_n (q := 13) (i := 1) (n := 1) dX7_frontOf_12 rfl rfl rfl ?_
    refine j_iload_n (q := 14) (i := 2) (n := 2) dX7_frontOf_13 rfl rfl rfl ?_
    refine j_ci (q := 17) (rn_V (R := rm_X7_frontOf) (As := [.int a0, .int a1]) (rest := [.int (nI 2)]) (c_X7_leafOf _ z gx g a0 a1) cv_X7_leafOf wM_X7_143 ⟨rfl, rfl⟩ ⟨(Nat.le_of_ble_eq_true rfl), (Nat.le_of_ble_eq_true rfl)⟩ (Nat.le_of_ble_eq_true rfl) rfl rfl rfl (Nat.le_of_ble_eq_true rfl) dX7_frontOf_14) rfl (fun r2 => ?_)
    refine j_imul (q := 18) dX7_frontOf_17 rfl ?_
    refine j_iconst (q := 19) (v := (nI 1)) dX7_frontOf_18 rfl rfl ?_
    refine j_iadd (q := 20) dX7_frontOf_19 rfl ?_
    refine j_goto (tgt := 31) dX7_frontOf_20 rfl ?_
    exact j_ret (x := ((nI 2) * r2) + (nI 1)) dX7_frontOf_31 ⟨trivial, rfl, rfl⟩
-- CopierJobsModel.backOf(II)I
abbrev rm_X7_backOf : Room := { frames := 3, cells := 0, slots := 0, locals := 65 }
theorem cv_X7_backOf : CV yX7_backOf cX7_backOf 4 (some .int) 2 := ⟨wC_X7_backOf, wI_X7_backOf, wS_X7_backOf, wZ_X7, by decide +kernel⟩
def m_X7_backOf (g : zG) (a0 : Int32) (a1 : Int32) : Option (Int32) := (m_X7_frontOf g a0 a1).bind fun r1 => gd (inb a0 6 = true) (if (gi g 102 0 a0.toNatClampNeg) = (nI 1) then gd (inb a0 6 = true) (if (gi g 100 0 a0.toNatClampNeg) < (r1 + (nI 1)) then some (nI 0) else some (r1 + (nI 1))) else some (nI 0))
set_option maxRecDepth 100000 in
set_option maxHeartbeats 4000000 in
theorem c_X7_backOf (l : Launch) (z : zE) (gx : zG) (g : zG) (a0 : Int32) (a1 : Int32) : ∀ x, m_X7_backOf g a0 a1 = some x → Ms dm l yX7_backOf cX7_backOf 4 (some .int) rm_X7_backOf z [.ref (za z 77 0), .int a0, .int a1] ((wm z gx) g) (oi x) ((wm z gx) ((fun _ => g) x)) := by
  refine ms_of (Wf := (wm z gx)) (ri := .ireturn) (out := oi) (nxt := (fun _ => g)) (ok := (fun _ => True)) (lv := [(0, .ref (za z 77 0)), (1, .int a0), (2, .int a1)]) (by decide) ⟨rfl, rfl⟩ (Nat.le_of_ble_eq_true rfl) rfl (en_i (out := fun x => x)) (fun p e s m below meth c => ?_)
  refine j_eq (M2 := (m_X7_frontOf g a0 a1).bind fun r1 => gd (inb a0 6 = true) (if (gi g 102 0 a0.toNatClampNeg) = (nI 1) then gd (inb a0 6 = true) (if (gi g 100 0 a0.toNatClampNeg) < (r1 + (nI 1)) then some (nI 0) else some (r1 + (nI 1))) else some (nI 0))) rfl ?_
  refine j_aload_n (q := 1) (i := 0) (n := 0) dX7_backOf_0 rfl rfl rfl ?_
  refine j_iload_n (q := 2) (i := 1) (n := 1) dX7_backOf_1 rfl rfl rfl ?_
  refine j_iload_n (q := 3) (i := 2) (n := 2) dX7_backOf_2 rfl rfl rfl ?_
  refine j_ci (q := 6) (rn_V (R := rm_X7_backOf) (As := [.int a0, .int a1]) (rest := []) (c_X7_frontOf _ z gx g a0 a1) cv_X7_frontOf wM_X7_147 ⟨rfl, rfl⟩ ⟨(Nat.le_of_ble_eq_true rfl), (Nat.le_of_ble_eq_true rfl)⟩ (Nat.le_of_ble_eq_true rfl) rfl rfl rfl (Nat.le_of_ble_eq_true rfl) dX7_backOf_3) rfl (fun r1 => ?_)
  refine j_iconst (q := 7) (v := (nI 1)) dX7_backOf_6 rfl rfl ?_
  refine j_iadd (q := 8) dX7_backOf_7 rfl ?_
  refine j_istore_n (q := 9) (n := 3) (lv' := [(3, .int (r1 + (nI 1))), (0, .ref (za z 77 0)), (1, .int a0), (2, .int a1)]) dX7_backOf_8 rfl (Nat.le_of_ble_eq_true rfl) rfl rfl ?_
  refine j_aload_n (q := 10) (i := 1) (n := 0) dX7_backOf_9 rfl rfl rfl ?_
  refine g_X7_both (q := 13) wF_X7_16 (Nat.le_of_ble_eq_true rfl) dX7_backOf_10 rfl ?_
  refine j_iload_n (q := 14) (i := 2) (n := 1) dX7_backOf_13 rfl rfl rfl ?_
  refine am_ld (k := 102) (n := 6) (q := 15) isM_102 rfl (Nat.le_of_ble_eq_true rfl) dX7_backOf_14 rfl ?_
  refine j_iconst (q := 16) (v := (nI 1)) dX7_backOf_15 rfl rfl ?_
  refine j_icmp_ne (tgt := 33) (q := 19) dX7_backOf_16 rfl rfl ?_ ?_
  · refine j_iconst (q := 34) (v := (nI 0)) dX7_backOf_33 rfl rfl ?_
    exact j_ret (x := (nI 0)) dX7_backOf_34 ⟨trivial, rfl, rfl⟩
  · refine j_iload_n (q := 20) (i := 0) (n := 3) dX7_backOf_19 rfl rfl rfl ?_
    refine j_aload_n (q := 21) (i := 1) (n := 0) dX7_backOf_20 rfl rfl rfl ?_
    refine g_X7_pages (q := 24) wF_X7_7 (Nat.le_of_ble_eq_true rfl) dX7_backOf_21 rfl ?_
    refine j_iload_n (q := 25) (i := 2) (n := 1) dX7_backOf_24 rfl rfl rfl ?_
    refine am_ld (k := 100) (n := 6) (q := 26) isM_100 rfl (Nat.le_of_ble_eq_true rfl) dX7_backOf_25 rfl ?_
    refine j_icmp_gt (tgt := 33) (q := 29) dX7_backOf_26 rfl rfl ?_ ?_
    · refine j_iconst (q := 34) (v := (nI 0)) dX7_backOf_33 rfl rfl ?_
      exact j_ret (x := (nI 0)) dX7_backOf_34 ⟨trivial, rfl, rfl⟩
    · refine j_iload_n (q := 30) (i := 0) (n := 3) dX7_backOf_29 rfl rfl rfl ?_
      refine j_goto (tgt := 34) dX7_backOf_30 rfl ?_
      exact j_ret (x := r1 + (nI 1)) dX7_backOf_34 ⟨trivial, rfl, rfl⟩
-- CopierJobsModel.binOf(II)I
abbrev rm_X7_binOf : Room := { frames := 2, cells := 0, slots := 0, locals := 43 }
theorem cv_X7_binOf : CV yX7_binOf cX7_binOf 3 (some .int) 2 := ⟨wC_X7_binOf, wI_X7_binOf, wS_X7_binOf, wZ_X7, by decide +kernel⟩
def m_X7_binOf (g : zG) (a0 : Int32) (a1 : Int32) : Option (Int32) := gd (inb a0 6 = true) (if (gi g 103 0 a0.toNatClampNeg) = (nI 1) then (m_X7_copyOf g a0 a1).bind fun r2 => gd (¬ ((gi g 121 0 0) : Int32) = 0) (some (r2 - r2 / (gi g 121 0 0) * (gi g 121 0 0))) else (m_X7_leafOf g a0 a1).bind fun r1 => gd (¬ ((gi g 121 0 0) : Int32) = 0) (some (r1 - r1 / (gi g 121 0 0) * (gi g 121 0 0))))
set_option maxRecDepth 100000 in
set_option maxHeartbeats 4000000 in
theorem c_X7_binOf (l : Launch) (z : zE) (gx : zG) (g : zG) (a0 : Int32) (a1 : Int32) : ∀ x, m_X7_binOf g a0 a1 = some x → Ms dm l yX7_binOf cX7_binOf 3 (some .int) rm_X7_binOf z [.ref (za z 77 0), .int a0, .int a1] ((wm z gx) g) (oi x) ((wm z gx) ((fun _ => g) x)) := by
  refine ms_of (Wf := (wm z gx)) (ri := .ireturn) (out := oi) (nxt := (fun _ => g)) (ok := (fun _ => True)) (lv := [(0, .ref (za z 77 0)), (1, .int a0), (2, .int a1)]) (by decide) ⟨rfl, rfl⟩ (Nat.le_of_ble_eq_true rfl) rfl (en_i (out := fun x => x)) (fun p e s m below meth c => ?_)
  refine j_eq (M2 := gd (inb a0 6 = true) (if (gi g 103 0 a0.toNatClampNeg) = (nI 1) then (m_X7_copyOf g a0 a1).bind fun r2 => gd (¬ ((gi g 121 0 0) : Int32) = 0) (some (r2 - r2 / (gi g 121 0 0) * (gi g 121 0 0))) else (m_X7_leafOf g a0 a1).bind fun r1 => gd (¬ ((gi g 121 0 0) : Int32) = 0) (some (r1 - r1 / (gi g 121 0 0) * (gi g 121 0 0))))) rfl ?_
  refine j_aload_n (q := 1) (i := 0) (n := 0) dX7_binOf_0 rfl rfl rfl ?_
  refine g_X7_sorted (q := 4) wF_X7_19 (Nat.le_of_ble_eq_true rfl) dX7_binOf_1 rfl ?_
  refine j_iload_n (q := 5) (i := 1) (n := 1) dX7_binOf_4 rfl rfl rfl ?_
  refine am_ld (k := 103) (n := 6) (q := 6) isM_103 rfl (Nat.le_of_ble_eq_true rfl) dX7_binOf_5 rfl ?_
  refine j_iconst (q := 7) (v := (nI 1)) dX7_binOf_6 rfl rfl ?_
  refine j_icmp_ne (tgt := 19) (q := 10) dX7_binOf_7 rfl rfl ?_ ?_
  · refine j_aload_n (q := 20) (i := 0) (n := 0) dX7_binOf_19 rfl rfl rfl ?_
    refine j_iload_n (q := 21) (i := 1) (n := 1) dX7_binOf_20 rfl rfl rfl ?_
    refine j_iload_n (q := 22) (i := 2) (n := 2) dX7_binOf_21 rfl rfl rfl ?_
    refine j_ci (q := 25) (rn_V (R := rm_X7_binOf) (As := [.int a0, .int a1]) (rest := []) (c_X7_leafOf _ z gx g a0 a1) cv_X7_leafOf wM_X7_143 ⟨rfl, rfl⟩ ⟨(Nat.le_of_ble_eq_true rfl), (Nat.le_of_ble_eq_true rfl)⟩ (Nat.le_of_ble_eq_true rfl) rfl rfl rfl (Nat.le_of_ble_eq_true rfl) dX7_binOf_22) rfl (fun r1 => ?_)
    refine j_aload_n (q := 26) (i := 0) (n := 0) dX7_binOf_25 rfl rfl rfl ?_
    refine g_X7_bins (q := 29) wF_X7_25 (Nat.le_of_ble_eq_true rfl) dX7_binOf_26 rfl ?_
    refine j_irem (q := 30) dX7_binOf_29 rfl ?_
    exact j_ret (x := r1 - r1 / (gi g 121 0 0) * (gi g 121 0 0)) dX7_binOf_30 ⟨trivial, rfl, rfl⟩
  · refine j_aload_n (q := 11) (i := 0) (n := 0) dX7_binOf_10 rfl rfl rfl ?_
    refine j_iload_n (q := 12) (i := 1) (n := 1) dX7_binOf_11 rfl rfl rfl ?_
    refine j_iload_n (q := 13) (i := 2) (n := 2) dX7_binOf_12 rfl rfl rfl ?_
    refine j_ci (q := 16) (rn_V (R := rm_X7_binOf) (As := [.int a0, .int a1]) (rest := []) (c_X7_copyOf _ z gx g a0 a1) cv_X7_copyOf wM_X7_150 ⟨rfl, rfl⟩ ⟨(Nat.le_of_ble_eq_true rfl), (Nat.le_of_ble_eq_true rfl)⟩ (Nat.le_of_ble_eq_true rfl) rfl rfl rfl (Nat.le_of_ble_eq_true rfl) dX7_binOf_13) rfl (fun r2 => ?_)
    refine j_goto (tgt := 25) dX7_binOf_16 rfl ?_
    refine j_aload_n (q := 26) (i := 0) (n := 0) dX7_binOf_25 rfl rfl rfl ?_
    refine g_X7_bins (q := 29) wF_X7_25 (Nat.le_of_ble_eq_true rfl) dX7_binOf_26 rfl ?_
    refine j_irem (q := 30) dX7_binOf_29 rfl ?_
    exact j_ret (x := r2 - r2 / (gi g 121 0 0) * (gi g 121 0 0)) dX7_binOf_30 ⟨trivial, rfl, rfl⟩
-- CopierJobsModel.sidesOf(II)I
abbrev rm_X7_sidesOf : Room := { frames := 4, cells := 0, slots := 0, locals := 88 }
theorem cv_X7_sidesOf : CV yX7_sidesOf cX7_sidesOf 3 (some .int) 2 := ⟨wC_X7_sidesOf, wI_X7_sidesOf, wS_X7_sidesOf, wZ_X7, by decide +kernel⟩
def m_X7_sidesOf (g : zG) (a0 : Int32) (a1 : Int32) : Option (Int32) := (m_X7_backOf g a0 a1).bind fun r1 => if (nI 0) < r1 then some (nI 2) else some (nI 1)
set_option maxRecDepth 100000 in
set_option maxHeartbeats 4000000 in
theorem c_X7_sidesOf (l : Launch) (z : zE) (gx : zG) (g : zG) (a0 : Int32) (a1 : Int32) : ∀ x, m_X7_sidesOf g a0 a1 = some x → Ms dm l yX7_sidesOf cX7_sidesOf 3 (some .int) rm_X7_sidesOf z [.ref (za z 77 0), .int a0, .int a1] ((wm z gx) g) (oi x) ((wm z gx) ((fun _ => g) x)) := by
  refine ms_of (Wf := (wm z gx)) (ri := .ireturn) (out := oi) (nxt := (fun _ => g)) (ok := (fun _ => True)) (lv := [(0, .ref (za z 77 0)), (1, .int a0), (2, .int a1)]) (by decide) ⟨rfl, rfl⟩ (Nat.le_of_ble_eq_true rfl) rfl (en_i (out := fun x => x)) (fun p e s m below meth c => ?_)
  refine j_eq (M2 := (m_X7_backOf g a0 a1).bind fun r1 => if (nI 0) < r1 then some (nI 2) else some (nI 1)) rfl ?_
  refine j_aload_n (q := 1) (i := 0) (n := 0) dX7_sidesOf_0 rfl rfl rfl ?_
  refine j_iload_n (q := 2) (i := 1) (n := 1) dX7_sidesOf_1 rfl rfl rfl ?_
  refine j_iload_n (q := 3) (i := 2) (n := 2) dX7_sidesOf_2 rfl rfl rfl ?_
  refine j_ci (q := 6) (rn_V (R := rm_X7_sidesOf) (As := [.int a0, .int a1]) (rest := []) (c_X7_backOf _ z gx g a0 a1) cv_X7_backOf wM_X7_153 ⟨rfl, rfl⟩ ⟨(Nat.le_of_ble_eq_true rfl), (Nat.le_of_ble_eq_true rfl)⟩ (Nat.le_of_ble_eq_true rfl) rfl rfl rfl (Nat.le_of_ble_eq_true rfl) dX7_sidesOf_3) rfl (fun r1 => ?_)
  refine j_if_le (tgt := 13) (q := 9) dX7_sidesOf_6 rfl rfl ?_ ?_
  · refine j_iconst (q := 14) (v := (nI 1)) dX7_sidesOf_13 rfl rfl ?_
    exact j_ret (x := (nI 1)) dX7_sidesOf_14 ⟨trivial, rfl, rfl⟩
  · refine j_iconst (q := 10) (v := (nI 2)) dX7_sidesOf_9 rfl rfl ?_
    refine j_goto (tgt := 14) dX7_sidesOf_10 rfl ?_
    exact j_ret (x := (nI 2)) dX7_sidesOf_14 ⟨trivial, rfl, rfl⟩
-- CopierJobsModel.sheet(III)I
abbrev rm_X7_sheet : Room := { frames := 4, cells := 0, slots := 0, locals := 88 }
theorem cv_X7_sheet : CV yX7_sheet cX7_sheet 4 (some .int) 3 := ⟨wC_X7_sheet, wI_X7_sheet, wS_X7_sheet, wZ_X7, by decide +kernel⟩
def m_X7_sheet (g : zG) (a0 : Int32) (a1 : Int32) (a2 : Int32) : Option (Int32) := (m_X7_isJob g a0).bind fun r1 => if r1 = (nI 0) then some (-1) else (m_X7_allOf g a0).bind fun r2 => (m_X7_in (Int32.toInt64 a1) 0 (Int32.toInt64 (r2 - (nI 1)))).bind fun r3 => if r3 = (nI 0) then some (-1) else if a2 = (nI 0) then ((m_X7_copyOf g a0 a1).bind fun r4 => some r4) else if a2 = (nI 1) then ((m_X7_frontOf g a0 a1).bind fun r6 => some r6) else if a2 = (nI 2) then ((m_X7_backOf g a0 a1).bind fun r8 => some r8) else if a2 = (nI 3) then ((m_X7_binOf g a0 a1).bind fun r10 => some r10) else (some (-1))
set_option maxRecDepth 100000 in
set_option maxHeartbeats 4000000 in
theorem c_X7_sheet (l : Launch) (z : zE) (gx : zG) (g : zG) (a0 : Int32) (a1 : Int32) (a2 : Int32) : ∀ x, m_X7_sheet g a0 a1 a2 = some x → Ms dm l yX7_sheet cX7_sheet 4 (some .int) rm_X7_sheet z [.ref (za z 77 0), .int a0, .int a1, .int a2] ((wm z gx) g) (oi x) ((wm z gx) ((fun _ => g) x)) := by
  refine ms_of (Wf := (wm z gx)) (ri := .ireturn) (out := oi) (nxt := (fun _ => g)) (ok := (fun _ => True)) (lv := [(0, .ref (za z 77 0)), (1, .int a0), (2, .int a1), (3, .int a2)]) (by decide) ⟨rfl, rfl⟩ (Nat.le_of_ble_eq_true rfl) rfl (en_i (out := fun x => x)) (fun p e s m below meth c => ?_)
  refine j_eq (M2 := (m_X7_isJob g a0).bind fun r1 => if r1 = (nI 0) then some (-1) else (m_X7_allOf g a0).bind fun r2 => (m_X7_in (Int32.toInt64 a1) 0 (Int32.toInt64 (r2 - (nI 1)))).bind fun r3 => if r3 = (nI 0) then some (-1) else if a2 = (nI 0) then ((m_X7_copyOf g a0 a1).bind fun r4 => some r4) else if a2 = (nI 1) then ((m_X7_frontOf g a0 a1).bind fun r6 => some r6) else if a2 = (nI 2) then ((m_X7_backOf g a0 a1).bind fun r8 => some r8) else if a2 = (nI 3) then ((m_X7_binOf g a0 a1).bind fun r10 => some r10) else (some (-1))) rfl ?_
  refine j_aload_n (q := 1) (i := 0) (n := 0) dX7_sheet_0 rfl rfl rfl ?_
  refine j_iload_n (q := 2) (i := 1) (n := 1) dX7_sheet_1 rfl rfl rfl ?_
  refine j_ci (q := 5) (rn_V (R := rm_X7_sheet) (As := [.int a0]) (rest := []) (c_X7_isJob _ z gx g a0) cv_X7_isJob wM_X7_156 ⟨rfl, rfl⟩ ⟨(Nat.le_of_ble_eq_true rfl), (Nat.le_of_ble_eq_true rfl)⟩ (Nat.le_of_ble_eq_true rfl) rfl rfl rfl (Nat.le_of_ble_eq_true rfl) dX7_sheet_2) rfl (fun r1 => ?_)
  refine j_if_eq (tgt := 25) (q := 8) dX7_sheet_5 rfl rfl ?_ ?_
  · refine j_iconst (q := 26) (v := (-1)) dX7_sheet_25 rfl rfl ?_
    exact j_ret (x := (-1)) dX7_sheet_26 ⟨trivial, rfl, rfl⟩
  · refine j_iload_n (q := 9) (i := 2) (n := 2) dX7_sheet_8 rfl rfl rfl ?_
    refine j_i2l (q := 10) dX7_sheet_9 rfl ?_
    refine j_lconst (q := 11) (v := 0) dX7_sheet_10 rfl rfl ?_
    refine j_aload_n (q := 12) (i := 0) (n := 0) dX7_sheet_11 rfl rfl rfl ?_
    refine j_iload_n (q := 13) (i := 1) (n := 1) dX7_sheet_12 rfl rfl rfl ?_
    refine j_ci (q := 16) (rn_V (R := rm_X7_sheet) (As := [.int a0]) (rest := [.long 0, .long (Int32.toInt64 a1)]) (c_X7_allOf _ z gx g a0) cv_X7_allOf wM_X7_160 ⟨rfl, rfl⟩ ⟨(Nat.le_of_ble_eq_true rfl), (Nat.le_of_ble_eq_true rfl)⟩ (Nat.le_of_ble_eq_true rfl) rfl rfl rfl (Nat.le_of_ble_eq_true rfl) dX7_sheet_13) rfl (fun r2 => ?_)
    refine j_iconst (q := 17) (v := (nI 1)) dX7_sheet_16 rfl rfl ?_
    refine j_isub (q := 18) dX7_sheet_17 rfl ?_
    refine j_i2l (q := 19) dX7_sheet_18 rfl ?_
    refine j_ci (q := 22) (rn_S (R := rm_X7_sheet) (As := [.long (Int32.toInt64 a1), .long 0, .long (Int32.toInt64 (r2 - (nI 1)))]) (rest := []) (c_X7_in _ z gx g (Int32.toInt64 a1) 0 (Int32.toInt64 (r2 - (nI 1)))) cv_X7_in wM_X7_62 ⟨rfl, rfl⟩ ⟨(Nat.le_of_ble_eq_true rfl), (Nat.le_of_ble_eq_true rfl)⟩ rfl (Nat.le_of_ble_eq_true rfl) dX7_sheet_19) rfl (fun r3 => ?_)
    refine j_if_ne (tgt := 27) (q := 25) dX7_sheet_22 rfl rfl ?_ ?_
    · refine j_iload_n (q := 28) (i := 3) (n := 3) dX7_sheet_27 rfl rfl rfl ?_
      refine j_case (v := (nI 0)) ?_ (fun h5 => ?_)
      · refine j_tableIn (tgt := 60) dX7_sheet_28 (by decide) (by decide) rfl rfl ?_
        refine j_aload_n (q := 61) (i := 0) (n := 0) dX7_sheet_60 rfl rfl rfl ?_
        refine j_iload_n (q := 62) (i := 1) (n := 1) dX7_sheet_61 rfl rfl rfl ?_
        refine j_iload_n (q := 63) (i := 2) (n := 2) dX7_sheet_62 rfl rfl rfl ?_
        refine j_ci (q := 66) (rn_V (R := rm_X7_sheet) (As := [.int a0, .int a1]) (rest := []) (c_X7_copyOf _ z gx g a0 a1) cv_X7_copyOf wM_X7_150 ⟨rfl, rfl⟩ ⟨(Nat.le_of_ble_eq_true rfl), (Nat.le_of_ble_eq_true rfl)⟩ (Nat.le_of_ble_eq_true rfl) rfl rfl rfl (Nat.le_of_ble_eq_true rfl) dX7_sheet_63) rfl (fun r4 => ?_)
        exact j_ret (x := r4) dX7_sheet_66 ⟨trivial, rfl, rfl⟩
      refine j_case (v := (nI 1)) ?_ (fun h7 => ?_)
      · refine j_tableIn (tgt := 67) dX7_sheet_28 (by decide) (by decide) rfl rfl ?_
        refine j_aload_n (q := 68) (i := 0) (n := 0) dX7_sheet_67 rfl rfl rfl ?_
        refine j_iload_n (q := 69) (i := 1) (n := 1) dX7_sheet_68 rfl rfl rfl ?_
        refine j_iload_n (q := 70) (i := 2) (n := 2) dX7_sheet_69 rfl rfl rfl ?_
        refine j_ci (q := 73) (rn_V (R := rm_X7_sheet) (As := [.int a0, .int a1]) (rest := []) (c_X7_frontOf _ z gx g a0 a1) cv_X7_frontOf wM_X7_147 ⟨rfl, rfl⟩ ⟨(Nat.le_of_ble_eq_true rfl), (Nat.le_of_ble_eq_true rfl)⟩ (Nat.le_of_ble_eq_true rfl) rfl rfl rfl (Nat.le_of_ble_eq_true rfl) dX7_sheet_70) rfl (fun r6 => ?_)
        exact j_ret (x := r6) dX7_sheet_73 ⟨trivial, rfl, rfl⟩
      refine j_case (v := (nI 2)) ?_ (fun h9 => ?_)
      · refine j_tableIn (tgt := 74) dX7_sheet_28 (by decide) (by decide) rfl rfl ?_
        refine j_aload_n (q := 75) (i := 0) (n := 0) dX7_sheet_74 rfl rfl rfl ?_
        refine j_iload_n (q := 76) (i := 1) (n := 1) dX7_sheet_75 rfl rfl rfl ?_
        refine j_iload_n (q := 77) (i := 2) (n := 2) dX7_sheet_76 rfl rfl rfl ?_
        refine j_ci (q := 80) (rn_V (R := rm_X7_sheet) (As := [.int a0, .int a1]) (rest := []) (c_X7_backOf _ z gx g a0 a1) cv_X7_backOf wM_X7_153 ⟨rfl, rfl⟩ ⟨(Nat.le_of_ble_eq_true rfl), (Nat.le_of_ble_eq_true rfl)⟩ (Nat.le_of_ble_eq_true rfl) rfl rfl rfl (Nat.le_of_ble_eq_true rfl) dX7_sheet_77) rfl (fun r8 => ?_)
        exact j_ret (x := r8) dX7_sheet_80 ⟨trivial, rfl, rfl⟩
      refine j_case (v := (nI 3)) ?_ (fun h11 => ?_)
      · refine j_tableIn (tgt := 81) dX7_sheet_28 (by decide) (by decide) rfl rfl ?_
        refine j_aload_n (q := 82) (i := 0) (n := 0) dX7_sheet_81 rfl rfl rfl ?_
        refine j_iload_n (q := 83) (i := 1) (n := 1) dX7_sheet_82 rfl rfl rfl ?_
        refine j_iload_n (q := 84) (i := 2) (n := 2) dX7_sheet_83 rfl rfl rfl ?_
        refine j_ci (q := 87) (rn_V (R := rm_X7_sheet) (As := [.int a0, .int a1]) (rest := []) (c_X7_binOf _ z gx g a0 a1) cv_X7_binOf wM_X7_163 ⟨rfl, rfl⟩ ⟨(Nat.le_of_ble_eq_true rfl), (Nat.le_of_ble_eq_true rfl)⟩ (Nat.le_of_ble_eq_true rfl) rfl rfl rfl (Nat.le_of_ble_eq_true rfl) dX7_sheet_84) rfl (fun r10 => ?_)
        exact j_ret (x := r10) dX7_sheet_87 ⟨trivial, rfl, rfl⟩
      refine j_tableOut (tgt := 88) dX7_sheet_28 (by have e0 := q_ne (n := 0) h5 rfl; have e1 := q_ne (n := 1) h7 rfl; have e2 := q_ne (n := 2) h9 rfl; have e3 := q_ne (n := 3) h11 rfl; omega) rfl ?_
      refine j_iconst (q := 89) (v := (-1)) dX7_sheet_88 rfl rfl ?_
      exact j_ret (x := (-1)) dX7_sheet_89 ⟨trivial, rfl, rfl⟩
    · refine j_iconst (q := 26) (v := (-1)) dX7_sheet_25 rfl rfl ?_
      exact j_ret (x := (-1)) dX7_sheet_26 ⟨trivial, rfl, rfl⟩
-- CopierJobsModel.isPage(II)Z
abbrev rm_X7_isPage : Room := { frames := 1, cells := 0, slots := 0, locals := 25 }
theorem cv_X7_isPage : CV yX7_isPage cX7_isPage 3 (some .boolean) 2 := ⟨wC_X7_isPage, wI_X7_isPage, wS_X7_isPage, wZ_X7, by decide +kernel⟩
def m_X7_isPage (g : zG) (a0 : Int32) (a1 : Int32) : Option (Int32) := gd (inb a0 6 = true) ((m_X7_in (Int32.toInt64 a1) 1 (Int32.toInt64 (gi g 100 0 a0.toNatClampNeg))).bind fun r1 => gd (isb r1 = true) (some r1))
set_option maxRecDepth 100000 in
set_option maxHeartbeats 4000000 in
theorem c_X7_isPage (l : Launch) (z : zE) (gx : zG) (g : zG) (a0 : Int32) (a1 : Int32) : ∀ x, m_X7_isPage g a0 a1 = some x → Ms dm l yX7_isPage cX7_isPage 3 (some .boolean) rm_X7_isPage z [.ref (za z 77 0), .int a0, .int a1] ((wm z gx) g) (oi x) ((wm z gx) ((fun _ => g) x)) := by
  refine ms_of (Wf := (wm z gx)) (ri := .ireturn) (out := oi) (nxt := (fun _ => g)) (ok := (fun x => isb x = true)) (lv := [(0, .ref (za z 77 0)), (1, .int a0), (2, .int a1)]) (by decide) ⟨rfl, rfl⟩ (Nat.le_of_ble_eq_true rfl) rfl (en_z (out := fun x => x)) (fun p e s m below meth c => ?_)
  refine j_eq (M2 := gd (inb a0 6 = true) ((m_X7_in (Int32.toInt64 a1) 1 (Int32.toInt64 (gi g 100 0 a0.toNatClampNeg))).bind fun r1 => gd (isb r1 = true) (some r1))) rfl ?_
  refine j_iload_n (q := 1) (i := 2) (n := 2) dX7_isPage_0 rfl rfl rfl ?_
  refine j_i2l (q := 2) dX7_isPage_1 rfl ?_
  refine j_lconst (q := 3) (v := 1) dX7_isPage_2 rfl rfl ?_
  refine j_aload_n (q := 4) (i := 0) (n := 0) dX7_isPage_3 rfl rfl rfl ?_
  refine g_X7_pages (q := 7) wF_X7_7 (Nat.le_of_ble_eq_true rfl) dX7_isPage_4 rfl ?_
  refine j_iload_n (q := 8) (i := 1) (n := 1) dX7_isPage_7 rfl rfl rfl ?_
  refine am_ld (k := 100) (n := 6) (q := 9) isM_100 rfl (Nat.le_of_ble_eq_true rfl) dX7_isPage_8 rfl ?_
  refine j_i2l (q := 10) dX7_isPage_9 rfl ?_
  refine j_ci (q := 13) (rn_S (R := rm_X7_isPage) (As := [.long (Int32.toInt64 a1), .long 1, .long (Int32.toInt64 (gi g 100 0 a0.toNatClampNeg))]) (rest := []) (c_X7_in _ z gx g (Int32.toInt64 a1) 1 (Int32.toInt64 (gi g 100 0 a0.toNatClampNeg))) cv_X7_in wM_X7_62 ⟨rfl, rfl⟩ ⟨(Nat.le_of_ble_eq_true rfl), (Nat.le_of_ble_eq_true rfl)⟩ rfl (Nat.le_of_ble_eq_true rfl) dX7_isPage_10) rfl (fun r1 => ?_)
  exact j_retz (x := r1) (r := r1) dX7_isPage_13 (fun h => ⟨h, rfl, rfl⟩)
-- CopierJobsModel.where(III)I
abbrev rm_X7_where : Room := { frames := 2, cells := 0, slots := 0, locals := 47 }
theorem cv_X7_where : CV yX7_where cX7_where 5 (some .int) 3 := ⟨wC_X7_where, wI_X7_where, wS_X7_where, wZ_X7, by decide +kernel⟩
def m_X7_where_B58 (a0 : Int32) (a1 : Int32) (a2 : Int32) (g : zG) (s0 : Int32) : Option (Int32) := gd (inb a0 6 = true) (if (gi g 103 0 a0.toNatClampNeg) = (nI 1) then (m_X7_leaves g a0).bind fun r4 => some ((a2 * r4) + s0) else gd (inb a0 6 = true) (some ((s0 * (gi g 101 0 a0.toNatClampNeg)) + a2)))
set_option maxRecDepth 100000 in
set_option maxHeartbeats 4000000 in
theorem t_X7_where_B58 {p : Program} {l : Launch} {e : Env} {s : State} {m : MethodId} {args : Array Value} {below : List Frame} {meth : Method} {c : Code} {cells slots : Nat} {Q : Int32 → State → Prop} (z : zE) (gx : zG) (a0 : Int32) (a1 : Int32) (a2 : Int32) (g : zG) (s0 : Int32) : zJ dm p l e rm_X7_where s m args below meth c cX7_where 5 yX7_where.cls z cells slots (wm z gx) (fn (fun _ => True) (fun _ => g) oi) .ireturn Q 58 [(0, .ref (za z 77 0)), (1, .int a0), (3, .int a2)] [.int s0] g (m_X7_where_B58 a0 a1 a2 g s0) := by
  refine j_eq (M2 := gd (inb a0 6 = true) (if (gi g 103 0 a0.toNatClampNeg) = (nI 1) then (m_X7_leaves g a0).bind fun r4 => some ((a2 * r4) + s0) else gd (inb a0 6 = true) (some ((s0 * (gi g 101 0 a0.toNatClampNeg)) + a2)))) rfl ?_
  refine j_istore (q := 60) (n := 4) (lv' := [(4, .int s0), (0, .ref (za z 77 0)), (1, .int a0), (3, .int a2)]) dX7_where_58 (Nat.le_of_ble_eq_true rfl) rfl rfl ?_
  refine j_aload_n (q := 61) (i := 1) (n := 0) dX7_where_60 rfl rfl rfl ?_
  refine g_X7_sorted (q := 64) wF_X7_19 (Nat.le_of_ble_eq_true rfl) dX7_where_61 rfl ?_
  refine j_iload_n (q := 65) (i := 2) (n := 1) dX7_where_64 rfl rfl rfl ?_
  refine am_ld (k := 103) (n := 6) (q := 66) isM_103 rfl (Nat.le_of_ble_eq_true rfl) dX7_where_65 rfl ?_
  refine j_iconst (q := 67) (v := (nI 1)) dX7_where_66 rfl rfl ?_
  refine j_icmp_ne (tgt := 83) (q := 70) dX7_where_67 rfl rfl ?_ ?_
  · refine j_iload (q := 85) (i := 0) (n := 4) dX7_where_83 rfl rfl ?_
    refine j_aload_n (q := 86) (i := 1) (n := 0) dX7_where_85 rfl rfl rfl ?_
    refine g_X7_copies (q := 89) wF_X7_13 (Nat.le_of_ble_eq_true rfl) dX7_where_86 rfl ?_
    refine j_iload_n (q := 90) (i := 2) (n := 1) dX7_where_89 rfl rfl rfl ?_
    refine am_ld (k := 101) (n := 6) (q := 91) isM_101 rfl (Nat.le_of_ble_eq_true rfl) dX7_where_90 rfl ?_
    refine j_imul (q := 92) dX7_where_91 rfl ?_
    refine j_iload_n (q := 93) (i := 3) (n := 3) dX7_where_92 rfl rfl rfl ?_
    refine j_iadd (q := 94) dX7_where_93 rfl ?_
    exact j_ret (x := (s0 * (gi g 101 0 a0.toNatClampNeg)) + a2) dX7_where_94 ⟨trivial, rfl, rfl⟩
  · refine j_iload_n (q := 71) (i := 3) (n := 3) dX7_where_70 rfl rfl rfl ?_
    refine j_aload_n (q := 72) (i := 1) (n := 0) dX7_where_71 rfl rfl rfl ?_
    refine j_iload_n (q := 73) (i := 2) (n := 1) dX7_where_72 rfl rfl rfl ?_
    refine j_ci (q := 76) (rn_V (R := rm_X7_where) (As := [.int a0]) (rest := [.int a2]) (c_X7_leaves _ z gx g a0) cv_X7_leaves wM_X7_139 ⟨rfl, rfl⟩ ⟨(Nat.le_of_ble_eq_true rfl), (Nat.le_of_ble_eq_true rfl)⟩ (Nat.le_of_ble_eq_true rfl) rfl rfl rfl (Nat.le_of_ble_eq_true rfl) dX7_where_73) rfl (fun r4 => ?_)
    refine j_imul (q := 77) dX7_where_76 rfl ?_
    refine j_iload (q := 79) (i := 0) (n := 4) dX7_where_77 rfl rfl ?_
    refine j_iadd (q := 80) dX7_where_79 rfl ?_
    refine j_goto (tgt := 94) dX7_where_80 rfl ?_
    exact j_ret (x := (a2 * r4) + s0) dX7_where_94 ⟨trivial, rfl, rfl⟩
def m_X7_where (g : zG) (a0 : Int32) (a1 : Int32) (a2 : Int32) : Option (Int32) := (m_X7_isJob g a0).bind fun r1 => if r1 = (nI 0) then some (-1) else (m_X7_isPage g a0 a1).bind fun r2 => if r2 = (nI 0) then some (-1) else gd (inb a0 6 = true) ((m_X7_in (Int32.toInt64 a2) 0 (Int32.toInt64 ((gi g 101 0 a0.toNatClampNeg) - (nI 1)))).bind fun r3 => if r3 = (nI 0) then some (-1) else gd (inb a0 6 = true) (if (gi g 102 0 a0.toNatClampNeg) = (nI 1) then gd (¬ ((nI 2) : Int32) = 0) (m_X7_where_B58 a0 a1 a2 g ((a1 - (nI 1)) / (nI 2))) else m_X7_where_B58 a0 a1 a2 g (a1 - (nI 1))))
set_option maxRecDepth 100000 in
set_option maxHeartbeats 4000000 in
theorem c_X7_where (l : Launch) (z : zE) (gx : zG) (g : zG) (a0 : Int32) (a1 : Int32) (a2 : Int32) : ∀ x, m_X7_where g a0 a1 a2 = some x → Ms dm l yX7_where cX7_where 5 (some .int) rm_X7_where z [.ref (za z 77 0), .int a0, .int a1, .int a2] ((wm z gx) g) (oi x) ((wm z gx) ((fun _ => g) x)) := by
  refine ms_of (Wf := (wm z gx)) (ri := .ireturn) (out := oi) (nxt := (fun _ => g)) (ok := (fun _ => True)) (lv := [(0, .ref (za z 77 0)), (1, .int a0), (2, .int a1), (3, .int a2)]) (by decide) ⟨rfl, rfl⟩ (Nat.le_of_ble_eq_true rfl) rfl (en_i (out := fun x => x)) (fun p e s m below meth c => ?_)
  refine j_eq (M2 := (m_X7_isJob g a0).bind fun r1 => if r1 = (nI 0) then some (-1) else (m_X7_isPage g a0 a1).bind fun r2 => if r2 = (nI 0) then some (-1) else gd (inb a0 6 = true) ((m_X7_in (Int32.toInt64 a2) 0 (Int32.toInt64 ((gi g 101 0 a0.toNatClampNeg) - (nI 1)))).bind fun r3 => if r3 = (nI 0) then some (-1) else gd (inb a0 6 = true) (if (gi g 102 0 a0.toNatClampNeg) = (nI 1) then gd (¬ ((nI 2) : Int32) = 0) (m_X7_where_B58 a0 a1 a2 g ((a1 - (nI 1)) / (nI 2))) else m_X7_where_B58 a0 a1 a2 g (a1 - (nI 1))))) rfl ?_
  refine j_aload_n (q := 1) (i := 0) (n := 0) dX7_where_0 rfl rfl rfl ?_
  refine j_iload_n (q := 2) (i := 1) (n := 1) dX7_where_1 rfl rfl rfl ?_
  refine j_ci (q := 5) (rn_V (R := rm_X7_where) (As := [.int a0]) (rest := []) (c_X7_isJob _ z gx g a0) cv_X7_isJob wM_X7_156 ⟨rfl, rfl⟩ ⟨(Nat.le_of_ble_eq_true rfl), (Nat.le_of_ble_eq_true rfl)⟩ (Nat.le_of_ble_eq_true rfl) rfl rfl rfl (Nat.le_of_ble_eq_true rfl) dX7_where_2) rfl (fun r1 => ?_)
  refine j_if_eq (tgt := 35) (q := 8) dX7_where_5 rfl rfl ?_ ?_
  · refine j_iconst (q := 36) (v := (-1)) dX7_where_35 rfl rfl ?_
    exact j_ret (x := (-1)) dX7_where_36 ⟨trivial, rfl, rfl⟩
  · refine j_aload_n (q := 9) (i := 0) (n := 0) dX7_where_8 rfl rfl rfl ?_
    refine j_iload_n (q := 10) (i := 1) (n := 1) dX7_where_9 rfl rfl rfl ?_
    refine j_iload_n (q := 11) (i := 2) (n := 2) dX7_where_10 rfl rfl rfl ?_
    refine j_ci (q := 14) (rn_V (R := rm_X7_where) (As := [.int a0, .int a1]) (rest := []) (c_X7_isPage _ z gx g a0 a1) cv_X7_isPage wM_X7_166 ⟨rfl, rfl⟩ ⟨(Nat.le_of_ble_eq_true rfl), (Nat.le_of_ble_eq_true rfl)⟩ (Nat.le_of_ble_eq_true rfl) rfl rfl rfl (Nat.le_of_ble_eq_true rfl) dX7_where_11) rfl (fun r2 => ?_)
    refine j_if_eq (tgt := 35) (q := 17) dX7_where_14 rfl rfl ?_ ?_
    · refine j_iconst (q := 36) (v := (-1)) dX7_where_35 rfl rfl ?_
      exact j_ret (x := (-1)) dX7_where_36 ⟨trivial, rfl, rfl⟩
    · refine j_iload_n (q := 18) (i := 3) (n := 3) dX7_where_17 rfl rfl rfl ?_
      refine j_i2l (q := 19) dX7_where_18 rfl ?_
      refine j_lconst (q := 20) (v := 0) dX7_where_19 rfl rfl ?_
      refine j_aload_n (q := 21) (i := 0) (n := 0) dX7_where_20 rfl rfl rfl ?_
      refine g_X7_copies (q := 24) wF_X7_13 (Nat.le_of_ble_eq_true rfl) dX7_where_21 rfl ?_
      refine j_iload_n (q := 25) (i := 1) (n := 1) dX7_where_24 rfl rfl rfl ?_
      refine am_ld (k := 101) (n := 6) (q := 26) isM_101 rfl (Nat.le_of_ble_eq_true rfl) dX7_where_25 rfl ?_
      refine j_iconst (q := 27) (v := (nI 1)) dX7_where_26 rfl rfl ?_
      refine j_isub (q := 28) dX7_where_27 rfl ?_
      refine j_i2l (q := 29) dX7_where_28 rfl ?_
      refine j_ci (q := 32) (rn_S (R := rm_X7_where) (As := [.long (Int32.toInt64 a2), .long 0, .long (Int32.toInt64 ((gi g 101 0 a0.toNatClampNeg) - (nI 1)))]) (rest := []) (c_X7_in _ z gx g (Int32.toInt64 a2) 0 (Int32.toInt64 ((gi g 101 0 a0.toNatClampNeg) - (nI 1)))) cv_X7_in wM_X7_62 ⟨rfl, rfl⟩ ⟨(Nat.le_of_ble_eq_true rfl), (Nat.le_of_ble_eq_true rfl)⟩ rfl (Nat.le_of_ble_eq_true rfl) dX7_where_29) rfl (fun r3 => ?_)
      refine j_if_ne (tgt := 37) (q := 35) dX7_where_32 rfl rfl ?_ ?_
      · refine j_aload_n (q := 38) (i := 0) (n := 0) dX7_where_37 rfl rfl rfl ?_
        refine g_X7_both (q := 41) wF_X7_16 (Nat.le_of_ble_eq_true rfl) dX7_where_38 rfl ?_
        refine j_iload_n (q := 42) (i := 1) (n := 1) dX7_where_41 rfl rfl rfl ?_
        refine am_ld (k := 102) (n := 6) (q := 43) isM_102 rfl (Nat.le_of_ble_eq_true rfl) dX7_where_42 rfl ?_
        refine j_iconst (q := 44) (v := (nI 1)) dX7_where_43 rfl rfl ?_
        refine j_icmp_ne (tgt := 55) (q := 47) dX7_where_44 rfl rfl ?_ ?_
        · refine j_iload_n (q := 56) (i := 2) (n := 2) dX7_where_55 rfl rfl rfl ?_
          refine j_iconst (q := 57) (v := (nI 1)) dX7_where_56 rfl rfl ?_
          refine j_isub (q := 58) dX7_where_57 rfl ?_
          refine j_lv [0, 1, 3] (lv' := [(0, .ref (za z 77 0)), (1, .int a0), (3, .int a2)]) rfl ?_
          exact t_X7_where_B58 z gx a0 a1 a2 g (a1 - (nI 1))
        · refine j_iload_n (q := 48) (i := 2) (n := 2) dX7_where_47 rfl rfl rfl ?_
          refine j_iconst (q := 49) (v := (nI 1)) dX7_where_48 rfl rfl ?_
          refine j_isub (q := 50) dX7_where_49 rfl ?_
          refine j_iconst (q := 51) (v := (nI 2)) dX7_where_50 rfl rfl ?_
          refine j_idiv (q := 52) dX7_where_51 rfl ?_
          refine j_goto (tgt := 58) dX7_where_52 rfl ?_
          refine j_lv [0, 1, 3] (lv' := [(0, .ref (za z 77 0)), (1, .int a0), (3, .int a2)]) rfl ?_
          exact t_X7_where_B58 z gx a0 a1 a2 g ((a1 - (nI 1)) / (nI 2))
      · refine j_iconst (q := 36) (v := (-1)) dX7_where_35 rfl rfl ?_
        exact j_ret (x := (-1)) dX7_where_36 ⟨trivial, rfl, rfl⟩
