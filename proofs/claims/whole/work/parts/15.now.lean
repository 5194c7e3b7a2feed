-- CopierJobs$Now.begin(LCopierJobs$Plan;)V
abbrev rm_X2_begin : Room := { frames := 1, cells := 0, slots := 0, locals := 23 }
theorem cv_X2_begin : CV yX2_begin cX2_begin 3 (none) 1 := ⟨wC_X2_begin, wI_X2_begin, wS_X2_begin, wZ_X2, by decide +kernel⟩
def m_X2_begin_B50 (i0 : Nat) (p0 : Nat) (g : zG) : Option (zG) := (m_J7_fill_53178 g 5 i0 (nI 0)).bind fun g5 => (m_J7_fill_53178 g5 6 i0 (-9)).bind fun g6 => (m_X6_copyRow g6 16 p0 7 i0).bind fun g7 => (m_J7_fill_53178 g7 8 i0 (nI 0)).bind fun g8 => some g8
set_option maxRecDepth 100000 in
set_option maxHeartbeats 4000000 in
theorem t_X2_begin_B50 {p : Program} {l : Launch} {e : Env} {s : State} {m : MethodId} {args : Array Value} {below : List Frame} {meth : Method} {c : Code} {cells slots : Nat} {Q : zG → State → Prop} (z : zE) (gm : zG) (i0 : Nat) (p0 : Nat) (hi0 : i0 < dm 72) (hp0 : p0 < dm 73) (g : zG) : zJ dm p l e rm_X2_begin s m args below meth c cX2_begin 3 yX2_begin.cls z cells slots (wx z gm) (fn (fun _ => True) (fun x => x) osv) .return_ Q 50 [(0, .ref (za z 72 i0)), (1, .ref (za z 73 p0))] [] g (m_X2_begin_B50 i0 p0 g) := by
  refine j_eq (M2 := (m_J7_fill_53178 g 5 i0 (nI 0)).bind fun g5 => (m_J7_fill_53178 g5 6 i0 (-9)).bind fun g6 => (m_X6_copyRow g6 16 p0 7 i0).bind fun g7 => (m_J7_fill_53178 g7 8 i0 (nI 0)).bind fun g8 => some g8) rfl ?_
  refine j_aload_n (q := 51) (i := 0) (n := 0) dX2_begin_50 rfl rfl rfl ?_
  refine g_X2_made (q := 54) wF_X2_15 hi0 dX2_begin_51 rfl ?_
  refine j_iconst (q := 55) (v := (nI 0)) dX2_begin_54 rfl rfl ?_
  refine j_sv (q := 58) (rn_S (R := rm_X2_begin) (As := [.ref (za z 5 i0), .int (nI 0)]) (rest := []) (c_J7_fill_53178 _ z gm g 5 i0 isX_5 hi0 (nI 0)) cv_J7_fill_53178 wM_X2_47 ⟨rfl, rfl⟩ ⟨(Nat.le_of_ble_eq_true rfl), (Nat.le_of_ble_eq_true rfl)⟩ rfl (Nat.le_of_ble_eq_true rfl) dX2_begin_55) rfl (fun g5 => ?_)
  refine j_aload_n (q := 59) (i := 0) (n := 0) dX2_begin_58 rfl rfl rfl ?_
  refine g_X2_ends (q := 62) wF_X2_18 hi0 dX2_begin_59 rfl ?_
  refine j_bipush (q := 64) (v := (-9)) dX2_begin_62 rfl rfl ?_
  refine j_sv (q := 67) (rn_S (R := rm_X2_begin) (As := [.ref (za z 6 i0), .int (-9)]) (rest := []) (c_J7_fill_53178 _ z gm g5 6 i0 isX_6 hi0 (-9)) cv_J7_fill_53178 wM_X2_47 ⟨rfl, rfl⟩ ⟨(Nat.le_of_ble_eq_true rfl), (Nat.le_of_ble_eq_true rfl)⟩ rfl (Nat.le_of_ble_eq_true rfl) dX2_begin_64) rfl (fun g6 => ?_)
  refine j_aload_n (q := 68) (i := 1) (n := 1) dX2_begin_67 rfl rfl rfl ?_
  refine gN_X3_trays (q := 71) wG_X2_53 hp0 dX2_begin_68 rfl ?_
  refine j_aload_n (q := 72) (i := 0) (n := 0) dX2_begin_71 rfl rfl rfl ?_
  refine g_X2_trays (q := 75) wF_X2_21 hi0 dX2_begin_72 rfl ?_
  refine j_sv (q := 78) (rn_N (R := rm_X2_begin) (As := [.ref (za z 16 p0), .ref (za z 7 i0)]) (rest := []) (c_X6_copyRow _ z gm g6 16 p0 isX_16 hp0 7 i0 isX_7 hi0) cv_X6_copyRow wO_X2_54 ⟨rfl, rfl⟩ ⟨(Nat.le_of_ble_eq_true rfl), (Nat.le_of_ble_eq_true rfl)⟩ rfl (Nat.le_of_ble_eq_true rfl) dX2_begin_75) rfl (fun g7 => ?_)
  refine j_aload_n (q := 79) (i := 0) (n := 0) dX2_begin_78 rfl rfl rfl ?_
  refine g_X2_bins (q := 82) wF_X2_24 hi0 dX2_begin_79 rfl ?_
  refine j_iconst (q := 83) (v := (nI 0)) dX2_begin_82 rfl rfl ?_
  refine j_sv (q := 86) (rn_S (R := rm_X2_begin) (As := [.ref (za z 8 i0), .int (nI 0)]) (rest := []) (c_J7_fill_53178 _ z gm g7 8 i0 isX_8 hi0 (nI 0)) cv_J7_fill_53178 wM_X2_47 ⟨rfl, rfl⟩ ⟨(Nat.le_of_ble_eq_true rfl), (Nat.le_of_ble_eq_true rfl)⟩ rfl (Nat.le_of_ble_eq_true rfl) dX2_begin_83) rfl (fun g8 => ?_)
  exact j_ret (x := g8) dX2_begin_86 ⟨trivial, rfl, rfl⟩
def m_X2_begin_L28 (i0 : Nat) (p0 : Nat) : Nat → zG → Int32 → Option (zG)
  | 0, _, _ => none
  | f + 1, g, x2 => if x2 < (nI 6) then gd (inb x2 6 = true) (bd (ui g 4 i0 x2.toNatClampNeg x2) fun g9 => m_X2_begin_L28 i0 p0 f g9 (x2 + (nI 1))) else m_X2_begin_B50 i0 p0 g
set_option maxRecDepth 100000 in
set_option maxHeartbeats 4000000 in
theorem t_X2_begin_L28 {p : Program} {l : Launch} {e : Env} {s : State} {m : MethodId} {args : Array Value} {below : List Frame} {meth : Method} {c : Code} {cells slots : Nat} {Q : zG → State → Prop} (z : zE) (gm : zG) (i0 : Nat) (p0 : Nat) (hi0 : i0 < dm 72) (hp0 : p0 < dm 73) : ∀ (f : Nat) (g : zG) (x2 : Int32), zJ dm p l e rm_X2_begin s m args below meth c cX2_begin 3 yX2_begin.cls z cells slots (wx z gm) (fn (fun _ => True) (fun x => x) osv) .return_ Q 28 [(0, .ref (za z 72 i0)), (1, .ref (za z 73 p0)), (2, .int x2)] [] g (m_X2_begin_L28 i0 p0 f g x2) := by
  intro f
  induction f with
  | zero => intro g x2; exact j_none
  | succ f ih =>
    intro g x2
    refine j_eq (M2 := if x2 < (nI 6) then gd (inb x2 6 = true) (bd (ui g 4 i0 x2.toNatClampNeg x2) fun g9 => m_X2_begin_L28 i0 p0 f g9 (x2 + (nI 1))) else m_X2_begin_B50 i0 p0 g) rfl ?_
    refine j_iload_n (q := 29) (i := 2) (n := 2) dX2_begin_28 rfl rfl rfl ?_
    refine j_aload_n (q := 30) (i := 0) (n := 0) dX2_begin_29 rfl rfl rfl ?_
    refine g_X2_queue (q := 33) wF_X2_9 hi0 dX2_begin_30 rfl ?_
    refine ax_len (k := 4) (v := nI 6) (q := 34) isX_4 rfl hi0 dX2_begin_33 rfl ?_
    refine j_icmp_ge (tgt := 50) (q := 37) dX2_begin_34 rfl rfl ?_ ?_
    · refine j_lv [0, 1] (lv' := [(0, .ref (za z 72 i0)), (1, .ref (za z 73 p0))]) rfl ?_
      exact t_X2_begin_B50 z gm i0 p0 hi0 hp0 g
    · refine j_aload_n (q := 38) (i := 0) (n := 0) dX2_begin_37 rfl rfl rfl ?_
      refine g_X2_queue (q := 41) wF_X2_9 hi0 dX2_begin_38 rfl ?_
      refine j_iload_n (q := 42) (i := 2) (n := 2) dX2_begin_41 rfl rfl rfl ?_
      refine j_iload_n (q := 43) (i := 2) (n := 2) dX2_begin_42 rfl rfl rfl ?_
      refine ax_st (k := 4) (n := 6) (q := 44) dm_le isX_4 rfl hi0 dX2_begin_43 rfl (fun g9 => ?_)
      refine j_iinc (q := 47) (n := 2) (i := 2) (v := x2 + (nI 1)) (lv' := [(2, .int (x2 + (nI 1))), (0, .ref (za z 72 i0)), (1, .ref (za z 73 p0))]) dX2_begin_44 rfl rfl (Nat.le_of_ble_eq_true rfl) rfl rfl ?_
      refine j_goto (tgt := 28) dX2_begin_47 rfl ?_
      refine j_lv [1, 2, 0] (lv' := [(0, .ref (za z 72 i0)), (1, .ref (za z 73 p0)), (2, .int (x2 + (nI 1)))]) rfl ?_
      exact ih g9 (x2 + (nI 1))
def m_X2_begin (g : zG) (i0 : Nat) (p0 : Nat) : Option (zG) := bd (ui g 0 i0 0 (nI 0)) fun g1 => bd (ui g1 1 i0 0 (gi g1 10 p0 0)) fun g2 => gd (isb (nI 0) = true) (bd (ui g2 2 i0 0 (nI 0)) fun g3 => bd (ui g3 3 i0 0 (gi g3 12 p0 0)) fun g4 => m_X2_begin_L28 i0 p0 FU g4 (nI 0))
set_option maxRecDepth 100000 in
set_option maxHeartbeats 4000000 in
theorem c_X2_begin (l : Launch) (z : zE) (gm : zG) (g : zG) (i0 : Nat) (hi0 : i0 < dm 72) (p0 : Nat) (hp0 : p0 < dm 73) : ∀ x, m_X2_begin g i0 p0 = some x → Ms dm l yX2_begin cX2_begin 3 (none) rm_X2_begin z [.ref (za z 72 i0), .ref (za z 73 p0)] ((wx z gm) g) (osv x) ((wx z gm) ((fun x => x) x)) := by
  refine ms_of (Wf := (wx z gm)) (ri := .return_) (out := osv) (nxt := (fun x => x)) (ok := (fun _ => True)) (lv := [(0, .ref (za z 72 i0)), (1, .ref (za z 73 p0))]) (by decide) ⟨rfl, rfl⟩ (Nat.le_of_ble_eq_true rfl) rfl (en_v ) (fun p e s m below meth c => ?_)
  refine j_eq (M2 := bd (ui g 0 i0 0 (nI 0)) fun g1 => bd (ui g1 1 i0 0 (gi g1 10 p0 0)) fun g2 => gd (isb (nI 0) = true) (bd (ui g2 2 i0 0 (nI 0)) fun g3 => bd (ui g3 3 i0 0 (gi g3 12 p0 0)) fun g4 => m_X2_begin_L28 i0 p0 FU g4 (nI 0))) rfl ?_
  refine j_aload_n (q := 1) (i := 0) (n := 0) dX2_begin_0 rfl rfl rfl ?_
  refine j_iconst (q := 2) (v := (nI 0)) dX2_begin_1 rfl rfl ?_
  refine p_X2_tick (q := 5) dm_le wF_X2_27 hi0 dX2_begin_2 rfl (fun g1 => ?_)
  refine j_aload_n (q := 6) (i := 0) (n := 0) dX2_begin_5 rfl rfl rfl ?_
  refine j_aload_n (q := 7) (i := 1) (n := 1) dX2_begin_6 rfl rfl rfl ?_
  refine gN_X3_toner (q := 10) wG_X2_31 hp0 dX2_begin_7 rfl ?_
  refine p_X2_toner (q := 13) dm_le wF_X2_36 hi0 dX2_begin_10 rfl (fun g2 => ?_)
  refine j_aload_n (q := 14) (i := 0) (n := 0) dX2_begin_13 rfl rfl rfl ?_
  refine j_iconst (q := 15) (v := (nI 0)) dX2_begin_14 rfl rfl ?_
  refine p_X2_half (q := 18) dm_le wF_X2_37 hi0 dX2_begin_15 rfl (fun g3 => ?_)
  refine j_aload_n (q := 19) (i := 0) (n := 0) dX2_begin_18 rfl rfl rfl ?_
  refine j_aload_n (q := 20) (i := 1) (n := 1) dX2_begin_19 rfl rfl rfl ?_
  refine gN_X3_jobCount (q := 23) wG_X2_41 hp0 dX2_begin_20 rfl ?_
  refine p_X2_queued (q := 26) dm_le wF_X2_44 hi0 dX2_begin_23 rfl (fun g4 => ?_)
  refine j_iconst (q := 27) (v := (nI 0)) dX2_begin_26 rfl rfl ?_
  refine j_istore_n (q := 28) (n := 2) (lv' := [(2, .int (nI 0)), (0, .ref (za z 72 i0)), (1, .ref (za z 73 p0))]) dX2_begin_27 rfl (Nat.le_of_ble_eq_true rfl) rfl rfl ?_
  refine j_lv [1, 2, 0] (lv' := [(0, .ref (za z 72 i0)), (1, .ref (za z 73 p0)), (2, .int (nI 0))]) rfl ?_
  exact t_X2_begin_L28 z gm i0 p0 hi0 hp0 FU g4 (nI 0)
-- CopierJobs$Now.copyFrom(LCopierJobs$Now;)V
abbrev rm_X2_copyFrom : Room := { frames := 1, cells := 0, slots := 0, locals := 22 }
theorem cv_X2_copyFrom : CV yX2_copyFrom cX2_copyFrom 2 (none) 1 := ⟨wC_X2_copyFrom, wI_X2_copyFrom, wS_X2_copyFrom, wZ_X2, by decide +kernel⟩
def m_X2_copyFrom (g : zG) (i0 : Nat) (i1 : Nat) : Option (zG) := bd (ui g 0 i0 0 (gi g 0 i1 0)) fun g1 => bd (ui g1 1 i0 0 (gi g1 1 i1 0)) fun g2 => gd (isb (gi g2 2 i1 0) = true) (bd (ui g2 2 i0 0 (gi g2 2 i1 0)) fun g3 => bd (ui g3 3 i0 0 (gi g3 3 i1 0)) fun g4 => (m_X6_copyRow g4 4 i1 4 i0).bind fun g5 => (m_X6_copyRow g5 5 i1 5 i0).bind fun g6 => (m_X6_copyRow g6 6 i1 6 i0).bind fun g7 => (m_X6_copyRow g7 7 i1 7 i0).bind fun g8 => (m_X6_copyRow g8 8 i1 8 i0).bind fun g9 => some g9)
set_option maxRecDepth 100000 in
set_option maxHeartbeats 4000000 in
theorem c_X2_copyFrom (l : Launch) (z : zE) (gm : zG) (g : zG) (i0 : Nat) (hi0 : i0 < dm 72) (i1 : Nat) (hi1 : i1 < dm 72) : ∀ x, m_X2_copyFrom g i0 i1 = some x → Ms dm l yX2_copyFrom cX2_copyFrom 2 (none) rm_X2_copyFrom z [.ref (za z 72 i0), .ref (za z 72 i1)] ((wx z gm) g) (osv x) ((wx z gm) ((fun x => x) x)) := by
  refine ms_of (Wf := (wx z gm)) (ri := .return_) (out := osv) (nxt := (fun x => x)) (ok := (fun _ => True)) (lv := [(0, .ref (za z 72 i0)), (1, .ref (za z 72 i1))]) (by decide) ⟨rfl, rfl⟩ (Nat.le_of_ble_eq_true rfl) rfl (en_v ) (fun p e s m below meth c => ?_)
  refine j_eq (M2 := bd (ui g 0 i0 0 (gi g 0 i1 0)) fun g1 => bd (ui g1 1 i0 0 (gi g1 1 i1 0)) fun g2 => gd (isb (gi g2 2 i1 0) = true) (bd (ui g2 2 i0 0 (gi g2 2 i1 0)) fun g3 => bd (ui g3 3 i0 0 (gi g3 3 i1 0)) fun g4 => (m_X6_copyRow g4 4 i1 4 i0).bind fun g5 => (m_X6_copyRow g5 5 i1 5 i0).bind fun g6 => (m_X6_copyRow g6 6 i1 6 i0).bind fun g7 => (m_X6_copyRow g7 7 i1 7 i0).bind fun g8 => (m_X6_copyRow g8 8 i1 8 i0).bind fun g9 => some g9)) rfl ?_
  refine j_aload_n (q := 1) (i := 0) (n := 0) dX2_copyFrom_0 rfl rfl rfl ?_
  refine j_aload_n (q := 2) (i := 1) (n := 1) dX2_copyFrom_1 rfl rfl rfl ?_
  refine g_X2_tick (q := 5) wF_X2_27 hi1 dX2_copyFrom_2 rfl ?_
  refine p_X2_tick (q := 8) dm_le wF_X2_27 hi0 dX2_copyFrom_5 rfl (fun g1 => ?_)
  refine j_aload_n (q := 9) (i := 0) (n := 0) dX2_copyFrom_8 rfl rfl rfl ?_
  refine j_aload_n (q := 10) (i := 1) (n := 1) dX2_copyFrom_9 rfl rfl rfl ?_
  refine g_X2_toner (q := 13) wF_X2_36 hi1 dX2_copyFrom_10 rfl ?_
  refine p_X2_toner (q := 16) dm_le wF_X2_36 hi0 dX2_copyFrom_13 rfl (fun g2 => ?_)
  refine j_aload_n (q := 17) (i := 0) (n := 0) dX2_copyFrom_16 rfl rfl rfl ?_
  refine j_aload_n (q := 18) (i := 1) (n := 1) dX2_copyFrom_17 rfl rfl rfl ?_
  refine g_X2_half (q := 21) wF_X2_37 hi1 dX2_copyFrom_18 rfl ?_
  refine p_X2_half (q := 24) dm_le wF_X2_37 hi0 dX2_copyFrom_21 rfl (fun g3 => ?_)
  refine j_aload_n (q := 25) (i := 0) (n := 0) dX2_copyFrom_24 rfl rfl rfl ?_
  refine j_aload_n (q := 26) (i := 1) (n := 1) dX2_copyFrom_25 rfl rfl rfl ?_
  refine g_X2_queued (q := 29) wF_X2_44 hi1 dX2_copyFrom_26 rfl ?_
  refine p_X2_queued (q := 32) dm_le wF_X2_44 hi0 dX2_copyFrom_29 rfl (fun g4 => ?_)
  refine j_aload_n (q := 33) (i := 1) (n := 1) dX2_copyFrom_32 rfl rfl rfl ?_
  refine g_X2_queue (q := 36) wF_X2_9 hi1 dX2_copyFrom_33 rfl ?_
  refine j_aload_n (q := 37) (i := 0) (n := 0) dX2_copyFrom_36 rfl rfl rfl ?_
  refine g_X2_queue (q := 40) wF_X2_9 hi0 dX2_copyFrom_37 rfl ?_
  refine j_sv (q := 43) (rn_N (R := rm_X2_copyFrom) (As := [.ref (za z 4 i1), .ref (za z 4 i0)]) (rest := []) (c_X6_copyRow _ z gm g4 4 i1 isX_4 hi1 4 i0 isX_4 hi0) cv_X6_copyRow wO_X2_54 ⟨rfl, rfl⟩ ⟨(Nat.le_of_ble_eq_true rfl), (Nat.le_of_ble_eq_true rfl)⟩ rfl (Nat.le_of_ble_eq_true rfl) dX2_copyFrom_40) rfl (fun g5 => ?_)
  refine j_aload_n (q := 44) (i := 1) (n := 1) dX2_copyFrom_43 rfl rfl rfl ?_
  refine g_X2_made (q := 47) wF_X2_15 hi1 dX2_copyFrom_44 rfl ?_
  refine j_aload_n (q := 48) (i := 0) (n := 0) dX2_copyFrom_47 rfl rfl rfl ?_
  refine g_X2_made (q := 51) wF_X2_15 hi0 dX2_copyFrom_48 rfl ?_
  refine j_sv (q := 54) (rn_N (R := rm_X2_copyFrom) (As := [.ref (za z 5 i1), .ref (za z 5 i0)]) (rest := []) (c_X6_copyRow _ z gm g5 5 i1 isX_5 hi1 5 i0 isX_5 hi0) cv_X6_copyRow wO_X2_54 ⟨rfl, rfl⟩ ⟨(Nat.le_of_ble_eq_true rfl), (Nat.le_of_ble_eq_true rfl)⟩ rfl (Nat.le_of_ble_eq_true rfl) dX2_copyFrom_51) rfl (fun g6 => ?_)
  refine j_aload_n (q := 55) (i := 1) (n := 1) dX2_copyFrom_54 rfl rfl rfl ?_
  refine g_X2_ends (q := 58) wF_X2_18 hi1 dX2_copyFrom_55 rfl ?_
  refine j_aload_n (q := 59) (i := 0) (n := 0) dX2_copyFrom_58 rfl rfl rfl ?_
  refine g_X2_ends (q := 62) wF_X2_18 hi0 dX2_copyFrom_59 rfl ?_
  refine j_sv (q := 65) (rn_N (R := rm_X2_copyFrom) (As := [.ref (za z 6 i1), .ref (za z 6 i0)]) (rest := []) (c_X6_copyRow _ z gm g6 6 i1 isX_6 hi1 6 i0 isX_6 hi0) cv_X6_copyRow wO_X2_54 ⟨rfl, rfl⟩ ⟨(Nat.le_of_ble_eq_true rfl), (Nat.le_of_ble_eq_true rfl)⟩ rfl (Nat.le_of_ble_eq_true rfl) dX2_copyFrom_62) rfl (fun g7 => ?_)
  refine j_aload_n (q := 66) (i := 1) (n := 1) dX2_copyFrom_65 rfl rfl rfl ?_
  refine g_X2_trays (q := 69) wF_X2_21 hi1 dX2_copyFrom_66 rfl ?_
  refine j_aload_n (q := 70) (i := 0) (n := 0) dX2_copyFrom_69 rfl rfl rfl ?_
  refine g_X2_trays (q := 73) wF_X2_21 hi0 dX2_copyFrom_70 rfl ?_
  refine j_sv (q := 76) (rn_N (R := rm_X2_copyFrom) (As := [.ref (za z 7 i1), .ref (za z 7 i0)]) (rest := []) (c_X6_copyRow _ z gm g7 7 i1 isX_7 hi1 7 i0 isX_7 hi0) cv_X6_copyRow wO_X2_54 ⟨rfl, rfl⟩ ⟨(Nat.le_of_ble_eq_true rfl), (Nat.le_of_ble_eq_true rfl)⟩ rfl (Nat.le_of_ble_eq_true rfl) dX2_copyFrom_73) rfl (fun g8 => ?_)
  refine j_aload_n (q := 77) (i := 1) (n := 1) dX2_copyFrom_76 rfl rfl rfl ?_
  refine g_X2_bins (q := 80) wF_X2_24 hi1 dX2_copyFrom_77 rfl ?_
  refine j_aload_n (q := 81) (i := 0) (n := 0) dX2_copyFrom_80 rfl rfl rfl ?_
  refine g_X2_bins (q := 84) wF_X2_24 hi0 dX2_copyFrom_81 rfl ?_
  refine j_sv (q := 87) (rn_N (R := rm_X2_copyFrom) (As := [.ref (za z 8 i1), .ref (za z 8 i0)]) (rest := []) (c_X6_copyRow _ z gm g8 8 i1 isX_8 hi1 8 i0 isX_8 hi0) cv_X6_copyRow wO_X2_54 ⟨rfl, rfl⟩ ⟨(Nat.le_of_ble_eq_true rfl), (Nat.le_of_ble_eq_true rfl)⟩ rfl (Nat.le_of_ble_eq_true rfl) dX2_copyFrom_84) rfl (fun g9 => ?_)
  exact j_ret (x := g9) dX2_copyFrom_87 ⟨trivial, rfl, rfl⟩
-- CopierJobs$Now.madeOf(I)I
abbrev rm_X2_madeOf : Room := { frames := 1, cells := 0, slots := 0, locals := 21 }
theorem cv_X2_madeOf : CV yX2_madeOf cX2_madeOf 2 (some .int) 1 := ⟨wC_X2_madeOf, wI_X2_madeOf, wS_X2_madeOf, wZ_X2, by decide +kernel⟩
def m_X2_madeOf (g : zG) (i0 : Nat) (a0 : Int32) : Option (Int32) := (m_X6_at g 5 i0 a0).bind fun r1 => some r1
set_option maxRecDepth 100000 in
set_option maxHeartbeats 4000000 in
theorem c_X2_madeOf (l : Launch) (z : zE) (gm : zG) (g : zG) (i0 : Nat) (hi0 : i0 < dm 72) (a0 : Int32) : ∀ x, m_X2_madeOf g i0 a0 = some x → Ms dm l yX2_madeOf cX2_madeOf 2 (some .int) rm_X2_madeOf z [.ref (za z 72 i0), .int a0] ((wx z gm) g) (oi x) ((wx z gm) ((fun _ => g) x)) := by
  refine ms_of (Wf := (wx z gm)) (ri := .ireturn) (out := oi) (nxt := (fun _ => g)) (ok := (fun _ => True)) (lv := [(0, .ref (za z 72 i0)), (1, .int a0)]) (by decide) ⟨rfl, rfl⟩ (Nat.le_of_ble_eq_true rfl) rfl (en_i (out := fun x => x)) (fun p e s m below meth c => ?_)
  refine j_eq (M2 := (m_X6_at g 5 i0 a0).bind fun r1 => some r1) rfl ?_
  refine j_aload_n (q := 1) (i := 0) (n := 0) dX2_madeOf_0 rfl rfl rfl ?_
  refine g_X2_made (q := 4) wF_X2_15 hi0 dX2_madeOf_1 rfl ?_
  refine j_iload_n (q := 5) (i := 1) (n := 1) dX2_madeOf_4 rfl rfl rfl ?_
  refine j_ci (q := 8) (rn_N (R := rm_X2_madeOf) (As := [.ref (za z 5 i0), .int a0]) (rest := []) (c_X6_at _ z gm g 5 i0 (Or.inl ⟨isX_5, hi0⟩) a0) cv_X6_at wO_X2_58 ⟨rfl, rfl⟩ ⟨(Nat.le_of_ble_eq_true rfl), (Nat.le_of_ble_eq_true rfl)⟩ rfl (Nat.le_of_ble_eq_true rfl) dX2_madeOf_5) rfl (fun r1 => ?_)
  exact j_ret (x := r1) dX2_madeOf_8 ⟨trivial, rfl, rfl⟩
-- CopierJobs$Now.endOf(I)I
abbrev rm_X2_endOf : Room := { frames := 1, cells := 0, slots := 0, locals := 21 }
theorem cv_X2_endOf : CV yX2_endOf cX2_endOf 2 (some .int) 1 := ⟨wC_X2_endOf, wI_X2_endOf, wS_X2_endOf, wZ_X2, by decide +kernel⟩
def m_X2_endOf (g : zG) (i0 : Nat) (a0 : Int32) : Option (Int32) := (m_X6_at g 6 i0 a0).bind fun r1 => some r1
set_option maxRecDepth 100000 in
set_option maxHeartbeats 4000000 in
theorem c_X2_endOf (l : Launch) (z : zE) (gm : zG) (g : zG) (i0 : Nat) (hi0 : i0 < dm 72) (a0 : Int32) : ∀ x, m_X2_endOf g i0 a0 = some x → Ms dm l yX2_endOf cX2_endOf 2 (some .int) rm_X2_endOf z [.ref (za z 72 i0), .int a0] ((wx z gm) g) (oi x) ((wx z gm) ((fun _ => g) x)) := by
  refine ms_of (Wf := (wx z gm)) (ri := .ireturn) (out := oi) (nxt := (fun _ => g)) (ok := (fun _ => True)) (lv := [(0, .ref (za z 72 i0)), (1, .int a0)]) (by decide) ⟨rfl, rfl⟩ (Nat.le_of_ble_eq_true rfl) rfl (en_i (out := fun x => x)) (fun p e s m below meth c => ?_)
  refine j_eq (M2 := (m_X6_at g 6 i0 a0).bind fun r1 => some r1) rfl ?_
  refine j_aload_n (q := 1) (i := 0) (n := 0) dX2_endOf_0 rfl rfl rfl ?_
  refine g_X2_ends (q := 4) wF_X2_18 hi0 dX2_endOf_1 rfl ?_
  refine j_iload_n (q := 5) (i := 1) (n := 1) dX2_endOf_4 rfl rfl rfl ?_
  refine j_ci (q := 8) (rn_N (R := rm_X2_endOf) (As := [.ref (za z 6 i0), .int a0]) (rest := []) (c_X6_at _ z gm g 6 i0 (Or.inl ⟨isX_6, hi0⟩) a0) cv_X6_at wO_X2_58 ⟨rfl, rfl⟩ ⟨(Nat.le_of_ble_eq_true rfl), (Nat.le_of_ble_eq_true rfl)⟩ rfl (Nat.le_of_ble_eq_true rfl) dX2_endOf_5) rfl (fun r1 => ?_)
  exact j_ret (x := r1) dX2_endOf_8 ⟨trivial, rfl, rfl⟩
-- CopierJobs$Now.firstJob()I
abbrev rm_X2_firstJob : Room := { frames := 1, cells := 0, slots := 0, locals := 21 }
theorem cv_X2_firstJob : CV yX2_firstJob cX2_firstJob 1 (some .int) 0 := ⟨wC_X2_firstJob, wI_X2_firstJob, wS_X2_firstJob, wZ_X2, by decide +kernel⟩
def m_X2_firstJob (g : zG) (i0 : Nat) : Option (Int32) := if (nI 0) < (gi g 3 i0 0) then (m_X6_at g 4 i0 (nI 0)).bind fun r1 => some r1 else some (-9)
set_option maxRecDepth 100000 in
set_option maxHeartbeats 4000000 in
theorem c_X2_firstJob (l : Launch) (z : zE) (gm : zG) (g : zG) (i0 : Nat) (hi0 : i0 < dm 72) : ∀ x, m_X2_firstJob g i0 = some x → Ms dm l yX2_firstJob cX2_firstJob 1 (some .int) rm_X2_firstJob z [.ref (za z 72 i0)] ((wx z gm) g) (oi x) ((wx z gm) ((fun _ => g) x)) := by
  refine ms_of (Wf := (wx z gm)) (ri := .ireturn) (out := oi) (nxt := (fun _ => g)) (ok := (fun _ => True)) (lv := [(0, .ref (za z 72 i0))]) (by decide) ⟨rfl, rfl⟩ (Nat.le_of_ble_eq_true rfl) rfl (en_i (out := fun x => x)) (fun p e s m below meth c => ?_)
  refine j_eq (M2 := if (nI 0) < (gi g 3 i0 0) then (m_X6_at g 4 i0 (nI 0)).bind fun r1 => some r1 else some (-9)) rfl ?_
  refine j_aload_n (q := 1) (i := 0) (n := 0) dX2_firstJob_0 rfl rfl rfl ?_
  refine g_X2_queued (q := 4) wF_X2_44 hi0 dX2_firstJob_1 rfl ?_
  refine j_if_le (tgt := 18) (q := 7) dX2_firstJob_4 rfl rfl ?_ ?_
  · refine j_bipush (q := 20) (v := (-9)) dX2_firstJob_18 rfl rfl ?_
    exact j_ret (x := (-9)) dX2_firstJob_20 ⟨trivial, rfl, rfl⟩
  · refine j_aload_n (q := 8) (i := 0) (n := 0) dX2_firstJob_7 rfl rfl rfl ?_
    refine g_X2_queue (q := 11) wF_X2_9 hi0 dX2_firstJob_8 rfl ?_
    refine j_iconst (q := 12) (v := (nI 0)) dX2_firstJob_11 rfl rfl ?_
    refine j_ci (q := 15) (rn_N (R := rm_X2_firstJob) (As := [.ref (za z 4 i0), .int (nI 0)]) (rest := []) (c_X6_at _ z gm g 4 i0 (Or.inl ⟨isX_4, hi0⟩) (nI 0)) cv_X6_at wO_X2_58 ⟨rfl, rfl⟩ ⟨(Nat.le_of_ble_eq_true rfl), (Nat.le_of_ble_eq_true rfl)⟩ rfl (Nat.le_of_ble_eq_true rfl) dX2_firstJob_12) rfl (fun r1 => ?_)
    refine j_goto (tgt := 20) dX2_firstJob_15 rfl ?_
    exact j_ret (x := r1) dX2_firstJob_20 ⟨trivial, rfl, rfl⟩
-- CopierJobs$Now.placeOf(I)I
abbrev rm_X2_placeOf : Room := { frames := 0, cells := 0, slots := 0, locals := 0 }
theorem cv_X2_placeOf : CV yX2_placeOf cX2_placeOf 3 (some .int) 1 := ⟨wC_X2_placeOf, wI_X2_placeOf, wS_X2_placeOf, wZ_X2, by decide +kernel⟩
def m_X2_placeOf_L2 (i0 : Nat) (a0 : Int32) (g : zG) : Nat → Int32 → Option (Int32)
  | 0, _ => none
  | f + 1, x2 => if x2 < (gi g 3 i0 0) then if x2 < (nI 6) then gd (inb x2 6 = true) (if (gi g 4 i0 x2.toNatClampNeg) = a0 then some x2 else m_X2_placeOf_L2 i0 a0 g f (x2 + (nI 1))) else some (-9) else some (-9)
set_option maxRecDepth 100000 in
set_option maxHeartbeats 4000000 in
theorem t_X2_placeOf_L2 {p : Program} {l : Launch} {e : Env} {s : State} {m : MethodId} {args : Array Value} {below : List Frame} {meth : Method} {c : Code} {cells slots : Nat} {Q : Int32 → State → Prop} (z : zE) (gm : zG) (i0 : Nat) (a0 : Int32) (hi0 : i0 < dm 72) (g : zG) : ∀ (f : Nat) (x2 : Int32), zJ dm p l e rm_X2_placeOf s m args below meth c cX2_placeOf 3 yX2_placeOf.cls z cells slots (wx z gm) (fn (fun _ => True) (fun _ => g) oi) .ireturn Q 2 [(0, .ref (za z 72 i0)), (1, .int a0), (2, .int x2)] [] g (m_X2_placeOf_L2 i0 a0 g f x2) := by
  intro f
  induction f with
  | zero => intro x2; exact j_none
  | succ f ih =>
    intro x2
    refine j_eq (M2 := if x2 < (gi g 3 i0 0) then if x2 < (nI 6) then gd (inb x2 6 = true) (if (gi g 4 i0 x2.toNatClampNeg) = a0 then some x2 else m_X2_placeOf_L2 i0 a0 g f (x2 + (nI 1))) else some (-9) else some (-9)) rfl ?_
    refine j_iload_n (q := 3) (i := 2) (n := 2) dX2_placeOf_2 rfl rfl rfl ?_
    refine j_aload_n (q := 4) (i := 0) (n := 0) dX2_placeOf_3 rfl rfl rfl ?_
    refine g_X2_queued (q := 7) wF_X2_44 hi0 dX2_placeOf_4 rfl ?_
    refine j_icmp_ge (tgt := 37) (q := 10) dX2_placeOf_7 rfl rfl ?_ ?_
    · refine j_bipush (q := 39) (v := (-9)) dX2_placeOf_37 rfl rfl ?_
      exact j_ret (x := (-9)) dX2_placeOf_39 ⟨trivial, rfl, rfl⟩
    · refine j_iload_n (q := 11) (i := 2) (n := 2) dX2_placeOf_10 rfl rfl rfl ?_
      refine j_aload_n (q := 12) (i := 0) (n := 0) dX2_placeOf_11 rfl rfl rfl ?_
      refine g_X2_queue (q := 15) wF_X2_9 hi0 dX2_placeOf_12 rfl ?_
      refine ax_len (k := 4) (v := nI 6) (q := 16) isX_4 rfl hi0 dX2_placeOf_15 rfl ?_
      refine j_icmp_ge (tgt := 37) (q := 19) dX2_placeOf_16 rfl rfl ?_ ?_
      · refine j_bipush (q := 39) (v := (-9)) dX2_placeOf_37 rfl rfl ?_
        exact j_ret (x := (-9)) dX2_placeOf_39 ⟨trivial, rfl, rfl⟩
      · refine j_aload_n (q := 20) (i := 0) (n := 0) dX2_placeOf_19 rfl rfl rfl ?_
        refine g_X2_queue (q := 23) wF_X2_9 hi0 dX2_placeOf_20 rfl ?_
        refine j_iload_n (q := 24) (i := 2) (n := 2) dX2_placeOf_23 rfl rfl rfl ?_
        refine ax_ld (k := 4) (n := 6) (q := 25) isX_4 rfl hi0 dX2_placeOf_24 rfl ?_
        refine j_iload_n (q := 26) (i := 1) (n := 1) dX2_placeOf_25 rfl rfl rfl ?_
        refine j_icmp_ne (tgt := 31) (q := 29) dX2_placeOf_26 rfl rfl ?_ ?_
        · refine j_iinc (q := 34) (n := 2) (i := 2) (v := x2 + (nI 1)) (lv' := [(2, .int (x2 + (nI 1))), (0, .ref (za z 72 i0)), (1, .int a0)]) dX2_placeOf_31 rfl rfl (Nat.le_of_ble_eq_true rfl) rfl rfl ?_
          refine j_goto (tgt := 2) dX2_placeOf_34 rfl ?_
          refine j_lv [1, 2, 0] (lv' := [(0, .ref (za z 72 i0)), (1, .int a0), (2, .int (x2 + (nI 1)))]) rfl ?_
          exact ih (x2 + (nI 1))
        · refine j_iload_n (q := 30) (i := 2) (n := 2) dX2_placeOf_29 rfl rfl rfl ?_
          exact j_ret (x := x2) dX2_placeOf_30 ⟨trivial, rfl, rfl⟩
def m_X2_placeOf (g : zG) (i0 : Nat) (a0 : Int32) : Option (Int32) := m_X2_placeOf_L2 i0 a0 g FU (nI 0)
set_option maxRecDepth 100000 in
set_option maxHeartbeats 4000000 in
theorem c_X2_placeOf (l : Launch) (z : zE) (gm : zG) (g : zG) (i0 : Nat) (hi0 : i0 < dm 72) (a0 : Int32) : ∀ x, m_X2_placeOf g i0 a0 = some x → Ms dm l yX2_placeOf cX2_placeOf 3 (some .int) rm_X2_placeOf z [.ref (za z 72 i0), .int a0] ((wx z gm) g) (oi x) ((wx z gm) ((fun _ => g) x)) := by
  refine ms_of (Wf := (wx z gm)) (ri := .ireturn) (out := oi) (nxt := (fun _ => g)) (ok := (fun _ => True)) (lv := [(0, .ref (za z 72 i0)), (1, .int a0)]) (by decide) ⟨rfl, rfl⟩ (Nat.le_of_ble_eq_true rfl) rfl (en_i (out := fun x => x)) (fun p e s m below meth c => ?_)
  refine j_eq (M2 := m_X2_placeOf_L2 i0 a0 g FU (nI 0)) rfl ?_
  refine j_iconst (q := 1) (v := (nI 0)) dX2_placeOf_0 rfl rfl ?_
  refine j_istore_n (q := 2) (n := 2) (lv' := [(2, .int (nI 0)), (0, .ref (za z 72 i0)), (1, .int a0)]) dX2_placeOf_1 rfl (Nat.le_of_ble_eq_true rfl) rfl rfl ?_
  refine j_lv [1, 2, 0] (lv' := [(0, .ref (za z 72 i0)), (1, .int a0), (2, .int (nI 0))]) rfl ?_
  exact t_X2_placeOf_L2 z gm i0 a0 hi0 g FU (nI 0)
-- CopierJobs$Now.comeToHead(I)V
abbrev rm_X2_comeToHead : Room := { frames := 1, cells := 0, slots := 0, locals := 22 }
theorem cv_X2_comeToHead : CV yX2_comeToHead cX2_comeToHead 3 (none) 1 := ⟨wC_X2_comeToHead, wI_X2_comeToHead, wS_X2_comeToHead, wZ_X2, by decide +kernel⟩
def m_X2_comeToHead_B34 (i0 : Nat) (a0 : Int32) (g : zG) : Option (zG) := (m_X6_put g 4 i0 (nI 0) a0).bind fun g2 => gd (isb (nI 0) = true) (bd (ui g2 2 i0 0 (nI 0)) fun g3 => some g3)
set_option maxRecDepth 100000 in
set_option maxHeartbeats 4000000 in
theorem t_X2_comeToHead_B34 {p : Program} {l : Launch} {e : Env} {s : State} {m : MethodId} {args : Array Value} {below : List Frame} {meth : Method} {c : Code} {cells slots : Nat} {Q : zG → State → Prop} (z : zE) (gm : zG) (i0 : Nat) (a0 : Int32) (hi0 : i0 < dm 72) (g : zG) : zJ dm p l e rm_X2_comeToHead s m args below meth c cX2_comeToHead 3 yX2_comeToHead.cls z cells slots (wx z gm) (fn (fun _ => True) (fun x => x) osv) .return_ Q 34 [(0, .ref (za z 72 i0)), (1, .int a0)] [] g (m_X2_comeToHead_B34 i0 a0 g) := by
  refine j_eq (M2 := (m_X6_put g 4 i0 (nI 0) a0).bind fun g2 => gd (isb (nI 0) = true) (bd (ui g2 2 i0 0 (nI 0)) fun g3 => some g3)) rfl ?_
  refine j_aload_n (q := 35) (i := 0) (n := 0) dX2_comeToHead_34 rfl rfl rfl ?_
  refine g_X2_queue (q := 38) wF_X2_9 hi0 dX2_comeToHead_35 rfl ?_
  refine j_iconst (q := 39) (v := (nI 0)) dX2_comeToHead_38 rfl rfl ?_
  refine j_iload_n (q := 40) (i := 1) (n := 1) dX2_comeToHead_39 rfl rfl rfl ?_
  refine j_sv (q := 43) (rn_N (R := rm_X2_comeToHead) (As := [.ref (za z 4 i0), .int (nI 0), .int a0]) (rest := []) (c_X6_put _ z gm g 4 i0 isX_4 hi0 (nI 0) a0) cv_X6_put wO_X2_66 ⟨rfl, rfl⟩ ⟨(Nat.le_of_ble_eq_true rfl), (Nat.le_of_ble_eq_true rfl)⟩ rfl (Nat.le_of_ble_eq_true rfl) dX2_comeToHead_40) rfl (fun g2 => ?_)
  refine j_aload_n (q := 44) (i := 0) (n := 0) dX2_comeToHead_43 rfl rfl rfl ?_
  refine j_iconst (q := 45) (v := (nI 0)) dX2_comeToHead_44 rfl rfl ?_
  refine p_X2_half (q := 48) dm_le wF_X2_37 hi0 dX2_comeToHead_45 rfl (fun g3 => ?_)
  exact j_ret (x := g3) dX2_comeToHead_48 ⟨trivial, rfl, rfl⟩
def m_X2_comeToHead_L6 (i0 : Nat) (a0 : Int32) : Nat → zG → Int32 → Option (zG)
  | 0, _, _ => none
  | f + 1, g, x2 => if (nI 0) < x2 then (m_X6_at g 4 i0 (x2 - (nI 1))).bind fun r4 => (m_X6_put g 4 i0 x2 r4).bind fun g5 => m_X2_comeToHead_L6 i0 a0 f g5 (x2 + (-1)) else m_X2_comeToHead_B34 i0 a0 g
set_option maxRecDepth 100000 in
set_option maxHeartbeats 4000000 in
theorem t_X2_comeToHead_L6 {p : Program} {l : Launch} {e : Env} {s : State} {m : MethodId} {args : Array Value} {below : List Frame} {meth : Method} {c : Code} {cells slots : Nat} {Q : zG → State → Prop} (z : zE) (gm : zG) (i0 : Nat) (a0 : Int32) (hi0 : i0 < dm 72) : ∀ (f : Nat) (g : zG) (x2 : Int32), zJ dm p l e rm_X2_comeToHead s m args below meth c cX2_comeToHead 3 yX2_comeToHead.cls z cells slots (wx z gm) (fn (fun _ => True) (fun x => x) osv) .return_ Q 6 [(0, .ref (za z 72 i0)), (1, .int a0), (2, .int x2)] [] g (m_X2_comeToHead_L6 i0 a0 f g x2) := by
  intro f
  induction f with
  | zero => intro g x2; exact j_none
  | succ f ih =>
    intro g x2
    refine j_eq (M2 := if (nI 0) < x2 then (m_X6_at g 4 i0 (x2 - (nI 1))).bind fun r4 => (m_X6_put g 4 i0 x2 r4).bind fun g5 => m_X2_comeToHead_L6 i0 a0 f g5 (x2 + (-1)) else m_X2_comeToHead_B34 i0 a0 g) rfl ?_
    refine j_iload_n (q := 7) (i := 2) (n := 2) dX2_comeToHead_6 rfl rfl rfl ?_
    refine j_if_le (tgt := 34) (q := 10) dX2_comeToHead_7 rfl rfl ?_ ?_
    · refine j_lv [0, 1] (lv' := [(0, .ref (za z 72 i0)), (1, .int a0)]) rfl ?_
      exact t_X2_comeToHead_B34 z gm i0 a0 hi0 g
    · refine j_aload_n (q := 11) (i := 0) (n := 0) dX2_comeToHead_10 rfl rfl rfl ?_
      refine g_X2_queue (q := 14) wF_X2_9 hi0 dX2_comeToHead_11 rfl ?_
      refine j_iload_n (q := 15) (i := 2) (n := 2) dX2_comeToHead_14 rfl rfl rfl ?_
      refine j_aload_n (q := 16) (i := 0) (n := 0) dX2_comeToHead_15 rfl rfl rfl ?_
      refine g_X2_queue (q := 19) wF_X2_9 hi0 dX2_comeToHead_16 rfl ?_
      refine j_iload_n (q := 20) (i := 2) (n := 2) dX2_comeToHead_19 rfl rfl rfl ?_
      refine j_iconst (q := 21) (v := (nI 1)) dX2_comeToHead_20 rfl rfl ?_
      refine j_isub (q := 22) dX2_comeToHead_21 rfl ?_
      refine j_ci (q := 25) (rn_N (R := rm_X2_comeToHead) (As := [.ref (za z 4 i0), .int (x2 - (nI 1))]) (rest := [.int x2, .ref (za z 4 i0)]) (c_X6_at _ z gm g 4 i0 (Or.inl ⟨isX_4, hi0⟩) (x2 - (nI 1))) cv_X6_at wO_X2_58 ⟨rfl, rfl⟩ ⟨(Nat.le_of_ble_eq_true rfl), (Nat.le_of_ble_eq_true rfl)⟩ rfl (Nat.le_of_ble_eq_true rfl) dX2_comeToHead_22) rfl (fun r4 => ?_)
      refine j_sv (q := 28) (rn_N (R := rm_X2_comeToHead) (As := [.ref (za z 4 i0), .int x2, .int r4]) (rest := []) (c_X6_put _ z gm g 4 i0 isX_4 hi0 x2 r4) cv_X6_put wO_X2_66 ⟨rfl, rfl⟩ ⟨(Nat.le_of_ble_eq_true rfl), (Nat.le_of_ble_eq_true rfl)⟩ rfl (Nat.le_of_ble_eq_true rfl) dX2_comeToHead_25) rfl (fun g5 => ?_)
      refine j_iinc (q := 31) (n := 2) (i := 2) (v := x2 + (-1)) (lv' := [(2, .int (x2 + (-1))), (0, .ref (za z 72 i0)), (1, .int a0)]) dX2_comeToHead_28 rfl rfl (Nat.le_of_ble_eq_true rfl) rfl rfl ?_
      refine j_goto (tgt := 6) dX2_comeToHead_31 rfl ?_
      refine j_lv [1, 2, 0] (lv' := [(0, .ref (za z 72 i0)), (1, .int a0), (2, .int (x2 + (-1)))]) rfl ?_
      exact ih g5 (x2 + (-1))
def m_X2_comeToHead (g : zG) (i0 : Nat) (a0 : Int32) : Option (zG) := (m_X2_placeOf g i0 a0).bind fun r1 => m_X2_comeToHead_L6 i0 a0 FU g r1
set_option maxRecDepth 100000 in
set_option maxHeartbeats 4000000 in
theorem c_X2_comeToHead (l : Launch) (z : zE) (gm : zG) (g : zG) (i0 : Nat) (hi0 : i0 < dm 72) (a0 : Int32) : ∀ x, m_X2_comeToHead g i0 a0 = some x → Ms dm l yX2_comeToHead cX2_comeToHead 3 (none) rm_X2_comeToHead z [.ref (za z 72 i0), .int a0] ((wx z gm) g) (osv x) ((wx z gm) ((fun x => x) x)) := by
  refine ms_of (Wf := (wx z gm)) (ri := .return_) (out := osv) (nxt := (fun x => x)) (ok := (fun _ => True)) (lv := [(0, .ref (za z 72 i0)), (1, .int a0)]) (by decide) ⟨rfl, rfl⟩ (Nat.le_of_ble_eq_true rfl) rfl (en_v ) (fun p e s m below meth c => ?_)
  refine j_eq (M2 := (m_X2_placeOf g i0 a0).bind fun r1 => m_X2_comeToHead_L6 i0 a0 FU g r1) rfl ?_
  refine j_aload_n (q := 1) (i := 0) (n := 0) dX2_comeToHead_0 rfl rfl rfl ?_
  refine j_iload_n (q := 2) (i := 1) (n := 1) dX2_comeToHead_1 rfl rfl rfl ?_
  refine j_ci (q := 5) (rn_V (R := rm_X2_comeToHead) (As := [.int a0]) (rest := []) (c_X2_placeOf _ z gm g i0 hi0 a0) cv_X2_placeOf wM_X2_62 ⟨rfl, rfl⟩ ⟨(Nat.le_of_ble_eq_true rfl), (Nat.le_of_ble_eq_true rfl)⟩ hi0 rfl rfl rfl (Nat.le_of_ble_eq_true rfl) dX2_comeToHead_2) rfl (fun r1 => ?_)
  refine j_istore_n (q := 6) (n := 2) (lv' := [(2, .int r1), (0, .ref (za z 72 i0)), (1, .int a0)]) dX2_comeToHead_5 rfl (Nat.le_of_ble_eq_true rfl) rfl rfl ?_
  refine j_lv [1, 2, 0] (lv' := [(0, .ref (za z 72 i0)), (1, .int a0), (2, .int r1)]) rfl ?_
  exact t_X2_comeToHead_L6 z gm i0 a0 hi0 FU g r1
-- CopierJobs$Now.leaveQueue(I)V
abbrev rm_X2_leaveQueue : Room := { frames := 1, cells := 0, slots := 0, locals := 22 }
theorem cv_X2_leaveQueue : CV yX2_leaveQueue cX2_leaveQueue 4 (none) 1 := ⟨wC_X2_leaveQueue, wI_X2_leaveQueue, wS_X2_leaveQueue, wZ_X2, by decide +kernel⟩
def m_X2_leaveQueue_B58 (i0 : Nat) (a0 : Int32) (g : zG) : Option (zG) := bd (ui g 3 i0 0 ((gi g 3 i0 0) - (nI 1))) fun g2 => some g2
set_option maxRecDepth 100000 in
set_option maxHeartbeats 4000000 in
theorem t_X2_leaveQueue_B58 {p : Program} {l : Launch} {e : Env} {s : State} {m : MethodId} {args : Array Value} {below : List Frame} {meth : Method} {c : Code} {cells slots : Nat} {Q : zG → State → Prop} (z : zE) (gm : zG) (i0 : Nat) (a0 : Int32) (hi0 : i0 < dm 72) (g : zG) : zJ dm p l e rm_X2_leaveQueue s m args below meth c cX2_leaveQueue 4 yX2_leaveQueue.cls z cells slots (wx z gm) (fn (fun _ => True) (fun x => x) osv) .return_ Q 58 [(0, .ref (za z 72 i0))] [] g (m_X2_leaveQueue_B58 i0 a0 g) := by
  refine j_eq (M2 := bd (ui g 3 i0 0 ((gi g 3 i0 0) - (nI 1))) fun g2 => some g2) rfl ?_
  refine j_aload_n (q := 59) (i := 0) (n := 0) dX2_leaveQueue_58 rfl rfl rfl ?_
  refine j_dup (q := 60) dX2_leaveQueue_59 rfl rfl ?_
  refine g_X2_queued (q := 63) wF_X2_44 hi0 dX2_leaveQueue_60 rfl ?_
  refine j_iconst (q := 64) (v := (nI 1)) dX2_leaveQueue_63 rfl rfl ?_
  refine j_isub (q := 65) dX2_leaveQueue_64 rfl ?_
  refine p_X2_queued (q := 68) dm_le wF_X2_44 hi0 dX2_leaveQueue_65 rfl (fun g2 => ?_)
  exact j_ret (x := g2) dX2_leaveQueue_68 ⟨trivial, rfl, rfl⟩
def m_X2_leaveQueue_L24 (i0 : Nat) (a0 : Int32) : Nat → zG → Int32 → Option (zG)
  | 0, _, _ => none
  | f + 1, g, x3 => if (x3 + (nI 1)) < (gi g 3 i0 0) then (m_X6_at g 4 i0 (x3 + (nI 1))).bind fun r3 => (m_X6_put g 4 i0 x3 r3).bind fun g4 => m_X2_leaveQueue_L24 i0 a0 f g4 (x3 + (nI 1)) else m_X2_leaveQueue_B58 i0 a0 g
set_option maxRecDepth 100000 in
set_option maxHeartbeats 4000000 in
theorem t_X2_leaveQueue_L24 {p : Program} {l : Launch} {e : Env} {s : State} {m : MethodId} {args : Array Value} {below : List Frame} {meth : Method} {c : Code} {cells slots : Nat} {Q : zG → State → Prop} (z : zE) (gm : zG) (i0 : Nat) (a0 : Int32) (hi0 : i0 < dm 72) : ∀ (f : Nat) (g : zG) (x3 : Int32), zJ dm p l e rm_X2_leaveQueue s m args below meth c cX2_leaveQueue 4 yX2_leaveQueue.cls z cells slots (wx z gm) (fn (fun _ => True) (fun x => x) osv) .return_ Q 24 [(0, .ref (za z 72 i0)), (3, .int x3)] [] g (m_X2_leaveQueue_L24 i0 a0 f g x3) := by
  intro f
  induction f with
  | zero => intro g x3; exact j_none
  | succ f ih =>
    intro g x3
    refine j_eq (M2 := if (x3 + (nI 1)) < (gi g 3 i0 0) then (m_X6_at g 4 i0 (x3 + (nI 1))).bind fun r3 => (m_X6_put g 4 i0 x3 r3).bind fun g4 => m_X2_leaveQueue_L24 i0 a0 f g4 (x3 + (nI 1)) else m_X2_leaveQueue_B58 i0 a0 g) rfl ?_
    refine j_iload_n (q := 25) (i := 1) (n := 3) dX2_leaveQueue_24 rfl rfl rfl ?_
    refine j_iconst (q := 26) (v := (nI 1)) dX2_leaveQueue_25 rfl rfl ?_
    refine j_iadd (q := 27) dX2_leaveQueue_26 rfl ?_
    refine j_aload_n (q := 28) (i := 0) (n := 0) dX2_leaveQueue_27 rfl rfl rfl ?_
    refine g_X2_queued (q := 31) wF_X2_44 hi0 dX2_leaveQueue_28 rfl ?_
    refine j_icmp_ge (tgt := 58) (q := 34) dX2_leaveQueue_31 rfl rfl ?_ ?_
    · refine j_lv [0] (lv' := [(0, .ref (za z 72 i0))]) rfl ?_
      exact t_X2_leaveQueue_B58 z gm i0 a0 hi0 g
    · refine j_aload_n (q := 35) (i := 0) (n := 0) dX2_leaveQueue_34 rfl rfl rfl ?_
      refine g_X2_queue (q := 38) wF_X2_9 hi0 dX2_leaveQueue_35 rfl ?_
      refine j_iload_n (q := 39) (i := 1) (n := 3) dX2_leaveQueue_38 rfl rfl rfl ?_
      refine j_aload_n (q := 40) (i := 0) (n := 0) dX2_leaveQueue_39 rfl rfl rfl ?_
      refine g_X2_queue (q := 43) wF_X2_9 hi0 dX2_leaveQueue_40 rfl ?_
      refine j_iload_n (q := 44) (i := 1) (n := 3) dX2_leaveQueue_43 rfl rfl rfl ?_
      refine j_iconst (q := 45) (v := (nI 1)) dX2_leaveQueue_44 rfl rfl ?_
      refine j_iadd (q := 46) dX2_leaveQueue_45 rfl ?_
      refine j_ci (q := 49) (rn_N (R := rm_X2_leaveQueue) (As := [.ref (za z 4 i0), .int (x3 + (nI 1))]) (rest := [.int x3, .ref (za z 4 i0)]) (c_X6_at _ z gm g 4 i0 (Or.inl ⟨isX_4, hi0⟩) (x3 + (nI 1))) cv_X6_at wO_X2_58 ⟨rfl, rfl⟩ ⟨(Nat.le_of_ble_eq_true rfl), (Nat.le_of_ble_eq_true rfl)⟩ rfl (Nat.le_of_ble_eq_true rfl) dX2_leaveQueue_46) rfl (fun r3 => ?_)
      refine j_sv (q := 52) (rn_N (R := rm_X2_leaveQueue) (As := [.ref (za z 4 i0), .int x3, .int r3]) (rest := []) (c_X6_put _ z gm g 4 i0 isX_4 hi0 x3 r3) cv_X6_put wO_X2_66 ⟨rfl, rfl⟩ ⟨(Nat.le_of_ble_eq_true rfl), (Nat.le_of_ble_eq_true rfl)⟩ rfl (Nat.le_of_ble_eq_true rfl) dX2_leaveQueue_49) rfl (fun g4 => ?_)
      refine j_iinc (q := 55) (n := 3) (i := 1) (v := x3 + (nI 1)) (lv' := [(3, .int (x3 + (nI 1))), (0, .ref (za z 72 i0))]) dX2_leaveQueue_52 rfl rfl (Nat.le_of_ble_eq_true rfl) rfl rfl ?_
      refine j_goto (tgt := 24) dX2_leaveQueue_55 rfl ?_
      refine j_lv [1, 0] (lv' := [(0, .ref (za z 72 i0)), (3, .int (x3 + (nI 1)))]) rfl ?_
      exact ih g4 (x3 + (nI 1))
def m_X2_leaveQueue_B22 (i0 : Nat) (a0 : Int32) (g : zG) (x2 : Int32) : Option (zG) := m_X2_leaveQueue_L24 i0 a0 FU g x2
set_option maxRecDepth 100000 in
set_option maxHeartbeats 4000000 in
theorem t_X2_leaveQueue_B22 {p : Program} {l : Launch} {e : Env} {s : State} {m : MethodId} {args : Array Value} {below : List Frame} {meth : Method} {c : Code} {cells slots : Nat} {Q : zG → State → Prop} (z : zE) (gm : zG) (i0 : Nat) (a0 : Int32) (hi0 : i0 < dm 72) (g : zG) (x2 : Int32) : zJ dm p l e rm_X2_leaveQueue s m args below meth c cX2_leaveQueue 4 yX2_leaveQueue.cls z cells slots (wx z gm) (fn (fun _ => True) (fun x => x) osv) .return_ Q 22 [(0, .ref (za z 72 i0)), (2, .int x2)] [] g (m_X2_leaveQueue_B22 i0 a0 g x2) := by
  refine j_eq (M2 := m_X2_leaveQueue_L24 i0 a0 FU g x2) rfl ?_
  refine j_iload_n (q := 23) (i := 1) (n := 2) dX2_leaveQueue_22 rfl rfl rfl ?_
  refine j_istore_n (q := 24) (n := 3) (lv' := [(3, .int x2), (0, .ref (za z 72 i0)), (2, .int x2)]) dX2_leaveQueue_23 rfl (Nat.le_of_ble_eq_true rfl) rfl rfl ?_
  refine j_lv [1, 0] (lv' := [(0, .ref (za z 72 i0)), (3, .int x2)]) rfl ?_
  exact t_X2_leaveQueue_L24 z gm i0 a0 hi0 FU g x2
def m_X2_leaveQueue (g : zG) (i0 : Nat) (a0 : Int32) : Option (zG) := (m_X2_placeOf g i0 a0).bind fun r1 => if r1 = (-9) then some g else if r1 = (nI 0) then gd (isb (nI 0) = true) (bd (ui g 2 i0 0 (nI 0)) fun g5 => m_X2_leaveQueue_B22 i0 a0 g5 r1) else m_X2_leaveQueue_B22 i0 a0 g r1
set_option maxRecDepth 100000 in
set_option maxHeartbeats 4000000 in
theorem c_X2_leaveQueue (l : Launch) (z : zE) (gm : zG) (g : zG) (i0 : Nat) (hi0 : i0 < dm 72) (a0 : Int32) : ∀ x, m_X2_leaveQueue g i0 a0 = some x → Ms dm l yX2_leaveQueue cX2_leaveQueue 4 (none) rm_X2_leaveQueue z [.ref (za z 72 i0), .int a0] ((wx z gm) g) (osv x) ((wx z gm) ((fun x => x) x)) := by
  refine ms_of (Wf := (wx z gm)) (ri := .return_) (out := osv) (nxt := (fun x => x)) (ok := (fun _ => True)) (lv := [(0, .ref (za z 72 i0)), (1, .int a0)]) (by decide) ⟨rfl, rfl⟩ (Nat.le_of_ble_eq_true rfl) rfl (en_v ) (fun p e s m below meth c => ?_)
  refine j_eq (M2 := (m_X2_placeOf g i0 a0).bind fun r1 => if r1 = (-9) then some g else if r1 = (nI 0) then gd (isb (nI 0) = true) (bd (ui g 2 i0 0 (nI 0)) fun g5 => m_X2_leaveQueue_B22 i0 a0 g5 r1) else m_X2_leaveQueue_B22 i0 a0 g r1) rfl ?_
  refine j_aload_n (q := 1) (i := 0) (n := 0) dX2_leaveQueue_0 rfl rfl rfl ?_
  refine j_iload_n (q := 2) (i := 1) (n := 1) dX2_leaveQueue_1 rfl rfl rfl ?_
  refine j_ci (q := 5) (rn_V (R := rm_X2_leaveQueue) (As := [.int a0]) (rest := []) (c_X2_placeOf _ z gm g i0 hi0 a0) cv_X2_placeOf wM_X2_62 ⟨rfl, rfl⟩ ⟨(Nat.le_of_ble_eq_true rfl), (Nat.le_of_ble_eq_true rfl)⟩ hi0 rfl rfl rfl (Nat.le_of_ble_eq_true rfl) dX2_leaveQueue_2) rfl (fun r1 => ?_)
  refine j_istore_n (q := 6) (n := 2) (lv' := [(2, .int r1), (0, .ref (za z 72 i0)), (1, .int a0)]) dX2_leaveQueue_5 rfl (Nat.le_of_ble_eq_true rfl) rfl rfl ?_
  refine j_iload_n (q := 7) (i := 0) (n := 2) dX2_leaveQueue_6 rfl rfl rfl ?_
  refine j_bipush (q := 9) (v := (-9)) dX2_leaveQueue_7 rfl rfl ?_
  refine j_icmp_ne (tgt := 13) (q := 12) dX2_leaveQueue_9 rfl rfl ?_ ?_
  · refine j_iload_n (q := 14) (i := 0) (n := 2) dX2_leaveQueue_13 rfl rfl rfl ?_
    refine j_if_ne (tgt := 22) (q := 17) dX2_leaveQueue_14 rfl rfl ?_ ?_
    · refine j_lv [1, 0] (lv' := [(0, .ref (za z 72 i0)), (2, .int r1)]) rfl ?_
      exact t_X2_leaveQueue_B22 z gm i0 a0 hi0 g r1
    · refine j_aload_n (q := 18) (i := 1) (n := 0) dX2_leaveQueue_17 rfl rfl rfl ?_
      refine j_iconst (q := 19) (v := (nI 0)) dX2_leaveQueue_18 rfl rfl ?_
      refine p_X2_half (q := 22) dm_le wF_X2_37 hi0 dX2_leaveQueue_19 rfl (fun g5 => ?_)
      refine j_lv [1, 0] (lv' := [(0, .ref (za z 72 i0)), (2, .int r1)]) rfl ?_
      exact t_X2_leaveQueue_B22 z gm i0 a0 hi0 g5 r1
  · exact j_ret (x := g) dX2_leaveQueue_12 ⟨trivial, rfl, rfl⟩
-- CopierJobs$Now.whyStands(LCopierJobs$Plan;)I
abbrev rm_X2_whyStands : Room := { frames := 3, cells := 0, slots := 0, locals := 64 }
theorem cv_X2_whyStands : CV yX2_whyStands cX2_whyStands 5 (some .int) 1 := ⟨wC_X2_whyStands, wI_X2_whyStands, wS_X2_whyStands, wZ_X2, by decide +kernel⟩
def m_X2_whyStands (g : zG) (i0 : Nat) (p0 : Nat) : Option (Int32) := (m_X2_firstJob g i0).bind fun r1 => (m_X3_jobAt g p0 r1).bind fun x => oc x (some (nI 0)) (fun n2 => gd (n2 < dm 71) ((m_X2_madeOf g i0 r1).bind fun r4 => (m_X6_at g 7 i0 (gi g 24 n2 0)).bind fun r5 => if (nI 0) < r5 then (m_X1_sidesOf g n2 r4).bind fun r6 => if (gi g 1 i0 0) < r6 then some (nI 2) else (m_X3_binOf g p0 n2 r4).bind fun r7 => (m_X6_at g 8 i0 r7).bind fun r8 => if r8 < (nI 20) then some (nI 0) else some (nI 3) else some (nI 1)))
set_option maxRecDepth 100000 in
set_option maxHeartbeats 4000000 in
theorem c_X2_whyStands (l : Launch) (z : zE) (gm : zG) (g : zG) (i0 : Nat) (hi0 : i0 < dm 72) (p0 : Nat) (hp0 : p0 < dm 73) : ∀ x, m_X2_whyStands g i0 p0 = some x → Ms dm l yX2_whyStands cX2_whyStands 5 (some .int) rm_X2_whyStands z [.ref (za z 72 i0), .ref (za z 73 p0)] ((wx z gm) g) (oi x) ((wx z gm) ((fun _ => g) x)) := by
  refine ms_of (Wf := (wx z gm)) (ri := .ireturn) (out := oi) (nxt := (fun _ => g)) (ok := (fun _ => True)) (lv := [(0, .ref (za z 72 i0)), (1, .ref (za z 73 p0))]) (by decide) ⟨rfl, rfl⟩ (Nat.le_of_ble_eq_true rfl) rfl (en_i (out := fun x => x)) (fun p e s m below meth c => ?_)
  refine j_eq (M2 := (m_X2_firstJob g i0).bind fun r1 => (m_X3_jobAt g p0 r1).bind fun x => oc x (some (nI 0)) (fun n2 => gd (n2 < dm 71) ((m_X2_madeOf g i0 r1).bind fun r4 => (m_X6_at g 7 i0 (gi g 24 n2 0)).bind fun r5 => if (nI 0) < r5 then (m_X1_sidesOf g n2 r4).bind fun r6 => if (gi g 1 i0 0) < r6 then some (nI 2) else (m_X3_binOf g p0 n2 r4).bind fun r7 => (m_X6_at g 8 i0 r7).bind fun r8 => if r8 < (nI 20) then some (nI 0) else some (nI 3) else some (nI 1)))) rfl ?_
  refine j_aload_n (q := 1) (i := 0) (n := 0) dX2_whyStands_0 rfl rfl rfl ?_
  refine j_ci (q := 4) (rn_V (R := rm_X2_whyStands) (As := []) (rest := []) (c_X2_firstJob _ z gm g i0 hi0) cv_X2_firstJob wM_X2_70 ⟨rfl, rfl⟩ ⟨(Nat.le_of_ble_eq_true rfl), (Nat.le_of_ble_eq_true rfl)⟩ hi0 rfl rfl rfl (Nat.le_of_ble_eq_true rfl) dX2_whyStands_1) rfl (fun r1 => ?_)
  refine j_istore_n (q := 5) (n := 2) (lv' := [(2, .int r1), (0, .ref (za z 72 i0)), (1, .ref (za z 73 p0))]) dX2_whyStands_4 rfl (Nat.le_of_ble_eq_true rfl) rfl rfl ?_
  refine j_aload_n (q := 6) (i := 2) (n := 1) dX2_whyStands_5 rfl rfl rfl ?_
  refine j_iload_n (q := 7) (i := 0) (n := 2) dX2_whyStands_6 rfl rfl rfl ?_
  refine j_crs (k0 := 71) (q := 10) (rn_V (R := rm_X2_whyStands) (As := [.int r1]) (rest := []) (c_X3_jobAt _ z gm g p0 hp0 r1) cv_X3_jobAt wM_X2_74 ⟨rfl, rfl⟩ ⟨(Nat.le_of_ble_eq_true rfl), (Nat.le_of_ble_eq_true rfl)⟩ hp0 rfl rfl rfl (Nat.le_of_ble_eq_true rfl) dX2_whyStands_7) rfl ?_ (fun n2 => ?_)
  · refine j_astore_nN (q := 11) (n := 3) (lv' := [(3, .null), (2, .int r1), (0, .ref (za z 72 i0)), (1, .ref (za z 73 p0))]) dX2_whyStands_10 rfl (Nat.le_of_ble_eq_true rfl) rfl rfl ?_
    refine j_aload_nN (q := 12) (i := 0) (n := 3) dX2_whyStands_11 rfl rfl rfl ?_
    refine j_non0 (q := 15) dX2_whyStands_12 rfl ?_
    refine j_iconst (q := 16) (v := (nI 0)) dX2_whyStands_15 rfl rfl ?_
    exact j_ret (x := (nI 0)) dX2_whyStands_16 ⟨trivial, rfl, rfl⟩
  · refine j_gd (fun hn3 => ?_)
    refine j_astore_n (q := 11) (n := 3) (lv' := [(3, .ref (za z 71 n2)), (2, .int r1), (0, .ref (za z 72 i0)), (1, .ref (za z 73 p0))]) dX2_whyStands_10 rfl (Nat.le_of_ble_eq_true rfl) rfl rfl ?_
    refine j_aload_n (q := 12) (i := 0) (n := 3) dX2_whyStands_11 rfl rfl rfl ?_
    refine j_non1 (tgt := 17) dX2_whyStands_12 rfl ?_
    refine j_aload_n (q := 18) (i := 2) (n := 0) dX2_whyStands_17 rfl rfl rfl ?_
    refine j_iload_n (q := 19) (i := 1) (n := 2) dX2_whyStands_18 rfl rfl rfl ?_
    refine j_ci (q := 22) (rn_V (R := rm_X2_whyStands) (As := [.int r1]) (rest := []) (c_X2_madeOf _ z gm g i0 hi0 r1) cv_X2_madeOf wM_X2_78 ⟨rfl, rfl⟩ ⟨(Nat.le_of_ble_eq_true rfl), (Nat.le_of_ble_eq_true rfl)⟩ hi0 rfl rfl rfl (Nat.le_of_ble_eq_true rfl) dX2_whyStands_19) rfl (fun r4 => ?_)
    refine j_istore (q := 24) (n := 4) (lv' := [(4, .int r4), (3, .ref (za z 71 n2)), (2, .int r1), (0, .ref (za z 72 i0)), (1, .ref (za z 73 p0))]) dX2_whyStands_22 (Nat.le_of_ble_eq_true rfl) rfl rfl ?_
    refine j_aload_n (q := 25) (i := 3) (n := 0) dX2_whyStands_24 rfl rfl rfl ?_
    refine g_X2_trays (q := 28) wF_X2_21 hi0 dX2_whyStands_25 rfl ?_
    refine j_aload_n (q := 29) (i := 1) (n := 3) dX2_whyStands_28 rfl rfl rfl ?_
    refine gN_X1_tray (q := 32) wG_X2_81 hn3 dX2_whyStands_29 rfl ?_
    refine j_ci (q := 35) (rn_N (R := rm_X2_whyStands) (As := [.ref (za z 7 i0), .int (gi g 24 n2 0)]) (rest := []) (c_X6_at _ z gm g 7 i0 (Or.inl ⟨isX_7, hi0⟩) (gi g 24 n2 0)) cv_X6_at wO_X2_58 ⟨rfl, rfl⟩ ⟨(Nat.le_of_ble_eq_true rfl), (Nat.le_of_ble_eq_true rfl)⟩ rfl (Nat.le_of_ble_eq_true rfl) dX2_whyStands_32) rfl (fun r5 => ?_)
    refine j_if_gt (tgt := 40) (q := 38) dX2_whyStands_35 rfl rfl ?_ ?_
    · refine j_aload_n (q := 41) (i := 3) (n := 0) dX2_whyStands_40 rfl rfl rfl ?_
      refine g_X2_toner (q := 44) wF_X2_36 hi0 dX2_whyStands_41 rfl ?_
      refine j_aload_n (q := 45) (i := 1) (n := 3) dX2_whyStands_44 rfl rfl rfl ?_
      refine j_iload (q := 47) (i := 0) (n := 4) dX2_whyStands_45 rfl rfl ?_
      refine j_ci (q := 50) (rn_V (R := rm_X2_whyStands) (As := [.int r4]) (rest := [.int (gi g 1 i0 0)]) (c_X1_sidesOf _ z gm g n2 hn3 r4) cv_X1_sidesOf wM_X2_86 ⟨rfl, rfl⟩ ⟨(Nat.le_of_ble_eq_true rfl), (Nat.le_of_ble_eq_true rfl)⟩ hn3 rfl rfl rfl (Nat.le_of_ble_eq_true rfl) dX2_whyStands_47) rfl (fun r6 => ?_)
      refine j_icmp_ge (tgt := 55) (q := 53) dX2_whyStands_50 rfl rfl ?_ ?_
      · refine j_aload_n (q := 56) (i := 3) (n := 0) dX2_whyStands_55 rfl rfl rfl ?_
        refine g_X2_bins (q := 59) wF_X2_24 hi0 dX2_whyStands_56 rfl ?_
        refine j_aload_n (q := 60) (i := 4) (n := 1) dX2_whyStands_59 rfl rfl rfl ?_
        refine j_aload_n (q := 61) (i := 1) (n := 3) dX2_whyStands_60 rfl rfl rfl ?_
        refine j_iload (q := 63) (i := 0) (n := 4) dX2_whyStands_61 rfl rfl ?_
        refine j_ci (q := 66) (rn_V (R := rm_X2_whyStands) (As := [.ref (za z 71 n2), .int r4]) (rest := [.ref (za z 8 i0)]) (c_X3_binOf _ z gm g p0 hp0 n2 hn3 r4) cv_X3_binOf wM_X2_89 ⟨rfl, rfl⟩ ⟨(Nat.le_of_ble_eq_true rfl), (Nat.le_of_ble_eq_true rfl)⟩ hp0 rfl rfl rfl (Nat.le_of_ble_eq_true rfl) dX2_whyStands_63) rfl (fun r7 => ?_)
        refine j_ci (q := 69) (rn_N (R := rm_X2_whyStands) (As := [.ref (za z 8 i0), .int r7]) (rest := []) (c_X6_at _ z gm g 8 i0 (Or.inl ⟨isX_8, hi0⟩) r7) cv_X6_at wO_X2_58 ⟨rfl, rfl⟩ ⟨(Nat.le_of_ble_eq_true rfl), (Nat.le_of_ble_eq_true rfl)⟩ rfl (Nat.le_of_ble_eq_true rfl) dX2_whyStands_66) rfl (fun r8 => ?_)
        refine j_bipush (q := 71) (v := (nI 20)) dX2_whyStands_69 rfl rfl ?_
        refine j_icmp_lt (tgt := 78) (q := 74) dX2_whyStands_71 rfl rfl ?_ ?_
        · refine j_iconst (q := 79) (v := (nI 0)) dX2_whyStands_78 rfl rfl ?_
          exact j_ret (x := (nI 0)) dX2_whyStands_79 ⟨trivial, rfl, rfl⟩
        · refine j_iconst (q := 75) (v := (nI 3)) dX2_whyStands_74 rfl rfl ?_
          refine j_goto (tgt := 79) dX2_whyStands_75 rfl ?_
          exact j_ret (x := (nI 3)) dX2_whyStands_79 ⟨trivial, rfl, rfl⟩
      · refine j_iconst (q := 54) (v := (nI 2)) dX2_whyStands_53 rfl rfl ?_
        exact j_ret (x := (nI 2)) dX2_whyStands_54 ⟨trivial, rfl, rfl⟩
    · refine j_iconst (q := 39) (v := (nI 1)) dX2_whyStands_38 rfl rfl ?_
      exact j_ret (x := (nI 1)) dX2_whyStands_39 ⟨trivial, rfl, rfl⟩
-- CopierJobs$Now.bringSheet(LCopierJobs$Plan;LCopierJobs$Job;I)V
abbrev rm_X2_bringSheet : Room := { frames := 3, cells := 0, slots := 0, locals := 64 }
theorem cv_X2_bringSheet : CV yX2_bringSheet cX2_bringSheet 6 (none) 3 := ⟨wC_X2_bringSheet, wI_X2_bringSheet, wS_X2_bringSheet, wZ_X2, by decide +kernel⟩
def m_X2_bringSheet (g : zG) (i0 : Nat) (p0 : Nat) (j0 : Nat) (a2 : Int32) : Option (zG) := (m_X2_madeOf g i0 a2).bind fun r1 => (m_X3_binOf g p0 j0 r1).bind fun r2 => gd (isb (nI 0) = true) (bd (ui g 2 i0 0 (nI 0)) fun g3 => (m_X6_at g3 7 i0 (gi g3 24 j0 0)).bind fun r4 => (m_X6_put g3 7 i0 (gi g3 24 j0 0) (r4 - (nI 1))).bind fun g5 => (m_X1_sidesOf g5 j0 r1).bind fun r6 => bd (ui g5 1 i0 0 ((gi g5 1 i0 0) - r6)) fun g7 => (m_X6_at g7 8 i0 r2).bind fun r8 => (m_X6_put g7 8 i0 r2 (r8 + (nI 1))).bind fun g9 => (m_X6_put g9 5 i0 a2 (r1 + (nI 1))).bind fun g10 => (m_X1_all g10 j0).bind fun r11 => if (r1 + (nI 1)) < r11 then some g10 else (m_X6_put g10 6 i0 a2 (gi g10 0 i0 0)).bind fun g12 => (m_X2_leaveQueue g12 i0 a2).bind fun g13 => some g13)
set_option maxRecDepth 100000 in
set_option maxHeartbeats 4000000 in
theorem c_X2_bringSheet (l : Launch) (z : zE) (gm : zG) (g : zG) (i0 : Nat) (hi0 : i0 < dm 72) (p0 : Nat) (hp0 : p0 < dm 73) (j0 : Nat) (hj0 : j0 < dm 71) (a2 : Int32) : ∀ x, m_X2_bringSheet g i0 p0 j0 a2 = some x → Ms dm l yX2_bringSheet cX2_bringSheet 6 (none) rm_X2_bringSheet z [.ref (za z 72 i0), .ref (za z 73 p0), .ref (za z 71 j0), .int a2] ((wx z gm) g) (osv x) ((wx z gm) ((fun x => x) x)) := by
  refine ms_of (Wf := (wx z gm)) (ri := .return_) (out := osv) (nxt := (fun x => x)) (ok := (fun _ => True)) (lv := [(0, .ref (za z 72 i0)), (1, .ref (za z 73 p0)), (2, .ref (za z 71 j0)), (3, .int a2)]) (by decide) ⟨rfl, rfl⟩ (Nat.le_of_ble_eq_true rfl) rfl (en_v ) (fun p e s m below meth c => ?_)
  refine j_eq (M2 := (m_X2_madeOf g i0 a2).bind fun r1 => (m_X3_binOf g p0 j0 r1).bind fun r2 => gd (isb (nI 0) = true) (bd (ui g 2 i0 0 (nI 0)) fun g3 => (m_X6_at g3 7 i0 (gi g3 24 j0 0)).bind fun r4 => (m_X6_put g3 7 i0 (gi g3 24 j0 0) (r4 - (nI 1))).bind fun g5 => (m_X1_sidesOf g5 j0 r1).bind fun r6 => bd (ui g5 1 i0 0 ((gi g5 1 i0 0) - r6)) fun g7 => (m_X6_at g7 8 i0 r2).bind fun r8 => (m_X6_put g7 8 i0 r2 (r8 + (nI 1))).bind fun g9 => (m_X6_put g9 5 i0 a2 (r1 + (nI 1))).bind fun g10 => (m_X1_all g10 j0).bind fun r11 => if (r1 + (nI 1)) < r11 then some g10 else (m_X6_put g10 6 i0 a2 (gi g10 0 i0 0)).bind fun g12 => (m_X2_leaveQueue g12 i0 a2).bind fun g13 => some g13)) rfl ?_
  refine j_aload_n (q := 1) (i := 0) (n := 0) dX2_bringSheet_0 rfl rfl rfl ?_
  refine j_iload_n (q := 2) (i := 3) (n := 3) dX2_bringSheet_1 rfl rfl rfl ?_
  refine j_ci (q := 5) (rn_V (R := rm_X2_bringSheet) (As := [.int a2]) (rest := []) (c_X2_madeOf _ z gm g i0 hi0 a2) cv_X2_madeOf wM_X2_78 ⟨rfl, rfl⟩ ⟨(Nat.le_of_ble_eq_true rfl), (Nat.le_of_ble_eq_true rfl)⟩ hi0 rfl rfl rfl (Nat.le_of_ble_eq_true rfl) dX2_bringSheet_2) rfl (fun r1 => ?_)
  refine j_istore (q := 7) (n := 4) (lv' := [(4, .int r1), (0, .ref (za z 72 i0)), (1, .ref (za z 73 p0)), (2, .ref (za z 71 j0)), (3, .int a2)]) dX2_bringSheet_5 (Nat.le_of_ble_eq_true rfl) rfl rfl ?_
  refine j_aload_n (q := 8) (i := 2) (n := 1) dX2_bringSheet_7 rfl rfl rfl ?_
  refine j_aload_n (q := 9) (i := 3) (n := 2) dX2_bringSheet_8 rfl rfl rfl ?_
  refine j_iload (q := 11) (i := 0) (n := 4) dX2_bringSheet_9 rfl rfl ?_
  refine j_ci (q := 14) (rn_V (R := rm_X2_bringSheet) (As := [.ref (za z 71 j0), .int r1]) (rest := []) (c_X3_binOf _ z gm g p0 hp0 j0 hj0 r1) cv_X3_binOf wM_X2_89 ⟨rfl, rfl⟩ ⟨(Nat.le_of_ble_eq_true rfl), (Nat.le_of_ble_eq_true rfl)⟩ hp0 rfl rfl rfl (Nat.le_of_ble_eq_true rfl) dX2_bringSheet_11) rfl (fun r2 => ?_)
  refine j_istore (q := 16) (n := 5) (lv' := [(5, .int r2), (4, .int r1), (0, .ref (za z 72 i0)), (1, .ref (za z 73 p0)), (2, .ref (za z 71 j0)), (3, .int a2)]) dX2_bringSheet_14 (Nat.le_of_ble_eq_true rfl) rfl rfl ?_
  refine j_aload_n (q := 17) (i := 2) (n := 0) dX2_bringSheet_16 rfl rfl rfl ?_
  refine j_iconst (q := 18) (v := (nI 0)) dX2_bringSheet_17 rfl rfl ?_
  refine p_X2_half (q := 21) dm_le wF_X2_37 hi0 dX2_bringSheet_18 rfl (fun g3 => ?_)
  refine j_aload_n (q := 22) (i := 2) (n := 0) dX2_bringSheet_21 rfl rfl rfl ?_
  refine g_X2_trays (q := 25) wF_X2_21 hi0 dX2_bringSheet_22 rfl ?_
  refine j_aload_n (q := 26) (i := 4) (n := 2) dX2_bringSheet_25 rfl rfl rfl ?_
  refine gN_X1_tray (q := 29) wG_X2_81 hj0 dX2_bringSheet_26 rfl ?_
  refine j_aload_n (q := 30) (i := 2) (n := 0) dX2_bringSheet_29 rfl rfl rfl ?_
  refine g_X2_trays (q := 33) wF_X2_21 hi0 dX2_bringSheet_30 rfl ?_
  refine j_aload_n (q := 34) (i := 4) (n := 2) dX2_bringSheet_33 rfl rfl rfl ?_
  refine gN_X1_tray (q := 37) wG_X2_81 hj0 dX2_bringSheet_34 rfl ?_
  refine j_ci (q := 40) (rn_N (R := rm_X2_bringSheet) (As := [.ref (za z 7 i0), .int (gi g3 24 j0 0)]) (rest := [.int (gi g3 24 j0 0), .ref (za z 7 i0)]) (c_X6_at _ z gm g3 7 i0 (Or.inl ⟨isX_7, hi0⟩) (gi g3 24 j0 0)) cv_X6_at wO_X2_58 ⟨rfl, rfl⟩ ⟨(Nat.le_of_ble_eq_true rfl), (Nat.le_of_ble_eq_true rfl)⟩ rfl (Nat.le_of_ble_eq_true rfl) dX2_bringSheet_37) rfl (fun r4 => ?_)
  refine j_iconst (q := 41) (v := (nI 1)) dX2_bringSheet_40 rfl rfl ?_
  refine j_isub (q := 42) dX2_bringSheet_41 rfl ?_
  refine j_sv (q := 45) (rn_N (R := rm_X2_bringSheet) (As := [.ref (za z 7 i0), .int (gi g3 24 j0 0), .int (r4 - (nI 1))]) (rest := []) (c_X6_put _ z gm g3 7 i0 isX_7 hi0 (gi g3 24 j0 0) (r4 - (nI 1))) cv_X6_put wO_X2_66 ⟨rfl, rfl⟩ ⟨(Nat.le_of_ble_eq_true rfl), (Nat.le_of_ble_eq_true rfl)⟩ rfl (Nat.le_of_ble_eq_true rfl) dX2_bringSheet_42) rfl (fun g5 => ?_)
  refine j_aload_n (q := 46) (i := 2) (n := 0) dX2_bringSheet_45 rfl rfl rfl ?_
  refine j_dup (q := 47) dX2_bringSheet_46 rfl rfl ?_
  refine g_X2_toner (q := 50) wF_X2_36 hi0 dX2_bringSheet_47 rfl ?_
  refine j_aload_n (q := 51) (i := 4) (n := 2) dX2_bringSheet_50 rfl rfl rfl ?_
  refine j_iload (q := 53) (i := 1) (n := 4) dX2_bringSheet_51 rfl rfl ?_
  refine j_ci (q := 56) (rn_V (R := rm_X2_bringSheet) (As := [.int r1]) (rest := [.int (gi g5 1 i0 0), .ref (za z 72 i0)]) (c_X1_sidesOf _ z gm g5 j0 hj0 r1) cv_X1_sidesOf wM_X2_86 ⟨rfl, rfl⟩ ⟨(Nat.le_of_ble_eq_true rfl), (Nat.le_of_ble_eq_true rfl)⟩ hj0 rfl rfl rfl (Nat.le_of_ble_eq_true rfl) dX2_bringSheet_53) rfl (fun r6 => ?_)
  refine j_isub (q := 57) dX2_bringSheet_56 rfl ?_
  refine p_X2_toner (q := 60) dm_le wF_X2_36 hi0 dX2_bringSheet_57 rfl (fun g7 => ?_)
  refine j_aload_n (q := 61) (i := 2) (n := 0) dX2_bringSheet_60 rfl rfl rfl ?_
  refine g_X2_bins (q := 64) wF_X2_24 hi0 dX2_bringSheet_61 rfl ?_
  refine j_iload (q := 66) (i := 0) (n := 5) dX2_bringSheet_64 rfl rfl ?_
  refine j_aload_n (q := 67) (i := 2) (n := 0) dX2_bringSheet_66 rfl rfl rfl ?_
  refine g_X2_bins (q := 70) wF_X2_24 hi0 dX2_bringSheet_67 rfl ?_
  refine j_iload (q := 72) (i := 0) (n := 5) dX2_bringSheet_70 rfl rfl ?_
  refine j_ci (q := 75) (rn_N (R := rm_X2_bringSheet) (As := [.ref (za z 8 i0), .int r2]) (rest := [.int r2, .ref (za z 8 i0)]) (c_X6_at _ z gm g7 8 i0 (Or.inl ⟨isX_8, hi0⟩) r2) cv_X6_at wO_X2_58 ⟨rfl, rfl⟩ ⟨(Nat.le_of_ble_eq_true rfl), (Nat.le_of_ble_eq_true rfl)⟩ rfl (Nat.le_of_ble_eq_true rfl) dX2_bringSheet_72) rfl (fun r8 => ?_)
  refine j_iconst (q := 76) (v := (nI 1)) dX2_bringSheet_75 rfl rfl ?_
  refine j_iadd (q := 77) dX2_bringSheet_76 rfl ?_
  refine j_sv (q := 80) (rn_N (R := rm_X2_bringSheet) (As := [.ref (za z 8 i0), .int r2, .int (r8 + (nI 1))]) (rest := []) (c_X6_put _ z gm g7 8 i0 isX_8 hi0 r2 (r8 + (nI 1))) cv_X6_put wO_X2_66 ⟨rfl, rfl⟩ ⟨(Nat.le_of_ble_eq_true rfl), (Nat.le_of_ble_eq_true rfl)⟩ rfl (Nat.le_of_ble_eq_true rfl) dX2_bringSheet_77) rfl (fun g9 => ?_)
  refine j_aload_n (q := 81) (i := 2) (n := 0) dX2_bringSheet_80 rfl rfl rfl ?_
  refine g_X2_made (q := 84) wF_X2_15 hi0 dX2_bringSheet_81 rfl ?_
  refine j_iload_n (q := 85) (i := 5) (n := 3) dX2_bringSheet_84 rfl rfl rfl ?_
  refine j_iload (q := 87) (i := 1) (n := 4) dX2_bringSheet_85 rfl rfl ?_
  refine j_iconst (q := 88) (v := (nI 1)) dX2_bringSheet_87 rfl rfl ?_
  refine j_iadd (q := 89) dX2_bringSheet_88 rfl ?_
  refine j_sv (q := 92) (rn_N (R := rm_X2_bringSheet) (As := [.ref (za z 5 i0), .int a2, .int (r1 + (nI 1))]) (rest := []) (c_X6_put _ z gm g9 5 i0 isX_5 hi0 a2 (r1 + (nI 1))) cv_X6_put wO_X2_66 ⟨rfl, rfl⟩ ⟨(Nat.le_of_ble_eq_true rfl), (Nat.le_of_ble_eq_true rfl)⟩ rfl (Nat.le_of_ble_eq_true rfl) dX2_bringSheet_89) rfl (fun g10 => ?_)
  refine j_iload (q := 94) (i := 1) (n := 4) dX2_bringSheet_92 rfl rfl ?_
  refine j_iconst (q := 95) (v := (nI 1)) dX2_bringSheet_94 rfl rfl ?_
  refine j_iadd (q := 96) dX2_bringSheet_95 rfl ?_
  refine j_aload_n (q := 97) (i := 4) (n := 2) dX2_bringSheet_96 rfl rfl rfl ?_
  refine j_ci (q := 100) (rn_V (R := rm_X2_bringSheet) (As := []) (rest := [.int (r1 + (nI 1))]) (c_X1_all _ z gm g10 j0 hj0) cv_X1_all wM_X2_101 ⟨rfl, rfl⟩ ⟨(Nat.le_of_ble_eq_true rfl), (Nat.le_of_ble_eq_true rfl)⟩ hj0 rfl rfl rfl (Nat.le_of_ble_eq_true rfl) dX2_bringSheet_97) rfl (fun r11 => ?_)
  refine j_icmp_lt (tgt := 120) (q := 103) dX2_bringSheet_100 rfl rfl ?_ ?_
  · exact j_ret (x := g10) dX2_bringSheet_120 ⟨trivial, rfl, rfl⟩
  · refine j_aload_n (q := 104) (i := 2) (n := 0) dX2_bringSheet_103 rfl rfl rfl ?_
    refine g_X2_ends (q := 107) wF_X2_18 hi0 dX2_bringSheet_104 rfl ?_
    refine j_iload_n (q := 108) (i := 5) (n := 3) dX2_bringSheet_107 rfl rfl rfl ?_
    refine j_aload_n (q := 109) (i := 2) (n := 0) dX2_bringSheet_108 rfl rfl rfl ?_
    refine g_X2_tick (q := 112) wF_X2_27 hi0 dX2_bringSheet_109 rfl ?_
    refine j_sv (q := 115) (rn_N (R := rm_X2_bringSheet) (As := [.ref (za z 6 i0), .int a2, .int (gi g10 0 i0 0)]) (rest := []) (c_X6_put _ z gm g10 6 i0 isX_6 hi0 a2 (gi g10 0 i0 0)) cv_X6_put wO_X2_66 ⟨rfl, rfl⟩ ⟨(Nat.le_of_ble_eq_true rfl), (Nat.le_of_ble_eq_true rfl)⟩ rfl (Nat.le_of_ble_eq_true rfl) dX2_bringSheet_112) rfl (fun g12 => ?_)
    refine j_aload_n (q := 116) (i := 2) (n := 0) dX2_bringSheet_115 rfl rfl rfl ?_
    refine j_iload_n (q := 117) (i := 5) (n := 3) dX2_bringSheet_116 rfl rfl rfl ?_
    refine j_sv (q := 120) (rn_V (R := rm_X2_bringSheet) (As := [.int a2]) (rest := []) (c_X2_leaveQueue _ z gm g12 i0 hi0 a2) cv_X2_leaveQueue wM_X2_104 ⟨rfl, rfl⟩ ⟨(Nat.le_of_ble_eq_true rfl), (Nat.le_of_ble_eq_true rfl)⟩ hi0 rfl rfl rfl (Nat.le_of_ble_eq_true rfl) dX2_bringSheet_117) rfl (fun g13 => ?_)
    exact j_ret (x := g13) dX2_bringSheet_120 ⟨trivial, rfl, rfl⟩
-- CopierJobs$Now.passTick(LCopierJobs$Plan;)Z
abbrev rm_X2_passTick : Room := { frames := 4, cells := 0, slots := 0, locals := 89 }
theorem cv_X2_passTick : CV yX2_passTick cX2_passTick 4 (some .boolean) 1 := ⟨wC_X2_passTick, wI_X2_passTick, wS_X2_passTick, wZ_X2, by decide +kernel⟩
def m_X2_passTick (g : zG) (i0 : Nat) (p0 : Nat) : Option (Int32 × zG) := bd (ui g 0 i0 0 ((gi g 0 i0 0) + (nI 1))) fun g1 => (m_X2_firstJob g1 i0).bind fun r2 => (m_X3_jobAt g1 p0 r2).bind fun x => oc x (some ((nI 0), g1)) (fun n3 => gd (n3 < dm 71) ((m_X2_whyStands g1 i0 p0).bind fun r5 => if r5 = (nI 0) then if (gi g1 2 i0 0) = (nI 0) then (m_X2_madeOf g1 i0 r2).bind fun r7 => (m_X1_sidesOf g1 n3 r7).bind fun r8 => if r8 = (nI 2) then gd (isb (nI 1) = true) (bd (ui g1 2 i0 0 (nI 1)) fun g10 => some ((nI 0), g10)) else (m_X2_bringSheet g1 i0 p0 n3 r2).bind fun g9 => some ((nI 1), g9) else (m_X2_bringSheet g1 i0 p0 n3 r2).bind fun g6 => some ((nI 1), g6) else some ((nI 0), g1)))
set_option maxRecDepth 100000 in
set_option maxHeartbeats 4000000 in
theorem c_X2_passTick (l : Launch) (z : zE) (gm : zG) (g : zG) (i0 : Nat) (hi0 : i0 < dm 72) (p0 : Nat) (hp0 : p0 < dm 73) : ∀ x, m_X2_passTick g i0 p0 = some x → Ms dm l yX2_passTick cX2_passTick 4 (some .boolean) rm_X2_passTick z [.ref (za z 72 i0), .ref (za z 73 p0)] ((wx z gm) g) (osi x) ((wx z gm) ((fun x => x.2) x)) := by
  refine ms_of (Wf := (wx z gm)) (ri := .ireturn) (out := osi) (nxt := (fun x => x.2)) (ok := (fun x => isb x.1 = true)) (lv := [(0, .ref (za z 72 i0)), (1, .ref (za z 73 p0))]) (by decide) ⟨rfl, rfl⟩ (Nat.le_of_ble_eq_true rfl) rfl (en_z (out := fun x : Int32 × zG => x.1)) (fun p e s m below meth c => ?_)
  refine j_eq (M2 := bd (ui g 0 i0 0 ((gi g 0 i0 0) + (nI 1))) fun g1 => (m_X2_firstJob g1 i0).bind fun r2 => (m_X3_jobAt g1 p0 r2).bind fun x => oc x (some ((nI 0), g1)) (fun n3 => gd (n3 < dm 71) ((m_X2_whyStands g1 i0 p0).bind fun r5 => if r5 = (nI 0) then if (gi g1 2 i0 0) = (nI 0) then (m_X2_madeOf g1 i0 r2).bind fun r7 => (m_X1_sidesOf g1 n3 r7).bind fun r8 => if r8 = (nI 2) then gd (isb (nI 1) = true) (bd (ui g1 2 i0 0 (nI 1)) fun g10 => some ((nI 0), g10)) else (m_X2_bringSheet g1 i0 p0 n3 r2).bind fun g9 => some ((nI 1), g9) else (m_X2_bringSheet g1 i0 p0 n3 r2).bind fun g6 => some ((nI 1), g6) else some ((nI 0), g1)))) rfl ?_
  refine j_aload_n (q := 1) (i := 0) (n := 0) dX2_passTick_0 rfl rfl rfl ?_
  refine j_dup (q := 2) dX2_passTick_1 rfl rfl ?_
  refine g_X2_tick (q := 5) wF_X2_27 hi0 dX2_passTick_2 rfl ?_
  refine j_iconst (q := 6) (v := (nI 1)) dX2_passTick_5 rfl rfl ?_
  refine j_iadd (q := 7) dX2_passTick_6 rfl ?_
  refine p_X2_tick (q := 10) dm_le wF_X2_27 hi0 dX2_passTick_7 rfl (fun g1 => ?_)
  refine j_aload_n (q := 11) (i := 0) (n := 0) dX2_passTick_10 rfl rfl rfl ?_
  refine j_ci (q := 14) (rn_V (R := rm_X2_passTick) (As := []) (rest := []) (c_X2_firstJob _ z gm g1 i0 hi0) cv_X2_firstJob wM_X2_70 ⟨rfl, rfl⟩ ⟨(Nat.le_of_ble_eq_true rfl), (Nat.le_of_ble_eq_true rfl)⟩ hi0 rfl rfl rfl (Nat.le_of_ble_eq_true rfl) dX2_passTick_11) rfl (fun r2 => ?_)
  refine j_istore_n (q := 15) (n := 2) (lv' := [(2, .int r2), (0, .ref (za z 72 i0)), (1, .ref (za z 73 p0))]) dX2_passTick_14 rfl (Nat.le_of_ble_eq_true rfl) rfl rfl ?_
  refine j_aload_n (q := 16) (i := 2) (n := 1) dX2_passTick_15 rfl rfl rfl ?_
  refine j_iload_n (q := 17) (i := 0) (n := 2) dX2_passTick_16 rfl rfl rfl ?_
  refine j_crs (k0 := 71) (q := 20) (rn_V (R := rm_X2_passTick) (As := [.int r2]) (rest := []) (c_X3_jobAt _ z gm g1 p0 hp0 r2) cv_X3_jobAt wM_X2_74 ⟨rfl, rfl⟩ ⟨(Nat.le_of_ble_eq_true rfl), (Nat.le_of_ble_eq_true rfl)⟩ hp0 rfl rfl rfl (Nat.le_of_ble_eq_true rfl) dX2_passTick_17) rfl ?_ (fun n3 => ?_)
  · refine j_astore_nN (q := 21) (n := 3) (lv' := [(3, .null), (2, .int r2), (0, .ref (za z 72 i0)), (1, .ref (za z 73 p0))]) dX2_passTick_20 rfl (Nat.le_of_ble_eq_true rfl) rfl rfl ?_
    refine j_aload_nN (q := 22) (i := 0) (n := 3) dX2_passTick_21 rfl rfl rfl ?_
    refine j_nul0 (tgt := 33) dX2_passTick_22 rfl ?_
    refine j_iconst (q := 34) (v := (nI 0)) dX2_passTick_33 rfl rfl ?_
    exact j_ret (x := ((nI 0), g1)) dX2_passTick_34 ⟨rfl, rfl, rfl⟩
  · refine j_gd (fun hn4 => ?_)
    refine j_astore_n (q := 21) (n := 3) (lv' := [(3, .ref (za z 71 n3)), (2, .int r2), (0, .ref (za z 72 i0)), (1, .ref (za z 73 p0))]) dX2_passTick_20 rfl (Nat.le_of_ble_eq_true rfl) rfl rfl ?_
    refine j_aload_n (q := 22) (i := 0) (n := 3) dX2_passTick_21 rfl rfl rfl ?_
    refine j_nul1 (q := 25) dX2_passTick_22 rfl ?_
    refine j_aload_n (q := 26) (i := 2) (n := 0) dX2_passTick_25 rfl rfl rfl ?_
    refine j_aload_n (q := 27) (i := 3) (n := 1) dX2_passTick_26 rfl rfl rfl ?_
    refine j_ci (q := 30) (rn_V (R := rm_X2_passTick) (As := [.ref (za z 73 p0)]) (rest := []) (c_X2_whyStands _ z gm g1 i0 hi0 p0 hp0) cv_X2_whyStands wM_X2_93 ⟨rfl, rfl⟩ ⟨(Nat.le_of_ble_eq_true rfl), (Nat.le_of_ble_eq_true rfl)⟩ hi0 rfl rfl rfl (Nat.le_of_ble_eq_true rfl) dX2_passTick_27) rfl (fun r5 => ?_)
    refine j_if_eq (tgt := 35) (q := 33) dX2_passTick_30 rfl rfl ?_ ?_
    · refine j_aload_n (q := 36) (i := 2) (n := 0) dX2_passTick_35 rfl rfl rfl ?_
      refine g_X2_half (q := 39) wF_X2_37 hi0 dX2_passTick_36 rfl ?_
      refine j_if_ne (tgt := 62) (q := 42) dX2_passTick_39 rfl rfl ?_ ?_
      · refine j_aload_n (q := 63) (i := 2) (n := 0) dX2_passTick_62 rfl rfl rfl ?_
        refine j_aload_n (q := 64) (i := 3) (n := 1) dX2_passTick_63 rfl rfl rfl ?_
        refine j_aload_n (q := 65) (i := 0) (n := 3) dX2_passTick_64 rfl rfl rfl ?_
        refine j_iload_n (q := 66) (i := 1) (n := 2) dX2_passTick_65 rfl rfl rfl ?_
        refine j_sv (q := 69) (rn_V (R := rm_X2_passTick) (As := [.ref (za z 73 p0), .ref (za z 71 n3), .int r2]) (rest := []) (c_X2_bringSheet _ z gm g1 i0 hi0 p0 hp0 n3 hn4 r2) cv_X2_bringSheet wM_X2_97 ⟨rfl, rfl⟩ ⟨(Nat.le_of_ble_eq_true rfl), (Nat.le_of_ble_eq_true rfl)⟩ hi0 rfl rfl rfl (Nat.le_of_ble_eq_true rfl) dX2_passTick_66) rfl (fun g6 => ?_)
        refine j_iconst (q := 70) (v := (nI 1)) dX2_passTick_69 rfl rfl ?_
        exact j_ret (x := ((nI 1), g6)) dX2_passTick_70 ⟨rfl, rfl, rfl⟩
      · refine j_aload_n (q := 43) (i := 0) (n := 3) dX2_passTick_42 rfl rfl rfl ?_
        refine j_aload_n (q := 44) (i := 2) (n := 0) dX2_passTick_43 rfl rfl rfl ?_
        refine j_iload_n (q := 45) (i := 1) (n := 2) dX2_passTick_44 rfl rfl rfl ?_
        refine j_ci (q := 48) (rn_V (R := rm_X2_passTick) (As := [.int r2]) (rest := [.ref (za z 71 n3)]) (c_X2_madeOf _ z gm g1 i0 hi0 r2) cv_X2_madeOf wM_X2_78 ⟨rfl, rfl⟩ ⟨(Nat.le_of_ble_eq_true rfl), (Nat.le_of_ble_eq_true rfl)⟩ hi0 rfl rfl rfl (Nat.le_of_ble_eq_true rfl) dX2_passTick_45) rfl (fun r7 => ?_)
        refine j_ci (q := 51) (rn_V (R := rm_X2_passTick) (As := [.int r7]) (rest := []) (c_X1_sidesOf _ z gm g1 n3 hn4 r7) cv_X1_sidesOf wM_X2_86 ⟨rfl, rfl⟩ ⟨(Nat.le_of_ble_eq_true rfl), (Nat.le_of_ble_eq_true rfl)⟩ hn4 rfl rfl rfl (Nat.le_of_ble_eq_true rfl) dX2_passTick_48) rfl (fun r8 => ?_)
        refine j_iconst (q := 52) (v := (nI 2)) dX2_passTick_51 rfl rfl ?_
        refine j_icmp_ne (tgt := 62) (q := 55) dX2_passTick_52 rfl rfl ?_ ?_
        · refine j_aload_n (q := 63) (i := 2) (n := 0) dX2_passTick_62 rfl rfl rfl ?_
          refine j_aload_n (q := 64) (i := 3) (n := 1) dX2_passTick_63 rfl rfl rfl ?_
          refine j_aload_n (q := 65) (i := 0) (n := 3) dX2_passTick_64 rfl rfl rfl ?_
          refine j_iload_n (q := 66) (i := 1) (n := 2) dX2_passTick_65 rfl rfl rfl ?_
          refine j_sv (q := 69) (rn_V (R := rm_X2_passTick) (As := [.ref (za z 73 p0), .ref (za z 71 n3), .int r2]) (rest := []) (c_X2_bringSheet _ z gm g1 i0 hi0 p0 hp0 n3 hn4 r2) cv_X2_bringSheet wM_X2_97 ⟨rfl, rfl⟩ ⟨(Nat.le_of_ble_eq_true rfl), (Nat.le_of_ble_eq_true rfl)⟩ hi0 rfl rfl rfl (Nat.le_of_ble_eq_true rfl) dX2_passTick_66) rfl (fun g9 => ?_)
          refine j_iconst (q := 70) (v := (nI 1)) dX2_passTick_69 rfl rfl ?_
          exact j_ret (x := ((nI 1), g9)) dX2_passTick_70 ⟨rfl, rfl, rfl⟩
        · refine j_aload_n (q := 56) (i := 2) (n := 0) dX2_passTick_55 rfl rfl rfl ?_
          refine j_iconst (q := 57) (v := (nI 1)) dX2_passTick_56 rfl rfl ?_
          refine p_X2_half (q := 60) dm_le wF_X2_37 hi0 dX2_passTick_57 rfl (fun g10 => ?_)
          refine j_iconst (q := 61) (v := (nI 0)) dX2_passTick_60 rfl rfl ?_
          exact j_ret (x := ((nI 0), g10)) dX2_passTick_61 ⟨rfl, rfl, rfl⟩
    · refine j_iconst (q := 34) (v := (nI 0)) dX2_passTick_33 rfl rfl ?_
      exact j_ret (x := ((nI 0), g1)) dX2_passTick_34 ⟨rfl, rfl, rfl⟩
-- CopierJobs$Now.leftOf(LCopierJobs$Plan;I)I
abbrev rm_X2_leftOf : Room := { frames := 3, cells := 0, slots := 0, locals := 64 }
theorem cv_X2_leftOf : CV yX2_leftOf cX2_leftOf 6 (some .int) 2 := ⟨wC_X2_leftOf, wI_X2_leftOf, wS_X2_leftOf, wZ_X2, by decide +kernel⟩
def m_X2_leftOf_L32 (i0 : Nat) (p0 : Nat) (a1 : Int32) (n1 : Nat) (g : zG) : Nat → Int32 → Int32 → Option (Int32)
  | 0, _, _ => none
  | f + 1, x4, x5 => (m_X1_all g n1).bind fun r5 => if x5 < r5 then (m_X1_sidesOf g n1 x5).bind fun r6 => m_X2_leftOf_L32 i0 p0 a1 n1 g f (x4 + r6) (x5 + (nI 1)) else some x4
set_option maxRecDepth 100000 in
set_option maxHeartbeats 4000000 in
theorem t_X2_leftOf_L32 {p : Program} {l : Launch} {e : Env} {s : State} {m : MethodId} {args : Array Value} {below : List Frame} {meth : Method} {c : Code} {cells slots : Nat} {Q : Int32 → State → Prop} (z : zE) (gm : zG) (i0 : Nat) (p0 : Nat) (a1 : Int32) (hi0 : i0 < dm 72) (hp0 : p0 < dm 73) (n1 : Nat) (hn2 : n1 < dm 71) (g : zG) : ∀ (f : Nat) (x4 : Int32) (x5 : Int32), zJ dm p l e rm_X2_leftOf s m args below meth c cX2_leftOf 6 yX2_leftOf.cls z cells slots (wx z gm) (fn (fun _ => True) (fun _ => g) oi) .ireturn Q 32 [(3, .ref (za z 71 n1)), (4, .int x4), (5, .int x5)] [] g (m_X2_leftOf_L32 i0 p0 a1 n1 g f x4 x5) := by
  intro f
  induction f with
  | zero => intro x4 x5; exact j_none
  | succ f ih =>
    intro x4 x5
    refine j_eq (M2 := (m_X1_all g n1).bind fun r5 => if x5 < r5 then (m_X1_sidesOf g n1 x5).bind fun r6 => m_X2_leftOf_L32 i0 p0 a1 n1 g f (x4 + r6) (x5 + (nI 1)) else some x4) rfl ?_
    refine j_iload (q := 34) (i := 2) (n := 5) dX2_leftOf_32 rfl rfl ?_
    refine j_aload_n (q := 35) (i := 0) (n := 3) dX2_leftOf_34 rfl rfl rfl ?_
    refine j_ci (q := 38) (rn_V (R := rm_X2_leftOf) (As := []) (rest := [.int x5]) (c_X1_all _ z gm g n1 hn2) cv_X1_all wM_X2_101 ⟨rfl, rfl⟩ ⟨(Nat.le_of_ble_eq_true rfl), (Nat.le_of_ble_eq_true rfl)⟩ hn2 rfl rfl rfl (Nat.le_of_ble_eq_true rfl) dX2_leftOf_35) rfl (fun r5 => ?_)
    refine j_icmp_ge (tgt := 58) (q := 41) dX2_leftOf_38 rfl rfl ?_ ?_
    · refine j_iload (q := 60) (i := 1) (n := 4) dX2_leftOf_58 rfl rfl ?_
      exact j_ret (x := x4) dX2_leftOf_60 ⟨trivial, rfl, rfl⟩
    · refine j_iload (q := 43) (i := 1) (n := 4) dX2_leftOf_41 rfl rfl ?_
      refine j_aload_n (q := 44) (i := 0) (n := 3) dX2_leftOf_43 rfl rfl rfl ?_
      refine j_iload (q := 46) (i := 2) (n := 5) dX2_leftOf_44 rfl rfl ?_
      refine j_ci (q := 49) (rn_V (R := rm_X2_leftOf) (As := [.int x5]) (rest := [.int x4]) (c_X1_sidesOf _ z gm g n1 hn2 x5) cv_X1_sidesOf wM_X2_86 ⟨rfl, rfl⟩ ⟨(Nat.le_of_ble_eq_true rfl), (Nat.le_of_ble_eq_true rfl)⟩ hn2 rfl rfl rfl (Nat.le_of_ble_eq_true rfl) dX2_leftOf_46) rfl (fun r6 => ?_)
      refine j_iadd (q := 50) dX2_leftOf_49 rfl ?_
      refine j_istore (q := 52) (n := 4) (lv' := [(4, .int (x4 + r6)), (3, .ref (za z 71 n1)), (5, .int x5)]) dX2_leftOf_50 (Nat.le_of_ble_eq_true rfl) rfl rfl ?_
      refine j_iinc (q := 55) (n := 5) (i := 2) (v := x5 + (nI 1)) (lv' := [(5, .int (x5 + (nI 1))), (4, .int (x4 + r6)), (3, .ref (za z 71 n1))]) dX2_leftOf_52 rfl rfl (Nat.le_of_ble_eq_true rfl) rfl rfl ?_
      refine j_goto (tgt := 32) dX2_leftOf_55 rfl ?_
      refine j_lv [2, 1, 0] (lv' := [(3, .ref (za z 71 n1)), (4, .int (x4 + r6)), (5, .int (x5 + (nI 1)))]) rfl ?_
      exact ih (x4 + r6) (x5 + (nI 1))
def m_X2_leftOf (g : zG) (i0 : Nat) (p0 : Nat) (a1 : Int32) : Option (Int32) := (m_X3_jobAt g p0 a1).bind fun x => oc x (some (nI 0)) (fun n1 => gd (n1 < dm 71) ((m_X2_placeOf g i0 a1).bind fun r3 => if r3 = (-9) then some (nI 0) else (m_X2_madeOf g i0 a1).bind fun r4 => m_X2_leftOf_L32 i0 p0 a1 n1 g FU (nI 0) r4))
set_option maxRecDepth 100000 in
set_option maxHeartbeats 4000000 in
theorem c_X2_leftOf (l : Launch) (z : zE) (gm : zG) (g : zG) (i0 : Nat) (hi0 : i0 < dm 72) (p0 : Nat) (hp0 : p0 < dm 73) (a1 : Int32) : ∀ x, m_X2_leftOf g i0 p0 a1 = some x → Ms dm l yX2_leftOf cX2_leftOf 6 (some .int) rm_X2_leftOf z [.ref (za z 72 i0), .ref (za z 73 p0), .int a1] ((wx z gm) g) (oi x) ((wx z gm) ((fun _ => g) x)) := by
  refine ms_of (Wf := (wx z gm)) (ri := .ireturn) (out := oi) (nxt := (fun _ => g)) (ok := (fun _ => True)) (lv := [(0, .ref (za z 72 i0)), (1, .ref (za z 73 p0)), (2, .int a1)]) (by decide) ⟨rfl, rfl⟩ (Nat.le_of_ble_eq_true rfl) rfl (en_i (out := fun x => x)) (fun p e s m below meth c => ?_)
  refine j_eq (M2 := (m_X3_jobAt g p0 a1).bind fun x => oc x (some (nI 0)) (fun n1 => gd (n1 < dm 71) ((m_X2_placeOf g i0 a1).bind fun r3 => if r3 = (-9) then some (nI 0) else (m_X2_madeOf g i0 a1).bind fun r4 => m_X2_leftOf_L32 i0 p0 a1 n1 g FU (nI 0) r4))) rfl ?_
  refine j_aload_n (q := 1) (i := 1) (n := 1) dX2_leftOf_0 rfl rfl rfl ?_
  refine j_iload_n (q := 2) (i := 2) (n := 2) dX2_leftOf_1 rfl rfl rfl ?_
  refine j_crs (k0 := 71) (q := 5) (rn_V (R := rm_X2_leftOf) (As := [.int a1]) (rest := []) (c_X3_jobAt _ z gm g p0 hp0 a1) cv_X3_jobAt wM_X2_74 ⟨rfl, rfl⟩ ⟨(Nat.le_of_ble_eq_true rfl), (Nat.le_of_ble_eq_true rfl)⟩ hp0 rfl rfl rfl (Nat.le_of_ble_eq_true rfl) dX2_leftOf_2) rfl ?_ (fun n1 => ?_)
  · refine j_astore_nN (q := 6) (n := 3) (lv' := [(3, .null), (0, .ref (za z 72 i0)), (1, .ref (za z 73 p0)), (2, .int a1)]) dX2_leftOf_5 rfl (Nat.le_of_ble_eq_true rfl) rfl rfl ?_
    refine j_aload_nN (q := 7) (i := 0) (n := 3) dX2_leftOf_6 rfl rfl rfl ?_
    refine j_nul0 (tgt := 20) dX2_leftOf_7 rfl ?_
    refine j_iconst (q := 21) (v := (nI 0)) dX2_leftOf_20 rfl rfl ?_
    exact j_ret (x := (nI 0)) dX2_leftOf_21 ⟨trivial, rfl, rfl⟩
  · refine j_gd (fun hn2 => ?_)
    refine j_astore_n (q := 6) (n := 3) (lv' := [(3, .ref (za z 71 n1)), (0, .ref (za z 72 i0)), (1, .ref (za z 73 p0)), (2, .int a1)]) dX2_leftOf_5 rfl (Nat.le_of_ble_eq_true rfl) rfl rfl ?_
    refine j_aload_n (q := 7) (i := 0) (n := 3) dX2_leftOf_6 rfl rfl rfl ?_
    refine j_nul1 (q := 10) dX2_leftOf_7 rfl ?_
    refine j_aload_n (q := 11) (i := 1) (n := 0) dX2_leftOf_10 rfl rfl rfl ?_
    refine j_iload_n (q := 12) (i := 3) (n := 2) dX2_leftOf_11 rfl rfl rfl ?_
    refine j_ci (q := 15) (rn_V (R := rm_X2_leftOf) (As := [.int a1]) (rest := []) (c_X2_placeOf _ z gm g i0 hi0 a1) cv_X2_placeOf wM_X2_62 ⟨rfl, rfl⟩ ⟨(Nat.le_of_ble_eq_true rfl), (Nat.le_of_ble_eq_true rfl)⟩ hi0 rfl rfl rfl (Nat.le_of_ble_eq_true rfl) dX2_leftOf_12) rfl (fun r3 => ?_)
    refine j_bipush (q := 17) (v := (-9)) dX2_leftOf_15 rfl rfl ?_
    refine j_icmp_ne (tgt := 22) (q := 20) dX2_leftOf_17 rfl rfl ?_ ?_
    · refine j_iconst (q := 23) (v := (nI 0)) dX2_leftOf_22 rfl rfl ?_
      refine j_istore (q := 25) (n := 4) (lv' := [(4, .int (nI 0)), (3, .ref (za z 71 n1)), (0, .ref (za z 72 i0)), (1, .ref (za z 73 p0)), (2, .int a1)]) dX2_leftOf_23 (Nat.le_of_ble_eq_true rfl) rfl rfl ?_
      refine j_aload_n (q := 26) (i := 2) (n := 0) dX2_leftOf_25 rfl rfl rfl ?_
      refine j_iload_n (q := 27) (i := 4) (n := 2) dX2_leftOf_26 rfl rfl rfl ?_
      refine j_ci (q := 30) (rn_V (R := rm_X2_leftOf) (As := [.int a1]) (rest := []) (c_X2_madeOf _ z gm g i0 hi0 a1) cv_X2_madeOf wM_X2_78 ⟨rfl, rfl⟩ ⟨(Nat.le_of_ble_eq_true rfl), (Nat.le_of_ble_eq_true rfl)⟩ hi0 rfl rfl rfl (Nat.le_of_ble_eq_true rfl) dX2_leftOf_27) rfl (fun r4 => ?_)
      refine j_istore (q := 32) (n := 5) (lv' := [(5, .int r4), (4, .int (nI 0)), (3, .ref (za z 71 n1)), (0, .ref (za z 72 i0)), (1, .ref (za z 73 p0)), (2, .int a1)]) dX2_leftOf_30 (Nat.le_of_ble_eq_true rfl) rfl rfl ?_
      refine j_lv [2, 1, 0] (lv' := [(3, .ref (za z 71 n1)), (4, .int (nI 0)), (5, .int r4)]) rfl ?_
      exact t_X2_leftOf_L32 z gm i0 p0 a1 hi0 hp0 n1 hn2 g FU (nI 0) r4
    · refine j_iconst (q := 21) (v := (nI 0)) dX2_leftOf_20 rfl rfl ?_
      exact j_ret (x := (nI 0)) dX2_leftOf_21 ⟨trivial, rfl, rfl⟩
-- CopierJobs$Now.sheetsInBins()I
abbrev rm_X2_sheetsInBins : Room := { frames := 0, cells := 0, slots := 0, locals := 0 }
theorem cv_X2_sheetsInBins : CV yX2_sheetsInBins cX2_sheetsInBins 3 (some .int) 0 := ⟨wC_X2_sheetsInBins, wI_X2_sheetsInBins, wS_X2_sheetsInBins, wZ_X2, by decide +kernel⟩
def m_X2_sheetsInBins_L4 (i0 : Nat) (g : zG) : Nat → Int32 → Int32 → Option (Int32)
  | 0, _, _ => none
  | f + 1, x1, x2 => if x2 < (nI 6) then gd (inb x2 6 = true) (bd (x1 + (gi g 8 i0 x2.toNatClampNeg)) fun v1 => m_X2_sheetsInBins_L4 i0 g f v1 (x2 + (nI 1))) else some x1
set_option maxRecDepth 100000 in
set_option maxHeartbeats 4000000 in
theorem t_X2_sheetsInBins_L4 {p : Program} {l : Launch} {e : Env} {s : State} {m : MethodId} {args : Array Value} {below : List Frame} {meth : Method} {c : Code} {cells slots : Nat} {Q : Int32 → State → Prop} (z : zE) (gm : zG) (i0 : Nat) (hi0 : i0 < dm 72) (g : zG) : ∀ (f : Nat) (x1 : Int32) (x2 : Int32), zJ dm p l e rm_X2_sheetsInBins s m args below meth c cX2_sheetsInBins 3 yX2_sheetsInBins.cls z cells slots (wx z gm) (fn (fun _ => True) (fun _ => g) oi) .ireturn Q 4 [(0, .ref (za z 72 i0)), (1, .int x1), (2, .int x2)] [] g (m_X2_sheetsInBins_L4 i0 g f x1 x2) := by
  intro f
  induction f with
  | zero => intro x1 x2; exact j_none
  | succ f ih =>
    intro x1 x2
    refine j_eq (M2 := if x2 < (nI 6) then gd (inb x2 6 = true) (bd (x1 + (gi g 8 i0 x2.toNatClampNeg)) fun v1 => m_X2_sheetsInBins_L4 i0 g f v1 (x2 + (nI 1))) else some x1) rfl ?_
    refine j_iload_n (q := 5) (i := 2) (n := 2) dX2_sheetsInBins_4 rfl rfl rfl ?_
    refine j_aload_n (q := 6) (i := 0) (n := 0) dX2_sheetsInBins_5 rfl rfl rfl ?_
    refine g_X2_bins (q := 9) wF_X2_24 hi0 dX2_sheetsInBins_6 rfl ?_
    refine ax_len (k := 8) (v := nI 6) (q := 10) isX_8 rfl hi0 dX2_sheetsInBins_9 rfl ?_
    refine j_icmp_ge (tgt := 28) (q := 13) dX2_sheetsInBins_10 rfl rfl ?_ ?_
    · refine j_iload_n (q := 29) (i := 1) (n := 1) dX2_sheetsInBins_28 rfl rfl rfl ?_
      exact j_ret (x := x1) dX2_sheetsInBins_29 ⟨trivial, rfl, rfl⟩
    · refine j_iload_n (q := 14) (i := 1) (n := 1) dX2_sheetsInBins_13 rfl rfl rfl ?_
      refine j_aload_n (q := 15) (i := 0) (n := 0) dX2_sheetsInBins_14 rfl rfl rfl ?_
      refine g_X2_bins (q := 18) wF_X2_24 hi0 dX2_sheetsInBins_15 rfl ?_
      refine j_iload_n (q := 19) (i := 2) (n := 2) dX2_sheetsInBins_18 rfl rfl rfl ?_
      refine ax_ld (k := 8) (n := 6) (q := 20) isX_8 rfl hi0 dX2_sheetsInBins_19 rfl ?_
      refine j_iadd (q := 21) dX2_sheetsInBins_20 rfl ?_
      refine j_top (fun v1 => ?_)
      refine j_istore_n (q := 22) (n := 1) (lv' := [(1, .int v1), (0, .ref (za z 72 i0)), (2, .int x2)]) dX2_sheetsInBins_21 rfl (Nat.le_of_ble_eq_true rfl) rfl rfl ?_
      refine j_iinc (q := 25) (n := 2) (i := 2) (v := x2 + (nI 1)) (lv' := [(2, .int (x2 + (nI 1))), (1, .int v1), (0, .ref (za z 72 i0))]) dX2_sheetsInBins_22 rfl rfl (Nat.le_of_ble_eq_true rfl) rfl rfl ?_
      refine j_goto (tgt := 4) dX2_sheetsInBins_25 rfl ?_
      refine j_lv [2, 1, 0] (lv' := [(0, .ref (za z 72 i0)), (1, .int v1), (2, .int (x2 + (nI 1)))]) rfl ?_
      exact ih v1 (x2 + (nI 1))
def m_X2_sheetsInBins (g : zG) (i0 : Nat) : Option (Int32) := m_X2_sheetsInBins_L4 i0 g FU (nI 0) (nI 0)
set_option maxRecDepth 100000 in
set_option maxHeartbeats 4000000 in
theorem c_X2_sheetsInBins (l : Launch) (z : zE) (gm : zG) (g : zG) (i0 : Nat) (hi0 : i0 < dm 72) : ∀ x, m_X2_sheetsInBins g i0 = some x → Ms dm l yX2_sheetsInBins cX2_sheetsInBins 3 (some .int) rm_X2_sheetsInBins z [.ref (za z 72 i0)] ((wx z gm) g) (oi x) ((wx z gm) ((fun _ => g) x)) := by
  refine ms_of (Wf := (wx z gm)) (ri := .ireturn) (out := oi) (nxt := (fun _ => g)) (ok := (fun _ => True)) (lv := [(0, .ref (za z 72 i0))]) (by decide) ⟨rfl, rfl⟩ (Nat.le_of_ble_eq_true rfl) rfl (en_i (out := fun x => x)) (fun p e s m below meth c => ?_)
  refine j_eq (M2 := m_X2_sheetsInBins_L4 i0 g FU (nI 0) (nI 0)) rfl ?_
  refine j_iconst (q := 1) (v := (nI 0)) dX2_sheetsInBins_0 rfl rfl ?_
  refine j_istore_n (q := 2) (n := 1) (lv' := [(1, .int (nI 0)), (0, .ref (za z 72 i0))]) dX2_sheetsInBins_1 rfl (Nat.le_of_ble_eq_true rfl) rfl rfl ?_
  refine j_iconst (q := 3) (v := (nI 0)) dX2_sheetsInBins_2 rfl rfl ?_
  refine j_istore_n (q := 4) (n := 2) (lv' := [(2, .int (nI 0)), (1, .int (nI 0)), (0, .ref (za z 72 i0))]) dX2_sheetsInBins_3 rfl (Nat.le_of_ble_eq_true rfl) rfl rfl ?_
  refine j_lv [2, 1, 0] (lv' := [(0, .ref (za z 72 i0)), (1, .int (nI 0)), (2, .int (nI 0))]) rfl ?_
  exact t_X2_sheetsInBins_L4 z gm i0 hi0 g FU (nI 0) (nI 0)
-- CopierJobs$Now.trayWants(LCopierJobs$Plan;I)I
abbrev rm_X2_trayWants : Room := { frames := 2, cells := 0, slots := 0, locals := 42 }
theorem cv_X2_trayWants : CV yX2_trayWants cX2_trayWants 7 (some .int) 2 := ⟨wC_X2_trayWants, wI_X2_trayWants, wS_X2_trayWants, wZ_X2, by decide +kernel⟩
def m_X2_trayWants_B68 (i0 : Nat) (p0 : Nat) (a1 : Int32) (g : zG) (x3 : Int32) : Option (Int32) := (m_X6_at g 7 i0 a1).bind fun r1 => (m_J9_max_7cf53 (nI 0) (x3 - r1)).bind fun r2 => some r2
set_option maxRecDepth 100000 in
set_option maxHeartbeats 4000000 in
theorem t_X2_trayWants_B68 {p : Program} {l : Launch} {e : Env} {s : State} {m : MethodId} {args : Array Value} {below : List Frame} {meth : Method} {c : Code} {cells slots : Nat} {Q : Int32 → State → Prop} (z : zE) (gm : zG) (i0 : Nat) (p0 : Nat) (a1 : Int32) (hi0 : i0 < dm 72) (hp0 : p0 < dm 73) (g : zG) (x3 : Int32) : zJ dm p l e rm_X2_trayWants s m args below meth c cX2_trayWants 7 yX2_trayWants.cls z cells slots (wx z gm) (fn (fun _ => True) (fun _ => g) oi) .ireturn Q 68 [(0, .ref (za z 72 i0)), (2, .int a1), (3, .int x3)] [] g (m_X2_trayWants_B68 i0 p0 a1 g x3) := by
  refine j_eq (M2 := (m_X6_at g 7 i0 a1).bind fun r1 => (m_J9_max_7cf53 (nI 0) (x3 - r1)).bind fun r2 => some r2) rfl ?_
  refine j_iconst (q := 69) (v := (nI 0)) dX2_trayWants_68 rfl rfl ?_
  refine j_iload_n (q := 70) (i := 2) (n := 3) dX2_trayWants_69 rfl rfl rfl ?_
  refine j_aload_n (q := 71) (i := 0) (n := 0) dX2_trayWants_70 rfl rfl rfl ?_
  refine g_X2_trays (q := 74) wF_X2_21 hi0 dX2_trayWants_71 rfl ?_
  refine j_iload_n (q := 75) (i := 1) (n := 2) dX2_trayWants_74 rfl rfl rfl ?_
  refine j_ci (q := 78) (rn_N (R := rm_X2_trayWants) (As := [.ref (za z 7 i0), .int a1]) (rest := [.int x3, .int (nI 0)]) (c_X6_at _ z gm g 7 i0 (Or.inl ⟨isX_7, hi0⟩) a1) cv_X6_at wO_X2_58 ⟨rfl, rfl⟩ ⟨(Nat.le_of_ble_eq_true rfl), (Nat.le_of_ble_eq_true rfl)⟩ rfl (Nat.le_of_ble_eq_true rfl) dX2_trayWants_75) rfl (fun r1 => ?_)
  refine j_isub (q := 79) dX2_trayWants_78 rfl ?_
  refine j_ci (q := 82) (rn_S (R := rm_X2_trayWants) (As := [.int (nI 0), .int (x3 - r1)]) (rest := []) (c_J9_max_7cf53 _ z gm g (nI 0) (x3 - r1)) cv_J9_max_7cf53 wM_X2_108 ⟨rfl, rfl⟩ ⟨(Nat.le_of_ble_eq_true rfl), (Nat.le_of_ble_eq_true rfl)⟩ rfl (Nat.le_of_ble_eq_true rfl) dX2_trayWants_79) rfl (fun r2 => ?_)
  exact j_ret (x := r2) dX2_trayWants_82 ⟨trivial, rfl, rfl⟩
def m_X2_trayWants_B62 (i0 : Nat) (p0 : Nat) (a1 : Int32) (g : zG) (K5 : Int32 → Int32 → Option (Int32)) (x3 : Int32) (x4 : Int32) : Option (Int32) := K5 x3 (x4 + (nI 1))
set_option maxRecDepth 100000 in
set_option maxHeartbeats 4000000 in
theorem t_X2_trayWants_B62 {p : Program} {l : Launch} {e : Env} {s : State} {m : MethodId} {args : Array Value} {below : List Frame} {meth : Method} {c : Code} {cells slots : Nat} {Q : Int32 → State → Prop} (z : zE) (gm : zG) (i0 : Nat) (p0 : Nat) (a1 : Int32) (hi0 : i0 < dm 72) (hp0 : p0 < dm 73) (g : zG) (K5 : Int32 → Int32 → Option (Int32)) (hK5 : ∀ (x3 : Int32) (x4 : Int32), zJ dm p l e rm_X2_trayWants s m args below meth c cX2_trayWants 7 yX2_trayWants.cls z cells slots (wx z gm) (fn (fun _ => True) (fun _ => g) oi) .ireturn Q 5 [(0, .ref (za z 72 i0)), (1, .ref (za z 73 p0)), (2, .int a1), (3, .int x3), (4, .int x4)] [] g (K5 x3 x4)) (x3 : Int32) (x4 : Int32) : zJ dm p l e rm_X2_trayWants s m args below meth c cX2_trayWants 7 yX2_trayWants.cls z cells slots (wx z gm) (fn (fun _ => True) (fun _ => g) oi) .ireturn Q 62 [(0, .ref (za z 72 i0)), (1, .ref (za z 73 p0)), (2, .int a1), (3, .int x3), (4, .int x4)] [] g (m_X2_trayWants_B62 i0 p0 a1 g K5 x3 x4) := by
  refine j_eq (M2 := K5 x3 (x4 + (nI 1))) rfl ?_
  refine j_iinc (q := 65) (n := 4) (i := 4) (v := x4 + (nI 1)) (lv' := [(4, .int (x4 + (nI 1))), (0, .ref (za z 72 i0)), (1, .ref (za z 73 p0)), (2, .int a1), (3, .int x3)]) dX2_trayWants_62 rfl rfl (Nat.le_of_ble_eq_true rfl) rfl rfl ?_
  refine j_goto (tgt := 5) dX2_trayWants_65 rfl ?_
  refine j_lv [1, 2, 3, 4, 0] (lv' := [(0, .ref (za z 72 i0)), (1, .ref (za z 73 p0)), (2, .int a1), (3, .int x3), (4, .int (x4 + (nI 1)))]) rfl ?_
  exact hK5 x3 (x4 + (nI 1))
def m_X2_trayWants_L5 (i0 : Nat) (p0 : Nat) (a1 : Int32) (g : zG) : Nat → Int32 → Int32 → Option (Int32)
  | 0, _, _ => none
  | f + 1, x3, x4 => if x4 < (gi g 3 i0 0) then (m_X6_at g 4 i0 x4).bind fun r3 => (m_X3_jobAt g p0 r3).bind fun x => oc x (m_X2_trayWants_B62 i0 p0 a1 g (m_X2_trayWants_L5 i0 p0 a1 g f) x3 x4) (fun n4 => gd (n4 < dm 71) (if (gi g 24 n4 0) = a1 then (m_X1_all g n4).bind fun r6 => (m_X2_madeOf g i0 r3).bind fun r7 => m_X2_trayWants_B62 i0 p0 a1 g (m_X2_trayWants_L5 i0 p0 a1 g f) (x3 + (r6 - r7)) x4 else m_X2_trayWants_B62 i0 p0 a1 g (m_X2_trayWants_L5 i0 p0 a1 g f) x3 x4)) else m_X2_trayWants_B68 i0 p0 a1 g x3
set_option maxRecDepth 100000 in
set_option maxHeartbeats 4000000 in
theorem t_X2_trayWants_L5 {p : Program} {l : Launch} {e : Env} {s : State} {m : MethodId} {args : Array Value} {below : List Frame} {meth : Method} {c : Code} {cells slots : Nat} {Q : Int32 → State → Prop} (z : zE) (gm : zG) (i0 : Nat) (p0 : Nat) (a1 : Int32) (hi0 : i0 < dm 72) (hp0 : p0 < dm 73) (g : zG) : ∀ (f : Nat) (x3 : Int32) (x4 : Int32), zJ dm p l e rm_X2_trayWants s m args below meth c cX2_trayWants 7 yX2_trayWants.cls z cells slots (wx z gm) (fn (fun _ => True) (fun _ => g) oi) .ireturn Q 5 [(0, .ref (za z 72 i0)), (1, .ref (za z 73 p0)), (2, .int a1), (3, .int x3), (4, .int x4)] [] g (m_X2_trayWants_L5 i0 p0 a1 g f x3 x4) := by
  intro f
  induction f with
  | zero => intro x3 x4; exact j_none
  | succ f ih =>
    intro x3 x4
    refine j_eq (M2 := if x4 < (gi g 3 i0 0) then (m_X6_at g 4 i0 x4).bind fun r3 => (m_X3_jobAt g p0 r3).bind fun x => oc x (m_X2_trayWants_B62 i0 p0 a1 g (m_X2_trayWants_L5 i0 p0 a1 g f) x3 x4) (fun n4 => gd (n4 < dm 71) (if (gi g 24 n4 0) = a1 then (m_X1_all g n4).bind fun r6 => (m_X2_madeOf g i0 r3).bind fun r7 => m_X2_trayWants_B62 i0 p0 a1 g (m_X2_trayWants_L5 i0 p0 a1 g f) (x3 + (r6 - r7)) x4 else m_X2_trayWants_B62 i0 p0 a1 g (m_X2_trayWants_L5 i0 p0 a1 g f) x3 x4)) else m_X2_trayWants_B68 i0 p0 a1 g x3) rfl ?_
    refine j_iload (q := 7) (i := 4) (n := 4) dX2_trayWants_5 rfl rfl ?_
    refine j_aload_n (q := 8) (i := 0) (n := 0) dX2_trayWants_7 rfl rfl rfl ?_
    refine g_X2_queued (q := 11) wF_X2_44 hi0 dX2_trayWants_8 rfl ?_
    refine j_icmp_ge (tgt := 68) (q := 14) dX2_trayWants_11 rfl rfl ?_ ?_
    · refine j_lv [0, 2, 3] (lv' := [(0, .ref (za z 72 i0)), (2, .int a1), (3, .int x3)]) rfl ?_
      exact t_X2_trayWants_B68 z gm i0 p0 a1 hi0 hp0 g x3
    · refine j_aload_n (q := 15) (i := 0) (n := 0) dX2_trayWants_14 rfl rfl rfl ?_
      refine g_X2_queue (q := 18) wF_X2_9 hi0 dX2_trayWants_15 rfl ?_
      refine j_iload (q := 20) (i := 4) (n := 4) dX2_trayWants_18 rfl rfl ?_
      refine j_ci (q := 23) (rn_N (R := rm_X2_trayWants) (As := [.ref (za z 4 i0), .int x4]) (rest := []) (c_X6_at _ z gm g 4 i0 (Or.inl ⟨isX_4, hi0⟩) x4) cv_X6_at wO_X2_58 ⟨rfl, rfl⟩ ⟨(Nat.le_of_ble_eq_true rfl), (Nat.le_of_ble_eq_true rfl)⟩ rfl (Nat.le_of_ble_eq_true rfl) dX2_trayWants_20) rfl (fun r3 => ?_)
      refine j_istore (q := 25) (n := 5) (lv' := [(5, .int r3), (0, .ref (za z 72 i0)), (1, .ref (za z 73 p0)), (2, .int a1), (3, .int x3), (4, .int x4)]) dX2_trayWants_23 (Nat.le_of_ble_eq_true rfl) rfl rfl ?_
      refine j_aload_n (q := 26) (i := 2) (n := 1) dX2_trayWants_25 rfl rfl rfl ?_
      refine j_iload (q := 28) (i := 0) (n := 5) dX2_trayWants_26 rfl rfl ?_
      refine j_crs (k0 := 71) (q := 31) (rn_V (R := rm_X2_trayWants) (As := [.int r3]) (rest := []) (c_X3_jobAt _ z gm g p0 hp0 r3) cv_X3_jobAt wM_X2_74 ⟨rfl, rfl⟩ ⟨(Nat.le_of_ble_eq_true rfl), (Nat.le_of_ble_eq_true rfl)⟩ hp0 rfl rfl rfl (Nat.le_of_ble_eq_true rfl) dX2_trayWants_28) rfl ?_ (fun n4 => ?_)
      · refine j_astoreN (q := 33) (n := 6) (lv' := [(6, .null), (5, .int r3), (0, .ref (za z 72 i0)), (1, .ref (za z 73 p0)), (2, .int a1), (3, .int x3), (4, .int x4)]) dX2_trayWants_31 (Nat.le_of_ble_eq_true rfl) rfl rfl ?_
        refine j_aloadN (q := 35) (i := 0) (n := 6) dX2_trayWants_33 rfl rfl ?_
        refine j_nul0 (tgt := 62) dX2_trayWants_35 rfl ?_
        refine j_lv [2, 3, 4, 5, 6] (lv' := [(0, .ref (za z 72 i0)), (1, .ref (za z 73 p0)), (2, .int a1), (3, .int x3), (4, .int x4)]) rfl ?_
        exact t_X2_trayWants_B62 z gm i0 p0 a1 hi0 hp0 g (m_X2_trayWants_L5 i0 p0 a1 g f) ih x3 x4
      · refine j_gd (fun hn5 => ?_)
        refine j_astore (q := 33) (n := 6) (lv' := [(6, .ref (za z 71 n4)), (5, .int r3), (0, .ref (za z 72 i0)), (1, .ref (za z 73 p0)), (2, .int a1), (3, .int x3), (4, .int x4)]) dX2_trayWants_31 (Nat.le_of_ble_eq_true rfl) rfl rfl ?_
        refine j_aload (q := 35) (i := 0) (n := 6) dX2_trayWants_33 rfl rfl ?_
        refine j_nul1 (q := 38) dX2_trayWants_35 rfl ?_
        refine j_aload (q := 40) (i := 0) (n := 6) dX2_trayWants_38 rfl rfl ?_
        refine gN_X1_tray (q := 43) wG_X2_81 hn5 dX2_trayWants_40 rfl ?_
        refine j_iload_n (q := 44) (i := 4) (n := 2) dX2_trayWants_43 rfl rfl rfl ?_
        refine j_icmp_ne (tgt := 62) (q := 47) dX2_trayWants_44 rfl rfl ?_ ?_
        · refine j_lv [2, 3, 4, 5, 6] (lv' := [(0, .ref (za z 72 i0)), (1, .ref (za z 73 p0)), (2, .int a1), (3, .int x3), (4, .int x4)]) rfl ?_
          exact t_X2_trayWants_B62 z gm i0 p0 a1 hi0 hp0 g (m_X2_trayWants_L5 i0 p0 a1 g f) ih x3 x4
        · refine j_iload_n (q := 48) (i := 5) (n := 3) dX2_trayWants_47 rfl rfl rfl ?_
          refine j_aload (q := 50) (i := 0) (n := 6) dX2_trayWants_48 rfl rfl ?_
          refine j_ci (q := 53) (rn_V (R := rm_X2_trayWants) (As := []) (rest := [.int x3]) (c_X1_all _ z gm g n4 hn5) cv_X1_all wM_X2_101 ⟨rfl, rfl⟩ ⟨(Nat.le_of_ble_eq_true rfl), (Nat.le_of_ble_eq_true rfl)⟩ hn5 rfl rfl rfl (Nat.le_of_ble_eq_true rfl) dX2_trayWants_50) rfl (fun r6 => ?_)
          refine j_aload_n (q := 54) (i := 2) (n := 0) dX2_trayWants_53 rfl rfl rfl ?_
          refine j_iload (q := 56) (i := 1) (n := 5) dX2_trayWants_54 rfl rfl ?_
          refine j_ci (q := 59) (rn_V (R := rm_X2_trayWants) (As := [.int r3]) (rest := [.int r6, .int x3]) (c_X2_madeOf _ z gm g i0 hi0 r3) cv_X2_madeOf wM_X2_78 ⟨rfl, rfl⟩ ⟨(Nat.le_of_ble_eq_true rfl), (Nat.le_of_ble_eq_true rfl)⟩ hi0 rfl rfl rfl (Nat.le_of_ble_eq_true rfl) dX2_trayWants_56) rfl (fun r7 => ?_)
          refine j_isub (q := 60) dX2_trayWants_59 rfl ?_
          refine j_iadd (q := 61) dX2_trayWants_60 rfl ?_
          refine j_istore_n (q := 62) (n := 3) (lv' := [(3, .int (x3 + (r6 - r7))), (6, .ref (za z 71 n4)), (5, .int r3), (0, .ref (za z 72 i0)), (1, .ref (za z 73 p0)), (2, .int a1), (4, .int x4)]) dX2_trayWants_61 rfl (Nat.le_of_ble_eq_true rfl) rfl rfl ?_
          refine j_lv [3, 4, 5, 0, 6] (lv' := [(0, .ref (za z 72 i0)), (1, .ref (za z 73 p0)), (2, .int a1), (3, .int (x3 + (r6 - r7))), (4, .int x4)]) rfl ?_
          exact t_X2_trayWants_B62 z gm i0 p0 a1 hi0 hp0 g (m_X2_trayWants_L5 i0 p0 a1 g f) ih (x3 + (r6 - r7)) x4
def m_X2_trayWants (g : zG) (i0 : Nat) (p0 : Nat) (a1 : Int32) : Option (Int32) := m_X2_trayWants_L5 i0 p0 a1 g FU (nI 0) (nI 0)
set_option maxRecDepth 100000 in
set_option maxHeartbeats 4000000 in
theorem c_X2_trayWants (l : Launch) (z : zE) (gm : zG) (g : zG) (i0 : Nat) (hi0 : i0 < dm 72) (p0 : Nat) (hp0 : p0 < dm 73) (a1 : Int32) : ∀ x, m_X2_trayWants g i0 p0 a1 = some x → Ms dm l yX2_trayWants cX2_trayWants 7 (some .int) rm_X2_trayWants z [.ref (za z 72 i0), .ref (za z 73 p0), .int a1] ((wx z gm) g) (oi x) ((wx z gm) ((fun _ => g) x)) := by
  refine ms_of (Wf := (wx z gm)) (ri := .ireturn) (out := oi) (nxt := (fun _ => g)) (ok := (fun _ => True)) (lv := [(0, .ref (za z 72 i0)), (1, .ref (za z 73 p0)), (2, .int a1)]) (by decide) ⟨rfl, rfl⟩ (Nat.le_of_ble_eq_true rfl) rfl (en_i (out := fun x => x)) (fun p e s m below meth c => ?_)
  refine j_eq (M2 := m_X2_trayWants_L5 i0 p0 a1 g FU (nI 0) (nI 0)) rfl ?_
  refine j_iconst (q := 1) (v := (nI 0)) dX2_trayWants_0 rfl rfl ?_
  refine j_istore_n (q := 2) (n := 3) (lv' := [(3, .int (nI 0)), (0, .ref (za z 72 i0)), (1, .ref (za z 73 p0)), (2, .int a1)]) dX2_trayWants_1 rfl (Nat.le_of_ble_eq_true rfl) rfl rfl ?_
  refine j_iconst (q := 3) (v := (nI 0)) dX2_trayWants_2 rfl rfl ?_
  refine j_istore (q := 5) (n := 4) (lv' := [(4, .int (nI 0)), (3, .int (nI 0)), (0, .ref (za z 72 i0)), (1, .ref (za z 73 p0)), (2, .int a1)]) dX2_trayWants_3 (Nat.le_of_ble_eq_true rfl) rfl rfl ?_
  refine j_lv [2, 3, 4, 1, 0] (lv' := [(0, .ref (za z 72 i0)), (1, .ref (za z 73 p0)), (2, .int a1), (3, .int (nI 0)), (4, .int (nI 0))]) rfl ?_
  exact t_X2_trayWants_L5 z gm i0 p0 a1 hi0 hp0 g FU (nI 0) (nI 0)
-- CopierJobs$Now.tonerWants(LCopierJobs$Plan;)I
abbrev rm_X2_tonerWants : Room := { frames := 4, cells := 0, slots := 0, locals := 89 }
theorem cv_X2_tonerWants : CV yX2_tonerWants cX2_tonerWants 4 (some .int) 1 := ⟨wC_X2_tonerWants, wI_X2_tonerWants, wS_X2_tonerWants, wZ_X2, by decide +kernel⟩
def m_X2_tonerWants_B34 (i0 : Nat) (p0 : Nat) (g : zG) (x2 : Int32) : Option (Int32) := (m_J9_max_7cf53 (nI 0) (x2 - (gi g 1 i0 0))).bind fun r1 => some r1
set_option maxRecDepth 100000 in
set_option maxHeartbeats 4000000 in
theorem t_X2_tonerWants_B34 {p : Program} {l : Launch} {e : Env} {s : State} {m : MethodId} {args : Array Value} {below : List Frame} {meth : Method} {c : Code} {cells slots : Nat} {Q : Int32 → State → Prop} (z : zE) (gm : zG) (i0 : Nat) (p0 : Nat) (hi0 : i0 < dm 72) (hp0 : p0 < dm 73) (g : zG) (x2 : Int32) : zJ dm p l e rm_X2_tonerWants s m args below meth c cX2_tonerWants 4 yX2_tonerWants.cls z cells slots (wx z gm) (fn (fun _ => True) (fun _ => g) oi) .ireturn Q 34 [(0, .ref (za z 72 i0)), (2, .int x2)] [] g (m_X2_tonerWants_B34 i0 p0 g x2) := by
  refine j_eq (M2 := (m_J9_max_7cf53 (nI 0) (x2 - (gi g 1 i0 0))).bind fun r1 => some r1) rfl ?_
  refine j_iconst (q := 35) (v := (nI 0)) dX2_tonerWants_34 rfl rfl ?_
  refine j_iload_n (q := 36) (i := 1) (n := 2) dX2_tonerWants_35 rfl rfl rfl ?_
  refine j_aload_n (q := 37) (i := 0) (n := 0) dX2_tonerWants_36 rfl rfl rfl ?_
  refine g_X2_toner (q := 40) wF_X2_36 hi0 dX2_tonerWants_37 rfl ?_
  refine j_isub (q := 41) dX2_tonerWants_40 rfl ?_
  refine j_ci (q := 44) (rn_S (R := rm_X2_tonerWants) (As := [.int (nI 0), .int (x2 - (gi g 1 i0 0))]) (rest := []) (c_J9_max_7cf53 _ z gm g (nI 0) (x2 - (gi g 1 i0 0))) cv_J9_max_7cf53 wM_X2_108 ⟨rfl, rfl⟩ ⟨(Nat.le_of_ble_eq_true rfl), (Nat.le_of_ble_eq_true rfl)⟩ rfl (Nat.le_of_ble_eq_true rfl) dX2_tonerWants_41) rfl (fun r1 => ?_)
  exact j_ret (x := r1) dX2_tonerWants_44 ⟨trivial, rfl, rfl⟩
def m_X2_tonerWants_L4 (i0 : Nat) (p0 : Nat) (g : zG) : Nat → Int32 → Int32 → Option (Int32)
  | 0, _, _ => none
  | f + 1, x2, x3 => if x3 < (gi g 3 i0 0) then (m_X6_at g 4 i0 x3).bind fun r2 => (m_X2_leftOf g i0 p0 r2).bind fun r3 => m_X2_tonerWants_L4 i0 p0 g f (x2 + r3) (x3 + (nI 1)) else m_X2_tonerWants_B34 i0 p0 g x2
set_option maxRecDepth 100000 in
set_option maxHeartbeats 4000000 in
theorem t_X2_tonerWants_L4 {p : Program} {l : Launch} {e : Env} {s : State} {m : MethodId} {args : Array Value} {below : List Frame} {meth : Method} {c : Code} {cells slots : Nat} {Q : Int32 → State → Prop} (z : zE) (gm : zG) (i0 : Nat) (p0 : Nat) (hi0 : i0 < dm 72) (hp0 : p0 < dm 73) (g : zG) : ∀ (f : Nat) (x2 : Int32) (x3 : Int32), zJ dm p l e rm_X2_tonerWants s m args below meth c cX2_tonerWants 4 yX2_tonerWants.cls z cells slots (wx z gm) (fn (fun _ => True) (fun _ => g) oi) .ireturn Q 4 [(0, .ref (za z 72 i0)), (1, .ref (za z 73 p0)), (2, .int x2), (3, .int x3)] [] g (m_X2_tonerWants_L4 i0 p0 g f x2 x3) := by
  intro f
  induction f with
  | zero => intro x2 x3; exact j_none
  | succ f ih =>
    intro x2 x3
    refine j_eq (M2 := if x3 < (gi g 3 i0 0) then (m_X6_at g 4 i0 x3).bind fun r2 => (m_X2_leftOf g i0 p0 r2).bind fun r3 => m_X2_tonerWants_L4 i0 p0 g f (x2 + r3) (x3 + (nI 1)) else m_X2_tonerWants_B34 i0 p0 g x2) rfl ?_
    refine j_iload_n (q := 5) (i := 3) (n := 3) dX2_tonerWants_4 rfl rfl rfl ?_
    refine j_aload_n (q := 6) (i := 0) (n := 0) dX2_tonerWants_5 rfl rfl rfl ?_
    refine g_X2_queued (q := 9) wF_X2_44 hi0 dX2_tonerWants_6 rfl ?_
    refine j_icmp_ge (tgt := 34) (q := 12) dX2_tonerWants_9 rfl rfl ?_ ?_
    · refine j_lv [0, 2] (lv' := [(0, .ref (za z 72 i0)), (2, .int x2)]) rfl ?_
      exact t_X2_tonerWants_B34 z gm i0 p0 hi0 hp0 g x2
    · refine j_iload_n (q := 13) (i := 2) (n := 2) dX2_tonerWants_12 rfl rfl rfl ?_
      refine j_aload_n (q := 14) (i := 0) (n := 0) dX2_tonerWants_13 rfl rfl rfl ?_
      refine j_aload_n (q := 15) (i := 1) (n := 1) dX2_tonerWants_14 rfl rfl rfl ?_
      refine j_aload_n (q := 16) (i := 0) (n := 0) dX2_tonerWants_15 rfl rfl rfl ?_
      refine g_X2_queue (q := 19) wF_X2_9 hi0 dX2_tonerWants_16 rfl ?_
      refine j_iload_n (q := 20) (i := 3) (n := 3) dX2_tonerWants_19 rfl rfl rfl ?_
      refine j_ci (q := 23) (rn_N (R := rm_X2_tonerWants) (As := [.ref (za z 4 i0), .int x3]) (rest := [.ref (za z 73 p0), .ref (za z 72 i0), .int x2]) (c_X6_at _ z gm g 4 i0 (Or.inl ⟨isX_4, hi0⟩) x3) cv_X6_at wO_X2_58 ⟨rfl, rfl⟩ ⟨(Nat.le_of_ble_eq_true rfl), (Nat.le_of_ble_eq_true rfl)⟩ rfl (Nat.le_of_ble_eq_true rfl) dX2_tonerWants_20) rfl (fun r2 => ?_)
      refine j_ci (q := 26) (rn_V (R := rm_X2_tonerWants) (As := [.ref (za z 73 p0), .int r2]) (rest := [.int x2]) (c_X2_leftOf _ z gm g i0 hi0 p0 hp0 r2) cv_X2_leftOf wM_X2_114 ⟨rfl, rfl⟩ ⟨(Nat.le_of_ble_eq_true rfl), (Nat.le_of_ble_eq_true rfl)⟩ hi0 rfl rfl rfl (Nat.le_of_ble_eq_true rfl) dX2_tonerWants_23) rfl (fun r3 => ?_)
      refine j_iadd (q := 27) dX2_tonerWants_26 rfl ?_
      refine j_istore_n (q := 28) (n := 2) (lv' := [(2, .int (x2 + r3)), (0, .ref (za z 72 i0)), (1, .ref (za z 73 p0)), (3, .int x3)]) dX2_tonerWants_27 rfl (Nat.le_of_ble_eq_true rfl) rfl rfl ?_
      refine j_iinc (q := 31) (n := 3) (i := 3) (v := x3 + (nI 1)) (lv' := [(3, .int (x3 + (nI 1))), (2, .int (x2 + r3)), (0, .ref (za z 72 i0)), (1, .ref (za z 73 p0))]) dX2_tonerWants_28 rfl rfl (Nat.le_of_ble_eq_true rfl) rfl rfl ?_
      refine j_goto (tgt := 4) dX2_tonerWants_31 rfl ?_
      refine j_lv [2, 3, 1, 0] (lv' := [(0, .ref (za z 72 i0)), (1, .ref (za z 73 p0)), (2, .int (x2 + r3)), (3, .int (x3 + (nI 1)))]) rfl ?_
      exact ih (x2 + r3) (x3 + (nI 1))
def m_X2_tonerWants (g : zG) (i0 : Nat) (p0 : Nat) : Option (Int32) := m_X2_tonerWants_L4 i0 p0 g FU (nI 0) (nI 0)
set_option maxRecDepth 100000 in
set_option maxHeartbeats 4000000 in
theorem c_X2_tonerWants (l : Launch) (z : zE) (gm : zG) (g : zG) (i0 : Nat) (hi0 : i0 < dm 72) (p0 : Nat) (hp0 : p0 < dm 73) : ∀ x, m_X2_tonerWants g i0 p0 = some x → Ms dm l yX2_tonerWants cX2_tonerWants 4 (some .int) rm_X2_tonerWants z [.ref (za z 72 i0), .ref (za z 73 p0)] ((wx z gm) g) (oi x) ((wx z gm) ((fun _ => g) x)) := by
  refine ms_of (Wf := (wx z gm)) (ri := .ireturn) (out := oi) (nxt := (fun _ => g)) (ok := (fun _ => True)) (lv := [(0, .ref (za z 72 i0)), (1, .ref (za z 73 p0))]) (by decide) ⟨rfl, rfl⟩ (Nat.le_of_ble_eq_true rfl) rfl (en_i (out := fun x => x)) (fun p e s m below meth c => ?_)
  refine j_eq (M2 := m_X2_tonerWants_L4 i0 p0 g FU (nI 0) (nI 0)) rfl ?_
  refine j_iconst (q := 1) (v := (nI 0)) dX2_tonerWants_0 rfl rfl ?_
  refine j_istore_n (q := 2) (n := 2) (lv' := [(2, .int (nI 0)), (0, .ref (za z 72 i0)), (1, .ref (za z 73 p0))]) dX2_tonerWants_1 rfl (Nat.le_of_ble_eq_true rfl) rfl rfl ?_
  refine j_iconst (q := 3) (v := (nI 0)) dX2_tonerWants_2 rfl rfl ?_
  refine j_istore_n (q := 4) (n := 3) (lv' := [(3, .int (nI 0)), (2, .int (nI 0)), (0, .ref (za z 72 i0)), (1, .ref (za z 73 p0))]) dX2_tonerWants_3 rfl (Nat.le_of_ble_eq_true rfl) rfl rfl ?_
  refine j_lv [2, 3, 1, 0] (lv' := [(0, .ref (za z 72 i0)), (1, .ref (za z 73 p0)), (2, .int (nI 0)), (3, .int (nI 0))]) rfl ?_
  exact t_X2_tonerWants_L4 z gm i0 p0 hi0 hp0 g FU (nI 0) (nI 0)
