/-! the constructor of CopierJobs: its walk -/
/-- a constructor's contract out of its walk, with an end of its own -/
theorem ct_q {l : Launch} {y : MethodName} {b : ByteArray} {n mc ms a : Nat} {rm : Room} {z : zE} {c0 : va_E} {PC : Heap → Prop} {Qc : Array Value → State → Outcome → State → Prop} {fr : Nat → Prop} (hy : plainName y.cls = true) (hn : y.name = "<init>") (hlen : 1 ≤ n) (ha : zN z ≤ a) (h : ∀ (p : Program) (e : Env) (s : State) (m : MethodId) (below : List Frame) (meth : Method) (c : Code), meth.name = "<init>" → meth.sig.returnType = none → meth.locks = false → s.heap.size = a + 1 → PC s.heap → bJ p l e rm s m #[.ref a] below meth c b n y.cls z a 0 0 (MQ below Qc #[.ref a] s mc ms fr) 0 [(0, .ref a)] [] [c0]) : Met l y (.code y b n none :: lw_gt) rm (va_Pc [.ref a] (fun U => PB z a [c0] U ∧ PC U.heap)) Qc mc ms fr := by
  refine Met.ofW (cc := b) (maxL := n) (ret := none) hy rfl ?_
  intro p e s m args below meth c s₁ B hml hv
  obtain ⟨rfl, ⟨hB, hX⟩, hP⟩ := hv
  have hts := atoms_spec (ws := .code y b n none :: lw_gt) B.pre
  have hown : s.vm.findClass y.cls = some m.cls := findClass_of_methodNamed B.named
  have hl := lv_entry ([.ref a]) (n := n) hlen
  rw [lg_entry_eq]
  exact h p e s m below meth c ((name_of_methodNamed B.named B.method).1.trans hn) B.returns B.notSynchronized hB.1 hP ⟨⟨B.exec, B.bytes, hml, hown, fun w hw => hts w (List.mem_cons_of_mem _ hw)⟩, hX, ha⟩ s.heap [] _ hB va_S.rf hl
def QC (z : zE) (a : Nat) (x1 : zG) : Array Value → State → Outcome → State → Prop := fun _ st o t => o = .returned none ∧ t.heap.size = a + 240 ∧ Wd d2 z (wx z g00 x1) t.heap ∧ va_F (bA a) st t
theorem zz_C {D : va_G} {cA : Nat → ClassId} {sa : Nat → Nat} {a : Nat} {s : State} (h : Cz (zz D cA sa a) s) (hs : a ≤ s.heap.size) : Cx d2 (zz D cA sa a) s := ⟨h.1, h.2.1, zz_I2 D cA sa a, hs, h.2.2.1⟩
set_option maxRecDepth 100000 in
set_option maxHeartbeats 4000000 in
theorem l_X6_init (l : Launch) (D : va_G) (cA : Nat → ClassId) (sa : Nat → Nat) (a : Nat) (x1 : zG) (hx1 : m_X0_begin gxx 0 0 = some x1) (p : Program) (e : Env) (s : State) (m : MethodId) (below : List Frame) (meth : Method) (c : Code) (hin2 : meth.name = "<init>") (hr : meth.sig.returnType = none) (hk : meth.locks = false) (hsz : s.heap.size = a + 1) : ∀ (n k : Nat), k + n = 2 → bJ p l e rm_X6_init s m #[.ref a] below meth c cX6_init 2 yX6_init.cls (zz D cA sa a) a (103 + 68 * k) (739 + 410 * k) (MQ below (QC (zz D cA sa a) a x1) #[.ref a] s 239 1559 (bA a)) 87 [(1, .int (nI k)), (0, .ref a)] [] (B6 (zz D cA sa a) a k) := by
  intro n
  induction n with
  | zero =>
    intro k hkn
    have : k = 2 := by omega
    subst this
    refine k_iload (q := 88) (i := 0) (n := 1) dX6_init_87 rfl rfl rfl ?_
    refine k_aload (q := 89) (i := 1) (n := 0) dX6_init_88 rfl rfl rfl ?_
    refine k_get (q := 92) (ci := 6) (f := 4) (i0 := 0) (v := .ref (a + 82)) rfl hin_X6 (Nat.le_of_ble_eq_true rfl) wF_X6_37 rfl rfl rfl dX6_init_89 rfl ?_
    refine k_alen (q := 93) (t0 := 2) (i0 := 82) (v := nI 2) rfl (get_mid (T4_len _ a _)) rfl rfl dX6_init_92 rfl ?_
    refine k_cmp_ge (q := 96) (tgt := 115) dX6_init_93 rfl rfl (fun _ => ?_) (fun h => absurd (Int32.le_refl _) h)
    refine k_aload (q := 116) (i := 1) (n := 0) dX6_init_115 rfl rfl rfl ?_
    refine k_get (q := 119) (ci := 6) (f := 1) (i0 := 0) (v := .ref (a + 3)) rfl hin_X6 (Nat.le_of_ble_eq_true rfl) wF_X6_19 rfl rfl rfl dX6_init_116 rfl ?_
    refine k_aload (q := 120) (i := 1) (n := 0) dX6_init_119 rfl rfl rfl ?_
    refine k_get (q := 123) (ci := 6) (f := 6) (i0 := 0) (v := .ref (a + 84)) rfl hin_X6 (Nat.le_of_ble_eq_true rfl) wF_X6_48 rfl rfl rfl dX6_init_120 rfl ?_
    intro hF H locs ls hB hS hl
    have hX : FX d2 p rm_X6_init s m #[.ref a] c cX6_init 2 yX6_init.cls (zz D cA sa a) 239 1559 := ⟨hF.1, zz_C hF.2.1 (by omega), (Nat.le_of_ble_eq_true rfl), (Nat.le_of_ble_eq_true rfl)⟩
    obtain ⟨arr, hrun⟩ := rn_V (δ := d2) (e := e) (below := below) (meth := meth) (R := rm_X6_init) (Wf := wx (zz D cA sa a) g00) (g := gxx) (k := 70) (i := 0) (As := [.ref (za (zz D cA sa a) 73 0)]) (rest := []) (M := m_X0_begin gxx 0 0) (out := osv) (nxt := fun x => x) (c2_X0_begin l (zz D cA sa a) g00 gxx 0 (Nat.le_of_ble_eq_true rfl) 0 (Nat.le_of_ble_eq_true rfl)) cv_X0_begin wM_X6_55 ⟨rfl, rfl⟩ ⟨(Nat.le_of_ble_eq_true rfl), (Nat.le_of_ble_eq_true rfl)⟩ (Nat.le_of_ble_eq_true rfl) (cel_70 (zz D cA sa a) gxx g00 0) rfl rfl (Nat.le_of_ble_eq_true rfl) dX6_init_123 hX x1 hx1 H locs ls (zz_W hB) hS hl.1
    refine w_run hrun hS (fun H1 locs1 hW1 hS1 => ?_)
    refine w_size (fun hsz1 => ?_)
    have h5 : a + 239 < H1.size := (hW1 8 32 (Nat.le_of_ble_eq_true rfl)).1.lt
    have hz1 : H1.size = a + 240 := by rw [hsz] at hsz1; omega
    exact W.vret hF.1.1 hF.1.2.1 hr (fun t ht _ => ⟨rfl, by rw [ht]; exact hz1, by rw [ht]; exact hW1, va_S.F hS1 ht⟩) hS1.2.2 dX6_init_126 hk
  | succ n ih =>
    intro k hkn
    refine k_iload (q := 88) (i := 0) (n := 1) dX6_init_87 rfl rfl rfl ?_
    refine k_aload (q := 89) (i := 1) (n := 0) dX6_init_88 rfl rfl rfl ?_
    refine k_get (q := 92) (ci := 6) (f := 4) (i0 := 0) (v := .ref (a + 82)) rfl hin_X6 (Nat.le_of_ble_eq_true rfl) wF_X6_37 rfl rfl rfl dX6_init_89 rfl ?_
    refine k_alen (q := 93) (t0 := 2) (i0 := 82) (v := nI 2) rfl (get_mid (T4_len _ a _)) rfl rfl dX6_init_92 rfl ?_
    refine k_cmp_ge (q := 96) (tgt := 115) dX6_init_93 rfl rfl (fun h => absurd h (nI_nl2 (by omega) (by omega))) (fun _ => ?_)
    refine k_aload (q := 97) (i := 1) (n := 0) dX6_init_96 rfl rfl rfl ?_
    refine k_get (q := 100) (ci := 6) (f := 4) (i0 := 0) (v := .ref (a + 82)) rfl hin_X6 (Nat.le_of_ble_eq_true rfl) wF_X6_37 rfl rfl rfl dX6_init_97 rfl ?_
    refine k_iload (q := 101) (i := 0) (n := 1) dX6_init_100 rfl rfl rfl ?_
    refine k_new (q := 104) (ci := 0) (v := a + 104 + 68 * k) rfl hin_X0 tyX0 tyX0_ok wK_X6_16 wU_X0 wZ_X0 d_X0 (by show 103 + 68 * k + 1 ≤ 239; omega) (by show 739 + 410 * k + 4 ≤ 1559; omega) dX6_init_101 rfl (by rw [B6_len]; omega) ?_
    refine k_dup (q := 105) dX6_init_104 rfl ?_
    refine k_ctorI (q := 108) (c_X0_init l (zz D cA sa a)) ci_X0 wM_X6_18 ⟨rfl, rfl⟩ ⟨(Nat.le_of_ble_eq_true rfl), (Nat.le_of_ble_eq_true rfl)⟩ (Nat.le_of_ble_eq_true rfl) ⟨by show 103 + 68 * k + 1 + 67 ≤ 239; omega, by show 739 + 410 * k + 4 + 406 ≤ 1559; omega⟩ dX6_init_105 (by rw [B6_len]; omega) rfl ?_
    refine k_ast (q := 109) (t0 := 2) (ci := 0) (i0 := 82) (j0 := 104 + 68 * k) (n := 2) (f := fun j => if j < k then some (a + 104 + 68 * j) else none) (cs' := B6 (zz D cA sa a) a (k + 1)) rfl rfl (by rw [List.getElem?_append_left (by rw [B6_len]; omega)]; exact get_mid (T4_len _ a _)) rfl (by rw [List.getElem?_append_right (by rw [B6_len]; omega), B6_len, Nat.sub_self]; rfl) (by omega) (vp_in_nI (by omega) (by omega)) dX6_init_108 rfl ?_ ?_
    · have e1 : B6 (zz D cA sa a) a k ++ f_X0 (zz D cA sa a) (a + 104 + 68 * k) = (t6 a :: S4 (zz D cA sa a) a) ++ (ar2 (zz D cA sa a) (a + 104) k :: kz (zz D cA sa a) :: (f_X3 (zz D cA sa a) (a + 84) ++ (f_X3 (zz D cA sa a) (a + 94) ++ crs (zz D cA sa a) (a + 104) (k + 1)))) := by
        unfold B6
        simp only [List.append_assoc, List.cons_append]
        rfl
      rw [e1, set_mid (T4_len _ a _), ar2_s (a + 104) k _ (nI_clamp (by omega))]
      rfl
    refine k_iinc (q := 112) (n := 1) (i := 0) (v := nI (k + 1)) (lv' := [(1, .int (nI (k + 1))), (0, .ref a)]) dX6_init_109 rfl (by show nI k + nI 1 = _; exact n_add k 1) (Nat.le_of_ble_eq_true rfl) rfl rfl ?_
    refine k_goto (tgt := 87) dX6_init_112 rfl ?_
    exact k_widen (by omega) (by omega) (ih (k + 1) (by omega))
set_option maxRecDepth 100000 in
set_option maxHeartbeats 4000000 in
theorem c_X6_init (l : Launch) (D : va_G) (cA : Nat → ClassId) (sa : Nat → Nat) (a : Nat) (x1 : zG) (hx1 : m_X0_begin gxx 0 0 = some x1) : Met l yX6_init (.code yX6_init cX6_init 2 none :: lw_gt) rm_X6_init (va_Pc [.ref a] (fun U => PB (zz D cA sa a) a [z_X6] U ∧ (fun _ => True) U.heap)) (QC (zz D cA sa a) a x1) 239 1559 (bA a) := by
  refine ct_q (y := yX6_init) (b := cX6_init) (n := 2) (z := (zz D cA sa a)) (PC := fun _ => True) (by decide) rfl (Nat.le_of_ble_eq_true rfl) (Nat.le_refl a) (fun p e s m below meth c hin2 hr hk hsz _ => ?_)
  refine k_aload (q := 1) (i := 0) (n := 0) dX6_init_0 rfl rfl rfl ?_
  refine k_obj (q := 4) wM_X6_1 (Nat.le_of_ble_eq_true rfl) (Nat.le_of_ble_eq_true rfl) dX6_init_1 rfl ?_
  refine k_aload (q := 5) (i := 0) (n := 0) dX6_init_4 rfl rfl rfl ?_
  refine k_new (q := 8) (ci := 5) (v := a + 1) rfl hin_X5 tyX5 tyX5_ok wK_X6_7 wU_X5 wZ_X5 d_X5 (Nat.le_of_ble_eq_true rfl) (Nat.le_of_ble_eq_true rfl) dX6_init_5 rfl rfl ?_
  refine k_dup (q := 9) dX6_init_8 rfl ?_
  refine k_ctorN (q := 12) (c_X5_init l (zz D cA sa a)) ci_X5 wO_X6_9 ⟨rfl, rfl⟩ ⟨(Nat.le_of_ble_eq_true rfl), (Nat.le_of_ble_eq_true rfl)⟩ (Nat.le_of_ble_eq_true rfl) ⟨(Nat.le_of_ble_eq_true rfl), (Nat.le_of_ble_eq_true rfl)⟩ dX6_init_9 rfl rfl ?_
  refine k_putF (q := 15) (ci := 6) (f := 0) (i0 := 0) (cs' := .inr (6, [.ref (a + 1), .null, .null, .null, .null, .null, .null, .null, .long 0]) :: f_X5 (zz D cA sa a) (a + 1)) hin2 rfl hin_X6 tyX6 tyX6_ok nmX6 (Nat.le_of_ble_eq_true rfl) rfl rfl (tyX6_ok 0 (Nat.le_of_ble_eq_true rfl)) wF_X6_10 rfl rfl (Nat.le_of_ble_eq_true rfl) rfl rfl dX6_init_12 rfl rfl ?_
  refine k_aload (q := 16) (i := 0) (n := 0) dX6_init_15 rfl rfl rfl ?_
  refine k_new (q := 19) (ci := 0) (v := a + 3) rfl hin_X0 tyX0 tyX0_ok wK_X6_16 wU_X0 wZ_X0 d_X0 (Nat.le_of_ble_eq_true rfl) (Nat.le_of_ble_eq_true rfl) dX6_init_16 rfl rfl ?_
  refine k_dup (q := 20) dX6_init_19 rfl ?_
  refine k_ctorI (q := 23) (c_X0_init l (zz D cA sa a)) ci_X0 wM_X6_18 ⟨rfl, rfl⟩ ⟨(Nat.le_of_ble_eq_true rfl), (Nat.le_of_ble_eq_true rfl)⟩ (Nat.le_of_ble_eq_true rfl) ⟨(Nat.le_of_ble_eq_true rfl), (Nat.le_of_ble_eq_true rfl)⟩ dX6_init_20 rfl rfl ?_
  refine k_putF (q := 26) (ci := 6) (f := 1) (i0 := 0) (cs' := .inr (6, [.ref (a + 1), .ref (a + 3), .null, .null, .null, .null, .null, .null, .long 0]) :: (f_X5 (zz D cA sa a) (a + 1) ++ f_X0 (zz D cA sa a) (a + 3))) hin2 rfl hin_X6 tyX6 tyX6_ok nmX6 (Nat.le_of_ble_eq_true rfl) rfl rfl (tyX6_ok 1 (Nat.le_of_ble_eq_true rfl)) wF_X6_19 rfl rfl (Nat.le_of_ble_eq_true rfl) rfl rfl dX6_init_23 rfl rfl ?_
  refine k_aload (q := 27) (i := 0) (n := 0) dX6_init_26 rfl rfl rfl ?_
  refine k_new (q := 30) (ci := 2) (v := a + 71) rfl hin_X2 tyX2 tyX2_ok wK_X6_23 wU_X2 wZ_X2 d_X2 (Nat.le_of_ble_eq_true rfl) (Nat.le_of_ble_eq_true rfl) dX6_init_27 rfl (by rw [List.length_cons, S2_len]) ?_
  refine k_dup (q := 31) dX6_init_30 rfl ?_
  refine k_ctorN (q := 34) (c_X2_init l (zz D cA sa a)) ci_X2 wO_X6_25 ⟨rfl, rfl⟩ ⟨(Nat.le_of_ble_eq_true rfl), (Nat.le_of_ble_eq_true rfl)⟩ (Nat.le_of_ble_eq_true rfl) ⟨(Nat.le_of_ble_eq_true rfl), (Nat.le_of_ble_eq_true rfl)⟩ dX6_init_31 (by rw [List.length_cons, S2_len]) rfl ?_
  refine k_putF (q := 37) (ci := 6) (f := 2) (i0 := 0) (cs' := .inr (6, [.ref (a + 1), .ref (a + 3), .ref (a + 71), .null, .null, .null, .null, .null, .long 0]) :: (f_X5 (zz D cA sa a) (a + 1) ++ f_X0 (zz D cA sa a) (a + 3) ++ f_X2 (zz D cA sa a) (a + 71))) hin2 rfl hin_X6 tyX6 tyX6_ok nmX6 (Nat.le_of_ble_eq_true rfl) rfl rfl (tyX6_ok 2 (Nat.le_of_ble_eq_true rfl)) wF_X6_26 rfl rfl (Nat.le_of_ble_eq_true rfl) rfl rfl dX6_init_34 rfl rfl ?_
  refine k_aload (q := 38) (i := 0) (n := 0) dX6_init_37 rfl rfl rfl ?_
  refine k_new (q := 41) (ci := 4) (v := a + 77) rfl hin_X4 tyX4 tyX4_ok wK_X6_30 wU_X4 wZ_X4 d_X4 (Nat.le_of_ble_eq_true rfl) (Nat.le_of_ble_eq_true rfl) dX6_init_38 rfl (by rw [List.length_cons, S3_len]) ?_
  refine k_dup (q := 42) dX6_init_41 rfl ?_
  refine k_ctorN (q := 45) (c_X4_init l (zz D cA sa a)) ci_X4 wO_X6_32 ⟨rfl, rfl⟩ ⟨(Nat.le_of_ble_eq_true rfl), (Nat.le_of_ble_eq_true rfl)⟩ (Nat.le_of_ble_eq_true rfl) ⟨(Nat.le_of_ble_eq_true rfl), (Nat.le_of_ble_eq_true rfl)⟩ dX6_init_42 (by rw [List.length_cons, S3_len]) rfl ?_
  refine k_putF (q := 48) (ci := 6) (f := 3) (i0 := 0) (cs' := .inr (6, [.ref (a + 1), .ref (a + 3), .ref (a + 71), .ref (a + 77), .null, .null, .null, .null, .long 0]) :: S4 (zz D cA sa a) a) hin2 rfl hin_X6 tyX6 tyX6_ok nmX6 (Nat.le_of_ble_eq_true rfl) rfl rfl (tyX6_ok 3 (Nat.le_of_ble_eq_true rfl)) wF_X6_33 rfl rfl (Nat.le_of_ble_eq_true rfl) rfl rfl dX6_init_45 rfl rfl ?_
  refine k_aload (q := 49) (i := 0) (n := 0) dX6_init_48 rfl rfl rfl ?_
  refine k_iconst (q := 50) (v := nI 2) dX6_init_49 rfl rfl ?_
  refine k_newq (q := 53) (t0 := 2) (N := 2) (v := a + 82) rfl wK_X6_16 (fun U h => h.2.2.2.1) (nI_pos (Nat.le_of_ble_eq_true rfl)) (nI_clamp (Nat.le_of_ble_eq_true rfl)) (Nat.le_of_ble_eq_true rfl) (Nat.le_of_ble_eq_true rfl) (Nat.le_of_ble_eq_true rfl) dX6_init_50 rfl (by rw [T4_len]) ?_
  refine k_putF (q := 56) (ci := 6) (f := 4) (i0 := 0) (cs' := .inr (6, [.ref (a + 1), .ref (a + 3), .ref (a + 71), .ref (a + 77), .ref (a + 82), .null, .null, .null, .long 0]) :: (S4 (zz D cA sa a) a ++ [.inl (zc (zz D cA sa a) 2, 2, .inr (.inr (.inr (.inr (fun _ => none)))))])) hin2 rfl hin_X6 tyX6 tyX6_ok nmX6 (Nat.le_of_ble_eq_true rfl) rfl rfl (tyX6_ok 4 (Nat.le_of_ble_eq_true rfl)) wF_X6_37 rfl rfl (Nat.le_of_ble_eq_true rfl) rfl rfl dX6_init_53 rfl rfl ?_
  refine k_aload (q := 57) (i := 0) (n := 0) dX6_init_56 rfl rfl rfl ?_
  refine k_iconst (q := 58) (v := nI 2) dX6_init_57 rfl rfl ?_
  refine k_newz (q := 60) (N := 2) (v := a + 83) (nI_pos (Nat.le_of_ble_eq_true rfl)) (nI_clamp (Nat.le_of_ble_eq_true rfl)) (Nat.le_of_ble_eq_true rfl) (Nat.le_of_ble_eq_true rfl) (Nat.le_of_ble_eq_true rfl) dX6_init_58 rfl (by rw [List.length_cons, List.length_append, S4_len]; rfl) ?_
  refine k_putF (q := 63) (ci := 6) (f := 5) (i0 := 0) (cs' := .inr (6, [.ref (a + 1), .ref (a + 3), .ref (a + 71), .ref (a + 77), .ref (a + 82), .ref (a + 83), .null, .null, .long 0]) :: (S4 (zz D cA sa a) a ++ [.inl (zc (zz D cA sa a) 2, 2, .inr (.inr (.inr (.inr (fun _ => none)))))] ++ [kz (zz D cA sa a)])) hin2 rfl hin_X6 tyX6 tyX6_ok nmX6 (Nat.le_of_ble_eq_true rfl) rfl rfl (tyX6_ok 5 (Nat.le_of_ble_eq_true rfl)) wF_X6_41 rfl rfl (Nat.le_of_ble_eq_true rfl) rfl rfl dX6_init_60 rfl rfl ?_
  refine k_aload (q := 64) (i := 0) (n := 0) dX6_init_63 rfl rfl rfl ?_
  refine k_new (q := 67) (ci := 3) (v := a + 84) rfl hin_X3 tyX3 tyX3_ok wK_X6_45 wU_X3 wZ_X3 d_X3 (Nat.le_of_ble_eq_true rfl) (Nat.le_of_ble_eq_true rfl) dX6_init_64 rfl (by rw [List.length_cons, List.length_append, List.length_append, S4_len]; rfl) ?_
  refine k_dup (q := 68) dX6_init_67 rfl ?_
  refine k_ctorI (q := 71) (c_X3_init l (zz D cA sa a)) ci_X3 wM_X6_47 ⟨rfl, rfl⟩ ⟨(Nat.le_of_ble_eq_true rfl), (Nat.le_of_ble_eq_true rfl)⟩ (Nat.le_of_ble_eq_true rfl) ⟨(Nat.le_of_ble_eq_true rfl), (Nat.le_of_ble_eq_true rfl)⟩ dX6_init_68 (by rw [List.length_cons, List.length_append, List.length_append, S4_len]; rfl) rfl ?_
  refine k_put (q := 74) (ci := 6) (f := 6) (i0 := 0) (cs' := .inr (6, [.ref (a + 1), .ref (a + 3), .ref (a + 71), .ref (a + 77), .ref (a + 82), .ref (a + 83), .ref (a + 84), .null, .long 0]) :: (S4 (zz D cA sa a) a ++ [.inl (zc (zz D cA sa a) 2, 2, .inr (.inr (.inr (.inr (fun _ => none)))))] ++ [kz (zz D cA sa a)] ++ f_X3 (zz D cA sa a) (a + 84))) rfl hin_X6 tyX6 tyX6_ok nmX6 (Nat.le_of_ble_eq_true rfl) rfl (tyX6_ok 6 (Nat.le_of_ble_eq_true rfl)) wF_X6_48 rfl rfl (Nat.le_of_ble_eq_true rfl) rfl rfl dX6_init_71 rfl rfl ?_
  refine k_aload (q := 75) (i := 0) (n := 0) dX6_init_74 rfl rfl rfl ?_
  refine k_new (q := 78) (ci := 3) (v := a + 94) rfl hin_X3 tyX3 tyX3_ok wK_X6_45 wU_X3 wZ_X3 d_X3 (Nat.le_of_ble_eq_true rfl) (Nat.le_of_ble_eq_true rfl) dX6_init_75 rfl (by rw [List.length_cons, List.length_append, List.length_append, List.length_append, S4_len]; rfl) ?_
  refine k_dup (q := 79) dX6_init_78 rfl ?_
  refine k_ctorI (q := 82) (c_X3_init l (zz D cA sa a)) ci_X3 wM_X6_47 ⟨rfl, rfl⟩ ⟨(Nat.le_of_ble_eq_true rfl), (Nat.le_of_ble_eq_true rfl)⟩ (Nat.le_of_ble_eq_true rfl) ⟨(Nat.le_of_ble_eq_true rfl), (Nat.le_of_ble_eq_true rfl)⟩ dX6_init_79 (by rw [List.length_cons, List.length_append, List.length_append, List.length_append, S4_len]; rfl) rfl ?_
  refine k_put (q := 85) (ci := 6) (f := 7) (i0 := 0) (cs' := .inr (6, [.ref (a + 1), .ref (a + 3), .ref (a + 71), .ref (a + 77), .ref (a + 82), .ref (a + 83), .ref (a + 84), .ref (a + 94), .long 0]) :: (S4 (zz D cA sa a) a ++ [.inl (zc (zz D cA sa a) 2, 2, .inr (.inr (.inr (.inr (fun _ => none)))))] ++ [kz (zz D cA sa a)] ++ f_X3 (zz D cA sa a) (a + 84) ++ f_X3 (zz D cA sa a) (a + 94))) rfl hin_X6 tyX6 tyX6_ok nmX6 (Nat.le_of_ble_eq_true rfl) rfl (tyX6_ok 7 (Nat.le_of_ble_eq_true rfl)) wF_X6_52 rfl rfl (Nat.le_of_ble_eq_true rfl) rfl rfl dX6_init_82 rfl rfl ?_
  refine k_iconst (q := 86) (v := nI 0) dX6_init_85 rfl rfl ?_
  refine k_istore (q := 87) (n := 1) (lv' := [(1, .int (nI 0)), (0, .ref a)]) dX6_init_86 rfl (Nat.le_of_ble_eq_true rfl) rfl rfl ?_
  refine k_cs (cs' := B6 (zz D cA sa a) a 0) ?_ ?_
  · unfold B6 ar2 crs
    rw [ar2_0]
    simp only [List.append_nil, List.cons_append, List.append_assoc, List.nil_append]
  exact l_X6_init l D cA sa a x1 hx1 p e s m below meth c hin2 hr hk hsz 2 0 rfl
