/-! blocks: what a constructor makes lies behind its own object, cell by cell -/
theorem wA_int : Cond.arrayClass .int ∈ lw_gt := in_g (in_t1 (List.mem_of_getElem? (i := 49) rfl)) rfl
theorem wA_boolean : Cond.arrayClass .boolean ∈ lw_gt := in_g (in_t1 (List.mem_of_getElem? (i := 183) rfl)) rfl
def BL (z : zE) (a : Nat) (cs : List va_E) (H : Heap) : Prop := H.size = a + cs.length ∧ ∀ i e, cs[i]? = some e → va_at (zD z) vwCl (a + i, e) H
/-- what a constructor needs of the tables -/
def Cz (z : zE) (U : State) : Prop := va_K (zD z) vwCl (zT z) U ∧ (∀ w ∈ lw_nt, va_Nw w U) ∧ St z U U.heap ∧ va_AO RX0 U ∧ va_AO RX1 U ∧ va_AO RX2 U
abbrev bA (a : Nat) : Nat → Prop := fun q => a ≤ q
theorem s_wk {A B : Nat → Prop} {H0 H : Heap} {locs : List Loc} (h : va_S A H0 H locs) (hAB : ∀ q, A q → B q) : va_S B H0 H locs := ⟨h.1, fun q h1 h2 => h.2.1 q h1 (fun q' => h2 (hAB q q')), fun l hl => hAB _ (h.2.2 l hl)⟩
theorem Cz.go {z : zE} {a : Nat} {s U : State} {locs : List Loc} (hW : s.WarmedH U.vm) (ha : zN z ≤ a) (hS : va_S (bA a) s.heap U.heap locs) (h : Cz z s) : Cz z U :=
  ⟨va_K.moved hW.alike h.1, nt_warm hW h.2.1, h.2.2.1.go hW.alike (s_wk hS (fun q hq => Nat.le_trans ha hq)), h.2.2.2.1.moved hW.alike, h.2.2.2.2.1.moved hW.alike, h.2.2.2.2.2.moved hW.alike⟩
theorem Cz.calling {z : zE} {U : State} {g : JFrame} {mk : MethodId} {a : Array Value} (h : Cz z U) : Cz z (U.calling g mk a) :=
  ⟨va_K.moved (u := U) (U := U.calling g mk a) (Vm.Alike.refl U.vm) h.1, nt_same (s := U) (U := U.calling g mk a) rfl h.2.1, St.go (s := U) (U := U.calling g mk a) (locs := []) (Vm.Alike.refl U.vm) va_S.rf h.2.2.1, va_AO.moved (u := U) (U := U.calling g mk a) (Vm.Alike.refl U.vm) h.2.2.2.1, va_AO.moved (u := U) (U := U.calling g mk a) (Vm.Alike.refl U.vm) h.2.2.2.2.1, va_AO.moved (u := U) (U := U.calling g mk a) (Vm.Alike.refl U.vm) h.2.2.2.2.2⟩
theorem BL.push {z : zE} {a : Nat} {cs : List va_E} {e : va_E} {H H1 : Heap} (h : BL z a cs H) (hz : H1.size = a + cs.length + 1) (ho : ∀ q, q < a + cs.length → H1[q]? = H[q]?) (he : va_at (zD z) vwCl (a + cs.length, e) H1) : BL z a (cs ++ [e]) H1 := by
  refine ⟨by rw [hz, List.length_append]; rfl, fun i e' hi => ?_⟩
  by_cases hl : i < cs.length
  · rw [List.getElem?_append_left hl] at hi
    exact (h.2 i e' hi).kept (ho _ (by show a + i < _; omega))
  · rw [List.getElem?_append_right (by omega)] at hi
    have h1 : i - cs.length < 1 := (List.getElem?_eq_some_iff.mp hi).1
    have h2 : i = cs.length := by omega
    subst h2
    rw [Nat.sub_self] at hi
    cases hi
    exact he
theorem BL.set {z : zE} {a i0 : Nat} {cs : List va_E} {e0 e : va_E} {H H1 : Heap} (h : BL z a cs H) (h0 : cs[i0]? = some e0) (hz : H1.size = H.size) (ho : ∀ q, q ≠ a + i0 → H1[q]? = H[q]?) (he : va_at (zD z) vwCl (a + i0, e) H1) : BL z a (cs.set i0 e) H1 := by
  refine ⟨by rw [hz, List.length_set]; exact h.1, fun i e' hi => ?_⟩
  by_cases hii : i = i0
  · subst hii
    have hl : i < cs.length := (List.getElem?_eq_some_iff.mp h0).1
    rw [List.getElem?_set_self hl] at hi
    cases hi
    exact he
  · rw [List.getElem?_set_ne (fun q => hii q.symm)] at hi
    exact (h.2 i e' hi).kept (ho _ (by show a + i ≠ _; omega))
theorem BL.one {z : zE} {a i0 : Nat} {cs : List va_E} {e : va_E} {H : Heap} (h : BL z a cs H) (h0 : cs[i0]? = some e) : va_P (zD z) vwCl [(a + i0, e)] H := by
  intro n q hq
  match n, hq with
  | 0, hq => cases hq; exact h.2 i0 e h0
  | n + 1, hq => simp at hq
theorem w_size {p : Program} {l : Launch} {e : Env} {R : Room} {s : State} {m : MethodId} {args : Array Value} {below : List Frame} {meth : Method} {c : Code} {H : Heap} {locs : List Loc} {cells slots : Nat} {Q : State → Prop} {g : JFrame} (k : H.size ≤ s.heap.size + cells → W p l e R s m args below meth c H locs cells slots Q g) : W p l e R s m args below meth c H locs cells slots Q g := fun T hT X => k (by have h := X.same.2.2.1; rw [← hT]; exact h) T hT X
/-- THE JUDGEMENT of constructors: at pc, with locals lv, stack st, the block cs -/
def bJ (p : Program) (l : Launch) (e : Env) (R : Room) (s : State) (m : MethodId) (args : Array Value) (below : List Frame) (meth : Method) (c : Code) (cc : ByteArray) (nL : Nat) (own : String) (z : zE) (a cells slots : Nat) (Q : State → Prop) (pc : Nat) (lv : List (Nat × Value)) (st : List Value) (cs : List va_E) : Prop :=
  CallFix p m c cc nL s args lw_gt own ∧ Cz z s ∧ zN z ≤ a → ∀ (H : Heap) (locs : List Loc) (ls : Array Slot), BL z a cs H → va_S (bA a) s.heap H locs → lv_has ls nL lv → W p l e R s m args below meth c H locs cells slots Q (F0 m pc ls st)
def PB (z : zE) (a : Nat) (cs : List va_E) (U : State) : Prop := BL z a cs U.heap ∧ Cz z U
def QB (z : zE) (a : Nat) (cs : List va_E) : Array Value → State → Outcome → State → Prop := fun _ st o t => o = .returned none ∧ BL z a cs t.heap ∧ va_F (bA a) st t
/-- a constructor's contract -/
def Ct (l : Launch) (y : MethodName) (b : ByteArray) (n : Nat) (rm : Room) (z : zE) (c0 : va_E) (F : Nat → List va_E) (mc ms : Nat) : Prop := ∀ a, zN z ≤ a → Met l y (.code y b n none :: lw_gt) rm (va_Pc [.ref a] (PB z a [c0])) (QB z a (F a)) mc ms (bA a)
theorem PB.blind {z : zE} {a : Nat} {As : List Value} {cs : List va_E} : FrameBlind (va_Pc As (PB z a cs)) := fun _ _ _ _ h => ⟨h.1, h.2.1, h.2.2.calling⟩
section BJ
variable {p : Program} {l : Launch} {e : Env} {R : Room} {s : State} {m : MethodId} {args : Array Value} {below : List Frame} {meth : Method} {c : Code} {cc : ByteArray} {nL : Nat} {own : String} {z : zE} {a cells slots : Nat} {Q : State → Prop} {pc q : Nat} {lv : List (Nat × Value)} {st : List Value} {cs : List va_E}
theorem k_aload {kf : Fin 4} {n i x : Nat} (d : decode cc pc = .ok (.aload_n kf, 1)) (hn : (kf : Nat) = n) (h : lv[i]? = some (n, .ref x)) (hq : pc + 1 = q) (k : bJ p l e R s m args below meth c cc nL own z a cells slots Q q lv (.ref x :: st) cs) : bJ p l e R s m args below meth c cc nL own z a cells slots Q pc lv st cs := by
  intro hF H locs ls hB hS hl; subst hq; exact lv_aload_n hF.1.1 hF.1.2.1 d hn (lv_at hl i h) (k hF H locs ls hB hS hl)
theorem k_iload {kf : Fin 4} {n i : Nat} {x : Int32} (d : decode cc pc = .ok (.iload_n kf, 1)) (hn : (kf : Nat) = n) (h : lv[i]? = some (n, .int x)) (hq : pc + 1 = q) (k : bJ p l e R s m args below meth c cc nL own z a cells slots Q q lv (.int x :: st) cs) : bJ p l e R s m args below meth c cc nL own z a cells slots Q pc lv st cs := by
  intro hF H locs ls hB hS hl; subst hq; exact lv_iload_n hF.1.1 hF.1.2.1 d hn (lv_at hl i h) (k hF H locs ls hB hS hl)
theorem k_iconst {n : Int} {v : Int32} (d : decode cc pc = .ok (.iconst n, 1)) (hv : Int32.ofInt n = v) (hq : pc + 1 = q) (k : bJ p l e R s m args below meth c cc nL own z a cells slots Q q lv (.int v :: st) cs) : bJ p l e R s m args below meth c cc nL own z a cells slots Q pc lv st cs := by
  intro hF H locs ls hB hS hl; subst hq; exact lv_iconst hF.1.1 hF.1.2.1 d hv (k hF H locs ls hB hS hl)
theorem k_bipush {n : Int} {v : Int32} (d : decode cc pc = .ok (.bipush n, 2)) (hv : (Int8.ofInt n).toInt32 = v) (hq : pc + 2 = q) (k : bJ p l e R s m args below meth c cc nL own z a cells slots Q q lv (.int v :: st) cs) : bJ p l e R s m args below meth c cc nL own z a cells slots Q pc lv st cs := by
  intro hF H locs ls hB hS hl; subst hq; exact lv_bipush hF.1.1 hF.1.2.1 d hv (k hF H locs ls hB hS hl)
theorem k_sipush {n : Int} {v : Int32} (d : decode cc pc = .ok (.sipush n, 3)) (hv : (Int16.ofInt n).toInt32 = v) (hq : pc + 3 = q) (k : bJ p l e R s m args below meth c cc nL own z a cells slots Q q lv (.int v :: st) cs) : bJ p l e R s m args below meth c cc nL own z a cells slots Q pc lv st cs := by
  intro hF H locs ls hB hS hl; subst hq; exact lv_sipush hF.1.1 hF.1.2.1 d hv (k hF H locs ls hB hS hl)
theorem k_dup {x : Nat} (d : decode cc pc = .ok (.dup, 1)) (hq : pc + 1 = q) (k : bJ p l e R s m args below meth c cc nL own z a cells slots Q q lv (.ref x :: .ref x :: st) cs) : bJ p l e R s m args below meth c cc nL own z a cells slots Q pc lv (.ref x :: st) cs := by
  intro hF H locs ls hB hS hl; subst hq; exact lv_dup hF.1.1 hF.1.2.1 d rfl (k hF H locs ls hB hS hl)
theorem k_istore {kf : Fin 4} {n : Nat} {x : Int32} {lv' : List (Nat × Value)} (d : decode cc pc = .ok (.istore_n kf, 1)) (hn : (kf : Nat) = n) (hb : n < nL) (h : (n, Value.int x) :: lv.filter (fun q => !(q.1 == n) && !(q.1 + 1 == n && q.2.category == 2)) = lv') (hq : pc + 1 = q) (k : bJ p l e R s m args below meth c cc nL own z a cells slots Q q lv' st cs) : bJ p l e R s m args below meth c cc nL own z a cells slots Q pc lv (.int x :: st) cs := by
  intro hF H locs ls hB hS hl; subst hq; exact lv_istore_n hF.1.1 hF.1.2.1 d hn hl hb h (fun ls hl => k hF H locs ls hB hS hl)
theorem k_iinc {i n : Nat} {w : Int} {x v : Int32} {lv' : List (Nat × Value)} (d : decode cc pc = .ok (.iinc n w, 3)) (hk : lv[i]? = some (n, .int x)) (hv : x + Int32.ofInt w = v) (hb : n < nL) (h : (n, Value.int v) :: lv.filter (fun q => !(q.1 == n) && !(q.1 + 1 == n && q.2.category == 2)) = lv') (hq : pc + 3 = q) (k : bJ p l e R s m args below meth c cc nL own z a cells slots Q q lv' st cs) : bJ p l e R s m args below meth c cc nL own z a cells slots Q pc lv st cs := by
  intro hF H locs ls hB hS hl; subst hq; exact lv_iinc hF.1.1 hF.1.2.1 d hl hk hv hb h (fun ls hl => k hF H locs ls hB hS hl)
theorem k_lv {lv' : List (Nat × Value)} (ks : List Nat) (h : lv_pick lv ks = lv') (k : bJ p l e R s m args below meth c cc nL own z a cells slots Q pc lv' st cs) : bJ p l e R s m args below meth c cc nL own z a cells slots Q pc lv st cs := fun hF H locs ls hB hS hl => k hF H locs ls hB hS (lv_sub hl ks h)
theorem k_goto {off : Int} {tgt : Nat} (d : decode cc pc = .ok (.goto off, 3)) (ht : (pc : Int) + off = (tgt : Int)) (k : bJ p l e R s m args below meth c cc nL own z a cells slots Q tgt lv st cs) : bJ p l e R s m args below meth c cc nL own z a cells slots Q pc lv st cs := fun hF H locs ls hB hS hl => lv_goto hF.1.1 hF.1.2.1 d ht (k hF H locs ls hB hS hl)
theorem k_cmp_ge {x y : Int32} {off : Int} {tgt : Nat} (d : decode cc pc = .ok (.if_icmp .ge off, 3)) (ht : (pc : Int) + off = (tgt : Int)) (hq : pc + 3 = q) (kt : y ≤ x → bJ p l e R s m args below meth c cc nL own z a cells slots Q tgt lv st cs) (kf : ¬ y ≤ x → bJ p l e R s m args below meth c cc nL own z a cells slots Q q lv st cs) : bJ p l e R s m args below meth c cc nL own z a cells slots Q pc lv (.int y :: .int x :: st) cs := by
  intro hF H locs ls hB hS hl; subst hq; exact lv_icmp_ge hF.1.1 hF.1.2.1 d ht (fun h => kt h hF H locs ls hB hS hl) (fun h => kf h hF H locs ls hB hS hl)
theorem k_widen {cells' slots' : Nat} (h1 : cells ≤ cells') (h2 : slots ≤ slots') (k : bJ p l e R s m args below meth c cc nL own z a cells' slots' Q pc lv st cs) : bJ p l e R s m args below meth c cc nL own z a cells slots Q pc lv st cs := fun hF H locs ls hB hS hl => W.widen h1 h2 (k hF H locs ls hB hS hl)
theorem k_cs {cs' : List va_E} (h : cs = cs') (k : bJ p l e R s m args below meth c cc nL own z a cells slots Q pc lv st cs') : bJ p l e R s m args below meth c cc nL own z a cells slots Q pc lv st cs := h ▸ k
theorem k_obj {idx x : Nat} (hL : Cond.methodLink own idx objectInit ∈ lw_gt) (hf : 1 ≤ R.frames) (hr : (st.map fun v => v.category).sum + 12 ≤ R.locals) (d : decode cc pc = .ok (.invokespecial idx, 3)) (hq : pc + 3 = q) (k : bJ p l e R s m args below meth c cc nL own z a cells slots Q q lv st cs) : bJ p l e R s m args below meth c cc nL own z a cells slots Q pc lv (.ref x :: st) cs := by
  intro hF H locs ls hB hS hl; subst hq
  exact W.objInit (a := x) (rest := st) hF.1.1 hF.1.2.1 hF.1.2.2.2.1 (hF.1.2.2.2.2 _ hL) (hF.1.2.2.2.2 _ wI_bjectInit) (hF.1.2.2.2.2 _ wC_bjectInit) rfl (hl.1.trans hF.1.2.2.1.symm) rfl d hf (by show 2 * 0 + _ + 12 ≤ _; omega) (k hF H locs ls hB hS hl)
theorem k_new {C : String} {T : u_T} {N ci idx v : Nat} (hc : vwCl[ci]? = some (C, T, N)) (hin : ∀ w ∈ u_ws C T N, w ∈ lw_gt) (ty : Nat → FieldType) (hty : ∀ k, k < N → parseFieldDescriptor (T k).2.2.1 = some (ty k)) (hK : Cond.classLink own idx C ∈ lw_gt) (hU : Cond.instantiable C N ∈ lw_gt) (hZ : Cond.initialized C ∈ lw_gt) {fs : List Value} (hfs : ∀ j, j < N → defaultValue (ty j) = vp_V fs j) (hcells : cells + 1 ≤ R.cells) (hslots : slots + N ≤ R.slots) (d : decode cc pc = .ok (.new idx, 3)) (hq : pc + 3 = q) (hv : a + cs.length = v) (k : bJ p l e R s m args below meth c cc nL own z a (cells + 1) (slots + N) Q q lv (.ref v :: st) (cs ++ [.inr (ci, fs)])) : bJ p l e R s m args below meth c cc nL own z a cells slots Q pc lv st cs := by
  intro hF H locs ls hB hS hl; subst hq; subst hv
  have hKn := hF.2.1.1.1 ci _ hc
  have hts := hF.1.2.2.2.2
  refine W.newcK hF.1.1 hF.1.2.1 hF.1.2.2.2.1 (hts _ hK) (hts _ hU) (hts _ hZ) rfl d hcells hslots hKn.2.1 hB.1 fun H1 kC hkC e1 z1 o1 => ?_
  have h0 := hS.1
  have hz := hB.1
  exact k hF H1 locs ls (hB.push z1 o1 ⟨_, hc, (u_born ty hts hin hKn hkC e1 hty).to hfs⟩) ⟨Nat.le_trans hS.1 (by omega), fun x h1 h2 => (o1 x (by omega)).trans (hS.2.1 x h1 h2), hS.2.2⟩ hl
theorem k_newa {n : Int32} {N v : Nat} (hn : ¬ n < 0) (hN : n.toNatClampNeg = N) (hbytes : N * 4 ≤ 536870912) (hcells : cells + 1 ≤ R.cells) (hslots : slots + N ≤ R.slots) (d : decode cc pc = .ok (.newarray .int, 2)) (hq : pc + 2 = q) (hv : a + cs.length = v) (k : bJ p l e R s m args below meth c cc nL own z a (cells + 1) (slots + N) Q q lv (.ref v :: st) (cs ++ [.inl (zc z 0, N, .inl (fun _ => nI 0))])) : bJ p l e R s m args below meth c cc nL own z a cells slots Q pc lv (.int n :: st) cs := by
  intro hF H locs ls hB hS hl; subst hq; subst hv
  refine va_newaK (atype := .int) hF.1.1 hF.1.2.1 (hF.1.2.2.2.2 _ wA_int) rfl d rfl hn hN hbytes hcells hslots hB.1 fun H1 cA e1 z1 o1 hAr hNm => ?_
  have hc0 : zc z 0 = cA := Option.some.inj ((hF.2.1.1.2 0 _ rfl).2.symm.trans hNm)
  subst hc0
  have h0 := hS.1
  have hz := hB.1
  exact k hF H1 locs ls (hB.push z1 o1 e1) ⟨Nat.le_trans hS.1 (by omega), fun x h1 h2 => (o1 x (by omega)).trans (hS.2.1 x h1 h2), hS.2.2⟩ hl
theorem k_newz {n : Int32} {N v : Nat} (hn : ¬ n < 0) (hN : n.toNatClampNeg = N) (hbytes : N * 1 ≤ 536870912) (hcells : cells + 1 ≤ R.cells) (hslots : slots + N ≤ R.slots) (d : decode cc pc = .ok (.newarray .boolean, 2)) (hq : pc + 2 = q) (hv : a + cs.length = v) (k : bJ p l e R s m args below meth c cc nL own z a (cells + 1) (slots + N) Q q lv (.ref v :: st) (cs ++ [.inl (zc z 1, N, .inl (fun _ => nI 0))])) : bJ p l e R s m args below meth c cc nL own z a cells slots Q pc lv (.int n :: st) cs := by
  intro hF H locs ls hB hS hl; subst hq; subst hv
  refine va_newaK (atype := .boolean) hF.1.1 hF.1.2.1 (hF.1.2.2.2.2 _ wA_boolean) rfl d rfl hn hN hbytes hcells hslots hB.1 fun H1 cA e1 z1 o1 hAr hNm => ?_
  have hc0 : zc z 1 = cA := Option.some.inj ((hF.2.1.1.2 1 _ rfl).2.symm.trans hNm)
  subst hc0
  have h0 := hS.1
  have hz := hB.1
  exact k hF H1 locs ls (hB.push z1 o1 e1) ⟨Nat.le_trans hS.1 (by omega), fun x h1 h2 => (o1 x (by omega)).trans (hS.2.1 x h1 h2), hS.2.2⟩ hl
theorem k_newq {C : String} {t0 idx : Nat} {cA : ClassId} {n : Int32} {N v : Nat} (ht : (zT z)[t0]? = some (cA, .object C)) (hK : Cond.classLink own idx C ∈ lw_gt) (hov : ∀ U, Cz z U → va_AO C U) (hn : ¬ n < 0) (hN : n.toNatClampNeg = N) (hbytes : N * 4 ≤ 536870912) (hcells : cells + 1 ≤ R.cells) (hslots : slots + N ≤ R.slots) (d : decode cc pc = .ok (.anewarray idx, 3)) (hq : pc + 3 = q) (hv : a + cs.length = v) (k : bJ p l e R s m args below meth c cc nL own z a (cells + 1) (slots + N) Q q lv (.ref v :: st) (cs ++ [.inl (cA, N, .inr (.inr (.inr (.inr (fun _ => none)))))])) : bJ p l e R s m args below meth c cc nL own z a cells slots Q pc lv (.int n :: st) cs := by
  intro hF H locs ls hB hS hl; subst hq; subst hN
  have hz := hB.1
  rw [← hz] at hv
  subst hv
  obtain ⟨kA0, comp0, j1, j2, j3, j4⟩ := (hF.2.1.1.2 t0 _ ht).2
  refine W.anew hF.1.1 hF.1.2.1 hF.1.2.2.2.1 (hF.1.2.2.2.2 _ hK) (va_AO.use (hov _ hF.2.1)) rfl d rfl hn hbytes hcells hslots fun cA' kA comp f1 f2 f3 f4 => ?_
  have hc0 : cA = cA' := Option.some.inj (j4.symm.trans f1)
  subst hc0
  generalize hH1 : H.push ({ cls := cA, slots := Array.replicate n.toNatClampNeg .null, vm := .none } : Cell) = H1
  have z1 : H1.size = a + cs.length + 1 := by rw [← hH1, Array.size_push, hz]
  have e1 : H1[a + cs.length]? = some (arrV cA n.toNatClampNeg (fun _ => .null)) := by rw [← hz, ← hH1, Array.getElem?_push_size, ← arrV_new]
  have o1 : ∀ q : Nat, q < a + cs.length → H1[q]? = H[q]? := fun q hq => by rw [← hH1, Array.getElem?_push, if_neg (by rw [hz]; omega)]
  have h0 := hS.1
  exact k hF H1 locs ls (hB.push z1 o1 e1) ⟨Nat.le_trans hS.1 (by omega), fun x h1 h2 => (o1 x (by omega)).trans (hS.2.1 x h1 h2), hS.2.2⟩ hl
theorem k_put {C : String} {T : u_T} {N ci idx f i0 x : Nat} {fs : List Value} {v : Value} {ty : FieldType} {cs' : List va_E} (hc : vwCl[ci]? = some (C, T, N)) (hin : ∀ w ∈ u_ws C T N, w ∈ lw_gt) (ty0 : Nat → FieldType) (hty : ∀ k, k < N → parseFieldDescriptor (T k).2.2.1 = some (ty0 k)) (hnm : ∀ a, a < N → ∀ b, b < N → a ≠ b → (T a).2.1 ≠ (T b).2.1) (hf : f < N) (hfin : (T f).2.2.2 = false) (hd : parseFieldDescriptor (T f).2.2.1 = some ty) (hL : Cond.fieldLink own idx (T f).1 (T f).2.1 (T f).2.2.1 ∈ lw_gt) (he : cs[i0]? = some (.inr (ci, fs))) (hx0 : a + i0 = x) (hlen : f < fs.length) (hn : narrow ty v = v) (hfit : fits ty v = true) (d : decode cc pc = .ok (.putfield idx, 3)) (hq : pc + 3 = q) (hcs : cs.set i0 (.inr (ci, fs.set f v)) = cs') (k : bJ p l e R s m args below meth c cc nL own z a cells slots Q q lv st cs') : bJ p l e R s m args below meth c cc nL own z a cells slots Q pc lv (v :: .ref x :: st) cs := by
  intro hF H locs ls hB hS hl; subst hq; subst hx0; subst hcs
  obtain ⟨⟨hx, hb, hml, hown, hts⟩, ⟨hK, -⟩, -⟩ := id hF
  have hap := va_apart (own := own) hts hin ty0 hty hnm hK hc
  obtain ⟨r, h1, cell, q1, q2, q3, q4⟩ := hB.2 i0 _ he
  have hr : r = (C, T, N) := Option.some.inj (h1.symm.trans hc)
  subst hr
  obtain ⟨hS1, hfc, kC, hkC, hkind⟩ := hK.1 ci _ hc
  obtain ⟨cf, kf, fi, f9, hi9, hsl⟩ := hS1 f hf
  have hlay := hts _ (hin _ (u_in_lay hf))
  unfold u_lay at hlay
  rw [if_neg (by rw [hfin]; decide)] at hlay
  have hst := (u_facts hfc hkC (u_lays hts hin hf) hi9).1
  have h6 := u_store hfc hkC hkind hlay hi9 hd hn hfit
  refine W.putK hx hb (f := f9) ⟨hown, hts _ hL, ⟨_, _, _, hi9⟩, hst⟩ (by rw [q2]; exact h6) q1 q3 (by rw [hsl]; exact k2_hasslot (q4 f hf)) rfl rfl d fun H' e1 e2 e3 => ?_
  rw [hsl] at e1 ⊢
  exact k hF H' _ ls (hB.set he e2 e3 ⟨_, hc, t_OB.to (V := updV (vp_V fs) f v) ⟨_, e1, q2, q3, t_set q4 hap hf v⟩ (fun j _ => vp_updV_set hlen v j)⟩) (hS.put e2 e3 (Nat.le_add_right a i0)) hl
theorem k_putF {C : String} {T : u_T} {N ci idx f i0 x : Nat} {fs : List Value} {v : Value} {ty : FieldType} {cs' : List va_E} (hin2 : meth.name = "<init>") (hc : vwCl[ci]? = some (C, T, N)) (hin : ∀ w ∈ u_ws C T N, w ∈ lw_gt) (ty0 : Nat → FieldType) (hty : ∀ k, k < N → parseFieldDescriptor (T k).2.2.1 = some (ty0 k)) (hnm : ∀ a, a < N → ∀ b, b < N → a ≠ b → (T a).2.1 ≠ (T b).2.1) (hf : f < N) (hfin : (T f).2.2.2 = true) (hdecl : (T f).1 = own) (hd : parseFieldDescriptor (T f).2.2.1 = some ty) (hL : Cond.fieldLink own idx (T f).1 (T f).2.1 (T f).2.2.1 ∈ lw_gt) (he : cs[i0]? = some (.inr (ci, fs))) (hx0 : a + i0 = x) (hlen : f < fs.length) (hn : narrow ty v = v) (hfit : fits ty v = true) (d : decode cc pc = .ok (.putfield idx, 3)) (hq : pc + 3 = q) (hcs : cs.set i0 (.inr (ci, fs.set f v)) = cs') (k : bJ p l e R s m args below meth c cc nL own z a cells slots Q q lv st cs') : bJ p l e R s m args below meth c cc nL own z a cells slots Q pc lv (v :: .ref x :: st) cs := by
  intro hF H locs ls hB hS hl; subst hq; subst hx0; subst hcs
  obtain ⟨⟨hx, hb, hml, hown, hts⟩, ⟨hK, -⟩, -⟩ := id hF
  have hap := va_apart (own := own) hts hin ty0 hty hnm hK hc
  obtain ⟨r, h1, cell, q1, q2, q3, q4⟩ := hB.2 i0 _ he
  have hr : r = (C, T, N) := Option.some.inj (h1.symm.trans hc)
  subst hr
  obtain ⟨hS1, hfc, kC, hkC, hkind⟩ := hK.1 ci _ hc
  obtain ⟨cf, kf, fi, f9, hi9, hsl⟩ := hS1 f hf
  have hlay := hts _ (hin _ (u_in_lay hf))
  unfold u_lay at hlay
  rw [if_pos hfin] at hlay
  have hst := (u_facts hfc hkC (u_lays hts hin hf) hi9).1
  have hcf : m.cls = cf := by
    obtain ⟨_, _, c', _, _, _, -, -, hf', -, -, -, hown2, -⟩ := Cond.laysFinal_spec hlay
    have e1 : c' = cf := by have := hi9.symm.trans hf'; simp at this; exact this.1.symm
    rw [hdecl] at hown2
    rw [← e1]; exact Option.some.inj (hown.symm.trans hown2)
  have h6 := u_fits hfc hkC hkind (Or.inr hlay) hi9 hd hn hfit
  refine W.putFinK hx hb hown (hts _ hL) hi9 hst hcf hin2 (by rw [q2]; exact h6) q1 q3 (by rw [hsl]; exact k2_hasslot (q4 f hf)) rfl rfl d fun H' e1 e2 e3 => ?_
  rw [hsl] at e1 ⊢
  exact k hF H' _ ls (hB.set he e2 e3 ⟨_, hc, t_OB.to (V := updV (vp_V fs) f v) ⟨_, e1, q2, q3, t_set q4 hap hf v⟩ (fun j _ => vp_updV_set hlen v j)⟩) (hS.put e2 e3 (Nat.le_add_right a i0)) hl
theorem k_get {C : String} {T : u_T} {N ci idx f i0 x : Nat} {fs : List Value} {v : Value} (hc : vwCl[ci]? = some (C, T, N)) (hin : ∀ w ∈ u_ws C T N, w ∈ lw_gt) (hf : f < N) (hL : Cond.fieldLink own idx (T f).1 (T f).2.1 (T f).2.2.1 ∈ lw_gt) (he : cs[i0]? = some (.inr (ci, fs))) (hx0 : a + i0 = x) (hv : fs[f]? = some v) (d : decode cc pc = .ok (.getfield idx, 3)) (hq : pc + 3 = q) (k : bJ p l e R s m args below meth c cc nL own z a cells slots Q q lv (v :: st) cs) : bJ p l e R s m args below meth c cc nL own z a cells slots Q pc lv (.ref x :: st) cs := by
  intro hF H locs ls hB hS hl; subst hq; subst hx0
  exact va_get (D := zD z) (ci := ci) (v := v) (C := C) (T := T) (N := N) (tys := zT z) hF.1.1 hF.1.2.1 hF.1.2.2.2.2 hin hF.1.2.2.2.1 hF.2.1.1 (hB.one he) 0 rfl hc f hf (hF.1.2.2.2.2 _ hL) (fun _ h9 => h9) hv d (k hF H locs ls hB hS hl)
theorem k_alen {cA : ClassId} {xa : vp_A} {t0 i0 x : Nat} {ty : FieldType} {v : Int32} (ht : (zT z)[t0]? = some (cA, ty)) (he : cs[i0]? = some (.inl (cA, xa))) (hx0 : a + i0 = x) (hv : Int32.ofNat xa.1 = v) (d : decode cc pc = .ok (.arraylength, 1)) (hq : pc + 1 = q) (k : bJ p l e R s m args below meth c cc nL own z a cells slots Q q lv (.int v :: st) cs) : bJ p l e R s m args below meth c cc nL own z a cells slots Q pc lv (.ref x :: st) cs := by
  intro hF H locs ls hB hS hl; subst hq; subst hx0
  exact va_alen hF.1.1 hF.1.2.1 hF.2.1.1 (hB.one he) 0 t0 rfl ht hv d (k hF H locs ls hB hS hl)
theorem k_ast {cA : ClassId} {r : vw_C} {t0 i0 j0 ci x y n : Nat} {vs : List Value} {f : Nat → Option Nat} {i : Int32} {cs' : List va_E} (ht : (zT z)[t0]? = some (cA, .object r.1)) (hc : vwCl[ci]? = some r) (he : cs[i0]? = some (.inl (cA, n, .inr (.inr (.inr (.inr f)))))) (hx0 : a + i0 = x) (hj : cs[j0]? = some (.inr (ci, vs))) (hy0 : a + j0 = y) (hin : vp_in i n) (d : decode cc pc = .ok (.aastore, 1)) (hq : pc + 1 = q) (hcs : cs.set i0 (.inl (cA, n, .inr (.inr (.inr (.inr (va_up f i.toNatClampNeg (some y))))))) = cs') (k : bJ p l e R s m args below meth c cc nL own z a cells slots Q q lv st cs') : bJ p l e R s m args below meth c cc nL own z a cells slots Q pc lv (.ref y :: .int i :: .ref x :: st) cs := by
  intro hF H locs ls hB hS hl; subst hq; subst hx0; subst hcs; subst hy0
  have hlt : i.toNatClampNeg < n := Nat.not_le.mp fun q => hin (Or.inr q)
  have h0 : ¬ i < 0 := fun q => hin (Or.inl q)
  obtain ⟨r', hr', cellV, g1, g2, g3, -⟩ := hB.2 j0 _ hj
  have hcls := (hF.2.1.1.1 ci r hc).2
  obtain ⟨kA, comp, k1, k2, k3, -⟩ := (hF.2.1.1.2 t0 _ ht).2
  have hcomp : comp = (zD z).1 ci := Option.some.inj (k3.symm.trans hcls.1)
  subst hcomp
  obtain ⟨kC, hkC, -⟩ := hcls.2
  refine W.aast hF.1.1 hF.1.2.1 (hB.2 i0 _ he) (fun q h => by cases h) (fun h => by cases h) k1 k2 rfl hkC ⟨h0, by show _ < (arrV _ _ _).slots.size; rw [arrV_size]; exact hlt⟩ g1 (fun q h => by rw [g3] at h; cases h) (by rw [g2]; exact hkC) (by rw [g2]; exact va_assign hcls) rfl rfl d fun H1 e1 z1 oq => ?_
  refine k hF H1 _ ls (hB.set he z1 oq ?_) (hS.put z1 oq (Nat.le_add_right a i0)) hl
  show H1[a + i0]? = some (vp_cell _ _)
  rw [e1]
  rw [vp_cell_q, vp_cell_q, arrV_store]
  congr 2
  funext q
  by_cases hq : q = i.toNatClampNeg
  · subst hq
    simp [updV, va_up, va_rf]
  · simp [updV, va_up, hq]
theorem k_iast {i0 x n : Nat} {f : Nat → Int32} {i v : Int32} {cs' : List va_E} (he : cs[i0]? = some (.inl (zc z 0, n, .inl f))) (hx0 : a + i0 = x) (hin : vp_in i n) (d : decode cc pc = .ok (.iastore, 1)) (hq : pc + 1 = q) (hcs : cs.set i0 (.inl (zc z 0, n, .inl (upd f i.toNatClampNeg v))) = cs') (k : bJ p l e R s m args below meth c cc nL own z a cells slots Q q lv st cs') : bJ p l e R s m args below meth c cc nL own z a cells slots Q pc lv (.int v :: .int i :: .ref x :: st) cs := by
  intro hF H locs ls hB hS hl; subst hq; subst hx0; subst hcs
  refine W.iast hF.1.1 hF.1.2.1 (hB.2 i0 _ he) ((hF.2.1.1.2 0 _ rfl).1 n (fun j => .int (f j))) (fun q => by cases q) (by show ¬ (i < 0 ∨ (arrV _ _ _).slots.size ≤ _); rw [arrV_size]; exact hin) rfl rfl d fun H1 e1 z1 oq => ?_
  refine k hF H1 _ ls (hB.set he z1 oq ?_) (hS.put z1 oq (Nat.le_add_right a i0)) hl
  show H1[a + i0]? = some (vp_cell _ _)
  rw [e1]
  rw [vp_cell_i, vp_cell_i, arrV_store]
  congr 2
  funext q
  by_cases hq : q = i.toNatClampNeg
  · subst hq
    simp [updV, upd]
  · simp [updV, upd, hq]
theorem k_getsN {k0 idx : Nat} {host : String} (h1 : 200 ≤ k0) (h2 : k0 < 210) (hL : Cond.fieldLinkNest own idx "CopierJobs" (sname k0) "[I" host ∈ lw_nt) (d : decode cc pc = .ok (.getstatic idx, 3)) (hq : pc + 3 = q) (k : bJ p l e R s m args below meth c cc nL own z a cells slots Q q lv (.ref (za z k0 0) :: st) cs) : bJ p l e R s m args below meth c cc nL own z a cells slots Q pc lv st cs := by
  intro hF H locs ls hB hS hl; subst hq
  exact va_getsN hF.1.1 hF.1.2.1 (hF.2.1.2.2.1 k0 h1 h2).1 (s_wk hS (fun q hq => Nat.le_trans hF.2.2 hq)) hF.1.2.2.2.1 (va_Nw.use rfl (hF.2.1.2.1 _ hL)) (fun _ h9 => h9) d (k hF H locs ls hB hS hl)
theorem k_slen {k0 : Nat} (h1 : 200 ≤ k0) (h2 : k0 < 210) (d : decode cc pc = .ok (.arraylength, 1)) (hq : pc + 1 = q) (k : bJ p l e R s m args below meth c cc nL own z a cells slots Q q lv (.int (Int32.ofNat (ln k0)) :: st) cs) : bJ p l e R s m args below meth c cc nL own z a cells slots Q pc lv (.ref (za z k0 0) :: st) cs := by
  intro hF H locs ls hB hS hl; subst hq
  obtain ⟨cell, e1, e2, e3, e4, e5, e6, e7⟩ := (hF.2.1.2.2.1 k0 h1 h2).2
  exact W.alen hF.1.1 hF.1.2.1 (by rw [(s_wk hS (fun q hq => Nat.le_trans hF.2.2 hq) : va_S (zA z) s.heap H locs).2.1 _ (Array.getElem?_eq_some_iff.mp e1).1 e7]; exact e1) e2 e5 rfl rfl d (k hF H locs ls hB hS hl)
end BJ
