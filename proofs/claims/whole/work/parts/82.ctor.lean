/-! constructors: calls of them, their ends -/
section CTOR
variable {p : Program} {l : Launch} {e : Env} {R : Room} {s : State} {m : MethodId} {args : Array Value} {below : List Frame} {meth : Method} {c : Code} {cc : ByteArray} {nL : Nat} {own : String} {z : zE} {a cells slots : Nat} {Q : State → Prop} {pc q : Nat} {lv : List (Nat × Value)} {st : List Value} {cs cs0 : List va_E} {y : MethodName} {b : ByteArray} {n mc ms v idx : Nat} {rm : Room} {c0 : va_E} {F : Nat → List va_E} {host : String}
theorem k_call (hv : a + cs0.length = v) (hrun : CallFix p m c cc nL s args lw_gt own ∧ Cz z s ∧ zN z ≤ a → ∀ (H : Heap) (locs : List Loc) (ls : Array Slot), BL z a (cs0 ++ [c0]) H → va_S (bA a) s.heap H locs → ls.size = nL → ∃ arr : Array Value, va_Run p l e R s m args below meth c H locs cells slots mc ms (F0 m pc ls (.ref v :: st)) st (QB z v (F v) arr) (bA v)) (hq : pc + 3 = q) (k : bJ p l e R s m args below meth c cc nL own z a (cells + mc) (slots + ms) Q q lv st (cs0 ++ F v)) : bJ p l e R s m args below meth c cc nL own z a cells slots Q pc lv (.ref v :: st) (cs0 ++ [c0]) := by
  intro hF H locs ls hB hS hl; subst hq
  obtain ⟨arr, hr⟩ := hrun hF H locs ls hB hS hl.1
  intro T hT X
  obtain ⟨v', st₀, t, T', L, h0, X', hL, e1, e2, ⟨hv', hBL, hz, hk1⟩, stp⟩ := hr T hT X
  cases hv'
  have hsz := hB.1
  rw [List.length_append] at hsz
  have hB' : BL z a (cs0 ++ F v) T'.heap := by
    rw [e1]
    refine ⟨by rw [hBL.1, List.length_append]; omega, fun i e' hi => ?_⟩
    by_cases hlt : i < cs0.length
    · have hi' : cs0[i]? = some e' := by rw [List.getElem?_append_left hlt] at hi; exact hi
      refine (hB.2 i e' (by rw [List.getElem?_append_left hlt]; exact hi')).kept ?_
      rw [← h0]
      exact hk1 (a + i) (by rw [h0, hsz]; omega) (fun q => by have : v ≤ a + i := q; omega)
    · rw [List.getElem?_append_right (by omega)] at hi
      have := hBL.2 _ _ hi
      rw [show v + (i - cs0.length) = a + i by omega] at this
      exact this
  have hS' : va_S (bA a) s.heap T'.heap (locs ++ L) := by
    rw [e1]
    refine ⟨Nat.le_trans hS.1 (by rw [← h0]; exact hz), fun q h1 h2 => ?_, fun l9 hl9 => ?_⟩
    · rw [hk1 q (by rw [h0]; exact Nat.lt_of_lt_of_le h1 hS.1) (fun h => h2 (by show a ≤ q; have : v ≤ q := h; omega)), h0]; exact hS.2.1 q h1 h2
    · rcases List.mem_append.mp hl9 with h | h
      · exact hS.2.2 l9 h
      · have : v ≤ l9.base := hL l9 h
        show a ≤ l9.base
        omega
  obtain ⟨t9, a1, b1⟩ := k hF T'.heap (locs ++ L) ls hB' hS' hl T' rfl X'
  exact ⟨t9, stp t9 a1, b1⟩
theorem pb_at (hF : CallFix p m c cc nL s args lw_gt own ∧ Cz z s ∧ zN z ≤ a) {H : Heap} {locs : List Loc} (hv : a + cs0.length = v) (hB : BL z a (cs0 ++ [c0]) H) (hS : va_S (bA a) s.heap H locs) : PreS s H (va_Pc [.ref v] (PB z v [c0])) [.ref v] := by
  refine ⟨PB.blind, fun U hU hWm => ⟨rfl, ⟨?_, fun i e' hi => ?_⟩, hF.2.1.go hWm hF.2.2 (by rw [hU]; exact hS)⟩⟩
  · have := hB.1
    rw [List.length_append] at this
    rw [hU, this, ← hv]; rfl
  · have h1 : i < 1 := (List.getElem?_eq_some_iff.mp hi).1
    have h2 : i = 0 := by omega
    subst h2
    cases hi
    rw [hU]
    have := hB.2 cs0.length c0 (by rw [List.getElem?_append_right (Nat.le_refl _), Nat.sub_self]; rfl)
    rw [hv] at this
    exact this
/-- the words of a constructor that is called -/
def CI (y : MethodName) (b : ByteArray) (n : Nat) : Prop := Cond.code y b n none ∈ lw_gt ∧ Cond.instanceMethod y ∈ lw_gt ∧ Cond.initialized y.cls ∈ lw_gt ∧ y.name = "<init>" ∧ (y.cls ≠ "java/lang/invoke/MethodHandle" ∧ y.cls ≠ "java/lang/invoke/VarHandle" ∧ (parseMethodDescriptor y.desc).map (fun d => d.parameters.length) = some 0)
theorem k_ctorI (hC : Ct l y b n rm z c0 F mc ms) (hV : CI y b n) (hL : Cond.methodLink own idx y ∈ lw_gt) (hR : rm.cells = mc ∧ rm.slots = ms) (hroom : rm.frames + 1 ≤ R.frames ∧ 8 + (n + 11) + rm.locals ≤ R.locals) (hrest : (st.map fun v => v.category).sum ≤ 8) (hfit : cells + mc ≤ R.cells ∧ slots + ms ≤ R.slots) (d : decode cc pc = .ok (.invokespecial idx, 3)) (hv : a + cs0.length = v) (hq : pc + 3 = q) (k : bJ p l e R s m args below meth c cc nL own z a (cells + mc) (slots + ms) Q q lv st (cs0 ++ F v)) : bJ p l e R s m args below meth c cc nL own z a cells slots Q pc lv (.ref v :: st) (cs0 ++ [c0]) := by
  refine k_call hv (fun hF H locs ls hB hS hsz => ⟨(Value.ref v :: ([] : List Value)).toArray, ?_⟩) hq k
  exact va_runI (As := []) (rest := st) hF.1 (hC v (by have := hF.2.2; omega)) (cwI 0 hF.1.2.2.2.2 (gt_code hV.1) rfl hR.1 hR.2 (hF.1.2.2.2.2 _ hV.2.2.1) (hF.1.2.2.2.2 _ hL) (hF.1.2.2.2.2 _ hV.2.1) hV.2.2.2.1 hV.2.2.2.2 hroom) (pb_at hF hv hB hS) rfl rfl hsz rfl (lv_room hrest) d hfit
theorem k_ctorN (hC : Ct l y b n rm z c0 F mc ms) (hV : CI y b n) (hL : Cond.methodLinkNest own idx y host ∈ lw_nt) (hR : rm.cells = mc ∧ rm.slots = ms) (hroom : rm.frames + 1 ≤ R.frames ∧ 8 + (n + 11) + rm.locals ≤ R.locals) (hrest : (st.map fun v => v.category).sum ≤ 8) (hfit : cells + mc ≤ R.cells ∧ slots + ms ≤ R.slots) (d : decode cc pc = .ok (.invokespecial idx, 3)) (hv : a + cs0.length = v) (hq : pc + 3 = q) (k : bJ p l e R s m args below meth c cc nL own z a (cells + mc) (slots + ms) Q q lv st (cs0 ++ F v)) : bJ p l e R s m args below meth c cc nL own z a cells slots Q pc lv (.ref v :: st) (cs0 ++ [c0]) := by
  refine k_call hv (fun hF H locs ls hB hS hsz => ⟨(Value.ref v :: ([] : List Value)).toArray, ?_⟩) hq k
  exact va_runIN (As := []) (rest := st) hF.1 (hC v (by have := hF.2.2; omega)) ⟨va_cnB 0 hF.1.2.2.2.2 (gt_code hV.1) rfl hR.1 hR.2 (hF.2.1.2.1 _ hL) (hF.1.2.2.2.2 _ hV.2.2.1) hV.2.2.2.2 hroom, hV.2.2.2.1, hF.1.2.2.2.2 _ hV.2.1⟩ (pb_at hF hv hB hS) rfl rfl hsz rfl (lv_room hrest) d hfit
theorem k_ret (hr : meth.sig.returnType = none) (hk : meth.locks = false) (d : decode cc pc = .ok (.return_, 1)) : bJ p l e R s m args below meth c cc nL own z a cells slots (MQ below (QB z a cs) args s cells slots (bA a)) pc lv [] cs :=
  fun hF H locs ls hB hS hl => W.vret hF.1.1 hF.1.2.1 hr (fun t ht _ => ⟨rfl, by rw [ht]; exact hB, hS.F ht⟩) hS.2.2 d hk
end CTOR
/-- a constructor's contract out of its walk -/
theorem ct_of {l : Launch} {y : MethodName} {b : ByteArray} {n mc ms : Nat} {rm : Room} {z : zE} {c0 : va_E} {F : Nat → List va_E} (hy : plainName y.cls = true) (hn : y.name = "<init>") (hlen : 1 ≤ n) (h : ∀ (a : Nat), zN z ≤ a → ∀ (p : Program) (e : Env) (s : State) (m : MethodId) (below : List Frame) (meth : Method) (c : Code), meth.name = "<init>" → meth.sig.returnType = none → meth.locks = false → s.heap.size = a + 1 → bJ p l e rm s m #[.ref a] below meth c b n y.cls z a 0 0 (MQ below (QB z a (F a)) #[.ref a] s mc ms (bA a)) 0 [(0, .ref a)] [] [c0]) : Ct l y b n rm z c0 F mc ms := by
  intro a ha
  refine Met.ofW (cc := b) (maxL := n) (ret := none) hy rfl ?_
  intro p e s m args below meth c s₁ B hml hv
  obtain ⟨rfl, hB, hX⟩ := hv
  have hts := atoms_spec (ws := .code y b n none :: lw_gt) B.pre
  have hown : s.vm.findClass y.cls = some m.cls := findClass_of_methodNamed B.named
  have hl := lv_entry ([.ref a]) (n := n) hlen
  rw [lg_entry_eq]
  exact h a ha p e s m below meth c ((name_of_methodNamed B.named B.method).1.trans hn) B.returns B.notSynchronized hB.1 ⟨⟨B.exec, B.bytes, hml, hown, fun w hw => hts w (List.mem_cons_of_mem _ hw)⟩, hX, ha⟩ s.heap [] _ hB va_S.rf hl
abbrev ia (z : zE) (N : Nat) : va_E := .inl (zc z 0, N, .inl (fun _ => nI 0))
