/-! more rows of the judgement -/
/-- none or some, told apart -/
def oc {ρ : Type} (x : Option Nat) (a : Option ρ) (f : Nat → Option ρ) : Option ρ := match x with
  | none => a
  | some i => f i
/-- how a mirror's end is read -/
abbrev fn {ρ Γ : Type} (ok : ρ → Prop) (nxt : ρ → Γ) (out : ρ → Option Value) : ρ → Γ → List Value → Prop := fun x g v => ok x ∧ g = nxt x ∧ v = (out x).toList
def FU : Nat := 1000
section ZJ2
variable {p : Program} {l : Launch} {e : Env} {R : Room} {s : State} {m : MethodId} {args : Array Value} {below : List Frame} {meth : Method} {c : Code} {cc : ByteArray} {nL : Nat} {own : String} {δ : Nat → Nat} {z : zE} {cells slots : Nat} {Γ ρ : Type} {Wf : Γ → Nat → Nat → va_E} {fin : ρ → Γ → List Value → Prop} {ri : Instr} {Q : ρ → State → Prop} {pc q k0 : Nat} {lv : List (Nat × Value)} {st stk rest : List Value} {g : Γ} {M : Option ρ}
theorem j_lv {lv' : List (Nat × Value)} (ks : List Nat) (h : lv_pick lv ks = lv') (k : zJ δ p l e R s m args below meth c cc nL own z cells slots Wf fin ri Q pc lv' st g M) : zJ δ p l e R s m args below meth c cc nL own z cells slots Wf fin ri Q pc lv st g M :=
  fun hF hE x hx H locs ls hW hS hl => k hF hE x hx H locs ls hW hS (lv_sub hl ks h)
theorem j_crs {M0 : Option (Option Nat)} {M1 : Option ρ} {f : Nat → Option ρ} (hr : RN δ p l e R s m args below meth c cc nL own z cells slots Wf pc stk rest g M0 (orf z k0) (fun _ => g)) (hq : pc + 3 = q) (h1 : zJ δ p l e R s m args below meth c cc nL own z cells slots Wf fin ri Q q lv (.null :: rest) g M1) (h2 : ∀ i, zJ δ p l e R s m args below meth c cc nL own z cells slots Wf fin ri Q q lv (.ref (za z k0 i) :: rest) g (f i)) : zJ δ p l e R s m args below meth c cc nL own z cells slots Wf fin ri Q pc lv stk g (M0.bind fun x => oc x M1 f) :=
  j_call hr hq (fun x => by cases x with | none => exact h1 | some i => exact h2 i)
theorem j_nul0 {off : Int} {tgt : Nat} (d : decode cc pc = .ok (.ifnull off, 3)) (ht : (pc : Int) + off = (tgt : Int)) (k : zJ δ p l e R s m args below meth c cc nL own z cells slots Wf fin ri Q tgt lv st g M) : zJ δ p l e R s m args below meth c cc nL own z cells slots Wf fin ri Q pc lv (.null :: st) g M :=
  fun hF hE x hx H locs ls hW hS hl => lv_ifnullN hF.1.1 hF.1.2.1 d ht (k hF hE x hx H locs ls hW hS hl)
theorem j_nul1 {off : Int} {a : Nat} (d : decode cc pc = .ok (.ifnull off, 3)) (hq : pc + 3 = q) (k : zJ δ p l e R s m args below meth c cc nL own z cells slots Wf fin ri Q q lv st g M) : zJ δ p l e R s m args below meth c cc nL own z cells slots Wf fin ri Q pc lv (.ref a :: st) g M :=
  fun hF hE x hx H locs ls hW hS hl => by subst hq; exact lv_ifnull hF.1.1 hF.1.2.1 d (k hF hE x hx H locs ls hW hS hl)
theorem j_non0 {off : Int} (d : decode cc pc = .ok (.ifnonnull off, 3)) (hq : pc + 3 = q) (k : zJ δ p l e R s m args below meth c cc nL own z cells slots Wf fin ri Q q lv st g M) : zJ δ p l e R s m args below meth c cc nL own z cells slots Wf fin ri Q pc lv (.null :: st) g M :=
  fun hF hE x hx H locs ls hW hS hl => by subst hq; exact lv_ifnonnullN hF.1.1 hF.1.2.1 d (k hF hE x hx H locs ls hW hS hl)
theorem j_non1 {off : Int} {tgt a : Nat} (d : decode cc pc = .ok (.ifnonnull off, 3)) (ht : (pc : Int) + off = (tgt : Int)) (k : zJ δ p l e R s m args below meth c cc nL own z cells slots Wf fin ri Q tgt lv st g M) : zJ δ p l e R s m args below meth c cc nL own z cells slots Wf fin ri Q pc lv (.ref a :: st) g M :=
  fun hF hE x hx H locs ls hW hS hl => lv_ifnonnull hF.1.1 hF.1.2.1 d ht (k hF hE x hx H locs ls hW hS hl)
theorem j_aload_nN {kf : Fin 4} {n i : Nat} (d : decode cc pc = .ok (.aload_n kf, 1)) (hn : (kf : Nat) = n) (h : lv[i]? = some (n, .null)) (hq : pc + 1 = q) (k : zJ δ p l e R s m args below meth c cc nL own z cells slots Wf fin ri Q q lv (.null :: st) g M) : zJ δ p l e R s m args below meth c cc nL own z cells slots Wf fin ri Q pc lv st g M := by
  intro hF hE x9 hx9 H locs ls hW hS hl; subst hq; exact lv_aload_nN hF.1.1 hF.1.2.1 d hn (lv_at hl i h) (k hF hE x9 hx9 H locs ls hW hS hl)
theorem j_aloadN {n i : Nat} (d : decode cc pc = .ok (.aload n, 2)) (h : lv[i]? = some (n, .null)) (hq : pc + 2 = q) (k : zJ δ p l e R s m args below meth c cc nL own z cells slots Wf fin ri Q q lv (.null :: st) g M) : zJ δ p l e R s m args below meth c cc nL own z cells slots Wf fin ri Q pc lv st g M := by
  intro hF hE x9 hx9 H locs ls hW hS hl; subst hq; exact lv_aloadN hF.1.1 hF.1.2.1 d (lv_at hl i h) (k hF hE x9 hx9 H locs ls hW hS hl)
theorem j_astore_nN {kf : Fin 4} {n : Nat} {lv' : List (Nat × Value)} (d : decode cc pc = .ok (.astore_n kf, 1)) (hn : (kf : Nat) = n) (hb : n < nL) (h : (n, Value.null) :: lv.filter (fun q => !(q.1 == n) && !(q.1 + 1 == n && q.2.category == 2)) = lv') (hq : pc + 1 = q) (k : zJ δ p l e R s m args below meth c cc nL own z cells slots Wf fin ri Q q lv' st g M) : zJ δ p l e R s m args below meth c cc nL own z cells slots Wf fin ri Q pc lv (.null :: st) g M := by
  intro hF hE x9 hx9 H locs ls hW hS hl; subst hq; exact lv_astore_nN hF.1.1 hF.1.2.1 d hn hl hb h (fun ls hl => k hF hE x9 hx9 H locs ls hW hS hl)
theorem j_astoreN {n : Nat} {lv' : List (Nat × Value)} (d : decode cc pc = .ok (.astore n, 2)) (hb : n < nL) (h : (n, Value.null) :: lv.filter (fun q => !(q.1 == n) && !(q.1 + 1 == n && q.2.category == 2)) = lv') (hq : pc + 2 = q) (k : zJ δ p l e R s m args below meth c cc nL own z cells slots Wf fin ri Q q lv' st g M) : zJ δ p l e R s m args below meth c cc nL own z cells slots Wf fin ri Q pc lv (.null :: st) g M := by
  intro hF hE x9 hx9 H locs ls hW hS hl; subst hq; exact lv_astoreN hF.1.1 hF.1.2.1 d hl hb h (fun ls hl => k hF hE x9 hx9 H locs ls hW hS hl)
theorem j_ldcw {index : Nat} {v : Int32} (d : decode cc pc = .ok (.ldc_w index, 3)) (hc : Cond.constant own index v ∈ lw_gt) (hq : pc + 3 = q) (k : zJ δ p l e R s m args below meth c cc nL own z cells slots Wf fin ri Q q lv (.int v :: st) g M) : zJ δ p l e R s m args below meth c cc nL own z cells slots Wf fin ri Q pc lv st g M := by
  intro hF hE x9 hx9 H locs ls hW hS hl; subst hq
  exact lv_ldcw hF.1.1 hF.1.2.1 hF.1.2.2.2.1 (hF.1.2.2.2.2 _ hc) d (k hF hE x9 hx9 H locs ls hW hS hl)
end ZJ2
/-- a contract out of a walk, by the method's own name -/
theorem ms_ofF {l : Launch} {y : MethodName} {b : ByteArray} {n : Nat} {ret : Option FieldType} {rm : Room} {δ : Nat → Nat} {z : zE} {As : List Value} {Γ ρ : Type} {Wf : Γ → Nat → Nat → va_E} {ri : Instr} {out : ρ → Option Value} {nxt : ρ → Γ} {ok : ρ → Prop} {lv : List (Nat × Value)} {g : Γ} {M : Option ρ} (hy : plainFor y = true) (hcs : rm.cells = 0 ∧ rm.slots = 0) (hlen : (lg_sl As).length ≤ n) (hlv : lv_args 0 As = lv)
    (hend : ∀ (p : Program) (e : Env) (s : State) (m : MethodId) (below : List Frame) (meth : Method) (c : Code), p.tables.exec = Jvm.exec → c.code = b → meth.sig.returnType = ret → meth.locks = false → ∀ (x : ρ) (H : Heap) (locs : List Loc) (ls : Array Slot) (pc : Nat), ok x → Wd δ z (Wf (nxt x)) H → va_S (zA z) s.heap H locs → decode b pc = .ok (ri, 1) → W p l e rm s m As.toArray below meth c H locs 0 0 (MQ below (QW δ z (out x) (Wf (nxt x))) As.toArray s 0 0 (zA z)) (F0 m pc ls (out x).toList))
    (h : ∀ (p : Program) (e : Env) (s : State) (m : MethodId) (below : List Frame) (meth : Method) (c : Code), zJ δ p l e rm s m As.toArray below meth c b n y.cls z 0 0 Wf (fun x g v => ok x ∧ g = nxt x ∧ v = (out x).toList) ri (fun x => MQ below (QW δ z (out x) (Wf (nxt x))) As.toArray s 0 0 (zA z)) 0 lv [] g M) :
    ∀ x, M = some x → Ms δ l y b n ret rm z As (Wf g) (out x) (Wf (nxt x)) := by
  intro x hx
  unfold Ms Met
  refine MetFree.of_bodySF (code := b) (maxLocals := n) (ret := ret) hy ?_ ?_
  · intro args s m h hn
    obtain ⟨meth, c, h1, h2, h3, h4, h5, h6, -, -⟩ := Cond.code_spec hn (atoms_spec (ws := .code y b n ret :: lw_gt) h _ List.mem_cons_self)
    exact ⟨meth, c, h1, h2, h3, h4, h5, h6⟩
  intro p e s m args below meth c s₁ B hml hv _
  have hh0 : s₁.heap = s.heap := by rw [B.state]; rfl
  refine (fun (hw : W p l e rm s m args below meth c s.heap [] 0 0 (MQ below (QW δ z (out x) (Wf (nxt x))) args s 0 0 (zA z)) (entryFrame m args n)) => ?_) ?_
  · obtain ⟨t, a1, o, b1, b2, b3⟩ := hw s₁ hh0 (Stand.of_body B)
    exact ⟨t, o, a1, b1, b2, ⟨b3.1, b3.2⟩⟩
  obtain ⟨rfl, hW, hX⟩ := hv
  have hts := atoms_spec (ws := .code y b n ret :: lw_gt) B.pre
  have hown : s.vm.findClass y.cls = some m.cls := findClass_of_methodNamed B.named
  have hl := lv_entry As (n := n) hlen
  rw [lg_entry_eq]
  rw [hlv] at hl
  exact h p e s m below meth c ⟨⟨B.exec, B.bytes, hml, hown, fun w hw => hts w (List.mem_cons_of_mem _ hw)⟩, hX, Nat.zero_le _, Nat.zero_le _⟩ (fun x g v hf H locs ls pc hW hS d => by
    obtain ⟨h0, rfl, rfl⟩ := hf
    exact hend p e s m below meth c B.exec B.bytes B.returns B.notSynchronized x H locs ls pc h0 hW hS d) x hx s.heap [] _ hW va_S.rf hl
/-- an answer and a state, one behind the other -/
def sb {ρ : Type} (M : Option (Int32 × zG)) (f : Int32 → zG → Option ρ) : Option ρ := M.bind fun x => f x.1 x.2
theorem j_ss {p : Program} {l : Launch} {e : Env} {R : Room} {s : State} {m : MethodId} {args : Array Value} {below : List Frame} {meth : Method} {c : Code} {cc : ByteArray} {nL : Nat} {own : String} {δ : Nat → Nat} {z : zE} {cells slots : Nat} {ρ : Type} {Wf : zG → Nat → Nat → va_E} {fin : ρ → zG → List Value → Prop} {ri : Instr} {Q : ρ → State → Prop} {pc q : Nat} {lv : List (Nat × Value)} {stk rest : List Value} {g : zG} {M : Option (Int32 × zG)} {f : Int32 → zG → Option ρ} (hr : RN δ p l e R s m args below meth c cc nL own z cells slots Wf pc stk rest g M osi (fun x => x.2)) (hq : pc + 3 = q) (hk : ∀ (x : Int32) (g1 : zG), zJ δ p l e R s m args below meth c cc nL own z cells slots Wf fin ri Q q lv (.int x :: rest) g1 (f x g1)) : zJ δ p l e R s m args below meth c cc nL own z cells slots Wf fin ri Q pc lv stk g (sb M f) := j_call (f := fun x : Int32 × zG => f x.1 x.2) hr hq (fun x => hk x.1 x.2)
theorem j_getsN {p : Program} {l : Launch} {e : Env} {R : Room} {s : State} {m : MethodId} {args : Array Value} {below : List Frame} {meth : Method} {c : Code} {cc : ByteArray} {nL : Nat} {own host : String} {δ : Nat → Nat} {z : zE} {cells slots : Nat} {Γ ρ : Type} {Wf : Γ → Nat → Nat → va_E} {fin : ρ → Γ → List Value → Prop} {ri : Instr} {Q : ρ → State → Prop} {pc q : Nat} {lv : List (Nat × Value)} {st : List Value} {g : Γ} {M : Option ρ} {k idx : Nat} (h1 : 200 ≤ k) (h2 : k < 210) (hL : Cond.fieldLinkNest own idx "CopierJobs" (sname k) "[I" host ∈ lw_nt) (d : decode cc pc = .ok (.getstatic idx, 3)) (hq : pc + 3 = q) (kk : zJ δ p l e R s m args below meth c cc nL own z cells slots Wf fin ri Q q lv (.ref (za z k 0) :: st) g M) : zJ δ p l e R s m args below meth c cc nL own z cells slots Wf fin ri Q pc lv st g M := by
  intro hF hE x9 hx9 H locs ls hW hS hl; subst hq
  exact va_getsN hF.1.1 hF.1.2.1 (hF.2.1.2.2.2.2 k h1 h2).1 hS hF.1.2.2.2.1 (va_Nw.use rfl (hF.2.1.2.1 _ hL)) (fun _ h9 => h9) d (kk hF hE x9 hx9 H locs ls hW hS hl)
theorem q_ne {x v : Int32} {n : Int} (h : ¬ x = v) (hv : v.toInt = n) : x.toInt ≠ n := fun e => h (Int32.toInt_inj.mp (e.trans hv.symm))
theorem dm_now {c : Nat} (h : c < dm 70) : 11 * c < dm 72 := by
  have h1 : c < 3 := h
  show 11 * c < 34
  omega
theorem dm_le : ∀ k, dm k ≤ dm k := fun _ => Nat.le_refl _
