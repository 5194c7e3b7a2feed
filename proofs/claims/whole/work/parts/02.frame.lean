/-! the state of the class and of the reference as mathematical values; the world that holds them; the judgement J -/
abbrev zE : Type := (Nat → ClassId) × (Nat → Nat → Nat) × (Nat → ClassId) × (Nat → Nat → Nat) × Nat
abbrev zD (z : zE) : va_G := (z.1, z.2.1)
abbrev zc (z : zE) : Nat → ClassId := z.2.2.1
abbrev za (z : zE) : Nat → Nat → Nat := z.2.2.2.1
abbrev zN (z : zE) : Nat := z.2.2.2.2
abbrev zA (z : zE) : Nat → Prop := fun q => zN z ≤ q
abbrev zT (z : zE) : List (ClassId × FieldType) := [(zc z 0, .int), (zc z 1, .boolean), (zc z 2, .object "CopierJobs$Course"), (zc z 3, .object "CopierJobs$Job"), (zc z 4, .object "CopierJobs$Now")]
/-- a state: ints by field, object and place; longs; references that move -/
abbrev zG : Type := (Nat → Nat → Nat → Int32) × (Nat → Int64) × (Nat → Nat)
def gi (g : zG) (f i j : Nat) : Int32 := g.1 f i j
def gl (g : zG) (f : Nat) : Int64 := g.2.1 f
def gn (g : zG) (f : Nat) : Nat := g.2.2 f
def ui (g : zG) (f i j : Nat) (v : Int32) : zG := (fun a b d => if a = f ∧ b = i ∧ d = j then v else g.1 a b d, g.2)
def ul (g : zG) (f : Nat) (v : Int64) : zG := (g.1, fun a => if a = f then v else g.2.1 a, g.2.2)
def un (g : zG) (f : Nat) (v : Nat) : zG := (g.1, g.2.1, fun a => if a = f then v else g.2.2 a)
theorem gi_ui (g : zG) (f i j : Nat) (v : Int32) (a b d : Nat) : gi (ui g f i j v) a b d = if a = f ∧ b = i ∧ d = j then v else gi g a b d := rfl
theorem gl_ui (g : zG) (f i j : Nat) (v : Int32) (a : Nat) : gl (ui g f i j v) a = gl g a := rfl
theorem gn_ui (g : zG) (f i j : Nat) (v : Int32) (a : Nat) : gn (ui g f i j v) a = gn g a := rfl
theorem gi_ul (g : zG) (f : Nat) (v : Int64) (a b d : Nat) : gi (ul g f v) a b d = gi g a b d := rfl
theorem gl_ul (g : zG) (f : Nat) (v : Int64) (a : Nat) : gl (ul g f v) a = if a = f then v else gl g a := rfl
theorem gn_ul (g : zG) (f : Nat) (v : Int64) (a : Nat) : gn (ul g f v) a = gn g a := rfl
theorem gi_un (g : zG) (f : Nat) (v : Nat) (a b d : Nat) : gi (un g f v) a b d = gi g a b d := rfl
theorem gl_un (g : zG) (f : Nat) (v : Nat) (a : Nat) : gl (un g f v) a = gl g a := rfl
theorem gn_un (g : zG) (f : Nat) (v : Nat) (a : Nat) : gn (un g f v) a = if a = f then v else gn g a := rfl
/-- a value gets a name -/
def bd {α β : Type} (a : α) (f : α → β) : β := f a
/-- what must hold, else nothing is said -/
def gd (c : Prop) [Decidable c] {ρ : Type} (M : Option ρ) : Option ρ := if c then M else none
def inb (i : Int32) (n : Nat) : Bool := decide (¬ (i < 0 ∨ n ≤ i.toNatClampNeg))
def isb (r : Int32) : Bool := decide (r = 0 ∨ r = 1)
theorem gd_some {c : Prop} [Decidable c] {ρ : Type} {M : Option ρ} {x : ρ} (h : gd c M = some x) : c ∧ M = some x := by
  unfold gd at h
  by_cases hc : c
  · rw [if_pos hc] at h; exact ⟨hc, h⟩
  · rw [if_neg hc] at h; cases h
theorem inb_in {i : Int32} {n : Nat} (h : inb i n = true) : vp_in i n := of_decide_eq_true (p := ¬ (i < 0 ∨ n ≤ i.toNatClampNeg)) h
theorem isb_narrow {r : Int32} (h : isb r = true) : narrow .boolean (.int r) = .int r := by
  rcases of_decide_eq_true h with rfl | rfl <;> rfl
/-- how many locations of each kind -/
def dm (k : Nat) : Nat := if k = 4 then 34 else if k = 5 then 34 else if k = 6 then 34 else if k = 7 then 34 else if k = 8 then 34 else if k = 16 then 2 else if k = 17 then 2 else if k = 41 then 1 else if k = 42 then 1 else if k = 43 then 1 else if k = 44 then 1 else if k = 55 then 1 else if k = 60 then 1 else if k = 70 then 3 else if k = 71 then 12 else if k = 72 then 34 else if k = 73 then 2 else if k = 74 then 1 else if k = 75 then 1 else if k = 76 then 1 else if k = 77 then 1 else if k = 80 then 3 else if k = 81 then 2 else if k = 82 then 1 else if k = 100 then 1 else if k = 101 then 1 else if k = 102 then 1 else if k = 103 then 1 else if k = 104 then 1 else if k = 105 then 1 else if k = 106 then 1 else if k = 107 then 1 else if k = 108 then 1 else if k = 109 then 1 else if k = 110 then 1 else if k = 111 then 1 else if k = 112 then 1 else if k = 113 then 1 else 0
/-- lengths of rows by kind -/
def ln (k : Nat) : Nat := if k = 4 then 6 else if k = 5 then 6 else if k = 6 then 6 else if k = 7 then 3 else if k = 8 then 6 else if k = 16 then 3 else if k = 17 then 5 else if k = 41 then 6 else if k = 42 then 6 else if k = 43 then 6 else if k = 44 then 10 else if k = 55 then 120 else if k = 60 then 2 else if k = 100 then 6 else if k = 101 then 6 else if k = 102 then 6 else if k = 103 then 6 else if k = 104 then 6 else if k = 105 then 31 else if k = 106 then 310 else if k = 107 then 18 else if k = 108 then 120 else if k = 109 then 3 else if k = 110 then 30 else if k = 111 then 31 else if k = 112 then 684 else if k = 113 then 2 else if k = 200 then 5 else if k = 201 then 3 else if k = 202 then 3 else if k = 203 then 1 else if k = 204 then 1 else if k = 205 then 1 else if k = 206 then 1 else if k = 207 then 5 else if k = 208 then 6 else if k = 209 then 6 else 0
/-- what the written-out rows hold -/
def sc (k j : Nat) : Int32 := if k = 200 then (if j = 0 then 1 else if j = 1 then 1 else if j = 2 then 0 else if j = 3 then 0 else if j = 4 then 0 else 0) else if k = 201 then (if j = 0 then 0 else if j = 1 then 0 else if j = 2 then 0 else 0) else if k = 202 then (if j = 0 then 99 else if j = 1 then 99 else if j = 2 then 99 else 0) else if k = 203 then (if j = 0 then 0 else 0) else if k = 204 then (if j = 0 then 999 else 0) else if k = 205 then (if j = 0 then 1 else 0) else if k = 206 then (if j = 0 then 6 else 0) else if k = 207 then (if j = 0 then 9 else if j = 1 then 9 else if j = 2 then 1 else if j = 3 then 1 else if j = 4 then 2 else 0) else if k = 208 then (if j = 0 then (-9) else if j = 1 then 0 else if j = 2 then 0 else if j = 3 then 1 else if j = 4 then 2 else if j = 5 then 0 else 0) else if k = 209 then (if j = 0 then 1 else if j = 1 then 10 else if j = 2 then 100 else if j = 3 then 1000 else if j = 4 then 10000 else if j = 5 then 100000 else 0) else 0
def sname (k : Nat) : String := if k = 200 then "JOB_LEAST" else if k = 201 then "TRAYS_LEAST" else if k = 202 then "TRAYS_MOST" else if k = 203 then "TONER_TOLD_LEAST" else if k = 204 then "TONER_TOLD_MOST" else if k = 205 then "BINS_TOLD_LEAST" else if k = 206 then "BINS_TOLD_MOST" else if k = 207 then "JOB_MOST" else if k = 208 then "KIND_ABOVE" else if k = 209 then "KIND_TRACE" else ""
/-- a row of the class, or a written-out one -/
def xr (g : zG) (k i j : Nat) : Int32 := if 200 ≤ k then sc k j else gi g k i j
/-- what a location holds: x is the class' state, m the reference's -/
def cel (z : zE) (x m : zG) (k i : Nat) : va_E := if k = 70 then .inr (0, [.ref (za z 72 (11 * i)), .ref (za z 80 i), .int (gi x 30 i 0), .int (gi x 31 i 0)]) else if k = 71 then .inr (1, [.int (gi x 20 i 0), .int (gi x 21 i 0), .int (gi x 22 i 0), .int (gi x 23 i 0), .int (gi x 24 i 0), .int (gi x 25 i 0), .int (gi x 26 i 0)]) else if k = 72 then .inr (2, [.int (gi x 0 i 0), .int (gi x 1 i 0), .int (gi x 2 i 0), .int (gi x 3 i 0), .ref (za z 4 i), .ref (za z 5 i), .ref (za z 6 i), .ref (za z 7 i), .ref (za z 8 i)]) else if k = 73 then .inr (3, [.ref (za z 16 i), .int (gi x 10 i 0), .int (gi x 11 i 0), .ref (za z 81 i), .int (gi x 12 i 0), .ref (za z 17 i), .int (gi x 13 i 0), .int (gi x 14 i 0), .int (gi x 15 i 0)]) else if k = 74 then .inr (4, [.ref (za z 41 i), .ref (za z 42 i), .ref (za z 43 i), .int (gi x 40 i 0), .ref (za z 44 i)]) else if k = 75 then .inr (5, [.ref (za z 55 i), .int (gi x 50 i 0), .int (gi x 51 i 0), .int (gi x 52 i 0), .int (gi x 53 i 0), .int (gi x 54 i 0)]) else if k = 76 then .inr (6, [.ref (za z 75 0), .ref (za z 70 0), .ref (za z 72 33), .ref (za z 74 0), .ref (za z 82 0), .ref (za z 60 0), .ref (za z 73 (gn x 0)), .ref (za z 73 (gn x 1)), .long (gl x 0)]) else if k = 77 then .inr (7, [.ref (za z 100 0), .ref (za z 101 0), .ref (za z 102 0), .ref (za z 103 0), .ref (za z 104 0), .int (gi m 120 i 0), .int (gi m 121 i 0), .ref (za z 105 0), .ref (za z 106 0), .int (gi m 122 i 0), .ref (za z 107 0), .int (gi m 123 i 0), .long (gl m 0), .ref (za z 108 0), .int (gi m 124 i 0), .int (gi m 125 i 0), .int (gi m 126 i 0), .int (gi m 127 i 0), .int (gi m 128 i 0), .ref (za z 109 0), .int (gi m 129 i 0), .int (gi m 130 i 0), .ref (za z 110 0), .int (gi m 131 i 0), .int (gi m 132 i 0), .ref (za z 111 0), .ref (za z 112 0), .ref (za z 113 0)]) else if k = 80 then .inl (zc z 4, 10, .inr (.inr (.inr (.inr (fun j => if j < 10 then some (za z 72 (11 * i + 1 + j)) else none))))) else if k = 81 then .inl (zc z 3, 6, .inr (.inr (.inr (.inr (fun j => if j < 6 then some (za z 71 (6 * i + j)) else none))))) else if k = 82 then .inl (zc z 2, 2, .inr (.inr (.inr (.inr (fun j => if j < 2 then some (za z 70 (1 + j)) else none))))) else if k = 60 then .inl (zc z 1, 2, .inl (gi x 60 i)) else if k < 100 then .inl (zc z 0, ln k, .inl (gi x k i)) else .inl (zc z 0, ln k, .inl (gi m k i))
def upc (C : Nat → Nat → va_E) (k i : Nat) (e : va_E) : Nat → Nat → va_E := fun a b => if a = k ∧ b = i then e else C a b
abbrev wx (z : zE) (m : zG) : zG → Nat → Nat → va_E := fun g => cel z g m
abbrev wm (z : zE) (x : zG) : zG → Nat → Nat → va_E := fun g => cel z x g
/-- the heap holds the cells C, one a location, all of them new since the law began -/
def Wd (δ : Nat → Nat) (z : zE) (C : Nat → Nat → va_E) (H : Heap) : Prop := ∀ k i, i < δ k → va_at (zD z) vwCl (za z k i, C k i) H ∧ zN z ≤ za z k i
/-- the written-out rows, which nobody writes -/
def St (z : zE) (U : State) (H : Heap) : Prop := ∀ k, 200 ≤ k → k < 210 → va_Z "CopierJobs" (sname k) "[I" (.ref (za z k 0)) (zA z) U H ∧ va_T .int (za z k 0) (ln k) (fun j => .int (sc k j)) (zA z) U H
def zI (δ : Nat → Nat) (z : zE) : Prop := ∀ k i k' i', i < δ k → i' < δ k' → za z k i = za z k' i' → k = k' ∧ i = i'
def Cx (δ : Nat → Nat) (z : zE) (U : State) : Prop := va_K (zD z) vwCl (zT z) U ∧ (∀ w ∈ lw_nt, va_Nw w U) ∧ zI δ z ∧ zN z ≤ U.heap.size ∧ St z U U.heap
theorem nt_warm {s U : State} (hW : s.WarmedH U.vm) (h : ∀ w ∈ lw_nt, va_Nw w s) : ∀ w ∈ lw_nt, va_Nw w U := by
  intro w hw
  have h1 := h w hw
  have h2 := (List.mem_filter.mp hw).2
  cases w <;> first | exact va_Nw.warmF hW h1 | exact va_Nw.warmM hW h1 | (simp [lw_isN] at h2; done)
theorem nt_same {s U : State} (hW : s.vm = U.vm) (h : ∀ w ∈ lw_nt, va_Nw w s) : ∀ w ∈ lw_nt, va_Nw w U := by
  intro w hw
  have h1 := h w hw
  have h2 := (List.mem_filter.mp hw).2
  cases w <;> first | exact va_Nw.same rfl hW h1 | (simp [lw_isN] at h2; done)
theorem St.go {z : zE} {s U : State} {H : Heap} {locs : List Loc} (hW : s.vm.Alike U.vm) (hS : va_S (zA z) s.heap H locs) (h : St z s s.heap) : St z U H := fun k h1 h2 => ⟨((h k h1 h2).1.moved hW).kept hS.2.1, ((h k h1 h2).2.moved hW).kept hS.2.1⟩
theorem Cx.go {δ : Nat → Nat} {z : zE} {s U : State} {locs : List Loc} (hW : s.WarmedH U.vm) (hS : va_S (zA z) s.heap U.heap locs) (h : Cx δ z s) : Cx δ z U :=
  ⟨va_K.moved hW.alike h.1, nt_warm hW h.2.1, h.2.2.1, Nat.le_trans h.2.2.2.1 hS.1, h.2.2.2.2.go hW.alike hS⟩
theorem Cx.calling {δ : Nat → Nat} {z : zE} {U : State} {g : JFrame} {mk : MethodId} {a : Array Value} (h : Cx δ z U) : Cx δ z (U.calling g mk a) :=
  ⟨va_K.moved (u := U) (U := U.calling g mk a) (Vm.Alike.refl U.vm) h.1, nt_same (s := U) (U := U.calling g mk a) rfl h.2.1, h.2.2.1, h.2.2.2.1, St.go (s := U) (U := U.calling g mk a) (locs := []) (Vm.Alike.refl U.vm) va_S.rf h.2.2.2.2⟩
def FX (δ : Nat → Nat) (p : Program) (R : Room) (s : State) (m : MethodId) (args : Array Value) (c : Code) (cc : ByteArray) (nL : Nat) (own : String) (z : zE) (cells slots : Nat) : Prop := CallFix p m c cc nL s args lw_gt own ∧ Cx δ z s ∧ cells ≤ R.cells ∧ slots ≤ R.slots
/-- THE JUDGEMENT: at pc, with locals lv, stack st and state g, the machine comes to the end that the mirror M tells, if it tells one -/
def zJ (δ : Nat → Nat) (p : Program) (l : Launch) (e : Env) (R : Room) (s : State) (m : MethodId) (args : Array Value) (below : List Frame) (meth : Method) (c : Code) (cc : ByteArray) (nL : Nat) (own : String) (z : zE) (cells slots : Nat) {Γ ρ : Type} (Wf : Γ → Nat → Nat → va_E) (fin : ρ → Γ → List Value → Prop) (ri : Instr) (Q : ρ → State → Prop) (pc : Nat) (lv : List (Nat × Value)) (st : List Value) (g : Γ) (M : Option ρ) : Prop :=
  FX δ p R s m args c cc nL own z cells slots →
  (∀ (x : ρ) (g : Γ) (v : List Value), fin x g v → ∀ (H : Heap) (locs : List Loc) (ls : Array Slot) (pc : Nat), Wd δ z (Wf g) H → va_S (zA z) s.heap H locs → decode cc pc = .ok (ri, 1) → W p l e R s m args below meth c H locs cells slots (Q x) (F0 m pc ls v)) →
  ∀ x, M = some x → ∀ (H : Heap) (locs : List Loc) (ls : Array Slot), Wd δ z (Wf g) H → va_S (zA z) s.heap H locs → lv_has ls nL lv → W p l e R s m args below meth c H locs cells slots (Q x) (F0 m pc ls st)
section ZJ
variable {p : Program} {l : Launch} {e : Env} {R : Room} {s : State} {m : MethodId} {args : Array Value} {below : List Frame} {meth : Method} {c : Code} {cc : ByteArray} {nL : Nat} {own : String} {δ : Nat → Nat} {z : zE} {cells slots : Nat} {Γ ρ : Type} {Wf : Γ → Nat → Nat → va_E} {fin : ρ → Γ → List Value → Prop} {ri : Instr} {Q : ρ → State → Prop} {pc q : Nat} {lv : List (Nat × Value)} {st : List Value} {g : Γ} {M : Option ρ}
theorem j_none : zJ δ p l e R s m args below meth c cc nL own z cells slots Wf fin ri Q pc lv st g none := fun _ _ _ h => by cases h
theorem j_eq {M2 : Option ρ} (h : M = M2) (k : zJ δ p l e R s m args below meth c cc nL own z cells slots Wf fin ri Q pc lv st g M2) : zJ δ p l e R s m args below meth c cc nL own z cells slots Wf fin ri Q pc lv st g M := h ▸ k
theorem j_bd {α : Type} {a : α} {f : α → Option ρ} (k : zJ δ p l e R s m args below meth c cc nL own z cells slots Wf fin ri Q pc lv st g (f a)) : zJ δ p l e R s m args below meth c cc nL own z cells slots Wf fin ri Q pc lv st g (bd a f) := k
theorem j_top {a : Int32} {f : Int32 → Option ρ} (k : ∀ x : Int32, zJ δ p l e R s m args below meth c cc nL own z cells slots Wf fin ri Q pc lv (.int x :: st) g (f x)) : zJ δ p l e R s m args below meth c cc nL own z cells slots Wf fin ri Q pc lv (.int a :: st) g (bd a f) := k a
theorem j_topl {a : Int64} {f : Int64 → Option ρ} (k : ∀ x : Int64, zJ δ p l e R s m args below meth c cc nL own z cells slots Wf fin ri Q pc lv (.long x :: st) g (f x)) : zJ δ p l e R s m args below meth c cc nL own z cells slots Wf fin ri Q pc lv (.long a :: st) g (bd a f) := k a
theorem j_gd {a : Prop} [Decidable a] (k : a → zJ δ p l e R s m args below meth c cc nL own z cells slots Wf fin ri Q pc lv st g M) : zJ δ p l e R s m args below meth c cc nL own z cells slots Wf fin ri Q pc lv st g (gd a M) := fun hF hE x hx => k (gd_some hx).1 hF hE x (gd_some hx).2
theorem j_case {x v : Int32} {M1 M2 : Option ρ} (k1 : zJ δ p l e R s m args below meth c cc nL own z cells slots Wf fin ri Q pc lv (.int v :: st) g M1) (k2 : ¬ x = v → zJ δ p l e R s m args below meth c cc nL own z cells slots Wf fin ri Q pc lv (.int x :: st) g M2) : zJ δ p l e R s m args below meth c cc nL own z cells slots Wf fin ri Q pc lv (.int x :: st) g (if x = v then M1 else M2) := by
  by_cases h : x = v
  · rw [if_pos h]; exact h ▸ k1
  · rw [if_neg h]; exact k2 h
theorem j_ret {x : ρ} (d : decode cc pc = .ok (ri, 1)) (h : fin x g st) : zJ δ p l e R s m args below meth c cc nL own z cells slots Wf fin ri Q pc lv st g (some x) := fun _ hE y hy H locs ls hW hS _ => by
  cases hy
  exact hE x g st h H locs ls pc hW hS d
theorem j_retz {x : ρ} {r : Int32} (d : decode cc pc = .ok (ri, 1)) (h : isb r = true → fin x g st) : zJ δ p l e R s m args below meth c cc nL own z cells slots Wf fin ri Q pc lv st g (gd (isb r = true) (some x)) := j_gd (fun h2 => j_ret d (h h2))
theorem j_iadd {x y : Int32} (d : decode cc pc = .ok (.iadd, 1)) (hq : pc + 1 = q) (k : zJ δ p l e R s m args below meth c cc nL own z cells slots Wf fin ri Q q lv (.int (x + y) :: st) g M) : zJ δ p l e R s m args below meth c cc nL own z cells slots Wf fin ri Q pc lv (.int y :: .int x :: st) g M := by
  intro hF hE x9 hx9 H locs ls hW hS hl; subst hq; exact lv_iadd hF.1.1 hF.1.2.1 d (k hF hE x9 hx9 H locs ls hW hS hl)
theorem j_isub {x y : Int32} (d : decode cc pc = .ok (.isub, 1)) (hq : pc + 1 = q) (k : zJ δ p l e R s m args below meth c cc nL own z cells slots Wf fin ri Q q lv (.int (x - y) :: st) g M) : zJ δ p l e R s m args below meth c cc nL own z cells slots Wf fin ri Q pc lv (.int y :: .int x :: st) g M := by
  intro hF hE x9 hx9 H locs ls hW hS hl; subst hq; exact lv_isub hF.1.1 hF.1.2.1 d (k hF hE x9 hx9 H locs ls hW hS hl)
theorem j_imul {x y : Int32} (d : decode cc pc = .ok (.imul, 1)) (hq : pc + 1 = q) (k : zJ δ p l e R s m args below meth c cc nL own z cells slots Wf fin ri Q q lv (.int (x * y) :: st) g M) : zJ δ p l e R s m args below meth c cc nL own z cells slots Wf fin ri Q pc lv (.int y :: .int x :: st) g M := by
  intro hF hE x9 hx9 H locs ls hW hS hl; subst hq; exact lv_imul hF.1.1 hF.1.2.1 d (k hF hE x9 hx9 H locs ls hW hS hl)
theorem j_iand {x y : Int32} (d : decode cc pc = .ok (.iand, 1)) (hq : pc + 1 = q) (k : zJ δ p l e R s m args below meth c cc nL own z cells slots Wf fin ri Q q lv (.int (x &&& y) :: st) g M) : zJ δ p l e R s m args below meth c cc nL own z cells slots Wf fin ri Q pc lv (.int y :: .int x :: st) g M := by
  intro hF hE x9 hx9 H locs ls hW hS hl; subst hq; exact lv_iand hF.1.1 hF.1.2.1 d (k hF hE x9 hx9 H locs ls hW hS hl)
theorem j_ior {x y : Int32} (d : decode cc pc = .ok (.ior, 1)) (hq : pc + 1 = q) (k : zJ δ p l e R s m args below meth c cc nL own z cells slots Wf fin ri Q q lv (.int (x ||| y) :: st) g M) : zJ δ p l e R s m args below meth c cc nL own z cells slots Wf fin ri Q pc lv (.int y :: .int x :: st) g M := by
  intro hF hE x9 hx9 H locs ls hW hS hl; subst hq; exact lv_ior hF.1.1 hF.1.2.1 d (k hF hE x9 hx9 H locs ls hW hS hl)
theorem j_ixor {x y : Int32} (d : decode cc pc = .ok (.ixor, 1)) (hq : pc + 1 = q) (k : zJ δ p l e R s m args below meth c cc nL own z cells slots Wf fin ri Q q lv (.int (x ^^^ y) :: st) g M) : zJ δ p l e R s m args below meth c cc nL own z cells slots Wf fin ri Q pc lv (.int y :: .int x :: st) g M := by
  intro hF hE x9 hx9 H locs ls hW hS hl; subst hq; exact lv_ixor hF.1.1 hF.1.2.1 d (k hF hE x9 hx9 H locs ls hW hS hl)
theorem j_ishl {x y : Int32} (d : decode cc pc = .ok (.ishl, 1)) (hq : pc + 1 = q) (k : zJ δ p l e R s m args below meth c cc nL own z cells slots Wf fin ri Q q lv (.int (x <<< (y &&& 31)) :: st) g M) : zJ δ p l e R s m args below meth c cc nL own z cells slots Wf fin ri Q pc lv (.int y :: .int x :: st) g M := by
  intro hF hE x9 hx9 H locs ls hW hS hl; subst hq; exact lv_ishl hF.1.1 hF.1.2.1 d (k hF hE x9 hx9 H locs ls hW hS hl)
theorem j_ishr {x y : Int32} (d : decode cc pc = .ok (.ishr, 1)) (hq : pc + 1 = q) (k : zJ δ p l e R s m args below meth c cc nL own z cells slots Wf fin ri Q q lv (.int (x >>> (y &&& 31)) :: st) g M) : zJ δ p l e R s m args below meth c cc nL own z cells slots Wf fin ri Q pc lv (.int y :: .int x :: st) g M := by
  intro hF hE x9 hx9 H locs ls hW hS hl; subst hq; exact lv_ishr hF.1.1 hF.1.2.1 d (k hF hE x9 hx9 H locs ls hW hS hl)
theorem j_iushr {x y : Int32} (d : decode cc pc = .ok (.iushr, 1)) (hq : pc + 1 = q) (k : zJ δ p l e R s m args below meth c cc nL own z cells slots Wf fin ri Q q lv (.int ((x.toUInt32 >>> (y.toUInt32 &&& Int32.toUInt32 31)).toInt32) :: st) g M) : zJ δ p l e R s m args below meth c cc nL own z cells slots Wf fin ri Q pc lv (.int y :: .int x :: st) g M := by
  intro hF hE x9 hx9 H locs ls hW hS hl; subst hq; exact lv_iushr hF.1.1 hF.1.2.1 d rfl (k hF hE x9 hx9 H locs ls hW hS hl)
theorem j_ineg {x : Int32} (d : decode cc pc = .ok (.ineg, 1)) (hq : pc + 1 = q) (k : zJ δ p l e R s m args below meth c cc nL own z cells slots Wf fin ri Q q lv (.int (-x) :: st) g M) : zJ δ p l e R s m args below meth c cc nL own z cells slots Wf fin ri Q pc lv (.int x :: st) g M := by
  intro hF hE x9 hx9 H locs ls hW hS hl; subst hq; exact lv_ineg hF.1.1 hF.1.2.1 d (k hF hE x9 hx9 H locs ls hW hS hl)
theorem j_ladd {x y : Int64} (d : decode cc pc = .ok (.ladd, 1)) (hq : pc + 1 = q) (k : zJ δ p l e R s m args below meth c cc nL own z cells slots Wf fin ri Q q lv (.long (x + y) :: st) g M) : zJ δ p l e R s m args below meth c cc nL own z cells slots Wf fin ri Q pc lv (.long y :: .long x :: st) g M := by
  intro hF hE x9 hx9 H locs ls hW hS hl; subst hq; exact lv_ladd hF.1.1 hF.1.2.1 d (k hF hE x9 hx9 H locs ls hW hS hl)
theorem j_lsub {x y : Int64} (d : decode cc pc = .ok (.lsub, 1)) (hq : pc + 1 = q) (k : zJ δ p l e R s m args below meth c cc nL own z cells slots Wf fin ri Q q lv (.long (x - y) :: st) g M) : zJ δ p l e R s m args below meth c cc nL own z cells slots Wf fin ri Q pc lv (.long y :: .long x :: st) g M := by
  intro hF hE x9 hx9 H locs ls hW hS hl; subst hq; exact lv_lsub hF.1.1 hF.1.2.1 d (k hF hE x9 hx9 H locs ls hW hS hl)
theorem j_lmul {x y : Int64} (d : decode cc pc = .ok (.lmul, 1)) (hq : pc + 1 = q) (k : zJ δ p l e R s m args below meth c cc nL own z cells slots Wf fin ri Q q lv (.long (x * y) :: st) g M) : zJ δ p l e R s m args below meth c cc nL own z cells slots Wf fin ri Q pc lv (.long y :: .long x :: st) g M := by
  intro hF hE x9 hx9 H locs ls hW hS hl; subst hq; exact lv_lmul hF.1.1 hF.1.2.1 d (k hF hE x9 hx9 H locs ls hW hS hl)
theorem j_i2l {x : Int32} (d : decode cc pc = .ok (.i2l, 1)) (hq : pc + 1 = q) (k : zJ δ p l e R s m args below meth c cc nL own z cells slots Wf fin ri Q q lv (.long (x.toInt64) :: st) g M) : zJ δ p l e R s m args below meth c cc nL own z cells slots Wf fin ri Q pc lv (.int x :: st) g M := by
  intro hF hE x9 hx9 H locs ls hW hS hl; subst hq; exact lv_i2l hF.1.1 hF.1.2.1 d rfl (k hF hE x9 hx9 H locs ls hW hS hl)
theorem j_l2i {x : Int64} (d : decode cc pc = .ok (.l2i, 1)) (hq : pc + 1 = q) (k : zJ δ p l e R s m args below meth c cc nL own z cells slots Wf fin ri Q q lv (.int (x.toInt32) :: st) g M) : zJ δ p l e R s m args below meth c cc nL own z cells slots Wf fin ri Q pc lv (.long x :: st) g M := by
  intro hF hE x9 hx9 H locs ls hW hS hl; subst hq; exact lv_l2i hF.1.1 hF.1.2.1 d rfl (k hF hE x9 hx9 H locs ls hW hS hl)
theorem j_lcmp {x y : Int64} (d : decode cc pc = .ok (.lcmp, 1)) (hq : pc + 1 = q) (k : zJ δ p l e R s m args below meth c cc nL own z cells slots Wf fin ri Q q lv (.int (lg_cmp x y) :: st) g M) : zJ δ p l e R s m args below meth c cc nL own z cells slots Wf fin ri Q pc lv (.long y :: .long x :: st) g M := by
  intro hF hE x9 hx9 H locs ls hW hS hl; subst hq; exact W.lcmp hF.1.1 hF.1.2.1 d (k hF hE x9 hx9 H locs ls hW hS hl)
theorem j_iconst {n : Int} {v : Int32} (d : decode cc pc = .ok (.iconst n, 1)) (hv : Int32.ofInt n = v) (hq : pc + 1 = q) (k : zJ δ p l e R s m args below meth c cc nL own z cells slots Wf fin ri Q q lv (.int v :: st) g M) : zJ δ p l e R s m args below meth c cc nL own z cells slots Wf fin ri Q pc lv (st) g M := by
  intro hF hE x9 hx9 H locs ls hW hS hl; subst hq; exact lv_iconst hF.1.1 hF.1.2.1 d hv (k hF hE x9 hx9 H locs ls hW hS hl)
theorem j_bipush {n : Int} {v : Int32} (d : decode cc pc = .ok (.bipush n, 2)) (hv : (Int8.ofInt n).toInt32 = v) (hq : pc + 2 = q) (k : zJ δ p l e R s m args below meth c cc nL own z cells slots Wf fin ri Q q lv (.int v :: st) g M) : zJ δ p l e R s m args below meth c cc nL own z cells slots Wf fin ri Q pc lv (st) g M := by
  intro hF hE x9 hx9 H locs ls hW hS hl; subst hq; exact lv_bipush hF.1.1 hF.1.2.1 d hv (k hF hE x9 hx9 H locs ls hW hS hl)
theorem j_sipush {n : Int} {v : Int32} (d : decode cc pc = .ok (.sipush n, 3)) (hv : (Int16.ofInt n).toInt32 = v) (hq : pc + 3 = q) (k : zJ δ p l e R s m args below meth c cc nL own z cells slots Wf fin ri Q q lv (.int v :: st) g M) : zJ δ p l e R s m args below meth c cc nL own z cells slots Wf fin ri Q pc lv (st) g M := by
  intro hF hE x9 hx9 H locs ls hW hS hl; subst hq; exact lv_sipush hF.1.1 hF.1.2.1 d hv (k hF hE x9 hx9 H locs ls hW hS hl)
theorem j_lconst {n : Fin 2} {v : Int64} (d : decode cc pc = .ok (.lconst n, 1)) (hv : Int64.ofNat (n : Nat) = v) (hq : pc + 1 = q) (k : zJ δ p l e R s m args below meth c cc nL own z cells slots Wf fin ri Q q lv (.long v :: st) g M) : zJ δ p l e R s m args below meth c cc nL own z cells slots Wf fin ri Q pc lv (st) g M := by
  intro hF hE x9 hx9 H locs ls hW hS hl; subst hq; exact lv_lconst hF.1.1 hF.1.2.1 d hv (k hF hE x9 hx9 H locs ls hW hS hl)
theorem j_dup {va : Value} (d : decode cc pc = .ok (.dup, 1)) (hc : va.category = 1) (hq : pc + 1 = q) (k : zJ δ p l e R s m args below meth c cc nL own z cells slots Wf fin ri Q q lv (va :: va :: st) g M) : zJ δ p l e R s m args below meth c cc nL own z cells slots Wf fin ri Q pc lv (va :: st) g M := by
  intro hF hE x9 hx9 H locs ls hW hS hl; subst hq; exact lv_dup hF.1.1 hF.1.2.1 d hc (k hF hE x9 hx9 H locs ls hW hS hl)
theorem j_pop {va : Value} (d : decode cc pc = .ok (.pop, 1)) (hc : va.category = 1) (hq : pc + 1 = q) (k : zJ δ p l e R s m args below meth c cc nL own z cells slots Wf fin ri Q q lv (st) g M) : zJ δ p l e R s m args below meth c cc nL own z cells slots Wf fin ri Q pc lv (va :: st) g M := by
  intro hF hE x9 hx9 H locs ls hW hS hl; subst hq; exact lv_pop hF.1.1 hF.1.2.1 d hc (k hF hE x9 hx9 H locs ls hW hS hl)
theorem j_dup2 {va vb : Value} (d : decode cc pc = .ok (.dup2, 1)) (hc : va.category = 1) (hd : vb.category = 1) (hq : pc + 1 = q) (k : zJ δ p l e R s m args below meth c cc nL own z cells slots Wf fin ri Q q lv (va :: vb :: va :: vb :: st) g M) : zJ δ p l e R s m args below meth c cc nL own z cells slots Wf fin ri Q pc lv (va :: vb :: st) g M := by
  intro hF hE x9 hx9 H locs ls hW hS hl; subst hq; exact lv_dup2_11 hF.1.1 hF.1.2.1 d hc hd (k hF hE x9 hx9 H locs ls hW hS hl)
theorem j_null  (d : decode cc pc = .ok (.aconst_null, 1)) (hq : pc + 1 = q) (k : zJ δ p l e R s m args below meth c cc nL own z cells slots Wf fin ri Q q lv (.null :: st) g M) : zJ δ p l e R s m args below meth c cc nL own z cells slots Wf fin ri Q pc lv (st) g M := by
  intro hF hE x9 hx9 H locs ls hW hS hl; subst hq; exact lv_null hF.1.1 hF.1.2.1 d (k hF hE x9 hx9 H locs ls hW hS hl)
theorem j_iload_n {kf : Fin 4} {n i : Nat} {x : Int32} (d : decode cc pc = .ok (.iload_n kf, 1)) (hn : (kf : Nat) = n) (h : lv[i]? = some (n, .int x)) (hq : pc + 1 = q) (k : zJ δ p l e R s m args below meth c cc nL own z cells slots Wf fin ri Q q lv (.int x :: st) g M) : zJ δ p l e R s m args below meth c cc nL own z cells slots Wf fin ri Q pc lv st g M := by
  intro hF hE x9 hx9 H locs ls hW hS hl; subst hq; exact lv_iload_n hF.1.1 hF.1.2.1 d hn (lv_at hl i h) (k hF hE x9 hx9 H locs ls hW hS hl)
theorem j_iload {n i : Nat} {x : Int32} (d : decode cc pc = .ok (.iload n, 2)) (h : lv[i]? = some (n, .int x)) (hq : pc + 2 = q) (k : zJ δ p l e R s m args below meth c cc nL own z cells slots Wf fin ri Q q lv (.int x :: st) g M) : zJ δ p l e R s m args below meth c cc nL own z cells slots Wf fin ri Q pc lv st g M := by
  intro hF hE x9 hx9 H locs ls hW hS hl; subst hq; exact lv_iload hF.1.1 hF.1.2.1 d (lv_at hl i h) (k hF hE x9 hx9 H locs ls hW hS hl)
theorem j_istore_n {kf : Fin 4} {n : Nat} {x : Int32} {lv' : List (Nat × Value)} (d : decode cc pc = .ok (.istore_n kf, 1)) (hn : (kf : Nat) = n) (hb : n < nL) (h : (n, Value.int x) :: lv.filter (fun q => !(q.1 == n) && !(q.1 + 1 == n && q.2.category == 2)) = lv') (hq : pc + 1 = q) (k : zJ δ p l e R s m args below meth c cc nL own z cells slots Wf fin ri Q q lv' st g M) : zJ δ p l e R s m args below meth c cc nL own z cells slots Wf fin ri Q pc lv (.int x :: st) g M := by
  intro hF hE x9 hx9 H locs ls hW hS hl; subst hq; exact lv_istore_n hF.1.1 hF.1.2.1 d hn hl hb h (fun ls hl => k hF hE x9 hx9 H locs ls hW hS hl)
theorem j_istore {n : Nat} {x : Int32} {lv' : List (Nat × Value)} (d : decode cc pc = .ok (.istore n, 2)) (hb : n < nL) (h : (n, Value.int x) :: lv.filter (fun q => !(q.1 == n) && !(q.1 + 1 == n && q.2.category == 2)) = lv') (hq : pc + 2 = q) (k : zJ δ p l e R s m args below meth c cc nL own z cells slots Wf fin ri Q q lv' st g M) : zJ δ p l e R s m args below meth c cc nL own z cells slots Wf fin ri Q pc lv (.int x :: st) g M := by
  intro hF hE x9 hx9 H locs ls hW hS hl; subst hq; exact lv_istore hF.1.1 hF.1.2.1 d hl hb h (fun ls hl => k hF hE x9 hx9 H locs ls hW hS hl)
theorem j_lload_n {kf : Fin 4} {n i : Nat} {x : Int64} (d : decode cc pc = .ok (.lload_n kf, 1)) (hn : (kf : Nat) = n) (h : lv[i]? = some (n, .long x)) (hq : pc + 1 = q) (k : zJ δ p l e R s m args below meth c cc nL own z cells slots Wf fin ri Q q lv (.long x :: st) g M) : zJ δ p l e R s m args below meth c cc nL own z cells slots Wf fin ri Q pc lv st g M := by
  intro hF hE x9 hx9 H locs ls hW hS hl; subst hq; exact lv_lload_n hF.1.1 hF.1.2.1 d hn (lv_at hl i h) (k hF hE x9 hx9 H locs ls hW hS hl)
theorem j_lload {n i : Nat} {x : Int64} (d : decode cc pc = .ok (.lload n, 2)) (h : lv[i]? = some (n, .long x)) (hq : pc + 2 = q) (k : zJ δ p l e R s m args below meth c cc nL own z cells slots Wf fin ri Q q lv (.long x :: st) g M) : zJ δ p l e R s m args below meth c cc nL own z cells slots Wf fin ri Q pc lv st g M := by
  intro hF hE x9 hx9 H locs ls hW hS hl; subst hq; exact lv_lload hF.1.1 hF.1.2.1 d (lv_at hl i h) (k hF hE x9 hx9 H locs ls hW hS hl)
theorem j_lstore_n {kf : Fin 4} {n : Nat} {x : Int64} {lv' : List (Nat × Value)} (d : decode cc pc = .ok (.lstore_n kf, 1)) (hn : (kf : Nat) = n) (hb : n + 1 < nL) (h : (n, Value.long x) :: lv.filter (fun q => !(q.1 == n) && (!(q.1 == n + 1) && !(q.1 + 1 == n && q.2.category == 2))) = lv') (hq : pc + 1 = q) (k : zJ δ p l e R s m args below meth c cc nL own z cells slots Wf fin ri Q q lv' st g M) : zJ δ p l e R s m args below meth c cc nL own z cells slots Wf fin ri Q pc lv (.long x :: st) g M := by
  intro hF hE x9 hx9 H locs ls hW hS hl; subst hq; exact lv_lstore_n hF.1.1 hF.1.2.1 d hn hl hb h (fun ls hl => k hF hE x9 hx9 H locs ls hW hS hl)
theorem j_lstore {n : Nat} {x : Int64} {lv' : List (Nat × Value)} (d : decode cc pc = .ok (.lstore n, 2)) (hb : n + 1 < nL) (h : (n, Value.long x) :: lv.filter (fun q => !(q.1 == n) && (!(q.1 == n + 1) && !(q.1 + 1 == n && q.2.category == 2))) = lv') (hq : pc + 2 = q) (k : zJ δ p l e R s m args below meth c cc nL own z cells slots Wf fin ri Q q lv' st g M) : zJ δ p l e R s m args below meth c cc nL own z cells slots Wf fin ri Q pc lv (.long x :: st) g M := by
  intro hF hE x9 hx9 H locs ls hW hS hl; subst hq; exact lv_lstore hF.1.1 hF.1.2.1 d hl hb h (fun ls hl => k hF hE x9 hx9 H locs ls hW hS hl)
theorem j_aload_n {kf : Fin 4} {n i : Nat} {x : Nat} (d : decode cc pc = .ok (.aload_n kf, 1)) (hn : (kf : Nat) = n) (h : lv[i]? = some (n, .ref x)) (hq : pc + 1 = q) (k : zJ δ p l e R s m args below meth c cc nL own z cells slots Wf fin ri Q q lv (.ref x :: st) g M) : zJ δ p l e R s m args below meth c cc nL own z cells slots Wf fin ri Q pc lv st g M := by
  intro hF hE x9 hx9 H locs ls hW hS hl; subst hq; exact lv_aload_n hF.1.1 hF.1.2.1 d hn (lv_at hl i h) (k hF hE x9 hx9 H locs ls hW hS hl)
theorem j_aload {n i : Nat} {x : Nat} (d : decode cc pc = .ok (.aload n, 2)) (h : lv[i]? = some (n, .ref x)) (hq : pc + 2 = q) (k : zJ δ p l e R s m args below meth c cc nL own z cells slots Wf fin ri Q q lv (.ref x :: st) g M) : zJ δ p l e R s m args below meth c cc nL own z cells slots Wf fin ri Q pc lv st g M := by
  intro hF hE x9 hx9 H locs ls hW hS hl; subst hq; exact lv_aload hF.1.1 hF.1.2.1 d (lv_at hl i h) (k hF hE x9 hx9 H locs ls hW hS hl)
theorem j_astore_n {kf : Fin 4} {n : Nat} {x : Nat} {lv' : List (Nat × Value)} (d : decode cc pc = .ok (.astore_n kf, 1)) (hn : (kf : Nat) = n) (hb : n < nL) (h : (n, Value.ref x) :: lv.filter (fun q => !(q.1 == n) && !(q.1 + 1 == n && q.2.category == 2)) = lv') (hq : pc + 1 = q) (k : zJ δ p l e R s m args below meth c cc nL own z cells slots Wf fin ri Q q lv' st g M) : zJ δ p l e R s m args below meth c cc nL own z cells slots Wf fin ri Q pc lv (.ref x :: st) g M := by
  intro hF hE x9 hx9 H locs ls hW hS hl; subst hq; exact lv_astore_n hF.1.1 hF.1.2.1 d hn hl hb h (fun ls hl => k hF hE x9 hx9 H locs ls hW hS hl)
theorem j_astore {n : Nat} {x : Nat} {lv' : List (Nat × Value)} (d : decode cc pc = .ok (.astore n, 2)) (hb : n < nL) (h : (n, Value.ref x) :: lv.filter (fun q => !(q.1 == n) && !(q.1 + 1 == n && q.2.category == 2)) = lv') (hq : pc + 2 = q) (k : zJ δ p l e R s m args below meth c cc nL own z cells slots Wf fin ri Q q lv' st g M) : zJ δ p l e R s m args below meth c cc nL own z cells slots Wf fin ri Q pc lv (.ref x :: st) g M := by
  intro hF hE x9 hx9 H locs ls hW hS hl; subst hq; exact lv_astore hF.1.1 hF.1.2.1 d hl hb h (fun ls hl => k hF hE x9 hx9 H locs ls hW hS hl)
theorem j_iinc {n i : Nat} {w : Int} {x v : Int32} {lv' : List (Nat × Value)} (d : decode cc pc = .ok (.iinc n w, 3)) (hk : lv[i]? = some (n, .int x)) (hv : x + Int32.ofInt w = v) (hb : n < nL) (h : (n, Value.int v) :: lv.filter (fun q => !(q.1 == n) && !(q.1 + 1 == n && q.2.category == 2)) = lv') (hq : pc + 3 = q) (k : zJ δ p l e R s m args below meth c cc nL own z cells slots Wf fin ri Q q lv' st g M) : zJ δ p l e R s m args below meth c cc nL own z cells slots Wf fin ri Q pc lv st g M := by
  intro hF hE x9 hx9 H locs ls hW hS hl; subst hq; exact lv_iinc hF.1.1 hF.1.2.1 d hl hk hv hb h (fun ls hl => k hF hE x9 hx9 H locs ls hW hS hl)
theorem j_idiv {x y : Int32} (d : decode cc pc = .ok (.idiv, 1)) (hq : pc + 1 = q) (k : zJ δ p l e R s m args below meth c cc nL own z cells slots Wf fin ri Q q lv (.int (x / y) :: st) g M) : zJ δ p l e R s m args below meth c cc nL own z cells slots Wf fin ri Q pc lv (.int y :: .int x :: st) g (gd (¬ y = 0) M) := by
  intro hF hE x9 hx9 H locs ls hW hS hl; subst hq
  exact lv_idiv hF.1.1 hF.1.2.1 d (gd_some hx9).1 (k hF hE x9 (gd_some hx9).2 H locs ls hW hS hl)
theorem j_irem {x y : Int32} (d : decode cc pc = .ok (.irem, 1)) (hq : pc + 1 = q) (k : zJ δ p l e R s m args below meth c cc nL own z cells slots Wf fin ri Q q lv (.int (x - x / y * y) :: st) g M) : zJ δ p l e R s m args below meth c cc nL own z cells slots Wf fin ri Q pc lv (.int y :: .int x :: st) g (gd (¬ y = 0) M) := by
  intro hF hE x9 hx9 H locs ls hW hS hl; subst hq
  exact lv_irem hF.1.1 hF.1.2.1 d (gd_some hx9).1 (k hF hE x9 (gd_some hx9).2 H locs ls hW hS hl)
theorem j_ldiv {x y : Int64} (d : decode cc pc = .ok (.ldiv, 1)) (hq : pc + 1 = q) (k : zJ δ p l e R s m args below meth c cc nL own z cells slots Wf fin ri Q q lv (.long (x / y) :: st) g M) : zJ δ p l e R s m args below meth c cc nL own z cells slots Wf fin ri Q pc lv (.long y :: .long x :: st) g (gd (¬ y = 0) M) := by
  intro hF hE x9 hx9 H locs ls hW hS hl; subst hq
  exact lv_ldiv hF.1.1 hF.1.2.1 d (gd_some hx9).1 (k hF hE x9 (gd_some hx9).2 H locs ls hW hS hl)
theorem j_lrem {x y : Int64} (d : decode cc pc = .ok (.lrem, 1)) (hq : pc + 1 = q) (k : zJ δ p l e R s m args below meth c cc nL own z cells slots Wf fin ri Q q lv (.long (x - x / y * y) :: st) g M) : zJ δ p l e R s m args below meth c cc nL own z cells slots Wf fin ri Q pc lv (.long y :: .long x :: st) g (gd (¬ y = 0) M) := by
  intro hF hE x9 hx9 H locs ls hW hS hl; subst hq
  exact lv_lrem hF.1.1 hF.1.2.1 d (gd_some hx9).1 (k hF hE x9 (gd_some hx9).2 H locs ls hW hS hl)
theorem j_icmp_eq {x y : Int32} {off : Int} {tgt : Nat} {M1 M2 : Option ρ} (d : decode cc pc = .ok (.if_icmp .eq off, 3)) (ht : (pc : Int) + off = (tgt : Int)) (hq : pc + 3 = q) (kt : zJ δ p l e R s m args below meth c cc nL own z cells slots Wf fin ri Q tgt lv st g M1) (kf : zJ δ p l e R s m args below meth c cc nL own z cells slots Wf fin ri Q q lv st g M2) : zJ δ p l e R s m args below meth c cc nL own z cells slots Wf fin ri Q pc lv (.int y :: .int x :: st) g (if x = y then M1 else M2) := by
  intro hF hE x9 hx9 H locs ls hW hS hl; subst hq
  exact lv_icmp_eq hF.1.1 hF.1.2.1 d ht (fun h => kt hF hE x9 (by rw [if_pos (show x = y from h)] at hx9; exact hx9) H locs ls hW hS hl) (fun h => kf hF hE x9 (by rw [if_neg (show ¬ (x = y) from h)] at hx9; exact hx9) H locs ls hW hS hl)
theorem j_icmp_ne {x y : Int32} {off : Int} {tgt : Nat} {M1 M2 : Option ρ} (d : decode cc pc = .ok (.if_icmp .ne off, 3)) (ht : (pc : Int) + off = (tgt : Int)) (hq : pc + 3 = q) (kt : zJ δ p l e R s m args below meth c cc nL own z cells slots Wf fin ri Q tgt lv st g M1) (kf : zJ δ p l e R s m args below meth c cc nL own z cells slots Wf fin ri Q q lv st g M2) : zJ δ p l e R s m args below meth c cc nL own z cells slots Wf fin ri Q pc lv (.int y :: .int x :: st) g (if x = y then M2 else M1) := by
  intro hF hE x9 hx9 H locs ls hW hS hl; subst hq
  exact lv_icmp_ne hF.1.1 hF.1.2.1 d ht (fun h => kt hF hE x9 (by rw [if_neg (show ¬ (x = y) from h)] at hx9; exact hx9) H locs ls hW hS hl) (fun h => kf hF hE x9 (by rw [if_pos (show x = y from h)] at hx9; exact hx9) H locs ls hW hS hl)
theorem j_icmp_lt {x y : Int32} {off : Int} {tgt : Nat} {M1 M2 : Option ρ} (d : decode cc pc = .ok (.if_icmp .lt off, 3)) (ht : (pc : Int) + off = (tgt : Int)) (hq : pc + 3 = q) (kt : zJ δ p l e R s m args below meth c cc nL own z cells slots Wf fin ri Q tgt lv st g M1) (kf : zJ δ p l e R s m args below meth c cc nL own z cells slots Wf fin ri Q q lv st g M2) : zJ δ p l e R s m args below meth c cc nL own z cells slots Wf fin ri Q pc lv (.int y :: .int x :: st) g (if x < y then M1 else M2) := by
  intro hF hE x9 hx9 H locs ls hW hS hl; subst hq
  exact lv_icmp_lt hF.1.1 hF.1.2.1 d ht (fun h => kt hF hE x9 (by rw [if_pos (show x < y from h)] at hx9; exact hx9) H locs ls hW hS hl) (fun h => kf hF hE x9 (by rw [if_neg (show ¬ (x < y) from h)] at hx9; exact hx9) H locs ls hW hS hl)
theorem j_icmp_ge {x y : Int32} {off : Int} {tgt : Nat} {M1 M2 : Option ρ} (d : decode cc pc = .ok (.if_icmp .ge off, 3)) (ht : (pc : Int) + off = (tgt : Int)) (hq : pc + 3 = q) (kt : zJ δ p l e R s m args below meth c cc nL own z cells slots Wf fin ri Q tgt lv st g M1) (kf : zJ δ p l e R s m args below meth c cc nL own z cells slots Wf fin ri Q q lv st g M2) : zJ δ p l e R s m args below meth c cc nL own z cells slots Wf fin ri Q pc lv (.int y :: .int x :: st) g (if x < y then M2 else M1) := by
  intro hF hE x9 hx9 H locs ls hW hS hl; subst hq
  exact lv_icmp_ge hF.1.1 hF.1.2.1 d ht (fun h => kt hF hE x9 (by rw [if_neg (show ¬ (x < y) from Int32.not_lt.mpr h)] at hx9; exact hx9) H locs ls hW hS hl) (fun h => kf hF hE x9 (by rw [if_pos (show x < y from Int32.not_le.mp h)] at hx9; exact hx9) H locs ls hW hS hl)
theorem j_icmp_gt {x y : Int32} {off : Int} {tgt : Nat} {M1 M2 : Option ρ} (d : decode cc pc = .ok (.if_icmp .gt off, 3)) (ht : (pc : Int) + off = (tgt : Int)) (hq : pc + 3 = q) (kt : zJ δ p l e R s m args below meth c cc nL own z cells slots Wf fin ri Q tgt lv st g M1) (kf : zJ δ p l e R s m args below meth c cc nL own z cells slots Wf fin ri Q q lv st g M2) : zJ δ p l e R s m args below meth c cc nL own z cells slots Wf fin ri Q pc lv (.int y :: .int x :: st) g (if y < x then M1 else M2) := by
  intro hF hE x9 hx9 H locs ls hW hS hl; subst hq
  exact lv_icmp_gt hF.1.1 hF.1.2.1 d ht (fun h => kt hF hE x9 (by rw [if_pos (show y < x from h)] at hx9; exact hx9) H locs ls hW hS hl) (fun h => kf hF hE x9 (by rw [if_neg (show ¬ (y < x) from h)] at hx9; exact hx9) H locs ls hW hS hl)
theorem j_icmp_le {x y : Int32} {off : Int} {tgt : Nat} {M1 M2 : Option ρ} (d : decode cc pc = .ok (.if_icmp .le off, 3)) (ht : (pc : Int) + off = (tgt : Int)) (hq : pc + 3 = q) (kt : zJ δ p l e R s m args below meth c cc nL own z cells slots Wf fin ri Q tgt lv st g M1) (kf : zJ δ p l e R s m args below meth c cc nL own z cells slots Wf fin ri Q q lv st g M2) : zJ δ p l e R s m args below meth c cc nL own z cells slots Wf fin ri Q pc lv (.int y :: .int x :: st) g (if y < x then M2 else M1) := by
  intro hF hE x9 hx9 H locs ls hW hS hl; subst hq
  exact lv_icmp_le hF.1.1 hF.1.2.1 d ht (fun h => kt hF hE x9 (by rw [if_neg (show ¬ (y < x) from Int32.not_lt.mpr h)] at hx9; exact hx9) H locs ls hW hS hl) (fun h => kf hF hE x9 (by rw [if_pos (show y < x from Int32.not_le.mp h)] at hx9; exact hx9) H locs ls hW hS hl)
theorem j_if_eq {x : Int32} {off : Int} {tgt : Nat} {M1 M2 : Option ρ} (d : decode cc pc = .ok (.ifCond .eq off, 3)) (ht : (pc : Int) + off = (tgt : Int)) (hq : pc + 3 = q) (kt : zJ δ p l e R s m args below meth c cc nL own z cells slots Wf fin ri Q tgt lv st g M1) (kf : zJ δ p l e R s m args below meth c cc nL own z cells slots Wf fin ri Q q lv st g M2) : zJ δ p l e R s m args below meth c cc nL own z cells slots Wf fin ri Q pc lv (.int x :: st) g (if x = nI 0 then M1 else M2) := by
  intro hF hE x9 hx9 H locs ls hW hS hl; subst hq
  exact lv_if_eq hF.1.1 hF.1.2.1 d ht (fun h => kt hF hE x9 (by rw [if_pos (show x = nI 0 from h)] at hx9; exact hx9) H locs ls hW hS hl) (fun h => kf hF hE x9 (by rw [if_neg (show ¬ (x = nI 0) from h)] at hx9; exact hx9) H locs ls hW hS hl)
theorem j_if_ne {x : Int32} {off : Int} {tgt : Nat} {M1 M2 : Option ρ} (d : decode cc pc = .ok (.ifCond .ne off, 3)) (ht : (pc : Int) + off = (tgt : Int)) (hq : pc + 3 = q) (kt : zJ δ p l e R s m args below meth c cc nL own z cells slots Wf fin ri Q tgt lv st g M1) (kf : zJ δ p l e R s m args below meth c cc nL own z cells slots Wf fin ri Q q lv st g M2) : zJ δ p l e R s m args below meth c cc nL own z cells slots Wf fin ri Q pc lv (.int x :: st) g (if x = nI 0 then M2 else M1) := by
  intro hF hE x9 hx9 H locs ls hW hS hl; subst hq
  exact lv_if_ne hF.1.1 hF.1.2.1 d ht (fun h => kt hF hE x9 (by rw [if_neg (show ¬ (x = nI 0) from h)] at hx9; exact hx9) H locs ls hW hS hl) (fun h => kf hF hE x9 (by rw [if_pos (show x = nI 0 from h)] at hx9; exact hx9) H locs ls hW hS hl)
theorem j_if_lt {x : Int32} {off : Int} {tgt : Nat} {M1 M2 : Option ρ} (d : decode cc pc = .ok (.ifCond .lt off, 3)) (ht : (pc : Int) + off = (tgt : Int)) (hq : pc + 3 = q) (kt : zJ δ p l e R s m args below meth c cc nL own z cells slots Wf fin ri Q tgt lv st g M1) (kf : zJ δ p l e R s m args below meth c cc nL own z cells slots Wf fin ri Q q lv st g M2) : zJ δ p l e R s m args below meth c cc nL own z cells slots Wf fin ri Q pc lv (.int x :: st) g (if x < nI 0 then M1 else M2) := by
  intro hF hE x9 hx9 H locs ls hW hS hl; subst hq
  exact lv_if_lt hF.1.1 hF.1.2.1 d ht (fun h => kt hF hE x9 (by rw [if_pos (show x < nI 0 from h)] at hx9; exact hx9) H locs ls hW hS hl) (fun h => kf hF hE x9 (by rw [if_neg (show ¬ (x < nI 0) from h)] at hx9; exact hx9) H locs ls hW hS hl)
theorem j_if_ge {x : Int32} {off : Int} {tgt : Nat} {M1 M2 : Option ρ} (d : decode cc pc = .ok (.ifCond .ge off, 3)) (ht : (pc : Int) + off = (tgt : Int)) (hq : pc + 3 = q) (kt : zJ δ p l e R s m args below meth c cc nL own z cells slots Wf fin ri Q tgt lv st g M1) (kf : zJ δ p l e R s m args below meth c cc nL own z cells slots Wf fin ri Q q lv st g M2) : zJ δ p l e R s m args below meth c cc nL own z cells slots Wf fin ri Q pc lv (.int x :: st) g (if x < nI 0 then M2 else M1) := by
  intro hF hE x9 hx9 H locs ls hW hS hl; subst hq
  exact lv_if_ge hF.1.1 hF.1.2.1 d ht (fun h => kt hF hE x9 (by rw [if_neg (show ¬ (x < nI 0) from Int32.not_lt.mpr h)] at hx9; exact hx9) H locs ls hW hS hl) (fun h => kf hF hE x9 (by rw [if_pos (show x < nI 0 from Int32.not_le.mp h)] at hx9; exact hx9) H locs ls hW hS hl)
theorem j_if_gt {x : Int32} {off : Int} {tgt : Nat} {M1 M2 : Option ρ} (d : decode cc pc = .ok (.ifCond .gt off, 3)) (ht : (pc : Int) + off = (tgt : Int)) (hq : pc + 3 = q) (kt : zJ δ p l e R s m args below meth c cc nL own z cells slots Wf fin ri Q tgt lv st g M1) (kf : zJ δ p l e R s m args below meth c cc nL own z cells slots Wf fin ri Q q lv st g M2) : zJ δ p l e R s m args below meth c cc nL own z cells slots Wf fin ri Q pc lv (.int x :: st) g (if nI 0 < x then M1 else M2) := by
  intro hF hE x9 hx9 H locs ls hW hS hl; subst hq
  exact lv_if_gt hF.1.1 hF.1.2.1 d ht (fun h => kt hF hE x9 (by rw [if_pos (show nI 0 < x from h)] at hx9; exact hx9) H locs ls hW hS hl) (fun h => kf hF hE x9 (by rw [if_neg (show ¬ (nI 0 < x) from h)] at hx9; exact hx9) H locs ls hW hS hl)
theorem j_if_le {x : Int32} {off : Int} {tgt : Nat} {M1 M2 : Option ρ} (d : decode cc pc = .ok (.ifCond .le off, 3)) (ht : (pc : Int) + off = (tgt : Int)) (hq : pc + 3 = q) (kt : zJ δ p l e R s m args below meth c cc nL own z cells slots Wf fin ri Q tgt lv st g M1) (kf : zJ δ p l e R s m args below meth c cc nL own z cells slots Wf fin ri Q q lv st g M2) : zJ δ p l e R s m args below meth c cc nL own z cells slots Wf fin ri Q pc lv (.int x :: st) g (if nI 0 < x then M2 else M1) := by
  intro hF hE x9 hx9 H locs ls hW hS hl; subst hq
  exact lv_if_le hF.1.1 hF.1.2.1 d ht (fun h => kt hF hE x9 (by rw [if_neg (show ¬ (nI 0 < x) from Int32.not_lt.mpr h)] at hx9; exact hx9) H locs ls hW hS hl) (fun h => kf hF hE x9 (by rw [if_pos (show nI 0 < x from Int32.not_le.mp h)] at hx9; exact hx9) H locs ls hW hS hl)
theorem j_goto {off : Int} {tgt : Nat} (d : decode cc pc = .ok (.goto off, 3)) (ht : (pc : Int) + off = (tgt : Int)) (k : zJ δ p l e R s m args below meth c cc nL own z cells slots Wf fin ri Q tgt lv st g M) : zJ δ p l e R s m args below meth c cc nL own z cells slots Wf fin ri Q pc lv st g M := by
  intro hF hE x9 hx9 H locs ls hW hS hl
  exact lv_goto hF.1.1 hF.1.2.1 d ht (k hF hE x9 hx9 H locs ls hW hS hl)
/-- null or a location of kind k0 -/
def vr (z : zE) (k0 : Nat) (r : Option Nat) : Value := va_rf (r.map (za z k0))
theorem j_ifnull {k0 : Nat} {r : Option Nat} {off : Int} {tgt : Nat} {M1 : Option ρ} {f : Nat → Option ρ} (d : decode cc pc = .ok (.ifnull off, 3)) (ht : (pc : Int) + off = (tgt : Int)) (hq : pc + 3 = q) (kt : zJ δ p l e R s m args below meth c cc nL own z cells slots Wf fin ri Q tgt lv st g M1) (kf : ∀ i, r = some i → zJ δ p l e R s m args below meth c cc nL own z cells slots Wf fin ri Q q lv st g (f i)) : zJ δ p l e R s m args below meth c cc nL own z cells slots Wf fin ri Q pc lv (vr z k0 r :: st) g (match r with | none => M1 | some i => f i) := by
  intro hF hE x9 hx9 H locs ls hW hS hl; subst hq
  cases r with
  | none => exact lv_ifnullN hF.1.1 hF.1.2.1 d ht (kt hF hE x9 hx9 H locs ls hW hS hl)
  | some i => exact lv_ifnull hF.1.1 hF.1.2.1 d (kf i rfl hF hE x9 hx9 H locs ls hW hS hl)
theorem j_ifnonnull {k0 : Nat} {r : Option Nat} {off : Int} {tgt : Nat} {M1 : Option ρ} {f : Nat → Option ρ} (d : decode cc pc = .ok (.ifnonnull off, 3)) (ht : (pc : Int) + off = (tgt : Int)) (hq : pc + 3 = q) (kt : ∀ i, r = some i → zJ δ p l e R s m args below meth c cc nL own z cells slots Wf fin ri Q tgt lv st g (f i)) (kf : zJ δ p l e R s m args below meth c cc nL own z cells slots Wf fin ri Q q lv st g M1) : zJ δ p l e R s m args below meth c cc nL own z cells slots Wf fin ri Q pc lv (vr z k0 r :: st) g (match r with | none => M1 | some i => f i) := by
  intro hF hE x9 hx9 H locs ls hW hS hl; subst hq
  cases r with
  | none => exact lv_ifnonnullN hF.1.1 hF.1.2.1 d (kf hF hE x9 hx9 H locs ls hW hS hl)
  | some i => exact lv_ifnonnull hF.1.1 hF.1.2.1 d ht (kt i rfl hF hE x9 hx9 H locs ls hW hS hl)
theorem j_ldc {index : Nat} {v : Int32} (d : decode cc pc = .ok (.ldc index, 2)) (hc : Cond.constant own index v ∈ lw_gt) (hq : pc + 2 = q) (k : zJ δ p l e R s m args below meth c cc nL own z cells slots Wf fin ri Q q lv (.int v :: st) g M) : zJ δ p l e R s m args below meth c cc nL own z cells slots Wf fin ri Q pc lv st g M := by
  intro hF hE x9 hx9 H locs ls hW hS hl; subst hq
  exact lv_ldc hF.1.1 hF.1.2.1 hF.1.2.2.2.1 (hF.1.2.2.2.2 _ hc) d (k hF hE x9 hx9 H locs ls hW hS hl)
theorem j_ldc2 {index : Nat} {v : Int64} (d : decode cc pc = .ok (.ldc2_w index, 3)) (hc : Cond.constantLong own index v ∈ lw_gt) (hq : pc + 3 = q) (k : zJ δ p l e R s m args below meth c cc nL own z cells slots Wf fin ri Q q lv (.long v :: st) g M) : zJ δ p l e R s m args below meth c cc nL own z cells slots Wf fin ri Q pc lv st g M := by
  intro hF hE x9 hx9 H locs ls hW hS hl; subst hq
  exact lv_ldc2 hF.1.1 hF.1.2.1 hF.1.2.2.2.1 (hF.1.2.2.2.2 _ hc) d (k hF hE x9 hx9 H locs ls hW hS hl)
theorem j_tableIn {dflt lo hi : Int} {offs : Array Int} {len : Nat} {x : Int32} {off : Int} {tgt : Nat} (d : decode cc pc = .ok (.tableswitch dflt lo hi offs, len)) (h1 : ¬ x.toInt < lo) (h2 : ¬ hi < x.toInt) (ho : offs[(x.toInt - lo).toNat]? = some off) (ht : (pc : Int) + off = (tgt : Int)) (k : zJ δ p l e R s m args below meth c cc nL own z cells slots Wf fin ri Q tgt lv st g M) : zJ δ p l e R s m args below meth c cc nL own z cells slots Wf fin ri Q pc lv (.int x :: st) g M := by
  intro hF hE x9 hx9 H locs ls hW hS hl
  exact lv_tableIn hF.1.1 hF.1.2.1 d h1 h2 ho ht (k hF hE x9 hx9 H locs ls hW hS hl)
theorem j_tableOut {dflt lo hi : Int} {offs : Array Int} {len : Nat} {x : Int32} {tgt : Nat} (d : decode cc pc = .ok (.tableswitch dflt lo hi offs, len)) (h : x.toInt < lo ∨ hi < x.toInt) (ht : (pc : Int) + dflt = (tgt : Int)) (k : zJ δ p l e R s m args below meth c cc nL own z cells slots Wf fin ri Q tgt lv st g M) : zJ δ p l e R s m args below meth c cc nL own z cells slots Wf fin ri Q pc lv (.int x :: st) g M := by
  intro hF hE x9 hx9 H locs ls hW hS hl
  exact lv_tableOut hF.1.1 hF.1.2.1 d h ht (k hF hE x9 hx9 H locs ls hW hS hl)
theorem j_lookup {dflt : Int} {ps : Array (Int × Int)} {len : Nat} {x : Int32} {off : Int} {tgt : Nat} (d : decode cc pc = .ok (.lookupswitch dflt ps, len)) (hp : (ps.toList.zip (ps.toList.drop 1)).all (fun (a, next) => a.1 < next.1) = true) (ho : Op.lookupswitch.offset ps.toList dflt x.toInt = off) (ht : (pc : Int) + off = (tgt : Int)) (k : zJ δ p l e R s m args below meth c cc nL own z cells slots Wf fin ri Q tgt lv st g M) : zJ δ p l e R s m args below meth c cc nL own z cells slots Wf fin ri Q pc lv (.int x :: st) g M := by
  intro hF hE x9 hx9 H locs ls hW hS hl
  exact lv_lookup hF.1.1 hF.1.2.1 d hp ho ht (k hF hE x9 hx9 H locs ls hW hS hl)
theorem Wd.one {C : Nat → Nat → va_E} {H : Heap} (h : Wd δ z C H) {k i : Nat} (hi : i < δ k) {e : va_E} (he : C k i = e) : va_P (zD z) vwCl [(za z k i, e)] H := by
  intro n q hq
  match n, hq with
  | 0, hq => cases hq; exact he ▸ (h k i hi).1
  | n + 1, hq => simp at hq
theorem Wd.up {C C' : Nat → Nat → va_E} {H H1 : Heap} (h : Wd δ z C H) (hI : zI δ z) {k i : Nat} (hi : i < δ k) {e : va_E} (he : va_at (zD z) vwCl (za z k i, e) H1) (ho : ∀ q : Nat, q ≠ za z k i → H1[q]? = H[q]?) (hup : ∀ a b, b < δ a → upc C k i e a b = C' a b) : Wd δ z C' H1 := by
  intro a b hb
  refine ⟨?_, (h a b hb).2⟩
  rw [← hup a b hb]
  unfold upc
  by_cases hab : a = k ∧ b = i
  · rw [if_pos hab]; obtain ⟨rfl, rfl⟩ := hab; exact he
  · rw [if_neg hab]
    exact (h a b hb).1.kept (ho _ (fun h2 => hab (hI a b k i hb hi h2)))
/-- a field is read -/
theorem j_get {ci : Nat} {C : String} {T : u_T} {N : Nat} {fs : List Value} {f : Nat} {v : Value} {idx k i : Nat} (hc : vwCl[ci]? = some (C, T, N)) (hin : ∀ w ∈ u_ws C T N, w ∈ lw_gt) (hf : f < N) (hL : Cond.fieldLink own idx (T f).1 (T f).2.1 (T f).2.2.1 ∈ lw_gt) (hi : i < δ k) (hcell : Wf g k i = .inr (ci, fs)) (hv : fs[f]? = some v) (d : decode cc pc = .ok (.getfield idx, 3)) (hq : pc + 3 = q) (kk : zJ δ p l e R s m args below meth c cc nL own z cells slots Wf fin ri Q q lv (v :: st) g M) : zJ δ p l e R s m args below meth c cc nL own z cells slots Wf fin ri Q pc lv (.ref (za z k i) :: st) g M := by
  intro hF hE x9 hx9 H locs ls hW hS hl; subst hq
  exact va_get (D := zD z) (ci := ci) (v := v) (C := C) (T := T) (N := N) (tys := zT z) hF.1.1 hF.1.2.1 hF.1.2.2.2.2 hin hF.1.2.2.2.1 hF.2.1.1 (hW.one hi hcell) 0 rfl hc f hf (hF.1.2.2.2.2 _ hL) (fun _ h9 => h9) hv d (kk hF hE x9 hx9 H locs ls hW hS hl)
theorem j_getN {ci : Nat} {C host : String} {T : u_T} {N : Nat} {fs : List Value} {f : Nat} {v : Value} {idx k i : Nat} (hc : vwCl[ci]? = some (C, T, N)) (hin : ∀ w ∈ u_ws C T N, w ∈ lw_gt) (hf : f < N) (hL : Cond.fieldLinkNest own idx (T f).1 (T f).2.1 (T f).2.2.1 host ∈ lw_nt) (hi : i < δ k) (hcell : Wf g k i = .inr (ci, fs)) (hv : fs[f]? = some v) (d : decode cc pc = .ok (.getfield idx, 3)) (hq : pc + 3 = q) (kk : zJ δ p l e R s m args below meth c cc nL own z cells slots Wf fin ri Q q lv (v :: st) g M) : zJ δ p l e R s m args below meth c cc nL own z cells slots Wf fin ri Q pc lv (.ref (za z k i) :: st) g M := by
  intro hF hE x9 hx9 H locs ls hW hS hl; subst hq
  exact va_getN (D := zD z) (ci := ci) (v := v) (C := C) (T := T) (N := N) (tys := zT z) hF.1.1 hF.1.2.1 hF.1.2.2.2.2 hin hF.1.2.2.2.1 hF.2.1.1 (hW.one hi hcell) 0 rfl hc f hf (va_Nw.use rfl (hF.2.1.2.1 _ hL)) (fun _ h9 => h9) hv d (kk hF hE x9 hx9 H locs ls hW hS hl)
/-- a field is written -/
theorem j_put {ci : Nat} {C : String} {T : u_T} {N : Nat} {fs : List Value} {f : Nat} {v : Value} {idx k i : Nat} {ty : FieldType} {g' : Γ} {F : Γ → Option ρ} (hc : vwCl[ci]? = some (C, T, N)) (hin : ∀ w ∈ u_ws C T N, w ∈ lw_gt) (ty0 : Nat → FieldType) (hty : ∀ k, k < N → parseFieldDescriptor (T k).2.2.1 = some (ty0 k)) (hnm : ∀ a, a < N → ∀ b, b < N → a ≠ b → (T a).2.1 ≠ (T b).2.1) (hf : f < N) (hfin : (T f).2.2.2 = false) (hd : parseFieldDescriptor (T f).2.2.1 = some ty) (hL : Cond.fieldLink own idx (T f).1 (T f).2.1 (T f).2.2.1 ∈ lw_gt)
    (hi : i < δ k) (hcell : Wf g k i = .inr (ci, fs)) (hlen : f < fs.length) (hn : narrow ty v = v) (hfit : fits ty v = true) (hup : ∀ a b, b < δ a → upc (Wf g) k i (.inr (ci, fs.set f v)) a b = Wf g' a b) (d : decode cc pc = .ok (.putfield idx, 3)) (hq : pc + 3 = q) (kk : ∀ g1, zJ δ p l e R s m args below meth c cc nL own z cells slots Wf fin ri Q q lv st g1 (F g1)) : zJ δ p l e R s m args below meth c cc nL own z cells slots Wf fin ri Q pc lv (v :: .ref (za z k i) :: st) g (bd g' F) := by
  intro hF hE x9 hx9 H locs ls hW hS hl; subst hq
  obtain ⟨⟨hx, hb, hml, hown, hts⟩, ⟨hK, hN, hI, hsz, hst⟩, hcs⟩ := id hF
  have hap := va_apart (own := own) hts hin ty0 hty hnm hK hc
  obtain ⟨r, h1, cell, q1, q2, q3, q4⟩ := (hW.one hi hcell) 0 _ rfl
  have hr : r = (C, T, N) := Option.some.inj (h1.symm.trans hc)
  subst hr
  obtain ⟨hS1, hfc, kC, hkC, hkind⟩ := hK.1 ci _ hc
  obtain ⟨cf, kf, fi, f9, hi9, hsl⟩ := hS1 f hf
  have hlay := hts _ (hin _ (u_in_lay hf))
  unfold u_lay at hlay
  rw [if_neg (by rw [hfin]; decide)] at hlay
  have hst := (u_facts hfc hkC (u_lays hts hin hf) hi9).1
  have h6 := u_store hfc hkC hkind hlay hi9 hd hn hfit
  refine W.putK hx hb (f := f9) ⟨hown, hts _ hL, ⟨_, _, _, hi9⟩, hst⟩ (by rw [q2]; exact h6) q1 q3 (by rw [hsl]; exact k2_hasslot (q4 f hf)) rfl rfl d fun H' e1 e2 e3 => ?_
  rw [hsl] at e1 ⊢
  exact kk g' hF hE x9 hx9 H' _ ls (hW.up (e := .inr (ci, fs.set f v)) hI hi ⟨_, hc, t_OB.to (V := updV (vp_V fs) f v) ⟨_, e1, q2, q3, t_set q4 hap hf v⟩ (fun j _ => vp_updV_set hlen v j)⟩ e3 hup) (hS.put e2 e3 (hW k i hi).2) hl
theorem j_putN {ci : Nat} {C host : String} {T : u_T} {N : Nat} {fs : List Value} {f : Nat} {v : Value} {idx k i : Nat} {ty : FieldType} {g' : Γ} {F : Γ → Option ρ} (hc : vwCl[ci]? = some (C, T, N)) (hin : ∀ w ∈ u_ws C T N, w ∈ lw_gt) (ty0 : Nat → FieldType) (hty : ∀ k, k < N → parseFieldDescriptor (T k).2.2.1 = some (ty0 k)) (hnm : ∀ a, a < N → ∀ b, b < N → a ≠ b → (T a).2.1 ≠ (T b).2.1) (hf : f < N) (hfin : (T f).2.2.2 = false) (hd : parseFieldDescriptor (T f).2.2.1 = some ty) (hL : Cond.fieldLinkNest own idx (T f).1 (T f).2.1 (T f).2.2.1 host ∈ lw_nt)
    (hi : i < δ k) (hcell : Wf g k i = .inr (ci, fs)) (hlen : f < fs.length) (hn : narrow ty v = v) (hfit : fits ty v = true) (hup : ∀ a b, b < δ a → upc (Wf g) k i (.inr (ci, fs.set f v)) a b = Wf g' a b) (d : decode cc pc = .ok (.putfield idx, 3)) (hq : pc + 3 = q) (kk : ∀ g1, zJ δ p l e R s m args below meth c cc nL own z cells slots Wf fin ri Q q lv st g1 (F g1)) : zJ δ p l e R s m args below meth c cc nL own z cells slots Wf fin ri Q pc lv (v :: .ref (za z k i) :: st) g (bd g' F) := by
  intro hF hE x9 hx9 H locs ls hW hS hl; subst hq
  obtain ⟨⟨hx, hb, hml, hown, hts⟩, ⟨hK, hN, hI, hsz, hst⟩, hcs⟩ := id hF
  have hap := va_apart (own := own) hts hin ty0 hty hnm hK hc
  obtain ⟨r, h1, cell, q1, q2, q3, q4⟩ := (hW.one hi hcell) 0 _ rfl
  have hr : r = (C, T, N) := Option.some.inj (h1.symm.trans hc)
  subst hr
  obtain ⟨hS1, hfc, kC, hkC, hkind⟩ := hK.1 ci _ hc
  obtain ⟨cf, kf, fi, f9, hi9, hsl⟩ := hS1 f hf
  have hlay := hts _ (hin _ (u_in_lay hf))
  unfold u_lay at hlay
  rw [if_neg (by rw [hfin]; decide)] at hlay
  have hst := (u_facts hfc hkC (u_lays hts hin hf) hi9).1
  have h6 := u_store hfc hkC hkind hlay hi9 hd hn hfit
  refine va_WputK hx hb (f := f9) hown (va_Nw.use rfl (hN _ hL)) hi9 hst (by rw [q2]; exact h6) q1 q3 (by rw [hsl]; exact k2_hasslot (q4 f hf)) rfl rfl d fun H' e1 e2 e3 => ?_
  rw [hsl] at e1 ⊢
  exact kk g' hF hE x9 hx9 H' _ ls (hW.up (e := .inr (ci, fs.set f v)) hI hi ⟨_, hc, t_OB.to (V := updV (vp_V fs) f v) ⟨_, e1, q2, q3, t_set q4 hap hf v⟩ (fun j _ => vp_updV_set hlen v j)⟩ e3 hup) (hS.put e2 e3 (hW k i hi).2) hl
/-- rows -/
theorem j_iald {k i n : Nat} {f : Nat → Int32} {ix : Int32} (hi : i < δ k) (ha : Wf g k i = .inl (zc z 0, n, .inl f)) (d : decode cc pc = .ok (.iaload, 1)) (hq : pc + 1 = q) (kk : zJ δ p l e R s m args below meth c cc nL own z cells slots Wf fin ri Q q lv (.int (f ix.toNatClampNeg) :: st) g M) : zJ δ p l e R s m args below meth c cc nL own z cells slots Wf fin ri Q pc lv (.int ix :: .ref (za z k i) :: st) g (gd (inb ix n = true) M) := by
  intro hF hE x9 hx9 H locs ls hW hS hl; subst hq
  exact va_iald hF.1.1 hF.1.2.1 hF.2.1.1 (hW.one hi ha) 0 0 rfl rfl (inb_in (gd_some hx9).1) d (kk hF hE x9 (gd_some hx9).2 H locs ls hW hS hl)
theorem j_zald {k i n : Nat} {f : Nat → Int32} {ix : Int32} (hi : i < δ k) (ha : Wf g k i = .inl (zc z 1, n, .inl f)) (d : decode cc pc = .ok (.baload, 1)) (hq : pc + 1 = q) (kk : zJ δ p l e R s m args below meth c cc nL own z cells slots Wf fin ri Q q lv (.int (f ix.toNatClampNeg) :: st) g M) : zJ δ p l e R s m args below meth c cc nL own z cells slots Wf fin ri Q pc lv (.int ix :: .ref (za z k i) :: st) g (gd (inb ix n = true) M) := by
  intro hF hE x9 hx9 H locs ls hW hS hl; subst hq
  exact va_zald hF.1.1 hF.1.2.1 hF.2.1.1 (hW.one hi ha) 0 1 rfl rfl (inb_in (gd_some hx9).1) d (kk hF hE x9 (gd_some hx9).2 H locs ls hW hS hl)
theorem j_alen {k i n t : Nat} {cA : ClassId} {r : (Nat → Int32) ⊕ (Nat → Int64) ⊕ (Nat → UInt32) ⊕ (Nat → UInt64) ⊕ (Nat → Option Nat)} {ty : FieldType} {v : Int32} (hi : i < δ k) (ha : Wf g k i = .inl (cA, n, r)) (ht : (zT z)[t]? = some (cA, ty)) (hv : Int32.ofNat n = v) (d : decode cc pc = .ok (.arraylength, 1)) (hq : pc + 1 = q) (kk : zJ δ p l e R s m args below meth c cc nL own z cells slots Wf fin ri Q q lv (.int v :: st) g M) : zJ δ p l e R s m args below meth c cc nL own z cells slots Wf fin ri Q pc lv (.ref (za z k i) :: st) g M := by
  intro hF hE x9 hx9 H locs ls hW hS hl; subst hq
  exact va_alen hF.1.1 hF.1.2.1 hF.2.1.1 (hW.one hi ha) 0 t rfl ht hv d (kk hF hE x9 hx9 H locs ls hW hS hl)
theorem j_aald {k i n t k0 : Nat} {cA : ClassId} {C : String} {f : Nat → Option Nat} {ix : Int32} {r : Option Nat} (hi : i < δ k) (ha : Wf g k i = .inl (cA, n, .inr (.inr (.inr (.inr f))))) (ht : (zT z)[t]? = some (cA, .object C)) (hr : vp_in ix n → f ix.toNatClampNeg = r.map (za z k0)) (d : decode cc pc = .ok (.aaload, 1)) (hq : pc + 1 = q) (kk : zJ δ p l e R s m args below meth c cc nL own z cells slots Wf fin ri Q q lv (vr z k0 r :: st) g M) : zJ δ p l e R s m args below meth c cc nL own z cells slots Wf fin ri Q pc lv (.int ix :: .ref (za z k i) :: st) g (gd (inb ix n = true) M) := by
  intro hF hE x9 hx9 H locs ls hW hS hl; subst hq
  refine va_aldq hF.1.1 hF.1.2.1 hF.2.1.1 (hW.one hi ha) 0 t rfl ht (inb_in (gd_some hx9).1) d ?_
  rw [hr (inb_in (gd_some hx9).1)]
  exact kk hF hE x9 (gd_some hx9).2 H locs ls hW hS hl
theorem j_iast {k i n : Nat} {f : Nat → Int32} {ix x : Int32} {g' : Γ} {F : Γ → Option ρ} (hi : i < δ k) (ha : Wf g k i = .inl (zc z 0, n, .inl f)) (hup : ∀ a b, b < δ a → upc (Wf g) k i (.inl (zc z 0, n, .inl (upd f ix.toNatClampNeg x))) a b = Wf g' a b) (d : decode cc pc = .ok (.iastore, 1)) (hq : pc + 1 = q) (kk : ∀ g1, zJ δ p l e R s m args below meth c cc nL own z cells slots Wf fin ri Q q lv st g1 (F g1)) : zJ δ p l e R s m args below meth c cc nL own z cells slots Wf fin ri Q pc lv (.int x :: .int ix :: .ref (za z k i) :: st) g (gd (inb ix n = true) (bd g' F)) := by
  intro hF hE x9 hx9 H locs ls hW hS hl; subst hq
  obtain ⟨⟨hx, hb, hml, hown, hts⟩, ⟨hK, hN, hI, hsz, hst⟩, hcs⟩ := id hF
  have hin := inb_in (gd_some hx9).1
  have ha' := (hW.one hi ha) 0 _ rfl
  refine W.iast hx hb ha' ((hK.2 0 _ rfl).1 n (fun j => .int (f j))) (fun q => by cases q) (by show ¬ (ix < 0 ∨ (arrV _ _ _).slots.size ≤ _); rw [arrV_size]; exact hin) rfl rfl d fun H1 e zz oq => ?_
  refine kk g' hF hE x9 (gd_some hx9).2 H1 _ ls (hW.up hI hi ?_ oq hup) (hS.put zz oq (hW k i hi).2) hl
  show H1[za z k i]? = some (vp_cell _ _)
  rw [e]
  rw [vp_cell_i, vp_cell_i, arrV_store]
  congr 2
  funext q
  by_cases hq : q = ix.toNatClampNeg
  · subst hq
    simp [updV, upd]
  · simp [updV, upd, hq]
theorem j_zast {k i n : Nat} {f : Nat → Int32} {ix x : Int32} {g' : Γ} {F : Γ → Option ρ} (hi : i < δ k) (ha : Wf g k i = .inl (zc z 1, n, .inl f)) (hup : ∀ a b, b < δ a → upc (Wf g) k i (.inl (zc z 1, n, .inl (upd f ix.toNatClampNeg (vp_nar .boolean x)))) a b = Wf g' a b) (d : decode cc pc = .ok (.bastore, 1)) (hq : pc + 1 = q) (kk : ∀ g1, zJ δ p l e R s m args below meth c cc nL own z cells slots Wf fin ri Q q lv st g1 (F g1)) : zJ δ p l e R s m args below meth c cc nL own z cells slots Wf fin ri Q pc lv (.int x :: .int ix :: .ref (za z k i) :: st) g (gd (inb ix n = true) (bd g' F)) := by
  intro hF hE x9 hx9 H locs ls hW hS hl; subst hq
  obtain ⟨⟨hx, hb, hml, hown, hts⟩, ⟨hK, hN, hI, hsz, hst⟩, hcs⟩ := id hF
  have hin := inb_in (gd_some hx9).1
  have ha' := (hW.one hi ha) 0 _ rfl
  refine W.zast hx hb ha' ((hK.2 1 _ rfl).1 n (fun j => .int (f j))) (fun q => by cases q) (by show ¬ (ix < 0 ∨ (arrV _ _ _).slots.size ≤ _); rw [arrV_size]; exact hin) rfl rfl d fun H1 e zz oq => ?_
  refine kk g' hF hE x9 (gd_some hx9).2 H1 _ ls (hW.up hI hi ?_ oq hup) (hS.put zz oq (hW k i hi).2) hl
  show H1[za z k i]? = some (vp_cell _ _)
  rw [e]
  rw [vp_cell_i, vp_cell_i, arrV_store]
  congr 2
  funext q
  by_cases hq : q = ix.toNatClampNeg
  · subst hq
    simp [updV, upd, vp_nar]
    try rfl
  · simp [updV, upd, hq]
/-- the written-out rows -/
theorem j_gets {k idx : Nat} (h1 : 200 ≤ k) (h2 : k < 210) (hL : Cond.fieldLink own idx "CopierJobs" (sname k) "[I" ∈ lw_gt) (d : decode cc pc = .ok (.getstatic idx, 3)) (hq : pc + 3 = q) (kk : zJ δ p l e R s m args below meth c cc nL own z cells slots Wf fin ri Q q lv (.ref (za z k 0) :: st) g M) : zJ δ p l e R s m args below meth c cc nL own z cells slots Wf fin ri Q pc lv st g M := by
  intro hF hE x9 hx9 H locs ls hW hS hl; subst hq
  exact va_gets hF.1.1 hF.1.2.1 (hF.2.1.2.2.2.2 k h1 h2).1 hS hF.1.2.2.2.1 (hF.1.2.2.2.2 _ hL) (fun _ h9 => h9) d (kk hF hE x9 hx9 H locs ls hW hS hl)
theorem j_slen {k : Nat} {v : Int32} (h1 : 200 ≤ k) (h2 : k < 210) (hv : Int32.ofNat (ln k) = v) (d : decode cc pc = .ok (.arraylength, 1)) (hq : pc + 1 = q) (kk : zJ δ p l e R s m args below meth c cc nL own z cells slots Wf fin ri Q q lv (.int v :: st) g M) : zJ δ p l e R s m args below meth c cc nL own z cells slots Wf fin ri Q pc lv (.ref (za z k 0) :: st) g M := by
  intro hF hE x9 hx9 H locs ls hW hS hl; subst hq; subst hv
  obtain ⟨cell, e1, e2, e3, e4, e5, e6, e7⟩ := (hF.2.1.2.2.2.2 k h1 h2).2
  exact W.alen hF.1.1 hF.1.2.1 (by rw [hS.2.1 _ (Array.getElem?_eq_some_iff.mp e1).1 e7]; exact e1) e2 e5 rfl rfl d (kk hF hE x9 hx9 H locs ls hW hS hl)
theorem j_sld {k : Nat} {ix : Int32} (h1 : 200 ≤ k) (h2 : k < 210) (d : decode cc pc = .ok (.iaload, 1)) (hq : pc + 1 = q) (kk : zJ δ p l e R s m args below meth c cc nL own z cells slots Wf fin ri Q q lv (.int (sc k ix.toNatClampNeg) :: st) g M) : zJ δ p l e R s m args below meth c cc nL own z cells slots Wf fin ri Q pc lv (.int ix :: .ref (za z k 0) :: st) g (gd (inb ix (ln k) = true) M) := by
  intro hF hE x9 hx9 H locs ls hW hS hl; subst hq
  obtain ⟨cell, e1, e2, e3, e4, e5, e6, e7⟩ := (hF.2.1.2.2.2.2 k h1 h2).2
  have hin : vp_in ix (ln k) := inb_in (gd_some hx9).1
  have hlt : ix.toNatClampNeg < ln k := Nat.not_le.mp fun q => hin (Or.inr q)
  exact W.iald (v := .int (sc k ix.toNatClampNeg)) hF.1.1 hF.1.2.1 (by rw [hS.2.1 _ (Array.getElem?_eq_some_iff.mp e1).1 e7]; exact e1) e2 e3 (fun h => hin (h.imp id (fun h => Nat.le_trans e4 h))) (e6 _ hlt) rfl rfl d (kk hF hE x9 (gd_some hx9).2 H locs ls hW hS hl)
end ZJ
/-- what a method needs and gives, over worlds -/
def PW (δ : Nat → Nat) (z : zE) (C : Nat → Nat → va_E) (U : State) : Prop := Wd δ z C U.heap ∧ Cx δ z U
def QW (δ : Nat → Nat) (z : zE) (v : Option Value) (C : Nat → Nat → va_E) : Array Value → State → Outcome → State → Prop := fun _ st o t => o = .returned v ∧ Wd δ z C t.heap ∧ va_F (zA z) st t
def Ms (δ : Nat → Nat) (l : Launch) (y : MethodName) (b : ByteArray) (n : Nat) (ret : Option FieldType) (rm : Room) (z : zE) (As : List Value) (C : Nat → Nat → va_E) (v : Option Value) (C' : Nat → Nat → va_E) : Prop := Met l y (.code y b n ret :: lw_gt) rm (va_Pc As (PW δ z C)) (QW δ z v C') 0 0 (zA z)
theorem PW.blind {δ : Nat → Nat} {z : zE} {As : List Value} {C : Nat → Nat → va_E} : FrameBlind (va_Pc As (PW δ z C)) := fun _ _ _ _ h => ⟨h.1, h.2.1, h.2.2.calling⟩
theorem PW.at {δ : Nat → Nat} {z : zE} {As : List Value} {C : Nat → Nat → va_E} {s : State} {H : Heap} {locs : List Loc} (hX : Cx δ z s) (hW : Wd δ z C H) (hS : va_S (zA z) s.heap H locs) (U : State) (hU : U.heap = H) (hWm : s.WarmedH U.vm) : va_Pc As (PW δ z C) As.toArray U := ⟨rfl, by rw [hU]; exact hW, hX.go hWm (by rw [hU]; exact hS)⟩
/-- the words of a method that is called -/
def CV (y : MethodName) (b : ByteArray) (n : Nat) (ret : Option FieldType) (k : Nat) : Prop := Cond.code y b n ret ∈ lw_gt ∧ Cond.instanceMethod y ∈ lw_gt ∧ Cond.selects y.cls y y ∈ lw_gt ∧ Cond.initialized y.cls ∈ lw_gt ∧ (y.cls ≠ "java/lang/invoke/MethodHandle" ∧ y.cls ≠ "java/lang/invoke/VarHandle" ∧ (parseMethodDescriptor y.desc).map (fun d => d.parameters.length) = some k)
def CT (y : MethodName) (b : ByteArray) (n : Nat) (ret : Option FieldType) (k : Nat) : Prop := Cond.code y b n ret ∈ lw_gt ∧ Cond.static y ∈ lw_gt ∧ Cond.initialized y.cls ∈ lw_gt ∧ (y.cls ≠ "java/lang/invoke/MethodHandle" ∧ y.cls ≠ "java/lang/invoke/VarHandle" ∧ (parseMethodDescriptor y.desc).map (fun d => d.parameters.length) = some k)
def RN (δ : Nat → Nat) (p : Program) (l : Launch) (e : Env) (R : Room) (s : State) (m : MethodId) (args : Array Value) (below : List Frame) (meth : Method) (c : Code) (cc : ByteArray) (nL : Nat) (own : String) (z : zE) (cells slots : Nat) {Γ σ : Type} (Wf : Γ → Nat → Nat → va_E) (pc : Nat) (stk rest : List Value) (g : Γ) (M : Option σ) (out : σ → Option Value) (nxt : σ → Γ) : Prop :=
  FX δ p R s m args c cc nL own z cells slots → ∀ x, M = some x → ∀ (H : Heap) (locs : List Loc) (ls : Array Slot), Wd δ z (Wf g) H → va_S (zA z) s.heap H locs → ls.size = nL → ∃ a : Array Value, va_Run p l e R s m args below meth c H locs cells slots 0 0 (F0 m pc ls stk) rest (QW δ z (out x) (Wf (nxt x)) a) (zA z)
section CALLS
variable {p : Program} {l : Launch} {e : Env} {R : Room} {s : State} {m : MethodId} {args : Array Value} {below : List Frame} {meth : Method} {c : Code} {cc : ByteArray} {nL : Nat} {own : String} {δ : Nat → Nat} {z : zE} {cells slots : Nat} {Γ ρ σ : Type} {Wf : Γ → Nat → Nat → va_E} {fin : ρ → Γ → List Value → Prop} {ri : Instr} {Q : ρ → State → Prop} {pc q : Nat} {lv : List (Nat × Value)} {st stk rest As : List Value} {g : Γ} {M : Option σ} {out : σ → Option Value} {nxt : σ → Γ}
  {y : MethodName} {b : ByteArray} {n k i ci N idx : Nat} {ret : Option FieldType} {rm : Room} {T : u_T} {fs : List Value} {host : String}
theorem gt_wsV (hL : Cond.methodLink own idx y ∈ lw_gt) (hV : CV y b n ret k) : GoodIn lw_gt (wsV own idx y.cls y (.code y b n ret :: lw_gt)) := by
  have gd9 : ∀ {w : Cond}, w ∈ lw_gt → w ∈ lw_gt ∧ ((w.onTables && w.keeps) = true ∨ ∃ ty, w = .arrayClass ty) := fun h => ⟨h, good_of_word (List.mem_filter.mp h).2⟩
  intro w hw
  unfold wsV at hw
  rcases List.mem_append.mp hw with h | h
  · simp only [List.mem_cons, List.not_mem_nil, or_false] at h
    rcases h with rfl | rfl | rfl | rfl
    · exact gd9 hL
    · exact gd9 hV.2.1
    · exact gd9 hV.2.2.1
    · exact gd9 hV.2.2.2.1
  · rcases List.mem_cons.mp h with rfl | h
    · exact gd9 hV.1
    · exact gd9 h
theorem gt_wsS (hL : Cond.methodLink own idx y ∈ lw_gt) (hV : CT y b n ret k) : GoodIn lw_gt (va_wsS own idx y (.code y b n ret :: lw_gt)) := by
  have gd9 : ∀ {w : Cond}, w ∈ lw_gt → w ∈ lw_gt ∧ ((w.onTables && w.keeps) = true ∨ ∃ ty, w = .arrayClass ty) := fun h => ⟨h, good_of_word (List.mem_filter.mp h).2⟩
  intro w hw
  unfold va_wsS at hw
  rcases List.mem_append.mp hw with h | h
  · simp only [List.mem_cons, List.not_mem_nil, or_false] at h
    rcases h with rfl | rfl | rfl
    · exact gd9 hL
    · exact gd9 hV.2.1
    · exact gd9 hV.2.2.1
  · rcases List.mem_cons.mp h with rfl | h
    · exact gd9 hV.1
    · exact gd9 h
theorem gt_code (hC : Cond.code y b n ret ∈ lw_gt) : GoodIn lw_gt (.code y b n ret :: lw_gt) := by
  have gd9 : ∀ {w : Cond}, w ∈ lw_gt → w ∈ lw_gt ∧ ((w.onTables && w.keeps) = true ∨ ∃ ty, w = .arrayClass ty) := fun h => ⟨h, good_of_word (List.mem_filter.mp h).2⟩
  intro w hw
  rcases List.mem_cons.mp hw with rfl | h
  · exact gd9 hC
  · exact gd9 h
theorem rn_V (hM : ∀ x, M = some x → Ms δ l y b n ret rm z (.ref (za z k i) :: As) (Wf g) (out x) (Wf (nxt x))) (hV : CV y b n ret As.length) (hL : Cond.methodLink own idx y ∈ lw_gt) (hR : rm.cells = 0 ∧ rm.slots = 0) (hroom : rm.frames + 1 ≤ R.frames ∧ 8 + (n + 11) + rm.locals ≤ R.locals)
    (hi : i < δ k) (hcell : Wf g k i = .inr (ci, fs)) (hc : vwCl[ci]? = some (y.cls, T, N)) (hs : stk = As.reverse ++ .ref (za z k i) :: rest) (hrest : (rest.map fun v => v.category).sum ≤ 8) (d : decode cc pc = .ok (.invokevirtual idx, 3)) :
    RN δ p l e R s m args below meth c cc nL own z cells slots Wf pc stk rest g M out nxt := by
  intro hF x hx H locs ls hW hS hsz
  subst hs
  exact ⟨_, va_runV (As := As) (rest := rest) hF.1 (hM x hx) (cwV As.length hF.1.2.2.2.2 (gt_wsV hL hV) rfl hR.1 hR.2 ⟨rfl, hV.2.2.2.2⟩ hroom) ⟨PW.blind, va_recv (q := (y.cls, T, N)) hF.2.1.1 (hW.one hi hcell) hc (q0 := 0) rfl, PW.at hF.2.1 hW hS⟩ rfl rfl hsz rfl (lv_room hrest) d ⟨hF.2.2.1, hF.2.2.2⟩⟩
theorem rn_S (hM : ∀ x, M = some x → Ms δ l y b n ret rm z As (Wf g) (out x) (Wf (nxt x))) (hV : CT y b n ret As.length) (hL : Cond.methodLink own idx y ∈ lw_gt) (hR : rm.cells = 0 ∧ rm.slots = 0) (hroom : rm.frames + 1 ≤ R.frames ∧ 8 + (n + 11) + rm.locals ≤ R.locals)
    (hs : stk = As.reverse ++ rest) (hrest : (rest.map fun v => v.category).sum ≤ 8) (d : decode cc pc = .ok (.invokestatic idx, 3)) :
    RN δ p l e R s m args below meth c cc nL own z cells slots Wf pc stk rest g M out nxt := by
  intro hF x hx H locs ls hW hS hsz
  subst hs
  exact ⟨_, va_runS (As := As) (rest := rest) hF.1 (hM x hx) (va_cwS As.length hF.1.2.2.2.2 (gt_wsS hL hV) rfl hR.1 hR.2 hV.2.2.2 hroom) ⟨PW.blind, PW.at hF.2.1 hW hS⟩ rfl rfl hsz rfl (lv_room hrest) d ⟨hF.2.2.1, hF.2.2.2⟩⟩
theorem rn_N (hM : ∀ x, M = some x → Ms δ l y b n ret rm z As (Wf g) (out x) (Wf (nxt x))) (hV : CT y b n ret As.length) (hL : Cond.methodLinkNest own idx y host ∈ lw_nt) (hR : rm.cells = 0 ∧ rm.slots = 0) (hroom : rm.frames + 1 ≤ R.frames ∧ 8 + (n + 11) + rm.locals ≤ R.locals)
    (hs : stk = As.reverse ++ rest) (hrest : (rest.map fun v => v.category).sum ≤ 8) (d : decode cc pc = .ok (.invokestatic idx, 3)) :
    RN δ p l e R s m args below meth c cc nL own z cells slots Wf pc stk rest g M out nxt := by
  intro hF x hx H locs ls hW hS hsz
  subst hs
  exact ⟨_, va_runSN (As := As) (rest := rest) hF.1 (hM x hx) ⟨va_cnB As.length hF.1.2.2.2.2 (gt_code hV.1) rfl hR.1 hR.2 (hF.2.1.2.1 _ hL) (hF.1.2.2.2.2 _ hV.2.2.1) hV.2.2.2 hroom, hF.1.2.2.2.2 _ hV.2.1, trivial⟩ ⟨PW.blind, PW.at hF.2.1 hW hS⟩ rfl rfl hsz rfl (lv_room hrest) d ⟨hF.2.2.1, hF.2.2.2⟩⟩
theorem j_call {f : σ → Option ρ} (hr : RN δ p l e R s m args below meth c cc nL own z cells slots Wf pc stk rest g M out nxt) (hq : pc + 3 = q) (hk : ∀ x, zJ δ p l e R s m args below meth c cc nL own z cells slots Wf fin ri Q q lv ((out x).toList ++ rest) (nxt x) (f x)) : zJ δ p l e R s m args below meth c cc nL own z cells slots Wf fin ri Q pc lv stk g (M.bind f) := by
  intro hF hE x9 hx9 H locs ls hW hS hl; subst hq
  obtain ⟨x, hx, hfx⟩ := Option.bind_eq_some_iff.mp hx9
  obtain ⟨a, hrun⟩ := hr hF x hx H locs ls hW hS hl.1
  intro T hT X
  obtain ⟨v, st₀, t, T', L, h0, X', hL, e1, e2, ⟨hv, hw1, hz, hk1⟩, stp⟩ := hrun T hT X
  cases hv
  have hS' : va_S (zA z) s.heap T'.heap (locs ++ L) := by
    rw [e1]
    refine ⟨Nat.le_trans hS.1 (by rw [← h0]; exact hz), fun q h1 h2 => ?_, fun l9 hl9 => ?_⟩
    · rw [hk1 q (by rw [h0]; exact Nat.lt_of_lt_of_le h1 hS.1) h2, h0]; exact hS.2.1 q h1 h2
    · rcases List.mem_append.mp hl9 with h | h
      · exact hS.2.2 l9 h
      · exact hL l9 h
  obtain ⟨t9, a1, b1⟩ := hk x hF hE x9 hfx T'.heap (locs ++ L) ls (by rw [e1]; exact hw1) hS' hl T' rfl X'
  exact ⟨t9, stp t9 a1, b1⟩
end CALLS
section CALLS2
variable {p : Program} {l : Launch} {e : Env} {R : Room} {s : State} {m : MethodId} {args : Array Value} {below : List Frame} {meth : Method} {c : Code} {cc : ByteArray} {nL : Nat} {own : String} {δ : Nat → Nat} {z : zE} {cells slots : Nat} {Γ ρ : Type} {Wf : Γ → Nat → Nat → va_E} {fin : ρ → Γ → List Value → Prop} {ri : Instr} {Q : ρ → State → Prop} {pc q k0 : Nat} {lv : List (Nat × Value)} {st stk rest As : List Value} {g : Γ}
/-- how an answer stands on the stack -/
abbrev oi : Int32 → Option Value := fun x => some (.int x)
abbrev ol : Int64 → Option Value := fun x => some (.long x)
abbrev orf (z : zE) (k0 : Nat) : Option Nat → Option Value := fun x => some (vr z k0 x)
abbrev osi : Int32 × zG → Option Value := fun x => some (.int x.1)
abbrev osv : zG → Option Value := fun _ => none
theorem j_ci {M : Option Int32} {f : Int32 → Option ρ} (hr : RN δ p l e R s m args below meth c cc nL own z cells slots Wf pc stk rest g M oi (fun _ => g)) (hq : pc + 3 = q) (hk : ∀ x : Int32, zJ δ p l e R s m args below meth c cc nL own z cells slots Wf fin ri Q q lv (.int x :: rest) g (f x)) : zJ δ p l e R s m args below meth c cc nL own z cells slots Wf fin ri Q pc lv stk g (M.bind f) := j_call hr hq hk
theorem j_cl {M : Option Int64} {f : Int64 → Option ρ} (hr : RN δ p l e R s m args below meth c cc nL own z cells slots Wf pc stk rest g M ol (fun _ => g)) (hq : pc + 3 = q) (hk : ∀ x : Int64, zJ δ p l e R s m args below meth c cc nL own z cells slots Wf fin ri Q q lv (.long x :: rest) g (f x)) : zJ δ p l e R s m args below meth c cc nL own z cells slots Wf fin ri Q pc lv stk g (M.bind f) := j_call hr hq hk
theorem j_cr {M : Option (Option Nat)} {f : Option Nat → Option ρ} (hr : RN δ p l e R s m args below meth c cc nL own z cells slots Wf pc stk rest g M (orf z k0) (fun _ => g)) (hq : pc + 3 = q) (hk : ∀ x : Option Nat, zJ δ p l e R s m args below meth c cc nL own z cells slots Wf fin ri Q q lv (vr z k0 x :: rest) g (f x)) : zJ δ p l e R s m args below meth c cc nL own z cells slots Wf fin ri Q pc lv stk g (M.bind f) := j_call hr hq hk
end CALLS2
section CALLS3
variable {p : Program} {l : Launch} {e : Env} {R : Room} {s : State} {m : MethodId} {args : Array Value} {below : List Frame} {meth : Method} {c : Code} {cc : ByteArray} {nL : Nat} {own : String} {δ : Nat → Nat} {z : zE} {cells slots : Nat} {ρ : Type} {Wf : zG → Nat → Nat → va_E} {fin : ρ → zG → List Value → Prop} {ri : Instr} {Q : ρ → State → Prop} {pc q k0 : Nat} {lv : List (Nat × Value)} {st stk rest As : List Value} {g : zG}
theorem j_si {M : Option (Int32 × zG)} {f : Int32 → zG → Option ρ} (hr : RN δ p l e R s m args below meth c cc nL own z cells slots Wf pc stk rest g M osi (fun x => x.2)) (hq : pc + 3 = q) (hk : ∀ (x : Int32) (g1 : zG), zJ δ p l e R s m args below meth c cc nL own z cells slots Wf fin ri Q q lv (.int x :: rest) g1 (f x g1)) : zJ δ p l e R s m args below meth c cc nL own z cells slots Wf fin ri Q pc lv stk g (M.bind fun x => f x.1 x.2) := j_call (f := fun x : Int32 × zG => f x.1 x.2) hr hq (fun x => hk x.1 x.2)
theorem j_sv {M : Option zG} {f : zG → Option ρ} (hr : RN δ p l e R s m args below meth c cc nL own z cells slots Wf pc stk rest g M osv (fun x => x)) (hq : pc + 3 = q) (hk : ∀ (g1 : zG), zJ δ p l e R s m args below meth c cc nL own z cells slots Wf fin ri Q q lv rest g1 (f g1)) : zJ δ p l e R s m args below meth c cc nL own z cells slots Wf fin ri Q pc lv stk g (M.bind f) := j_call (f := f) hr hq hk
end CALLS3
/-- a method's contract out of its walk -/
theorem ms_of {l : Launch} {y : MethodName} {b : ByteArray} {n : Nat} {ret : Option FieldType} {rm : Room} {δ : Nat → Nat} {z : zE} {As : List Value} {Γ ρ : Type} {Wf : Γ → Nat → Nat → va_E} {ri : Instr} {out : ρ → Option Value} {nxt : ρ → Γ} {ok : ρ → Prop} {lv : List (Nat × Value)} {g : Γ} {M : Option ρ} (hy : plainName y.cls = true) (hcs : rm.cells = 0 ∧ rm.slots = 0) (hlen : (lg_sl As).length ≤ n) (hlv : lv_args 0 As = lv)
    (hend : ∀ (p : Program) (e : Env) (s : State) (m : MethodId) (below : List Frame) (meth : Method) (c : Code), p.tables.exec = Jvm.exec → c.code = b → meth.sig.returnType = ret → meth.locks = false → ∀ (x : ρ) (H : Heap) (locs : List Loc) (ls : Array Slot) (pc : Nat), ok x → Wd δ z (Wf (nxt x)) H → va_S (zA z) s.heap H locs → decode b pc = .ok (ri, 1) → W p l e rm s m As.toArray below meth c H locs 0 0 (MQ below (QW δ z (out x) (Wf (nxt x))) As.toArray s 0 0 (zA z)) (F0 m pc ls (out x).toList))
    (h : ∀ (p : Program) (e : Env) (s : State) (m : MethodId) (below : List Frame) (meth : Method) (c : Code), zJ δ p l e rm s m As.toArray below meth c b n y.cls z 0 0 Wf (fun x g v => ok x ∧ g = nxt x ∧ v = (out x).toList) ri (fun x => MQ below (QW δ z (out x) (Wf (nxt x))) As.toArray s 0 0 (zA z)) 0 lv [] g M) :
    ∀ x, M = some x → Ms δ l y b n ret rm z As (Wf g) (out x) (Wf (nxt x)) := by
  intro x hx
  refine Met.ofW (cc := b) (maxL := n) (ret := ret) hy rfl ?_
  intro p e s m args below meth c s₁ B hml hv
  obtain ⟨rfl, hW, hX⟩ := hv
  have hts := atoms_spec (ws := .code y b n ret :: lw_gt) B.pre
  have hown : s.vm.findClass y.cls = some m.cls := findClass_of_methodNamed B.named
  have hl := lv_entry As (n := n) hlen
  rw [lg_entry_eq]
  rw [hlv] at hl
  exact h p e s m below meth c ⟨⟨B.exec, B.bytes, hml, hown, fun w hw => hts w (List.mem_cons_of_mem _ hw)⟩, hX, Nat.zero_le _, Nat.zero_le _⟩ (fun x g v hf H locs ls pc hW hS d => by
    obtain ⟨h0, rfl, rfl⟩ := hf
    exact hend p e s m below meth c B.exec B.bytes B.returns B.notSynchronized x H locs ls pc h0 hW hS d) x hx s.heap [] _ hW va_S.rf hl
section ENDS
variable {l : Launch} {b : ByteArray} {rm : Room} {δ : Nat → Nat} {z : zE} {As : List Value} {Γ ρ : Type} {Wf : Γ → Nat → Nat → va_E} {nxt : ρ → Γ}
theorem en_i {out : ρ → Int32} (p : Program) (e : Env) (s : State) (m : MethodId) (below : List Frame) (meth : Method) (c : Code) (hx : p.tables.exec = Jvm.exec) (hb : c.code = b) (hr : meth.sig.returnType = some .int) (hk : meth.locks = false) (x : ρ) (H : Heap) (locs : List Loc) (ls : Array Slot) (pc : Nat) (_ : True) (hW : Wd δ z (Wf (nxt x)) H) (hS : va_S (zA z) s.heap H locs) (d : decode b pc = .ok (.ireturn, 1)) : W p l e rm s m As.toArray below meth c H locs 0 0 (MQ below (QW δ z (some (.int (out x))) (Wf (nxt x))) As.toArray s 0 0 (zA z)) (F0 m pc ls [.int (out x)]) :=
  W.iret (v := out x) hx hb hr (fun t ht _ => ⟨rfl, by rw [ht]; exact hW, hS.F ht⟩) hS.2.2 d hk
theorem en_z {out : ρ → Int32} (p : Program) (e : Env) (s : State) (m : MethodId) (below : List Frame) (meth : Method) (c : Code) (hx : p.tables.exec = Jvm.exec) (hb : c.code = b) (hr : meth.sig.returnType = some .boolean) (hk : meth.locks = false) (x : ρ) (H : Heap) (locs : List Loc) (ls : Array Slot) (pc : Nat) (ho : isb (out x) = true) (hW : Wd δ z (Wf (nxt x)) H) (hS : va_S (zA z) s.heap H locs) (d : decode b pc = .ok (.ireturn, 1)) : W p l e rm s m As.toArray below meth c H locs 0 0 (MQ below (QW δ z (some (.int (out x))) (Wf (nxt x))) As.toArray s 0 0 (zA z)) (F0 m pc ls [.int (out x)]) :=
  W.zret (v := out x) hx hb hr (isb_narrow ho) (fun t ht _ => ⟨rfl, by rw [ht]; exact hW, hS.F ht⟩) hS.2.2 d hk
theorem en_l {out : ρ → Int64} (p : Program) (e : Env) (s : State) (m : MethodId) (below : List Frame) (meth : Method) (c : Code) (hx : p.tables.exec = Jvm.exec) (hb : c.code = b) (hr : meth.sig.returnType = some .long) (hk : meth.locks = false) (x : ρ) (H : Heap) (locs : List Loc) (ls : Array Slot) (pc : Nat) (_ : True) (hW : Wd δ z (Wf (nxt x)) H) (hS : va_S (zA z) s.heap H locs) (d : decode b pc = .ok (.lreturn, 1)) : W p l e rm s m As.toArray below meth c H locs 0 0 (MQ below (QW δ z (some (.long (out x))) (Wf (nxt x))) As.toArray s 0 0 (zA z)) (F0 m pc ls [.long (out x)]) :=
  W.lret (v := out x) hx hb hr (fun t ht _ => ⟨rfl, by rw [ht]; exact hW, hS.F ht⟩) hS.2.2 d hk
theorem en_v (p : Program) (e : Env) (s : State) (m : MethodId) (below : List Frame) (meth : Method) (c : Code) (hx : p.tables.exec = Jvm.exec) (hb : c.code = b) (hr : meth.sig.returnType = none) (hk : meth.locks = false) (x : ρ) (H : Heap) (locs : List Loc) (ls : Array Slot) (pc : Nat) (_ : True) (hW : Wd δ z (Wf (nxt x)) H) (hS : va_S (zA z) s.heap H locs) (d : decode b pc = .ok (.return_, 1)) : W p l e rm s m As.toArray below meth c H locs 0 0 (MQ below (QW δ z none (Wf (nxt x))) As.toArray s 0 0 (zA z)) (F0 m pc ls []) :=
  W.vret hx hb hr (fun t ht _ => ⟨rfl, by rw [ht]; exact hW, hS.F ht⟩) hS.2.2 d hk
theorem en_r {k0 : Nat} {C : String} {out : ρ → Option Nat} (p : Program) (e : Env) (s : State) (m : MethodId) (below : List Frame) (meth : Method) (c : Code) (hx : p.tables.exec = Jvm.exec) (hb : c.code = b) (hr : meth.sig.returnType = some (.object C)) (hk : meth.locks = false) (x : ρ) (H : Heap) (locs : List Loc) (ls : Array Slot) (pc : Nat) (_ : True) (hW : Wd δ z (Wf (nxt x)) H) (hS : va_S (zA z) s.heap H locs) (d : decode b pc = .ok (.areturn, 1)) : W p l e rm s m As.toArray below meth c H locs 0 0 (MQ below (QW δ z (some (vr z k0 (out x))) (Wf (nxt x))) As.toArray s 0 0 (zA z)) (F0 m pc ls [vr z k0 (out x)]) :=
  W.aret (v := vr z k0 (out x)) hx hb hr (Or.inl ⟨C, rfl⟩) (by cases out x with | none => exact Or.inl rfl | some a => exact Or.inr ⟨_, rfl⟩) (fun t ht _ => ⟨rfl, by rw [ht]; exact hW, hS.F ht⟩) hS.2.2 d hk
end ENDS
