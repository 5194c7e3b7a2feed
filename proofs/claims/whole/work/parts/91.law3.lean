/-! THE CLAIM OUT OF ONE WALK OF THE LAW'S BODY. Your part is whole_start (and what it stands on); all else here is the same for every law, but numbers. -/
def R_law : String := "CopierJobsLaw"
def lw_P (b : Addr) (xs : List Int32) (args : Array Value) (s : State) : Prop := args = #[.ref b] ∧ s.IntsAt b xs ∧ xs.length ≤ 2560 ∧ (Jvm.Cond.and given_1 narrow_1).before args s = true
def lw_Q (_ : Array Value) (s : State) (o : Outcome) (t : State) : Prop := o = .returned (some (.int 1)) ∧ Framed s o t [] 600000 7302250
def lw_Z (below : List Frame) (a : Array Value) (s : State) : State → Prop := fun t => ∃ o, t.status = .running ∧ Ended t below o ∧ lw_Q a s o t
/-- the law's own end, with 1 on the stack, nothing written that was there before, its room as the claim has it -/
theorem lw_ret {p : Program} {l : Launch} {e : Env} {s : State} {m : MethodId} {below : List Frame} {meth : Method} {c : Code} {b : Nat} (hx : p.tables.exec = Jvm.exec) (hb : c.code = code) (hr : meth.sig.returnType = ret) (hlocks : meth.locks = false) {pc : Nat} {H : Heap} {ls : Array Slot} (hdg : decode code pc = .ok (.ireturn, 1)) : W p l e room_1 s m #[Value.ref b] below meth c H [] 600000 7302250 (lw_Z below #[Value.ref b] s) (F0 m pc ls [.int 1]) := by
  intro T hT X
  obtain ⟨fs, hret, hrun, hended, hW, hframe⟩ := X.leave (v := some (.int 1)) (hlocks := hlocks) (fun h => by rw [hr] at h; cases h)
  have hmeth' : T.vm.method? m = some meth := X.method'
  refine ⟨T.setFrames fs, ?_, .returned (some (.int 1)), hrun, hended, rfl, ⟨_, rfl⟩, hW, hframe⟩
  jvm_step X.here [X.here.top, hx, hb, hdg, hmeth', hr, ret, narrow_b1]
  (try refine ⟨rfl, ?_⟩); (try refine ⟨rfl, ?_⟩)
  first | (intro acts; rw [hret _ acts rfl rfl rfl]) | rw [hret _ _ rfl rfl rfl]
  exact Steps.refl _
/-- what holds at the law's entry: the machine, the code, the tables' words (any of lw_tbl by 'hts w (by decide +kernel)'), the script of L ints xs at the cell b, what the Statement gives of the start (any of its parts by flat_of_before) -/
def lw_At (p : Program) (s : State) (m : MethodId) (meth : Method) (c : Code) (b L : Nat) (xs : Nat → Int32) : Prop :=
  p.tables.exec = Jvm.exec ∧ c.code = code ∧ meth.sig.returnType = ret ∧ c.maxLocals = 4 ∧ s.vm.findClass R_law = some m.cls ∧ (∀ w ∈ lw_tbl, w.before #[Value.ref b] s = true) ∧ va_X b L xs s s.heap ∧ b < s.heap.size ∧ meth.locks = false ∧ (Jvm.Cond.and given_1 narrow_1).before #[Value.ref b] s = true
theorem w_mono {p : Program} {l : Launch} {e : Env} {R : Room} {s : State} {m : MethodId} {args : Array Value} {below : List Frame} {meth : Method} {c : Code} {H : Heap} {locs : List Loc} {cells slots : Nat} {Q Q' : State → Prop} {g : JFrame} (h : ∀ t, Q t → Q' t) (k : W p l e R s m args below meth c H locs cells slots Q g) : W p l e R s m args below meth c H locs cells slots Q' g := fun T hT X => by
  obtain ⟨t, a, b⟩ := k T hT X
  exact ⟨t, a, h t b⟩
section MINE
variable {p : Program} {e : Env} {s : State} {m : MethodId} {below : List Frame} {meth : Method} {c : Code} {b L : Nat} {xs : Nat → Int32} {D : va_G} {cA : Nat → ClassId} {sa : Nat → Nat} {x1 m1 : zG}
set_option maxRecDepth 100000 in
set_option maxHeartbeats 4000000 in
/-- from the loop's head on -/
theorem go_18 (l : Launch) (hL : L ≤ 2560) (C0 : lw_At p s m meth c b L xs) (hC : Cz (zz D cA sa s.heap.size) s) (hR : Rl x1 m1) (H : Heap) (locs : List Loc) (ls : Array Slot) (hW : Wd dm (zz D cA sa s.heap.size) (wp (zz D cA sa s.heap.size) (x1, m1)) H) (hS : va_S (zA (zz D cA sa s.heap.size)) s.heap H locs) (hl : lv_has ls 4 [(0, .ref b), (1, .ref (za (zz D cA sa s.heap.size) 76 0)), (2, .ref (za (zz D cA sa s.heap.size) 77 0)), (3, .int (nI 0))]) : W p l e room_1 s m #[Value.ref b] below meth c H locs 255 2855 (lw_Z below #[Value.ref b] s) (F0 m 18 ls []) := by
  obtain ⟨hx, hb, hr, hml, hown, hts, hX, hbl, hlocks, hgv⟩ := id C0
  have hFX : FX dm p room_1 s m #[Value.ref b] c code 4 RL (zz D cA sa s.heap.size) 255 2855 := ⟨⟨hx, hb, hml, hown, fun w hw => hts w (gt_tbl hw)⟩, ⟨hC.1, hC.2.1, zz_I D cA sa _, Nat.le_refl _, hC.2.2.1⟩, (Nat.le_of_ble_eq_true rfl), (Nat.le_of_ble_eq_true rfl)⟩
  refine w_mono (Q := fun t => nI 1 = nI 1 → lw_Z below #[Value.ref b] s t) (fun t h => h rfl) ?_
  refine t_L_law (p := p) (l := l) (e := e) (s := s) (m := m) (args := #[Value.ref b]) (below := below) (meth := meth) (c := c) (cells := 255) (slots := 2855) (Q := fun x t => x = nI 1 → lw_Z below #[Value.ref b] s t) (zz D cA sa s.heap.size) b L xs hX ⟨hbl, hbl⟩ 600 x1 m1 (nI 0) hFX ?_ (nI 1) (law_1 hL 512 0 600 x1 m1 (by omega) (by omega) (by omega) hR) H locs ls hW hS hl
  intro x g v hv H locs ls pc hW hS d
  subst hv
  by_cases h1 : x = nI 1
  · subst h1
    refine w_mono (fun t h _ => h) ?_
    refine va_forget (fun q hq => hS.2.2 q hq) ?_
    refine W.widen (k := 600000) (n := 7302250) (Nat.le_of_ble_eq_true rfl) (Nat.le_of_ble_eq_true rfl) ?_
    exact lw_ret hx hb hr hlocks d
  · exact fun T hT X => ⟨_, Steps.refl _, fun h => absurd h h1⟩
set_option maxRecDepth 100000 in
set_option maxHeartbeats 4000000 in
/-- the reference is made -/
theorem go_7 (l : Launch) (hL : L ≤ 2560) (C0 : lw_At p s m meth c b L xs) (hC : Cz (zz D cA sa s.heap.size) s) (hm1 : m_X7_begin gmm = some m1) (hR : Rl x1 m1) (H : Heap) (locs : List Loc) (ls : Array Slot) (hz : H.size = s.heap.size + 240) (hW : Wd d2 (zz D cA sa s.heap.size) (wx (zz D cA sa s.heap.size) g00 x1) H) (hS : va_S (bA s.heap.size) s.heap H locs) (hl : lv_has ls 4 [(0, .ref b)]) : W p l e room_1 s m #[Value.ref b] below meth c H locs 240 1568 (lw_Z below #[Value.ref b] s) (F0 m 7 ls [.ref s.heap.size]) := by
  obtain ⟨hx, hb, hr, hml, hown, hts, hX, hbl, hlocks, hgv⟩ := id C0
  have hg : ∀ w ∈ lw_gt, w.before #[Value.ref b] s = true := fun w hw => hts w (gt_tbl hw)
  have hF : CallFix p m c code 4 s #[Value.ref b] lw_gt RL := ⟨hx, hb, hml, hown, hg⟩
  refine lv_astore_n (lv' := [(1, .ref s.heap.size), (0, .ref b)]) hx hb dL_law_7 rfl hl (by decide) rfl (fun ls hl => ?_)
  have hKn := hC.1.1 7 _ rfl
  refine W.newcK hx hb hown (hg _ wK_L_10) (hg _ wU_X7) (hg _ wZ_X7) rfl dL_law_8 (Nat.le_of_ble_eq_true rfl) (Nat.le_of_ble_eq_true rfl) hKn.2.1 hz fun H1 kC hkC e1 z1 o1 => ?_
  have hS1 : va_S (bA s.heap.size) s.heap H1 locs := ⟨by omega, fun q h1 h2 => (o1 q (by omega)).trans (hS.2.1 q h1 h2), hS.2.2⟩
  have hW1 : Wd d2 (zz D cA sa s.heap.size) (wx (zz D cA sa s.heap.size) g00 x1) H1 := fun k i hi => ⟨(hW k i hi).1.kept (o1 _ (by have := (hW k i hi).1.lt; rw [hz] at this; exact this)), (hW k i hi).2⟩
  have hB1 : BL (zz D cA sa s.heap.size) (s.heap.size + 240) [z_X7] H1 := by
    refine ⟨z1, fun i e' hi => ?_⟩
    have h1 : i < 1 := (List.getElem?_eq_some_iff.mp hi).1
    obtain rfl : i = 0 := by omega
    cases hi
    exact ⟨_, rfl, (u_born tyX7 hg hin_X7 hKn hkC e1 tyX7_ok).to d_X7⟩
  refine lv_dup hx hb dL_law_11 rfl ?_
  have hrun := va_runI (p := p) (l := l) (e := e) (R := room_1) (below := below) (meth := meth) (H := H1) (locs := locs) (cells := 240 + 1) (slots := 1568 + 28) (g := F0 m 12 ls [.ref (s.heap.size + 240), .ref (s.heap.size + 240)]) (As := []) (rest := [.ref (s.heap.size + 240)]) (n := 0) (b := s.heap.size + 240) hF (c_X7_init l D cA sa s.heap.size (s.heap.size + 240) rfl x1 m1 hm1) (cwI 0 hg (gt_code wC_X7_init) rfl rfl rfl (hg _ wZ_X7) (hg _ wM_L_12) (hg _ wI_X7_init) rfl (by decide +kernel) ⟨(Nat.le_of_ble_eq_true rfl), (Nat.le_of_ble_eq_true rfl)⟩) ⟨fun _ _ _ _ h => ⟨h.1, ⟨h.2.1.1, h.2.1.2.calling⟩, h.2.2⟩, fun U hU hWm => ⟨rfl, ⟨by rw [hU]; exact hB1, hC.go hWm (Nat.le_refl _) (by rw [hU]; exact hS1)⟩, by rw [hU]; exact hW1⟩⟩ rfl rfl hl.1 rfl (lv_room (Nat.le_of_ble_eq_true rfl)) dL_law_12 ⟨(Nat.le_of_ble_eq_true rfl), (Nat.le_of_ble_eq_true rfl)⟩
  intro T hT X
  obtain ⟨v', st₀, t, T', L9, h0, X', hL9, e1, e2, ⟨hv, hW2, hz2, hk2⟩, stp⟩ := hrun T hT X
  cases hv
  have hS2 : va_S (zA (zz D cA sa s.heap.size)) s.heap T'.heap (locs ++ L9) := by
    rw [e1]
    refine ⟨Nat.le_trans hS1.1 (by rw [← h0]; exact hz2), fun q h1 h2 => ?_, fun l9 hl9 => ?_⟩
    · rw [hk2 q (by rw [h0]; exact Nat.lt_of_lt_of_le h1 hS1.1) h2, h0]; exact hS1.2.1 q h1 h2
    · rcases List.mem_append.mp hl9 with h | h
      · exact hS1.2.2 l9 h
      · exact hL9 l9 h
  have K : W p l e room_1 s m #[Value.ref b] below meth c T'.heap (locs ++ L9) 255 2855 (lw_Z below #[Value.ref b] s) (F0 m 15 ls [.ref (s.heap.size + 240)]) := by
    refine lv_astore_n (lv' := [(2, .ref (s.heap.size + 240)), (1, .ref s.heap.size), (0, .ref b)]) hx hb dL_law_15 rfl hl (by decide) rfl (fun ls hl => ?_)
    refine lv_iconst (v := nI 0) hx hb dL_law_16 rfl ?_
    refine lv_istore_n (lv' := [(3, .int (nI 0)), (2, .ref (s.heap.size + 240)), (1, .ref s.heap.size), (0, .ref b)]) hx hb dL_law_17 rfl hl (by decide) rfl (fun ls hl => ?_)
    exact go_18 l hL C0 hC hR T'.heap (locs ++ L9) ls (by rw [e1]; exact hW2) hS2 (lv_sub hl [3, 2, 1, 0] rfl)
  obtain ⟨t9, a1, b1⟩ := K T' rfl X'
  exact ⟨t9, stp t9 a1, b1⟩
set_option maxRecDepth 100000 in
set_option maxHeartbeats 4000000 in
/-- the class' object is made -/
theorem go_0 (l : Launch) (hL : L ≤ 2560) (C0 : lw_At p s m meth c b L xs) (hC : Cz (zz D cA sa s.heap.size) s) (hx1 : m_X0_begin gxx 0 0 = some x1) (hm1 : m_X7_begin gmm = some m1) (hR : Rl x1 m1) (ls : Array Slot) (hl : lv_has ls 4 [(0, .ref b)]) : W p l e room_1 s m #[Value.ref b] below meth c s.heap [] 0 0 (lw_Z below #[Value.ref b] s) (F0 m 0 ls []) := by
  obtain ⟨hx, hb, hr, hml, hown, hts, hX, hbl, hlocks, hgv⟩ := id C0
  have hg : ∀ w ∈ lw_gt, w.before #[Value.ref b] s = true := fun w hw => hts w (gt_tbl hw)
  have hF : CallFix p m c code 4 s #[Value.ref b] lw_gt RL := ⟨hx, hb, hml, hown, hg⟩
  have hKn := hC.1.1 6 _ rfl
  refine W.newcK hx hb hown (hg _ wK_L_7) (hg _ wU_X6) (hg _ wZ_X6) rfl dL_law_0 (Nat.le_of_ble_eq_true rfl) (Nat.le_of_ble_eq_true rfl) hKn.2.1 rfl fun H1 kC hkC e1 z1 o1 => ?_
  have hS1 : va_S (bA s.heap.size) s.heap H1 [] := ⟨by omega, fun q h1 h2 => o1 q h1, fun l9 hl9 => by cases hl9⟩
  have hB1 : BL (zz D cA sa s.heap.size) s.heap.size [z_X6] H1 := by
    refine ⟨z1, fun i e' hi => ?_⟩
    have h1 : i < 1 := (List.getElem?_eq_some_iff.mp hi).1
    obtain rfl : i = 0 := by omega
    cases hi
    exact ⟨_, rfl, (u_born tyX6 hg hin_X6 hKn hkC e1 tyX6_ok).to d_X6⟩
  refine lv_dup hx hb dL_law_3 rfl ?_
  have hrun := va_runI (p := p) (l := l) (e := e) (R := room_1) (below := below) (meth := meth) (H := H1) (locs := []) (cells := 0 + 1) (slots := 0 + 9) (g := F0 m 4 ls [.ref s.heap.size, .ref s.heap.size]) (As := []) (rest := [.ref s.heap.size]) (n := 0) (b := s.heap.size) hF (c_X6_init l D cA sa s.heap.size x1 hx1) (cwI 0 hg (gt_code wC_X6_init) rfl rfl rfl (hg _ wZ_X6) (hg _ wM_L_9) (hg _ wI_X6_init) rfl (by decide +kernel) ⟨(Nat.le_of_ble_eq_true rfl), (Nat.le_of_ble_eq_true rfl)⟩) ⟨fun _ _ _ _ h => ⟨h.1, ⟨h.2.1.1, h.2.1.2.calling⟩, h.2.2⟩, fun U hU hWm => ⟨rfl, ⟨by rw [hU]; exact hB1, hC.go hWm (Nat.le_refl _) (by rw [hU]; exact hS1)⟩, trivial⟩⟩ rfl rfl hl.1 rfl (lv_room (Nat.le_of_ble_eq_true rfl)) dL_law_4 ⟨(Nat.le_of_ble_eq_true rfl), (Nat.le_of_ble_eq_true rfl)⟩
  intro T hT X
  obtain ⟨v', st₀, t, T', L9, h0, X', hL9, e1, e2, ⟨hv, hsz2, hW2, hz2, hk2⟩, stp⟩ := hrun T hT X
  cases hv
  have hS2 : va_S (bA s.heap.size) s.heap T'.heap ([] ++ L9) := by
    rw [e1]
    refine ⟨Nat.le_trans hS1.1 (by rw [← h0]; exact hz2), fun q h1 h2 => ?_, fun l9 hl9 => ?_⟩
    · rw [hk2 q (by rw [h0]; exact Nat.lt_of_lt_of_le h1 hS1.1) h2, h0]; exact hS1.2.1 q h1 h2
    · rcases List.mem_append.mp hl9 with h | h
      · cases h
      · exact hL9 l9 h
  obtain ⟨t9, a1, b1⟩ := go_7 l hL C0 hC hm1 hR T'.heap ([] ++ L9) ls (by rw [e1]; exact hsz2) (by rw [e1]; exact hW2) hS2 hl T' rfl X'
  exact ⟨t9, stp t9 a1, b1⟩
end MINE
