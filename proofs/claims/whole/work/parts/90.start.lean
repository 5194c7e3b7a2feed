/-! the start: the law's entry, tables, written-out rows; both states are related -/
theorem rl_start : ∃ x1 m1, m_X0_begin gxx 0 0 = some x1 ∧ m_X7_begin gmm = some m1 ∧ Rl x1 m1 := by
  obtain ⟨x', a1, a2, a3⟩ := x_begin (x := gxx) (p := 0) (i := 11 * 0) (K := 200) (n := 0) (T := fun _ => 20) rfl rfl (by omega) (fun t ht => rfl)
  obtain ⟨m', b1, b2, b3, b4, b5, b6, b7⟩ := m_begin (m := gmm) (K := 200) (n := 0) (T := fun _ => 20) rfl rfl (by omega) (fun t ht => by rcases (show t = 0 ∨ t = 1 ∨ t = 2 by omega) with rfl | rfl | rfl <;> rfl)
  have a2' : Fr (fun f a => (f ≤ 8 ∧ a = 0) ∨ f = 30 ∨ f = 31 ∨ f = 40 ∨ f = 60) gxx x' := a2.wk (fun f a h => Or.inl ⟨h.1, by have := h.2; omega⟩)
  have F : Fr (fun f _ => f = 30 ∨ f = 31) x' (ui (ui x' 30 0 0 (nI 0)) 31 0 0 (nI 0)) := (Fr.rf.ui (Or.inl rfl)).ui (Or.inr rfl)
  refine ⟨ui (ui x' 30 0 0 (nI 0)) 31 0 0 (nI 0), m', ?_, b1, ?_⟩
  · unfold m_X0_begin
    rw [a1, bi_e, bd_e, bd_e]
  · refine rl_first (x := gxx) (m := gmm) (p := 0) (n := 0) (B := 4) (K := 200) (T := fun _ => 20) (J := fun _ _ => 0) (by omega) rfl rfl ⟨by omega, by omega, by omega, fun j hj => by omega⟩ (by omega) (fun t ht => by show (20 : Nat) ≤ 99; omega) ⟨rfl, rfl, fun j hj => by omega⟩ ⟨rfl, rfl, fun j hj => by omega⟩ ((a2'.ui (Or.inr (Or.inl rfl))).ui (Or.inr (Or.inr (Or.inl rfl)))) b2 ?_ ?_ (gi_s _ _ _ _ _) ?_ (fun i hi => ?_) rfl b3 b4 b5 (fun i hi => ?_) rfl rfl
    · exact SX.fr (i := 0) a3 F (fun f h q => by omega)
    · rw [gi_ui, if_neg (by omega), gi_s]
    · rw [F.1 40 0 0 (by omega), a2.1 40 0 0 (fun q => by have := q.1; omega)]; rfl
    · rw [F.1 60 0 i (by omega), a2.1 60 0 i (fun q => by have := q.1; omega)]; rfl
    · rcases (show i = 0 ∨ i = 1 by omega) with rfl | rfl
      · exact b6
      · exact b7
theorem ar_int {args : Array Value} {s : State} (h : (Cond.arrayClass .int).before args s = true) : ∃ c, ArrOfT s c .int ∧ va_RA s c .int := by
  obtain ⟨c, k, comp, h1, h2, h3⟩ := Cond.arrayClass_spec h
  exact ⟨c, fun n z => ⟨(fun k h => by cases h), k, h2, comp, h3⟩, h1⟩
theorem ar_boolean {args : Array Value} {s : State} (h : (Cond.arrayClass .boolean).before args s = true) : ∃ c, ArrOfT s c .boolean ∧ va_RA s c .boolean := by
  obtain ⟨c, k, comp, h1, h2, h3⟩ := Cond.arrayClass_spec h
  exact ⟨c, fun n z => ⟨(fun k h => by cases h), k, h2, comp, h3⟩, h1⟩
theorem ar_object {args : Array Value} {s : State} {C : String} (h : (Cond.arrayOver (.object C)).before args s = true) : ∃ c, ArrOfT s c (.object C) ∧ va_RA s c (.object C) := by
  obtain ⟨comp, c, k, h1, h2, h3, h4, h5⟩ := Cond.arrayOver_spec h
  exact ⟨c, fun n z => ⟨(fun k h => by cases h), k, h3, comp, h4⟩, k, comp, h3, h4, h1, h5⟩
section START
variable {args : Array Value} {s : State} {A : Nat → Prop}
theorem st_200 (hs : ∀ c ∈ flatC (Jvm.Cond.and given_1 narrow_1), c.before args s = true) (hts : ∀ w ∈ lw_tbl, w.before args s = true) (hA : ∀ a : Nat, a < s.heap.size → ¬ A a) : ∃ t : Nat, va_Z "CopierJobs" "JOB_LEAST" "[I" (.ref t) A s s.heap ∧ va_T .int t (ln 200) (fun j => .int (sc 200 j)) A s s.heap := by
  have hel : ∀ j : Nat, j < 5 → (Term.elem (Term.static "CopierJobs" "JOB_LEAST" "[I") (.int (Int32.ofNat j))).eval args s none [] s = some (.int (sc 200 j)) := fun j hj => by
    rcases (show j = 0 ∨ j = 1 ∨ j = 2 ∨ j = 3 ∨ j = 4 by omega) with rfl | rfl | rfl | rfl | rfl
    · exact va_eqt (z := 1) (hs (Cond.eq (.elem (Term.static "CopierJobs" "JOB_LEAST" "[I") (.int 0)) (.int 1)) (by decide +kernel))
    · exact va_eqt (z := 1) (hs (Cond.eq (.elem (Term.static "CopierJobs" "JOB_LEAST" "[I") (.int 1)) (.int 1)) (by decide +kernel))
    · exact va_eqt (z := 0) (hs (Cond.eq (.elem (Term.static "CopierJobs" "JOB_LEAST" "[I") (.int 2)) (.int 0)) (by decide +kernel))
    · exact va_eqt (z := 0) (hs (Cond.eq (.elem (Term.static "CopierJobs" "JOB_LEAST" "[I") (.int 3)) (.int 0)) (by decide +kernel))
    · exact va_eqt (z := 0) (hs (Cond.eq (.elem (Term.static "CopierJobs" "JOB_LEAST" "[I") (.int 4)) (.int 0)) (by decide +kernel))
  obtain ⟨t, h1, h2⟩ := va_Tof (tm := (Term.static "CopierJobs" "JOB_LEAST" "[I")) (N := 5) (ty := .int) (f := fun j => .int (sc 200 j)) (A := A) (args := args) (s := s) (by decide) (hs _ (by decide +kernel)) (va_eqt (z := 5) (hs _ (by decide +kernel))) hel hA
  exact ⟨t, va_Zref (hts _ (in_t1 (List.mem_of_getElem? (i := 148) rfl))) (hts _ (gt_tbl wZ_X6)) h1 hA, h2⟩
theorem st_201 (hs : ∀ c ∈ flatC (Jvm.Cond.and given_1 narrow_1), c.before args s = true) (hts : ∀ w ∈ lw_tbl, w.before args s = true) (hA : ∀ a : Nat, a < s.heap.size → ¬ A a) : ∃ t : Nat, va_Z "CopierJobs" "TRAYS_LEAST" "[I" (.ref t) A s s.heap ∧ va_T .int t (ln 201) (fun j => .int (sc 201 j)) A s s.heap := by
  have hel : ∀ j : Nat, j < 3 → (Term.elem (Term.static "CopierJobs" "TRAYS_LEAST" "[I") (.int (Int32.ofNat j))).eval args s none [] s = some (.int (sc 201 j)) := fun j hj => by
    rcases (show j = 0 ∨ j = 1 ∨ j = 2 by omega) with rfl | rfl | rfl
    · exact va_eqt (z := 0) (hs (Cond.eq (.elem (Term.static "CopierJobs" "TRAYS_LEAST" "[I") (.int 0)) (.int 0)) (by decide +kernel))
    · exact va_eqt (z := 0) (hs (Cond.eq (.elem (Term.static "CopierJobs" "TRAYS_LEAST" "[I") (.int 1)) (.int 0)) (by decide +kernel))
    · exact va_eqt (z := 0) (hs (Cond.eq (.elem (Term.static "CopierJobs" "TRAYS_LEAST" "[I") (.int 2)) (.int 0)) (by decide +kernel))
  obtain ⟨t, h1, h2⟩ := va_Tof (tm := (Term.static "CopierJobs" "TRAYS_LEAST" "[I")) (N := 3) (ty := .int) (f := fun j => .int (sc 201 j)) (A := A) (args := args) (s := s) (by decide) (hs _ (by decide +kernel)) (va_eqt (z := 3) (hs _ (by decide +kernel))) hel hA
  exact ⟨t, va_Zref (hts _ (in_t2 (List.mem_of_getElem? (i := 89) rfl))) (hts _ (gt_tbl wZ_X6)) h1 hA, h2⟩
theorem st_202 (hs : ∀ c ∈ flatC (Jvm.Cond.and given_1 narrow_1), c.before args s = true) (hts : ∀ w ∈ lw_tbl, w.before args s = true) (hA : ∀ a : Nat, a < s.heap.size → ¬ A a) : ∃ t : Nat, va_Z "CopierJobs" "TRAYS_MOST" "[I" (.ref t) A s s.heap ∧ va_T .int t (ln 202) (fun j => .int (sc 202 j)) A s s.heap := by
  have hel : ∀ j : Nat, j < 3 → (Term.elem (Term.static "CopierJobs" "TRAYS_MOST" "[I") (.int (Int32.ofNat j))).eval args s none [] s = some (.int (sc 202 j)) := fun j hj => by
    rcases (show j = 0 ∨ j = 1 ∨ j = 2 by omega) with rfl | rfl | rfl
    · exact va_eqt (z := 99) (hs (Cond.eq (.elem (Term.static "CopierJobs" "TRAYS_MOST" "[I") (.int 0)) (.int 99)) (by decide +kernel))
    · exact va_eqt (z := 99) (hs (Cond.eq (.elem (Term.static "CopierJobs" "TRAYS_MOST" "[I") (.int 1)) (.int 99)) (by decide +kernel))
    · exact va_eqt (z := 99) (hs (Cond.eq (.elem (Term.static "CopierJobs" "TRAYS_MOST" "[I") (.int 2)) (.int 99)) (by decide +kernel))
  obtain ⟨t, h1, h2⟩ := va_Tof (tm := (Term.static "CopierJobs" "TRAYS_MOST" "[I")) (N := 3) (ty := .int) (f := fun j => .int (sc 202 j)) (A := A) (args := args) (s := s) (by decide) (hs _ (by decide +kernel)) (va_eqt (z := 3) (hs _ (by decide +kernel))) hel hA
  exact ⟨t, va_Zref (hts _ (in_t2 (List.mem_of_getElem? (i := 91) rfl))) (hts _ (gt_tbl wZ_X6)) h1 hA, h2⟩
theorem st_203 (hs : ∀ c ∈ flatC (Jvm.Cond.and given_1 narrow_1), c.before args s = true) (hts : ∀ w ∈ lw_tbl, w.before args s = true) (hA : ∀ a : Nat, a < s.heap.size → ¬ A a) : ∃ t : Nat, va_Z "CopierJobs" "TONER_TOLD_LEAST" "[I" (.ref t) A s s.heap ∧ va_T .int t (ln 203) (fun j => .int (sc 203 j)) A s s.heap := by
  have hel : ∀ j : Nat, j < 1 → (Term.elem (Term.static "CopierJobs" "TONER_TOLD_LEAST" "[I") (.int (Int32.ofNat j))).eval args s none [] s = some (.int (sc 203 j)) := fun j hj => by
    obtain rfl : j = 0 := by omega
    exact va_eqt (z := 0) (hs (Cond.eq (.elem (Term.static "CopierJobs" "TONER_TOLD_LEAST" "[I") (.int 0)) (.int 0)) (by decide +kernel))
  obtain ⟨t, h1, h2⟩ := va_Tof (tm := (Term.static "CopierJobs" "TONER_TOLD_LEAST" "[I")) (N := 1) (ty := .int) (f := fun j => .int (sc 203 j)) (A := A) (args := args) (s := s) (by decide) (hs _ (by decide +kernel)) (va_eqt (z := 1) (hs _ (by decide +kernel))) hel hA
  exact ⟨t, va_Zref (hts _ (in_t2 (List.mem_of_getElem? (i := 104) rfl))) (hts _ (gt_tbl wZ_X6)) h1 hA, h2⟩
theorem st_204 (hs : ∀ c ∈ flatC (Jvm.Cond.and given_1 narrow_1), c.before args s = true) (hts : ∀ w ∈ lw_tbl, w.before args s = true) (hA : ∀ a : Nat, a < s.heap.size → ¬ A a) : ∃ t : Nat, va_Z "CopierJobs" "TONER_TOLD_MOST" "[I" (.ref t) A s s.heap ∧ va_T .int t (ln 204) (fun j => .int (sc 204 j)) A s s.heap := by
  have hel : ∀ j : Nat, j < 1 → (Term.elem (Term.static "CopierJobs" "TONER_TOLD_MOST" "[I") (.int (Int32.ofNat j))).eval args s none [] s = some (.int (sc 204 j)) := fun j hj => by
    obtain rfl : j = 0 := by omega
    exact va_eqt (z := 999) (hs (Cond.eq (.elem (Term.static "CopierJobs" "TONER_TOLD_MOST" "[I") (.int 0)) (.int 999)) (by decide +kernel))
  obtain ⟨t, h1, h2⟩ := va_Tof (tm := (Term.static "CopierJobs" "TONER_TOLD_MOST" "[I")) (N := 1) (ty := .int) (f := fun j => .int (sc 204 j)) (A := A) (args := args) (s := s) (by decide) (hs _ (by decide +kernel)) (va_eqt (z := 1) (hs _ (by decide +kernel))) hel hA
  exact ⟨t, va_Zref (hts _ (in_t2 (List.mem_of_getElem? (i := 106) rfl))) (hts _ (gt_tbl wZ_X6)) h1 hA, h2⟩
theorem st_205 (hs : ∀ c ∈ flatC (Jvm.Cond.and given_1 narrow_1), c.before args s = true) (hts : ∀ w ∈ lw_tbl, w.before args s = true) (hA : ∀ a : Nat, a < s.heap.size → ¬ A a) : ∃ t : Nat, va_Z "CopierJobs" "BINS_TOLD_LEAST" "[I" (.ref t) A s s.heap ∧ va_T .int t (ln 205) (fun j => .int (sc 205 j)) A s s.heap := by
  have hel : ∀ j : Nat, j < 1 → (Term.elem (Term.static "CopierJobs" "BINS_TOLD_LEAST" "[I") (.int (Int32.ofNat j))).eval args s none [] s = some (.int (sc 205 j)) := fun j hj => by
    obtain rfl : j = 0 := by omega
    exact va_eqt (z := 1) (hs (Cond.eq (.elem (Term.static "CopierJobs" "BINS_TOLD_LEAST" "[I") (.int 0)) (.int 1)) (by decide +kernel))
  obtain ⟨t, h1, h2⟩ := va_Tof (tm := (Term.static "CopierJobs" "BINS_TOLD_LEAST" "[I")) (N := 1) (ty := .int) (f := fun j => .int (sc 205 j)) (A := A) (args := args) (s := s) (by decide) (hs _ (by decide +kernel)) (va_eqt (z := 1) (hs _ (by decide +kernel))) hel hA
  exact ⟨t, va_Zref (hts _ (in_t2 (List.mem_of_getElem? (i := 112) rfl))) (hts _ (gt_tbl wZ_X6)) h1 hA, h2⟩
theorem st_206 (hs : ∀ c ∈ flatC (Jvm.Cond.and given_1 narrow_1), c.before args s = true) (hts : ∀ w ∈ lw_tbl, w.before args s = true) (hA : ∀ a : Nat, a < s.heap.size → ¬ A a) : ∃ t : Nat, va_Z "CopierJobs" "BINS_TOLD_MOST" "[I" (.ref t) A s s.heap ∧ va_T .int t (ln 206) (fun j => .int (sc 206 j)) A s s.heap := by
  have hel : ∀ j : Nat, j < 1 → (Term.elem (Term.static "CopierJobs" "BINS_TOLD_MOST" "[I") (.int (Int32.ofNat j))).eval args s none [] s = some (.int (sc 206 j)) := fun j hj => by
    obtain rfl : j = 0 := by omega
    exact va_eqt (z := 6) (hs (Cond.eq (.elem (Term.static "CopierJobs" "BINS_TOLD_MOST" "[I") (.int 0)) (.int 6)) (by decide +kernel))
  obtain ⟨t, h1, h2⟩ := va_Tof (tm := (Term.static "CopierJobs" "BINS_TOLD_MOST" "[I")) (N := 1) (ty := .int) (f := fun j => .int (sc 206 j)) (A := A) (args := args) (s := s) (by decide) (hs _ (by decide +kernel)) (va_eqt (z := 1) (hs _ (by decide +kernel))) hel hA
  exact ⟨t, va_Zref (hts _ (in_t2 (List.mem_of_getElem? (i := 114) rfl))) (hts _ (gt_tbl wZ_X6)) h1 hA, h2⟩
theorem st_207 (hs : ∀ c ∈ flatC (Jvm.Cond.and given_1 narrow_1), c.before args s = true) (hts : ∀ w ∈ lw_tbl, w.before args s = true) (hA : ∀ a : Nat, a < s.heap.size → ¬ A a) : ∃ t : Nat, va_Z "CopierJobs" "JOB_MOST" "[I" (.ref t) A s s.heap ∧ va_T .int t (ln 207) (fun j => .int (sc 207 j)) A s s.heap := by
  have hel : ∀ j : Nat, j < 5 → (Term.elem (Term.static "CopierJobs" "JOB_MOST" "[I") (.int (Int32.ofNat j))).eval args s none [] s = some (.int (sc 207 j)) := fun j hj => by
    rcases (show j = 0 ∨ j = 1 ∨ j = 2 ∨ j = 3 ∨ j = 4 by omega) with rfl | rfl | rfl | rfl | rfl
    · exact va_eqt (z := 9) (hs (Cond.eq (.elem (Term.static "CopierJobs" "JOB_MOST" "[I") (.int 0)) (.int 9)) (by decide +kernel))
    · exact va_eqt (z := 9) (hs (Cond.eq (.elem (Term.static "CopierJobs" "JOB_MOST" "[I") (.int 1)) (.int 9)) (by decide +kernel))
    · exact va_eqt (z := 1) (hs (Cond.eq (.elem (Term.static "CopierJobs" "JOB_MOST" "[I") (.int 2)) (.int 1)) (by decide +kernel))
    · exact va_eqt (z := 1) (hs (Cond.eq (.elem (Term.static "CopierJobs" "JOB_MOST" "[I") (.int 3)) (.int 1)) (by decide +kernel))
    · exact va_eqt (z := 2) (hs (Cond.eq (.elem (Term.static "CopierJobs" "JOB_MOST" "[I") (.int 4)) (.int 2)) (by decide +kernel))
  obtain ⟨t, h1, h2⟩ := va_Tof (tm := (Term.static "CopierJobs" "JOB_MOST" "[I")) (N := 5) (ty := .int) (f := fun j => .int (sc 207 j)) (A := A) (args := args) (s := s) (by decide) (hs _ (by decide +kernel)) (va_eqt (z := 5) (hs _ (by decide +kernel))) hel hA
  exact ⟨t, va_Zref (hts _ (in_t2 (List.mem_of_getElem? (i := 120) rfl))) (hts _ (gt_tbl wZ_X6)) h1 hA, h2⟩
theorem st_208 (hs : ∀ c ∈ flatC (Jvm.Cond.and given_1 narrow_1), c.before args s = true) (hts : ∀ w ∈ lw_tbl, w.before args s = true) (hA : ∀ a : Nat, a < s.heap.size → ¬ A a) : ∃ t : Nat, va_Z "CopierJobs" "KIND_ABOVE" "[I" (.ref t) A s s.heap ∧ va_T .int t (ln 208) (fun j => .int (sc 208 j)) A s s.heap := by
  have hel : ∀ j : Nat, j < 6 → (Term.elem (Term.static "CopierJobs" "KIND_ABOVE" "[I") (.int (Int32.ofNat j))).eval args s none [] s = some (.int (sc 208 j)) := fun j hj => by
    rcases (show j = 0 ∨ j = 1 ∨ j = 2 ∨ j = 3 ∨ j = 4 ∨ j = 5 by omega) with rfl | rfl | rfl | rfl | rfl | rfl
    · exact va_eqt (z := (-9)) (hs (Cond.eq (.elem (Term.static "CopierJobs" "KIND_ABOVE" "[I") (.int 0)) (.int (-9))) (by decide +kernel))
    · exact va_eqt (z := 0) (hs (Cond.eq (.elem (Term.static "CopierJobs" "KIND_ABOVE" "[I") (.int 1)) (.int 0)) (by decide +kernel))
    · exact va_eqt (z := 0) (hs (Cond.eq (.elem (Term.static "CopierJobs" "KIND_ABOVE" "[I") (.int 2)) (.int 0)) (by decide +kernel))
    · exact va_eqt (z := 1) (hs (Cond.eq (.elem (Term.static "CopierJobs" "KIND_ABOVE" "[I") (.int 3)) (.int 1)) (by decide +kernel))
    · exact va_eqt (z := 2) (hs (Cond.eq (.elem (Term.static "CopierJobs" "KIND_ABOVE" "[I") (.int 4)) (.int 2)) (by decide +kernel))
    · exact va_eqt (z := 0) (hs (Cond.eq (.elem (Term.static "CopierJobs" "KIND_ABOVE" "[I") (.int 5)) (.int 0)) (by decide +kernel))
  obtain ⟨t, h1, h2⟩ := va_Tof (tm := (Term.static "CopierJobs" "KIND_ABOVE" "[I")) (N := 6) (ty := .int) (f := fun j => .int (sc 208 j)) (A := A) (args := args) (s := s) (by decide) (hs _ (by decide +kernel)) (va_eqt (z := 6) (hs _ (by decide +kernel))) hel hA
  exact ⟨t, va_Zref (hts _ (in_t3 (List.mem_of_getElem? (i := 163) rfl))) (hts _ (gt_tbl wZ_X6)) h1 hA, h2⟩
theorem st_209 (hs : ∀ c ∈ flatC (Jvm.Cond.and given_1 narrow_1), c.before args s = true) (hts : ∀ w ∈ lw_tbl, w.before args s = true) (hA : ∀ a : Nat, a < s.heap.size → ¬ A a) : ∃ t : Nat, va_Z "CopierJobs" "KIND_TRACE" "[I" (.ref t) A s s.heap ∧ va_T .int t (ln 209) (fun j => .int (sc 209 j)) A s s.heap := by
  have hel : ∀ j : Nat, j < 6 → (Term.elem (Term.static "CopierJobs" "KIND_TRACE" "[I") (.int (Int32.ofNat j))).eval args s none [] s = some (.int (sc 209 j)) := fun j hj => by
    rcases (show j = 0 ∨ j = 1 ∨ j = 2 ∨ j = 3 ∨ j = 4 ∨ j = 5 by omega) with rfl | rfl | rfl | rfl | rfl | rfl
    · exact va_eqt (z := 1) (hs (Cond.eq (.elem (Term.static "CopierJobs" "KIND_TRACE" "[I") (.int 0)) (.int 1)) (by decide +kernel))
    · exact va_eqt (z := 10) (hs (Cond.eq (.elem (Term.static "CopierJobs" "KIND_TRACE" "[I") (.int 1)) (.int 10)) (by decide +kernel))
    · exact va_eqt (z := 100) (hs (Cond.eq (.elem (Term.static "CopierJobs" "KIND_TRACE" "[I") (.int 2)) (.int 100)) (by decide +kernel))
    · exact va_eqt (z := 1000) (hs (Cond.eq (.elem (Term.static "CopierJobs" "KIND_TRACE" "[I") (.int 3)) (.int 1000)) (by decide +kernel))
    · exact va_eqt (z := 10000) (hs (Cond.eq (.elem (Term.static "CopierJobs" "KIND_TRACE" "[I") (.int 4)) (.int 10000)) (by decide +kernel))
    · exact va_eqt (z := 100000) (hs (Cond.eq (.elem (Term.static "CopierJobs" "KIND_TRACE" "[I") (.int 5)) (.int 100000)) (by decide +kernel))
  obtain ⟨t, h1, h2⟩ := va_Tof (tm := (Term.static "CopierJobs" "KIND_TRACE" "[I")) (N := 6) (ty := .int) (f := fun j => .int (sc 209 j)) (A := A) (args := args) (s := s) (by decide) (hs _ (by decide +kernel)) (va_eqt (z := 6) (hs _ (by decide +kernel))) hel hA
  exact ⟨t, va_Zref (hts _ (in_t3 (List.mem_of_getElem? (i := 170) rfl))) (hts _ (gt_tbl wZ_X6)) h1 hA, h2⟩
end START
theorem start_C {args : Array Value} {s : State} (hts : ∀ w ∈ lw_tbl, w.before args s = true) (hgv : (Jvm.Cond.and given_1 narrow_1).before args s = true) : ∃ (D : va_G) (cA : Nat → ClassId) (sa : Nat → Nat), Cz (zz D cA sa s.heap.size) s := by
  have hs := flat_of_before _ hgv
  have hA : ∀ a : Nat, a < s.heap.size → ¬ (fun q : Nat => s.heap.size ≤ q) a := fun a h q => by have : s.heap.size ≤ a := q; omega
  obtain ⟨c0, i0, k0⟩ := u_known (C := RX0) (T := TX0) (N := 4) (n := 4) hts (fun w hw => gt_tbl (hin_X0 w hw)) (hts _ (gt_tbl wU_X0))
  obtain ⟨c1, i1, k1⟩ := u_known (C := RX1) (T := TX1) (N := 7) (n := 7) hts (fun w hw => gt_tbl (hin_X1 w hw)) (hts _ (gt_tbl wU_X1))
  obtain ⟨c2, i2, k2⟩ := u_known (C := RX2) (T := TX2) (N := 9) (n := 9) hts (fun w hw => gt_tbl (hin_X2 w hw)) (hts _ (gt_tbl wU_X2))
  obtain ⟨c3, i3, k3⟩ := u_known (C := RX3) (T := TX3) (N := 9) (n := 9) hts (fun w hw => gt_tbl (hin_X3 w hw)) (hts _ (gt_tbl wU_X3))
  obtain ⟨c4, i4, k4⟩ := u_known (C := RX4) (T := TX4) (N := 5) (n := 5) hts (fun w hw => gt_tbl (hin_X4 w hw)) (hts _ (gt_tbl wU_X4))
  obtain ⟨c5, i5, k5⟩ := u_known (C := RX5) (T := TX5) (N := 6) (n := 6) hts (fun w hw => gt_tbl (hin_X5 w hw)) (hts _ (gt_tbl wU_X5))
  obtain ⟨c6, i6, k6⟩ := u_known (C := RX6) (T := TX6) (N := 9) (n := 9) hts (fun w hw => gt_tbl (hin_X6 w hw)) (hts _ (gt_tbl wU_X6))
  obtain ⟨c7, i7, k7⟩ := u_known (C := RX7) (T := TX7) (N := 28) (n := 28) hts (fun w hw => gt_tbl (hin_X7 w hw)) (hts _ (gt_tbl wU_X7))
  obtain ⟨r0, u0⟩ := ar_int (hts _ (gt_tbl wA_int))
  obtain ⟨r1, u1⟩ := ar_boolean (hts _ (gt_tbl wA_boolean))
  have o2 : (Cond.arrayOver (.object "CopierJobs$Course")).before args s = true := hts _ (in_t1 (List.mem_of_getElem? (i := 138) rfl))
  have o3 : (Cond.arrayOver (.object "CopierJobs$Job")).before args s = true := hts _ (in_t1 (List.mem_of_getElem? (i := 146) rfl))
  have o4 : (Cond.arrayOver (.object "CopierJobs$Now")).before args s = true := hts _ (in_t1 (List.mem_of_getElem? (i := 96) rfl))
  obtain ⟨r2, u2⟩ := ar_object o2
  obtain ⟨r3, u3⟩ := ar_object o3
  obtain ⟨r4, u4⟩ := ar_object o4
  obtain ⟨t200, s200⟩ := st_200 hs hts hA
  obtain ⟨t201, s201⟩ := st_201 hs hts hA
  obtain ⟨t202, s202⟩ := st_202 hs hts hA
  obtain ⟨t203, s203⟩ := st_203 hs hts hA
  obtain ⟨t204, s204⟩ := st_204 hs hts hA
  obtain ⟨t205, s205⟩ := st_205 hs hts hA
  obtain ⟨t206, s206⟩ := st_206 hs hts hA
  obtain ⟨t207, s207⟩ := st_207 hs hts hA
  obtain ⟨t208, s208⟩ := st_208 hs hts hA
  obtain ⟨t209, s209⟩ := st_209 hs hts hA
  refine ⟨(fun k => if k = 0 then c0 else if k = 1 then c1 else if k = 2 then c2 else if k = 3 then c3 else if k = 4 then c4 else if k = 5 then c5 else if k = 6 then c6 else c7, fun k => if k = 0 then i0 else if k = 1 then i1 else if k = 2 then i2 else if k = 3 then i3 else if k = 4 then i4 else if k = 5 then i5 else if k = 6 then i6 else i7), fun k => if k = 0 then r0 else if k = 1 then r1 else if k = 2 then r2 else if k = 3 then r3 else r4, fun k => if k = 200 then t200 else if k = 201 then t201 else if k = 202 then t202 else if k = 203 then t203 else if k = 204 then t204 else if k = 205 then t205 else if k = 206 then t206 else if k = 207 then t207 else if k = 208 then t208 else t209, ⟨fun c q hq => ?_, fun k q hq => ?_⟩, fun w hw => ?_, fun k h1 h2 => ?_, va_AO.of o2, va_AO.of o3, va_AO.of o4⟩
  · match c, hq with
    | 0, hq => cases hq; exact k0
    | 1, hq => cases hq; exact k1
    | 2, hq => cases hq; exact k2
    | 3, hq => cases hq; exact k3
    | 4, hq => cases hq; exact k4
    | 5, hq => cases hq; exact k5
    | 6, hq => cases hq; exact k6
    | 7, hq => cases hq; exact k7
    | c + 8, hq => simp [vwCl] at hq
  · match k, hq with
    | 0, hq => cases hq; exact u0
    | 1, hq => cases hq; exact u1
    | 2, hq => cases hq; exact u2
    | 3, hq => cases hq; exact u3
    | 4, hq => cases hq; exact u4
    | k + 5, hq => simp [zT] at hq
  · have h1 := hts w (List.mem_filter.mp hw).1
    have h2 := (List.mem_filter.mp hw).2
    cases w <;> first | exact va_Nw.of rfl h1 | (simp [lw_isN] at h2; done)
  · rcases (show k = 200 ∨ k = 201 ∨ k = 202 ∨ k = 203 ∨ k = 204 ∨ k = 205 ∨ k = 206 ∨ k = 207 ∨ k = 208 ∨ k = 209 by omega) with rfl | rfl | rfl | rfl | rfl | rfl | rfl | rfl | rfl | rfl
    · exact s200
    · exact s201
    · exact s202
    · exact s203
    · exact s204
    · exact s205
    · exact s206
    · exact s207
    · exact s208
    · exact s209
