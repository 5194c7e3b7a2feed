/-! the law's loop: its mirror, its walk; both states at once -/
abbrev wp (z : zE) : zG × zG → Nat → Nat → va_E := fun w => cel z w.1 w.2
section LAWR
variable {p : Program} {l : Launch} {e : Env} {R : Room} {s : State} {m : MethodId} {args : Array Value} {below : List Frame} {meth : Method} {c : Code} {cc : ByteArray} {nL : Nat} {own : String} {δ : Nat → Nat} {z : zE} {cells slots : Nat} {ρ : Type} {fin : ρ → zG × zG → List Value → Prop} {ri : Instr} {Q : ρ → State → Prop} {pc q : Nat} {lv : List (Nat × Value)} {st stk rest : List Value} {gx gm : zG} {g : zG × zG} {M0 : Option ρ}
theorem j_xs {M : Option (Int32 × zG)} {f : Int32 → zG → Option ρ} (hr : RN δ p l e R s m args below meth c cc nL own z cells slots (wp z) pc stk rest (gx, gm) M osi (fun x => (x.2, gm))) (hq : pc + 3 = q) (hk : ∀ (x : Int32) (g1 : zG), zJ δ p l e R s m args below meth c cc nL own z cells slots (wp z) fin ri Q q lv (.int x :: rest) (g1, gm) (f x g1)) : zJ δ p l e R s m args below meth c cc nL own z cells slots (wp z) fin ri Q pc lv stk (gx, gm) (sb M f) := j_call (f := fun x : Int32 × zG => f x.1 x.2) hr hq (fun x => hk x.1 x.2)
theorem j_xm {M : Option (Int32 × zG)} {f : Int32 → zG → Option ρ} (hr : RN δ p l e R s m args below meth c cc nL own z cells slots (wp z) pc stk rest (gx, gm) M osi (fun x => (gx, x.2))) (hq : pc + 3 = q) (hk : ∀ (x : Int32) (g1 : zG), zJ δ p l e R s m args below meth c cc nL own z cells slots (wp z) fin ri Q q lv (.int x :: rest) (gx, g1) (f x g1)) : zJ δ p l e R s m args below meth c cc nL own z cells slots (wp z) fin ri Q pc lv stk (gx, gm) (sb M f) := j_call (f := fun x : Int32 × zG => f x.1 x.2) hr hq (fun x => hk x.1 x.2)
theorem j_scr {b L : Nat} {xs : Nat → Int32} {ix : Int32} (hX : va_X b L xs s s.heap) (hb : b < zN z ∧ b < s.heap.size) (d : decode cc pc = .ok (.iaload, 1)) (hq : pc + 1 = q) (k : zJ δ p l e R s m args below meth c cc nL own z cells slots (wp z) fin ri Q q lv (.int (xs ix.toNatClampNeg) :: st) g M0) : zJ δ p l e R s m args below meth c cc nL own z cells slots (wp z) fin ri Q pc lv (.int ix :: .ref b :: st) g (gd (inb ix L = true) M0) := by
  intro hF hE x9 hx9 H locs ls hW hS hl; subst hq
  exact va_sld hF.1.1 hF.1.2.1 hX hb.2 (Nat.not_le.mpr hb.1) hS (inb_in (gd_some hx9).1) d (k hF hE x9 (gd_some hx9).2 H locs ls hW hS hl)
theorem j_scl {b L : Nat} {xs : Nat → Int32} (hX : va_X b L xs s s.heap) (hb : b < zN z ∧ b < s.heap.size) (d : decode cc pc = .ok (.arraylength, 1)) (hq : pc + 1 = q) (k : zJ δ p l e R s m args below meth c cc nL own z cells slots (wp z) fin ri Q q lv (.int (Int32.ofNat L) :: st) g M0) : zJ δ p l e R s m args below meth c cc nL own z cells slots (wp z) fin ri Q pc lv (.ref b :: st) g M0 := by
  intro hF hE x9 hx9 H locs ls hW hS hl; subst hq
  exact va_slen hF.1.1 hF.1.2.1 hX hb.2 (Nat.not_le.mpr hb.1) hS d (k hF hE x9 hx9 H locs ls hW hS hl)
end LAWR
def m_L_law (xs : Nat → Int32) (L : Nat) : Nat → zG → zG → Int32 → Option Int32
  | 0, _, _, _ => none
  | f + 1, gx, gm, i => if ((nI L) - (nI 5)) < i then some (nI 1) else gd (inb i L = true) (bd ((xs i.toNatClampNeg) &&& (nI 31)) fun v => if v = (nI 0) then (gd (inb (i + (nI 1)) L = true) (sb (m_X6_type gx (xs (i + (nI 1)).toNatClampNeg)) fun r1 g1 => gd (inb (i + (nI 1)) L = true) (sb (m_X7_type gm (xs (i + (nI 1)).toNatClampNeg)) fun r2 g2 => if r1 = r2 then m_L_law xs L f g1 g2 (i + nI 5) else some (nI 0)))) else if v = (nI 1) then (sb (m_X6_clear gx) fun r3 g3 => sb (m_X7_clear gm) fun r4 g4 => if r3 = r4 then m_L_law xs L f g3 g4 (i + nI 5) else some (nI 0)) else if v = (nI 2) then (sb (m_X6_office gx) fun r5 g5 => sb (m_X7_office gm) fun r6 g6 => if r5 = r6 then m_L_law xs L f g5 g6 (i + nI 5) else some (nI 0)) else if v = (nI 3) then (gd (inb (i + (nI 1)) L = true) (gd (inb (i + (nI 2)) L = true) (sb (m_X6_job gx (xs (i + (nI 1)).toNatClampNeg) (xs (i + (nI 2)).toNatClampNeg)) fun r7 g7 => gd (inb (i + (nI 1)) L = true) (gd (inb (i + (nI 2)) L = true) (sb (m_X7_job gm (xs (i + (nI 1)).toNatClampNeg) (xs (i + (nI 2)).toNatClampNeg)) fun r8 g8 => if r7 = r8 then m_L_law xs L f g7 g8 (i + nI 5) else some (nI 0)))))) else if v = (nI 4) then (gd (inb (i + (nI 1)) L = true) (gd (inb (i + (nI 2)) L = true) (gd (inb (i + (nI 3)) L = true) ((m_X6_sheet gx (xs (i + (nI 1)).toNatClampNeg) (xs (i + (nI 2)).toNatClampNeg) (xs (i + (nI 3)).toNatClampNeg)).bind fun r9 => gd (inb (i + (nI 1)) L = true) (gd (inb (i + (nI 2)) L = true) (gd (inb (i + (nI 3)) L = true) ((m_X7_sheet gm (xs (i + (nI 1)).toNatClampNeg) (xs (i + (nI 2)).toNatClampNeg) (xs (i + (nI 3)).toNatClampNeg)).bind fun r10 => if r9 = r10 then m_L_law xs L f gx gm (i + nI 5) else some (nI 0)))))))) else if v = (nI 5) then (gd (inb (i + (nI 1)) L = true) (gd (inb (i + (nI 2)) L = true) (gd (inb (i + (nI 3)) L = true) ((m_X6_where gx (xs (i + (nI 1)).toNatClampNeg) (xs (i + (nI 2)).toNatClampNeg) (xs (i + (nI 3)).toNatClampNeg)).bind fun r11 => gd (inb (i + (nI 1)) L = true) (gd (inb (i + (nI 2)) L = true) (gd (inb (i + (nI 3)) L = true) ((m_X7_where gm (xs (i + (nI 1)).toNatClampNeg) (xs (i + (nI 2)).toNatClampNeg) (xs (i + (nI 3)).toNatClampNeg)).bind fun r12 => if r11 = r12 then m_L_law xs L f gx gm (i + nI 5) else some (nI 0)))))))) else if v = (nI 6) then (gd (inb (i + (nI 1)) L = true) (gd (inb (i + (nI 2)) L = true) ((m_X6_tray gx (xs (i + (nI 1)).toNatClampNeg) (xs (i + (nI 2)).toNatClampNeg)).bind fun r13 => gd (inb (i + (nI 1)) L = true) (gd (inb (i + (nI 2)) L = true) ((m_X7_tray gm (xs (i + (nI 1)).toNatClampNeg) (xs (i + (nI 2)).toNatClampNeg)).bind fun r14 => if r13 = r14 then m_L_law xs L f gx gm (i + nI 5) else some (nI 0)))))) else if v = (nI 7) then (gd (inb (i + (nI 1)) L = true) ((m_X6_bin gx (xs (i + (nI 1)).toNatClampNeg)).bind fun r15 => gd (inb (i + (nI 1)) L = true) ((m_X7_bin gm (xs (i + (nI 1)).toNatClampNeg)).bind fun r16 => if r15 = r16 then m_L_law xs L f gx gm (i + nI 5) else some (nI 0)))) else if v = (nI 8) then (gd (inb (i + (nI 1)) L = true) (sb (m_X6_ticks gx (xs (i + (nI 1)).toNatClampNeg)) fun r17 g17 => gd (inb (i + (nI 1)) L = true) (sb (m_X7_ticks gm (xs (i + (nI 1)).toNatClampNeg)) fun r18 g18 => if r17 = r18 then m_L_law xs L f g17 g18 (i + nI 5) else some (nI 0)))) else if v = (nI 9) then (gd (inb (i + (nI 1)) L = true) (sb (m_X6_ahead gx (xs (i + (nI 1)).toNatClampNeg)) fun r19 g19 => gd (inb (i + (nI 1)) L = true) (sb (m_X7_ahead gm (xs (i + (nI 1)).toNatClampNeg)) fun r20 g20 => if r19 = r20 then m_L_law xs L f g19 g20 (i + nI 5) else some (nI 0)))) else if v = (nI 10) then (gd (inb (i + (nI 1)) L = true) (sb (m_X6_breaks gx (xs (i + (nI 1)).toNatClampNeg)) fun r21 g21 => gd (inb (i + (nI 1)) L = true) (sb (m_X7_breaks gm (xs (i + (nI 1)).toNatClampNeg)) fun r22 g22 => if r21 = r22 then m_L_law xs L f g21 g22 (i + nI 5) else some (nI 0)))) else if v = (nI 11) then (gd (inb (i + (nI 1)) L = true) (gd (inb (i + (nI 2)) L = true) (sb (m_X6_fills gx (xs (i + (nI 1)).toNatClampNeg) (xs (i + (nI 2)).toNatClampNeg)) fun r23 g23 => gd (inb (i + (nI 1)) L = true) (gd (inb (i + (nI 2)) L = true) (sb (m_X7_fills gm (xs (i + (nI 1)).toNatClampNeg) (xs (i + (nI 2)).toNatClampNeg)) fun r24 g24 => if r23 = r24 then m_L_law xs L f g23 g24 (i + nI 5) else some (nI 0)))))) else if v = (nI 12) then (gd (inb (i + (nI 1)) L = true) (sb (m_X6_toner gx (xs (i + (nI 1)).toNatClampNeg)) fun r25 g25 => gd (inb (i + (nI 1)) L = true) (sb (m_X7_toner gm (xs (i + (nI 1)).toNatClampNeg)) fun r26 g26 => if r25 = r26 then m_L_law xs L f g25 g26 (i + nI 5) else some (nI 0)))) else if v = (nI 13) then (gd (inb (i + (nI 1)) L = true) (sb (m_X6_empties gx (xs (i + (nI 1)).toNatClampNeg)) fun r27 g27 => gd (inb (i + (nI 1)) L = true) (sb (m_X7_empties gm (xs (i + (nI 1)).toNatClampNeg)) fun r28 g28 => if r27 = r28 then m_L_law xs L f g27 g28 (i + nI 5) else some (nI 0)))) else if v = (nI 14) then (sb (m_X6_undo gx) fun r29 g29 => sb (m_X7_undo gm) fun r30 g30 => if r29 = r30 then m_L_law xs L f g29 g30 (i + nI 5) else some (nI 0)) else if v = (nI 15) then (gd (inb (i + (nI 1)) L = true) ((m_X6_now gx (xs (i + (nI 1)).toNatClampNeg)).bind fun r31 => gd (inb (i + (nI 1)) L = true) ((m_X7_now gm (xs (i + (nI 1)).toNatClampNeg)).bind fun r32 => if r31 = r32 then m_L_law xs L f gx gm (i + nI 5) else some (nI 0)))) else if v = (nI 16) then (gd (inb (i + (nI 1)) L = true) ((m_X6_soon gx (xs (i + (nI 1)).toNatClampNeg)).bind fun r33 => gd (inb (i + (nI 1)) L = true) ((m_X7_soon gm (xs (i + (nI 1)).toNatClampNeg)).bind fun r34 => if r33 = r34 then m_L_law xs L f gx gm (i + nI 5) else some (nI 0)))) else if v = (nI 17) then (gd (inb (i + (nI 1)) L = true) (gd (inb (i + (nI 2)) L = true) (gd (inb (i + (nI 3)) L = true) (gd (inb (i + (nI 4)) L = true) ((m_X6_odds gx (xs (i + (nI 1)).toNatClampNeg) (xs (i + (nI 2)).toNatClampNeg) (xs (i + (nI 3)).toNatClampNeg) (xs (i + (nI 4)).toNatClampNeg)).bind fun r35 => gd (inb (i + (nI 1)) L = true) (gd (inb (i + (nI 2)) L = true) (gd (inb (i + (nI 3)) L = true) (gd (inb (i + (nI 4)) L = true) ((m_X7_odds gm (xs (i + (nI 1)).toNatClampNeg) (xs (i + (nI 2)).toNatClampNeg) (xs (i + (nI 3)).toNatClampNeg) (xs (i + (nI 4)).toNatClampNeg)).bind fun r36 => if r35 = r36 then m_L_law xs L f gx gm (i + nI 5) else some (nI 0)))))))))) else if v = (nI 18) then (gd (inb (i + (nI 1)) L = true) (gd (inb (i + (nI 2)) L = true) (gd (inb (i + (nI 3)) L = true) (sb (m_X6_sees gx (xs (i + (nI 1)).toNatClampNeg) (xs (i + (nI 2)).toNatClampNeg) (xs (i + (nI 3)).toNatClampNeg)) fun r37 g37 => gd (inb (i + (nI 1)) L = true) (gd (inb (i + (nI 2)) L = true) (gd (inb (i + (nI 3)) L = true) (sb (m_X7_sees gm (xs (i + (nI 1)).toNatClampNeg) (xs (i + (nI 2)).toNatClampNeg) (xs (i + (nI 3)).toNatClampNeg)) fun r38 g38 => if r37 = r38 then m_L_law xs L f g37 g38 (i + nI 5) else some (nI 0)))))))) else if v = (nI 19) then (sb (m_X6_forget gx) fun r39 g39 => sb (m_X7_forget gm) fun r40 g40 => if r39 = r40 then m_L_law xs L f g39 g40 (i + nI 5) else some (nI 0)) else if v = (nI 20) then ((m_X6_whose gx).bind fun r41 => (m_X7_whose gm).bind fun r42 => if r41 = r42 then m_L_law xs L f gx gm (i + nI 5) else some (nI 0)) else if v = (nI 21) then (sb (m_X6_look gx) fun r43 g43 => (m_X7_look gm).bind fun r44 => if r43 = r44 then m_L_law xs L f g43 gm (i + nI 5) else some (nI 0)) else if v = (nI 22) then (gd (inb (i + (nI 1)) L = true) (gd (inb (i + (nI 2)) L = true) (sb (m_X6_mark gx (xs (i + (nI 1)).toNatClampNeg) (xs (i + (nI 2)).toNatClampNeg)) fun r45 g45 => gd (inb (i + (nI 1)) L = true) (gd (inb (i + (nI 2)) L = true) (sb (m_X7_mark gm (xs (i + (nI 1)).toNatClampNeg) (xs (i + (nI 2)).toNatClampNeg)) fun r46 g46 => if r45 = r46 then m_L_law xs L f g45 g46 (i + nI 5) else some (nI 0)))))) else if v = (nI 23) then (gd (inb (i + (nI 1)) L = true) (sb (m_X6_keep gx (xs (i + (nI 1)).toNatClampNeg)) fun r47 g47 => gd (inb (i + (nI 1)) L = true) (sb (m_X7_keep gm (xs (i + (nI 1)).toNatClampNeg)) fun r48 g48 => if r47 = r48 then m_L_law xs L f g47 g48 (i + nI 5) else some (nI 0)))) else if v = (nI 24) then (gd (inb (i + (nI 1)) L = true) (sb (m_X6_back gx (xs (i + (nI 1)).toNatClampNeg)) fun r49 g49 => gd (inb (i + (nI 1)) L = true) (sb (m_X7_back gm (xs (i + (nI 1)).toNatClampNeg)) fun r50 g50 => if r49 = r50 then m_L_law xs L f g49 g50 (i + nI 5) else some (nI 0)))) else if v = (nI 25) then (gd (inb (i + (nI 1)) L = true) ((m_X6_count gx (xs (i + (nI 1)).toNatClampNeg)).bind fun r51 => gd (inb (i + (nI 1)) L = true) ((m_X7_count gm (xs (i + (nI 1)).toNatClampNeg)).bind fun r52 => if r51 = r52 then m_L_law xs L f gx gm (i + nI 5) else some (nI 0)))) else if v = (nI 26) then ((m_X6_trace gx).bind fun r53 => (m_X7_trace gm).bind fun r54 => if (lg_cmp r53 r54) = (nI 0) then m_L_law xs L f gx gm (i + nI 5) else some (nI 0)) else (m_L_law xs L f gx gm (i + nI 5)))
set_option maxRecDepth 100000 in
set_option maxHeartbeats 40000000 in
theorem t_L_law {p : Program} {l : Launch} {e : Env} {s : State} {m : MethodId} {args : Array Value} {below : List Frame} {meth : Method} {c : Code} {cells slots : Nat} {Q : Int32 → State → Prop} (z : zE) (b L : Nat) (xs : Nat → Int32) (hX : va_X b L xs s s.heap) (hb : b < zN z ∧ b < s.heap.size) : ∀ (f : Nat) (gx gm : zG) (i : Int32), zJ dm p l e room_1 s m args below meth c code 4 RL z cells slots (wp z) (fun (x : Int32) (_ : zG × zG) v => v = [.int x]) .ireturn Q 18 [(0, .ref b), (1, .ref (za z 76 0)), (2, .ref (za z 77 0)), (3, .int i)] [] (gx, gm) (m_L_law xs L f gx gm i) := by
  intro f
  induction f with
  | zero => intro gx gm i; exact j_none
  | succ f ih =>
    intro gx gm i
    refine j_eq (M2 := if ((nI L) - (nI 5)) < i then some (nI 1) else gd (inb i L = true) (bd ((xs i.toNatClampNeg) &&& (nI 31)) fun v => if v = (nI 0) then (gd (inb (i + (nI 1)) L = true) (sb (m_X6_type gx (xs (i + (nI 1)).toNatClampNeg)) fun r1 g1 => gd (inb (i + (nI 1)) L = true) (sb (m_X7_type gm (xs (i + (nI 1)).toNatClampNeg)) fun r2 g2 => if r1 = r2 then m_L_law xs L f g1 g2 (i + nI 5) else some (nI 0)))) else if v = (nI 1) then (sb (m_X6_clear gx) fun r3 g3 => sb (m_X7_clear gm) fun r4 g4 => if r3 = r4 then m_L_law xs L f g3 g4 (i + nI 5) else some (nI 0)) else if v = (nI 2) then (sb (m_X6_office gx) fun r5 g5 => sb (m_X7_office gm) fun r6 g6 => if r5 = r6 then m_L_law xs L f g5 g6 (i + nI 5) else some (nI 0)) else if v = (nI 3) then (gd (inb (i + (nI 1)) L = true) (gd (inb (i + (nI 2)) L = true) (sb (m_X6_job gx (xs (i + (nI 1)).toNatClampNeg) (xs (i + (nI 2)).toNatClampNeg)) fun r7 g7 => gd (inb (i + (nI 1)) L = true) (gd (inb (i + (nI 2)) L = true) (sb (m_X7_job gm (xs (i + (nI 1)).toNatClampNeg) (xs (i + (nI 2)).toNatClampNeg)) fun r8 g8 => if r7 = r8 then m_L_law xs L f g7 g8 (i + nI 5) else some (nI 0)))))) else if v = (nI 4) then (gd (inb (i + (nI 1)) L = true) (gd (inb (i + (nI 2)) L = true) (gd (inb (i + (nI 3)) L = true) ((m_X6_sheet gx (xs (i + (nI 1)).toNatClampNeg) (xs (i + (nI 2)).toNatClampNeg) (xs (i + (nI 3)).toNatClampNeg)).bind fun r9 => gd (inb (i + (nI 1)) L = true) (gd (inb (i + (nI 2)) L = true) (gd (inb (i + (nI 3)) L = true) ((m_X7_sheet gm (xs (i + (nI 1)).toNatClampNeg) (xs (i + (nI 2)).toNatClampNeg) (xs (i + (nI 3)).toNatClampNeg)).bind fun r10 => if r9 = r10 then m_L_law xs L f gx gm (i + nI 5) else some (nI 0)))))))) else if v = (nI 5) then (gd (inb (i + (nI 1)) L = true) (gd (inb (i + (nI 2)) L = true) (gd (inb (i + (nI 3)) L = true) ((m_X6_where gx (xs (i + (nI 1)).toNatClampNeg) (xs (i + (nI 2)).toNatClampNeg) (xs (i + (nI 3)).toNatClampNeg)).bind fun r11 => gd (inb (i + (nI 1)) L = true) (gd (inb (i + (nI 2)) L = true) (gd (inb (i + (nI 3)) L = true) ((m_X7_where gm (xs (i + (nI 1)).toNatClampNeg) (xs (i + (nI 2)).toNatClampNeg) (xs (i + (nI 3)).toNatClampNeg)).bind fun r12 => if r11 = r12 then m_L_law xs L f gx gm (i + nI 5) else some (nI 0)))))))) else if v = (nI 6) then (gd (inb (i + (nI 1)) L = true) (gd (inb (i + (nI 2)) L = true) ((m_X6_tray gx (xs (i + (nI 1)).toNatClampNeg) (xs (i + (nI 2)).toNatClampNeg)).bind fun r13 => gd (inb (i + (nI 1)) L = true) (gd (inb (i + (nI 2)) L = true) ((m_X7_tray gm (xs (i + (nI 1)).toNatClampNeg) (xs (i + (nI 2)).toNatClampNeg)).bind fun r14 => if r13 = r14 then m_L_law xs L f gx gm (i + nI 5) else some (nI 0)))))) else if v = (nI 7) then (gd (inb (i + (nI 1)) L = true) ((m_X6_bin gx (xs (i + (nI 1)).toNatClampNeg)).bind fun r15 => gd (inb (i + (nI 1)) L = true) ((m_X7_bin gm (xs (i + (nI 1)).toNatClampNeg)).bind fun r16 => if r15 = r16 then m_L_law xs L f gx gm (i + nI 5) else some (nI 0)))) else if v = (nI 8) then (gd (inb (i + (nI 1)) L = true) (sb (m_X6_ticks gx (xs (i + (nI 1)).toNatClampNeg)) fun r17 g17 => gd (inb (i + (nI 1)) L = true) (sb (m_X7_ticks gm (xs (i + (nI 1)).toNatClampNeg)) fun r18 g18 => if r17 = r18 then m_L_law xs L f g17 g18 (i + nI 5) else some (nI 0)))) else if v = (nI 9) then (gd (inb (i + (nI 1)) L = true) (sb (m_X6_ahead gx (xs (i + (nI 1)).toNatClampNeg)) fun r19 g19 => gd (inb (i + (nI 1)) L = true) (sb (m_X7_ahead gm (xs (i + (nI 1)).toNatClampNeg)) fun r20 g20 => if r19 = r20 then m_L_law xs L f g19 g20 (i + nI 5) else some (nI 0)))) else if v = (nI 10) then (gd (inb (i + (nI 1)) L = true) (sb (m_X6_breaks gx (xs (i + (nI 1)).toNatClampNeg)) fun r21 g21 => gd (inb (i + (nI 1)) L = true) (sb (m_X7_breaks gm (xs (i + (nI 1)).toNatClampNeg)) fun r22 g22 => if r21 = r22 then m_L_law xs L f g21 g22 (i + nI 5) else some (nI 0)))) else if v = (nI 11) then (gd (inb (i + (nI 1)) L = true) (gd (inb (i + (nI 2)) L = true) (sb (m_X6_fills gx (xs (i + (nI 1)).toNatClampNeg) (xs (i + (nI 2)).toNatClampNeg)) fun r23 g23 => gd (inb (i + (nI 1)) L = true) (gd (inb (i + (nI 2)) L = true) (sb (m_X7_fills gm (xs (i + (nI 1)).toNatClampNeg) (xs (i + (nI 2)).toNatClampNeg)) fun r24 g24 => if r23 = r24 then m_L_law xs L f g23 g24 (i + nI 5) else some (nI 0)))))) else if v = (nI 12) then (gd (inb (i + (nI 1)) L = true) (sb (m_X6_toner gx (xs (i + (nI 1)).toNatClampNeg)) fun r25 g25 => gd (inb (i + (nI 1)) L = true) (sb (m_X7_toner gm (xs (i + (nI 1)).toNatClampNeg)) fun r26 g26 => if r25 = r26 then m_L_law xs L f g25 g26 (i + nI 5) else some (nI 0)))) else if v = (nI 13) then (gd (inb (i + (nI 1)) L = true) (sb (m_X6_empties gx (xs (i + (nI 1)).toNatClampNeg)) fun r27 g27 => gd (inb (i + (nI 1)) L = true) (sb (m_X7_empties gm (xs (i + (nI 1)).toNatClampNeg)) fun r28 g28 => if r27 = r28 then m_L_law xs L f g27 g28 (i + nI 5) else some (nI 0)))) else if v = (nI 14) then (sb (m_X6_undo gx) fun r29 g29 => sb (m_X7_undo gm) fun r30 g30 => if r29 = r30 then m_L_law xs L f g29 g30 (i + nI 5) else some (nI 0)) else if v = (nI 15) then (gd (inb (i + (nI 1)) L = true) ((m_X6_now gx (xs (i + (nI 1)).toNatClampNeg)).bind fun r31 => gd (inb (i + (nI 1)) L = true) ((m_X7_now gm (xs (i + (nI 1)).toNatClampNeg)).bind fun r32 => if r31 = r32 then m_L_law xs L f gx gm (i + nI 5) else some (nI 0)))) else if v = (nI 16) then (gd (inb (i + (nI 1)) L = true) ((m_X6_soon gx (xs (i + (nI 1)).toNatClampNeg)).bind fun r33 => gd (inb (i + (nI 1)) L = true) ((m_X7_soon gm (xs (i + (nI 1)).toNatClampNeg)).bind fun r34 => if r33 = r34 then m_L_law xs L f gx gm (i + nI 5) else some (nI 0)))) else if v = (nI 17) then (gd (inb (i + (nI 1)) L = true) (gd (inb (i + (nI 2)) L = true) (gd (inb (i + (nI 3)) L = true) (gd (inb (i + (nI 4)) L = true) ((m_X6_odds gx (xs (i + (nI 1)).toNatClampNeg) (xs (i + (nI 2)).toNatClampNeg) (xs (i + (nI 3)).toNatClampNeg) (xs (i + (nI 4)).toNatClampNeg)).bind fun r35 => gd (inb (i + (nI 1)) L = true) (gd (inb (i + (nI 2)) L = true) (gd (inb (i + (nI 3)) L = true) (gd (inb (i + (nI 4)) L = true) ((m_X7_odds gm (xs (i + (nI 1)).toNatClampNeg) (xs (i + (nI 2)).toNatClampNeg) (xs (i + (nI 3)).toNatClampNeg) (xs (i + (nI 4)).toNatClampNeg)).bind fun r36 => if r35 = r36 then m_L_law xs L f gx gm (i + nI 5) else some (nI 0)))))))))) else if v = (nI 18) then (gd (inb (i + (nI 1)) L = true) (gd (inb (i + (nI 2)) L = true) (gd (inb (i + (nI 3)) L = true) (sb (m_X6_sees gx (xs (i + (nI 1)).toNatClampNeg) (xs (i + (nI 2)).toNatClampNeg) (xs (i + (nI 3)).toNatClampNeg)) fun r37 g37 => gd (inb (i + (nI 1)) L = true) (gd (inb (i + (nI 2)) L = true) (gd (inb (i + (nI 3)) L = true) (sb (m_X7_sees gm (xs (i + (nI 1)).toNatClampNeg) (xs (i + (nI 2)).toNatClampNeg) (xs (i + (nI 3)).toNatClampNeg)) fun r38 g38 => if r37 = r38 then m_L_law xs L f g37 g38 (i + nI 5) else some (nI 0)))))))) else if v = (nI 19) then (sb (m_X6_forget gx) fun r39 g39 => sb (m_X7_forget gm) fun r40 g40 => if r39 = r40 then m_L_law xs L f g39 g40 (i + nI 5) else some (nI 0)) else if v = (nI 20) then ((m_X6_whose gx).bind fun r41 => (m_X7_whose gm).bind fun r42 => if r41 = r42 then m_L_law xs L f gx gm (i + nI 5) else some (nI 0)) else if v = (nI 21) then (sb (m_X6_look gx) fun r43 g43 => (m_X7_look gm).bind fun r44 => if r43 = r44 then m_L_law xs L f g43 gm (i + nI 5) else some (nI 0)) else if v = (nI 22) then (gd (inb (i + (nI 1)) L = true) (gd (inb (i + (nI 2)) L = true) (sb (m_X6_mark gx (xs (i + (nI 1)).toNatClampNeg) (xs (i + (nI 2)).toNatClampNeg)) fun r45 g45 => gd (inb (i + (nI 1)) L = true) (gd (inb (i + (nI 2)) L = true) (sb (m_X7_mark gm (xs (i + (nI 1)).toNatClampNeg) (xs (i + (nI 2)).toNatClampNeg)) fun r46 g46 => if r45 = r46 then m_L_law xs L f g45 g46 (i + nI 5) else some (nI 0)))))) else if v = (nI 23) then (gd (inb (i + (nI 1)) L = true) (sb (m_X6_keep gx (xs (i + (nI 1)).toNatClampNeg)) fun r47 g47 => gd (inb (i + (nI 1)) L = true) (sb (m_X7_keep gm (xs (i + (nI 1)).toNatClampNeg)) fun r48 g48 => if r47 = r48 then m_L_law xs L f g47 g48 (i + nI 5) else some (nI 0)))) else if v = (nI 24) then (gd (inb (i + (nI 1)) L = true) (sb (m_X6_back gx (xs (i + (nI 1)).toNatClampNeg)) fun r49 g49 => gd (inb (i + (nI 1)) L = true) (sb (m_X7_back gm (xs (i + (nI 1)).toNatClampNeg)) fun r50 g50 => if r49 = r50 then m_L_law xs L f g49 g50 (i + nI 5) else some (nI 0)))) else if v = (nI 25) then (gd (inb (i + (nI 1)) L = true) ((m_X6_count gx (xs (i + (nI 1)).toNatClampNeg)).bind fun r51 => gd (inb (i + (nI 1)) L = true) ((m_X7_count gm (xs (i + (nI 1)).toNatClampNeg)).bind fun r52 => if r51 = r52 then m_L_law xs L f gx gm (i + nI 5) else some (nI 0)))) else if v = (nI 26) then ((m_X6_trace gx).bind fun r53 => (m_X7_trace gm).bind fun r54 => if (lg_cmp r53 r54) = (nI 0) then m_L_law xs L f gx gm (i + nI 5) else some (nI 0)) else (m_L_law xs L f gx gm (i + nI 5)))) rfl ?_
    refine j_iload_n (q := 19) (i := 3) (n := 3) dL_law_18 rfl rfl rfl ?_
    refine j_aload_n (q := 20) (i := 0) (n := 0) dL_law_19 rfl rfl rfl ?_
    refine j_scl (q := 21) hX hb dL_law_20 rfl ?_
    refine j_iconst (q := 22) (v := (nI 5)) dL_law_21 rfl rfl ?_
    refine j_isub (q := 23) dL_law_22 rfl ?_
    refine j_icmp_gt (tgt := 844) (q := 26) dL_law_23 rfl rfl ?_ ?_
    · refine j_iconst (q := 845) (v := (nI 1)) dL_law_844 rfl rfl ?_
      exact j_ret (x := (nI 1)) dL_law_845 rfl
    · refine j_aload_n (q := 27) (i := 0) (n := 0) dL_law_26 rfl rfl rfl ?_
      refine j_iload_n (q := 28) (i := 3) (n := 3) dL_law_27 rfl rfl rfl ?_
      refine j_scr (q := 29) hX hb dL_law_28 rfl ?_
      refine j_bipush (q := 31) (v := (nI 31)) dL_law_29 rfl rfl ?_
      refine j_iand (q := 32) dL_law_31 rfl ?_
      refine j_top (fun v => ?_)
      refine j_case (v := nI 0) ?_ (fun h0 => ?_)
      · refine j_tableIn (tgt := 156) dL_law_32 (by decide) (by decide) rfl rfl ?_
        refine j_aload_n (q := 157) (i := 1) (n := 1) dL_law_156 rfl rfl rfl ?_
        refine j_aload_n (q := 158) (i := 0) (n := 0) dL_law_157 rfl rfl rfl ?_
        refine j_iload_n (q := 159) (i := 3) (n := 3) dL_law_158 rfl rfl rfl ?_
        refine j_iconst (q := 160) (v := (nI 1)) dL_law_159 rfl rfl ?_
        refine j_iadd (q := 161) dL_law_160 rfl ?_
        refine j_scr (q := 162) hX hb dL_law_161 rfl ?_
        refine j_xs (q := 165) (rn_V (R := room_1) (Wf := wp z) (g := (gx, gm)) (As := [.int (xs (i + (nI 1)).toNatClampNeg)]) (rest := []) (c_X6_type _ z gm gx (xs (i + (nI 1)).toNatClampNeg)) cv_X6_type wM_L_13 ⟨rfl, rfl⟩ ⟨(Nat.le_of_ble_eq_true rfl), (Nat.le_of_ble_eq_true rfl)⟩ (Nat.le_of_ble_eq_true rfl) rfl rfl rfl (Nat.le_of_ble_eq_true rfl) dL_law_162) rfl (fun r1 g1 => ?_)
        refine j_aload_n (q := 166) (i := 2) (n := 2) dL_law_165 rfl rfl rfl ?_
        refine j_aload_n (q := 167) (i := 0) (n := 0) dL_law_166 rfl rfl rfl ?_
        refine j_iload_n (q := 168) (i := 3) (n := 3) dL_law_167 rfl rfl rfl ?_
        refine j_iconst (q := 169) (v := (nI 1)) dL_law_168 rfl rfl ?_
        refine j_iadd (q := 170) dL_law_169 rfl ?_
        refine j_scr (q := 171) hX hb dL_law_170 rfl ?_
        refine j_xm (q := 174) (rn_V (R := room_1) (Wf := wp z) (g := (g1, gm)) (As := [.int (xs (i + (nI 1)).toNatClampNeg)]) (rest := [.int r1]) (c_X7_type _ z g1 gm (xs (i + (nI 1)).toNatClampNeg)) cv_X7_type wM_L_17 ⟨rfl, rfl⟩ ⟨(Nat.le_of_ble_eq_true rfl), (Nat.le_of_ble_eq_true rfl)⟩ (Nat.le_of_ble_eq_true rfl) rfl rfl rfl (Nat.le_of_ble_eq_true rfl) dL_law_171) rfl (fun r2 g2 => ?_)
        refine j_icmp_eq (tgt := 838) (q := 177) dL_law_174 rfl rfl ?_ ?_
        · refine j_iinc (q := 841) (n := 3) (i := 3) (v := i + nI 5) (lv' := [(3, .int (i + nI 5)), (0, .ref b), (1, .ref (za z 76 0)), (2, .ref (za z 77 0))]) dL_law_838 rfl rfl (Nat.le_of_ble_eq_true rfl) rfl rfl ?_
          refine j_goto (tgt := 18) dL_law_841 rfl ?_
          refine j_lv [1, 2, 3, 0] (lv' := [(0, .ref b), (1, .ref (za z 76 0)), (2, .ref (za z 77 0)), (3, .int (i + nI 5))]) rfl ?_
          exact ih g1 g2 (i + nI 5)
        · refine j_iconst (q := 178) (v := (nI 0)) dL_law_177 rfl rfl ?_
          exact j_ret (x := (nI 0)) dL_law_178 rfl
      refine j_case (v := nI 1) ?_ (fun h1 => ?_)
      · refine j_tableIn (tgt := 179) dL_law_32 (by decide) (by decide) rfl rfl ?_
        refine j_aload_n (q := 180) (i := 1) (n := 1) dL_law_179 rfl rfl rfl ?_
        refine j_xs (q := 183) (rn_V (R := room_1) (Wf := wp z) (g := (gx, gm)) (As := []) (rest := []) (c_X6_clear _ z gm gx) cv_X6_clear wM_L_18 ⟨rfl, rfl⟩ ⟨(Nat.le_of_ble_eq_true rfl), (Nat.le_of_ble_eq_true rfl)⟩ (Nat.le_of_ble_eq_true rfl) rfl rfl rfl (Nat.le_of_ble_eq_true rfl) dL_law_180) rfl (fun r3 g3 => ?_)
        refine j_aload_n (q := 184) (i := 2) (n := 2) dL_law_183 rfl rfl rfl ?_
        refine j_xm (q := 187) (rn_V (R := room_1) (Wf := wp z) (g := (g3, gm)) (As := []) (rest := [.int r3]) (c_X7_clear _ z g3 gm) cv_X7_clear wM_L_22 ⟨rfl, rfl⟩ ⟨(Nat.le_of_ble_eq_true rfl), (Nat.le_of_ble_eq_true rfl)⟩ (Nat.le_of_ble_eq_true rfl) rfl rfl rfl (Nat.le_of_ble_eq_true rfl) dL_law_184) rfl (fun r4 g4 => ?_)
        refine j_icmp_eq (tgt := 838) (q := 190) dL_law_187 rfl rfl ?_ ?_
        · refine j_iinc (q := 841) (n := 3) (i := 3) (v := i + nI 5) (lv' := [(3, .int (i + nI 5)), (0, .ref b), (1, .ref (za z 76 0)), (2, .ref (za z 77 0))]) dL_law_838 rfl rfl (Nat.le_of_ble_eq_true rfl) rfl rfl ?_
          refine j_goto (tgt := 18) dL_law_841 rfl ?_
          refine j_lv [1, 2, 3, 0] (lv' := [(0, .ref b), (1, .ref (za z 76 0)), (2, .ref (za z 77 0)), (3, .int (i + nI 5))]) rfl ?_
          exact ih g3 g4 (i + nI 5)
        · refine j_iconst (q := 191) (v := (nI 0)) dL_law_190 rfl rfl ?_
          exact j_ret (x := (nI 0)) dL_law_191 rfl
      refine j_case (v := nI 2) ?_ (fun h2 => ?_)
      · refine j_tableIn (tgt := 192) dL_law_32 (by decide) (by decide) rfl rfl ?_
        refine j_aload_n (q := 193) (i := 1) (n := 1) dL_law_192 rfl rfl rfl ?_
        refine j_xs (q := 196) (rn_V (R := room_1) (Wf := wp z) (g := (gx, gm)) (As := []) (rest := []) (c_X6_office _ z gm gx) cv_X6_office wM_L_23 ⟨rfl, rfl⟩ ⟨(Nat.le_of_ble_eq_true rfl), (Nat.le_of_ble_eq_true rfl)⟩ (Nat.le_of_ble_eq_true rfl) rfl rfl rfl (Nat.le_of_ble_eq_true rfl) dL_law_193) rfl (fun r5 g5 => ?_)
        refine j_aload_n (q := 197) (i := 2) (n := 2) dL_law_196 rfl rfl rfl ?_
        refine j_xm (q := 200) (rn_V (R := room_1) (Wf := wp z) (g := (g5, gm)) (As := []) (rest := [.int r5]) (c_X7_office _ z g5 gm) cv_X7_office wM_L_26 ⟨rfl, rfl⟩ ⟨(Nat.le_of_ble_eq_true rfl), (Nat.le_of_ble_eq_true rfl)⟩ (Nat.le_of_ble_eq_true rfl) rfl rfl rfl (Nat.le_of_ble_eq_true rfl) dL_law_197) rfl (fun r6 g6 => ?_)
        refine j_icmp_eq (tgt := 838) (q := 203) dL_law_200 rfl rfl ?_ ?_
        · refine j_iinc (q := 841) (n := 3) (i := 3) (v := i + nI 5) (lv' := [(3, .int (i + nI 5)), (0, .ref b), (1, .ref (za z 76 0)), (2, .ref (za z 77 0))]) dL_law_838 rfl rfl (Nat.le_of_ble_eq_true rfl) rfl rfl ?_
          refine j_goto (tgt := 18) dL_law_841 rfl ?_
          refine j_lv [1, 2, 3, 0] (lv' := [(0, .ref b), (1, .ref (za z 76 0)), (2, .ref (za z 77 0)), (3, .int (i + nI 5))]) rfl ?_
          exact ih g5 g6 (i + nI 5)
        · refine j_iconst (q := 204) (v := (nI 0)) dL_law_203 rfl rfl ?_
          exact j_ret (x := (nI 0)) dL_law_204 rfl
      refine j_case (v := nI 3) ?_ (fun h3 => ?_)
      · refine j_tableIn (tgt := 205) dL_law_32 (by decide) (by decide) rfl rfl ?_
        refine j_aload_n (q := 206) (i := 1) (n := 1) dL_law_205 rfl rfl rfl ?_
        refine j_aload_n (q := 207) (i := 0) (n := 0) dL_law_206 rfl rfl rfl ?_
        refine j_iload_n (q := 208) (i := 3) (n := 3) dL_law_207 rfl rfl rfl ?_
        refine j_iconst (q := 209) (v := (nI 1)) dL_law_208 rfl rfl ?_
        refine j_iadd (q := 210) dL_law_209 rfl ?_
        refine j_scr (q := 211) hX hb dL_law_210 rfl ?_
        refine j_aload_n (q := 212) (i := 0) (n := 0) dL_law_211 rfl rfl rfl ?_
        refine j_iload_n (q := 213) (i := 3) (n := 3) dL_law_212 rfl rfl rfl ?_
        refine j_iconst (q := 214) (v := (nI 2)) dL_law_213 rfl rfl ?_
        refine j_iadd (q := 215) dL_law_214 rfl ?_
        refine j_scr (q := 216) hX hb dL_law_215 rfl ?_
        refine j_xs (q := 219) (rn_V (R := room_1) (Wf := wp z) (g := (gx, gm)) (As := [.int (xs (i + (nI 1)).toNatClampNeg), .int (xs (i + (nI 2)).toNatClampNeg)]) (rest := []) (c_X6_job _ z gm gx (xs (i + (nI 1)).toNatClampNeg) (xs (i + (nI 2)).toNatClampNeg)) cv_X6_job wM_L_27 ⟨rfl, rfl⟩ ⟨(Nat.le_of_ble_eq_true rfl), (Nat.le_of_ble_eq_true rfl)⟩ (Nat.le_of_ble_eq_true rfl) rfl rfl rfl (Nat.le_of_ble_eq_true rfl) dL_law_216) rfl (fun r7 g7 => ?_)
        refine j_aload_n (q := 220) (i := 2) (n := 2) dL_law_219 rfl rfl rfl ?_
        refine j_aload_n (q := 221) (i := 0) (n := 0) dL_law_220 rfl rfl rfl ?_
        refine j_iload_n (q := 222) (i := 3) (n := 3) dL_law_221 rfl rfl rfl ?_
        refine j_iconst (q := 223) (v := (nI 1)) dL_law_222 rfl rfl ?_
        refine j_iadd (q := 224) dL_law_223 rfl ?_
        refine j_scr (q := 225) hX hb dL_law_224 rfl ?_
        refine j_aload_n (q := 226) (i := 0) (n := 0) dL_law_225 rfl rfl rfl ?_
        refine j_iload_n (q := 227) (i := 3) (n := 3) dL_law_226 rfl rfl rfl ?_
        refine j_iconst (q := 228) (v := (nI 2)) dL_law_227 rfl rfl ?_
        refine j_iadd (q := 229) dL_law_228 rfl ?_
        refine j_scr (q := 230) hX hb dL_law_229 rfl ?_
        refine j_xm (q := 233) (rn_V (R := room_1) (Wf := wp z) (g := (g7, gm)) (As := [.int (xs (i + (nI 1)).toNatClampNeg), .int (xs (i + (nI 2)).toNatClampNeg)]) (rest := [.int r7]) (c_X7_job _ z g7 gm (xs (i + (nI 1)).toNatClampNeg) (xs (i + (nI 2)).toNatClampNeg)) cv_X7_job wM_L_31 ⟨rfl, rfl⟩ ⟨(Nat.le_of_ble_eq_true rfl), (Nat.le_of_ble_eq_true rfl)⟩ (Nat.le_of_ble_eq_true rfl) rfl rfl rfl (Nat.le_of_ble_eq_true rfl) dL_law_230) rfl (fun r8 g8 => ?_)
        refine j_icmp_eq (tgt := 838) (q := 236) dL_law_233 rfl rfl ?_ ?_
        · refine j_iinc (q := 841) (n := 3) (i := 3) (v := i + nI 5) (lv' := [(3, .int (i + nI 5)), (0, .ref b), (1, .ref (za z 76 0)), (2, .ref (za z 77 0))]) dL_law_838 rfl rfl (Nat.le_of_ble_eq_true rfl) rfl rfl ?_
          refine j_goto (tgt := 18) dL_law_841 rfl ?_
          refine j_lv [1, 2, 3, 0] (lv' := [(0, .ref b), (1, .ref (za z 76 0)), (2, .ref (za z 77 0)), (3, .int (i + nI 5))]) rfl ?_
          exact ih g7 g8 (i + nI 5)
        · refine j_iconst (q := 237) (v := (nI 0)) dL_law_236 rfl rfl ?_
          exact j_ret (x := (nI 0)) dL_law_237 rfl
      refine j_case (v := nI 4) ?_ (fun h4 => ?_)
      · refine j_tableIn (tgt := 238) dL_law_32 (by decide) (by decide) rfl rfl ?_
        refine j_aload_n (q := 239) (i := 1) (n := 1) dL_law_238 rfl rfl rfl ?_
        refine j_aload_n (q := 240) (i := 0) (n := 0) dL_law_239 rfl rfl rfl ?_
        refine j_iload_n (q := 241) (i := 3) (n := 3) dL_law_240 rfl rfl rfl ?_
        refine j_iconst (q := 242) (v := (nI 1)) dL_law_241 rfl rfl ?_
        refine j_iadd (q := 243) dL_law_242 rfl ?_
        refine j_scr (q := 244) hX hb dL_law_243 rfl ?_
        refine j_aload_n (q := 245) (i := 0) (n := 0) dL_law_244 rfl rfl rfl ?_
        refine j_iload_n (q := 246) (i := 3) (n := 3) dL_law_245 rfl rfl rfl ?_
        refine j_iconst (q := 247) (v := (nI 2)) dL_law_246 rfl rfl ?_
        refine j_iadd (q := 248) dL_law_247 rfl ?_
        refine j_scr (q := 249) hX hb dL_law_248 rfl ?_
        refine j_aload_n (q := 250) (i := 0) (n := 0) dL_law_249 rfl rfl rfl ?_
        refine j_iload_n (q := 251) (i := 3) (n := 3) dL_law_250 rfl rfl rfl ?_
        refine j_iconst (q := 252) (v := (nI 3)) dL_law_251 rfl rfl ?_
        refine j_iadd (q := 253) dL_law_252 rfl ?_
        refine j_scr (q := 254) hX hb dL_law_253 rfl ?_
        refine j_ci (q := 257) (rn_V (R := room_1) (Wf := wp z) (g := (gx, gm)) (As := [.int (xs (i + (nI 1)).toNatClampNeg), .int (xs (i + (nI 2)).toNatClampNeg), .int (xs (i + (nI 3)).toNatClampNeg)]) (rest := []) (c_X6_sheet _ z gm gx (xs (i + (nI 1)).toNatClampNeg) (xs (i + (nI 2)).toNatClampNeg) (xs (i + (nI 3)).toNatClampNeg)) cv_X6_sheet wM_L_32 ⟨rfl, rfl⟩ ⟨(Nat.le_of_ble_eq_true rfl), (Nat.le_of_ble_eq_true rfl)⟩ (Nat.le_of_ble_eq_true rfl) rfl rfl rfl (Nat.le_of_ble_eq_true rfl) dL_law_254) rfl (fun r9 => ?_)
        refine j_aload_n (q := 258) (i := 2) (n := 2) dL_law_257 rfl rfl rfl ?_
        refine j_aload_n (q := 259) (i := 0) (n := 0) dL_law_258 rfl rfl rfl ?_
        refine j_iload_n (q := 260) (i := 3) (n := 3) dL_law_259 rfl rfl rfl ?_
        refine j_iconst (q := 261) (v := (nI 1)) dL_law_260 rfl rfl ?_
        refine j_iadd (q := 262) dL_law_261 rfl ?_
        refine j_scr (q := 263) hX hb dL_law_262 rfl ?_
        refine j_aload_n (q := 264) (i := 0) (n := 0) dL_law_263 rfl rfl rfl ?_
        refine j_iload_n (q := 265) (i := 3) (n := 3) dL_law_264 rfl rfl rfl ?_
        refine j_iconst (q := 266) (v := (nI 2)) dL_law_265 rfl rfl ?_
        refine j_iadd (q := 267) dL_law_266 rfl ?_
        refine j_scr (q := 268) hX hb dL_law_267 rfl ?_
        refine j_aload_n (q := 269) (i := 0) (n := 0) dL_law_268 rfl rfl rfl ?_
        refine j_iload_n (q := 270) (i := 3) (n := 3) dL_law_269 rfl rfl rfl ?_
        refine j_iconst (q := 271) (v := (nI 3)) dL_law_270 rfl rfl ?_
        refine j_iadd (q := 272) dL_law_271 rfl ?_
        refine j_scr (q := 273) hX hb dL_law_272 rfl ?_
        refine j_ci (q := 276) (rn_V (R := room_1) (Wf := wp z) (g := (gx, gm)) (As := [.int (xs (i + (nI 1)).toNatClampNeg), .int (xs (i + (nI 2)).toNatClampNeg), .int (xs (i + (nI 3)).toNatClampNeg)]) (rest := [.int r9]) (c_X7_sheet _ z gx gm (xs (i + (nI 1)).toNatClampNeg) (xs (i + (nI 2)).toNatClampNeg) (xs (i + (nI 3)).toNatClampNeg)) cv_X7_sheet wM_L_36 ⟨rfl, rfl⟩ ⟨(Nat.le_of_ble_eq_true rfl), (Nat.le_of_ble_eq_true rfl)⟩ (Nat.le_of_ble_eq_true rfl) rfl rfl rfl (Nat.le_of_ble_eq_true rfl) dL_law_273) rfl (fun r10 => ?_)
        refine j_icmp_eq (tgt := 838) (q := 279) dL_law_276 rfl rfl ?_ ?_
        · refine j_iinc (q := 841) (n := 3) (i := 3) (v := i + nI 5) (lv' := [(3, .int (i + nI 5)), (0, .ref b), (1, .ref (za z 76 0)), (2, .ref (za z 77 0))]) dL_law_838 rfl rfl (Nat.le_of_ble_eq_true rfl) rfl rfl ?_
          refine j_goto (tgt := 18) dL_law_841 rfl ?_
          refine j_lv [1, 2, 3, 0] (lv' := [(0, .ref b), (1, .ref (za z 76 0)), (2, .ref (za z 77 0)), (3, .int (i + nI 5))]) rfl ?_
          exact ih gx gm (i + nI 5)
        · refine j_iconst (q := 280) (v := (nI 0)) dL_law_279 rfl rfl ?_
          exact j_ret (x := (nI 0)) dL_law_280 rfl
      refine j_case (v := nI 5) ?_ (fun h5 => ?_)
      · refine j_tableIn (tgt := 281) dL_law_32 (by decide) (by decide) rfl rfl ?_
        refine j_aload_n (q := 282) (i := 1) (n := 1) dL_law_281 rfl rfl rfl ?_
        refine j_aload_n (q := 283) (i := 0) (n := 0) dL_law_282 rfl rfl rfl ?_
        refine j_iload_n (q := 284) (i := 3) (n := 3) dL_law_283 rfl rfl rfl ?_
        refine j_iconst (q := 285) (v := (nI 1)) dL_law_284 rfl rfl ?_
        refine j_iadd (q := 286) dL_law_285 rfl ?_
        refine j_scr (q := 287) hX hb dL_law_286 rfl ?_
        refine j_aload_n (q := 288) (i := 0) (n := 0) dL_law_287 rfl rfl rfl ?_
        refine j_iload_n (q := 289) (i := 3) (n := 3) dL_law_288 rfl rfl rfl ?_
        refine j_iconst (q := 290) (v := (nI 2)) dL_law_289 rfl rfl ?_
        refine j_iadd (q := 291) dL_law_290 rfl ?_
        refine j_scr (q := 292) hX hb dL_law_291 rfl ?_
        refine j_aload_n (q := 293) (i := 0) (n := 0) dL_law_292 rfl rfl rfl ?_
        refine j_iload_n (q := 294) (i := 3) (n := 3) dL_law_293 rfl rfl rfl ?_
        refine j_iconst (q := 295) (v := (nI 3)) dL_law_294 rfl rfl ?_
        refine j_iadd (q := 296) dL_law_295 rfl ?_
        refine j_scr (q := 297) hX hb dL_law_296 rfl ?_
        refine j_ci (q := 300) (rn_V (R := room_1) (Wf := wp z) (g := (gx, gm)) (As := [.int (xs (i + (nI 1)).toNatClampNeg), .int (xs (i + (nI 2)).toNatClampNeg), .int (xs (i + (nI 3)).toNatClampNeg)]) (rest := []) (c_X6_where _ z gm gx (xs (i + (nI 1)).toNatClampNeg) (xs (i + (nI 2)).toNatClampNeg) (xs (i + (nI 3)).toNatClampNeg)) cv_X6_where wM_L_37 ⟨rfl, rfl⟩ ⟨(Nat.le_of_ble_eq_true rfl), (Nat.le_of_ble_eq_true rfl)⟩ (Nat.le_of_ble_eq_true rfl) rfl rfl rfl (Nat.le_of_ble_eq_true rfl) dL_law_297) rfl (fun r11 => ?_)
        refine j_aload_n (q := 301) (i := 2) (n := 2) dL_law_300 rfl rfl rfl ?_
        refine j_aload_n (q := 302) (i := 0) (n := 0) dL_law_301 rfl rfl rfl ?_
        refine j_iload_n (q := 303) (i := 3) (n := 3) dL_law_302 rfl rfl rfl ?_
        refine j_iconst (q := 304) (v := (nI 1)) dL_law_303 rfl rfl ?_
        refine j_iadd (q := 305) dL_law_304 rfl ?_
        refine j_scr (q := 306) hX hb dL_law_305 rfl ?_
        refine j_aload_n (q := 307) (i := 0) (n := 0) dL_law_306 rfl rfl rfl ?_
        refine j_iload_n (q := 308) (i := 3) (n := 3) dL_law_307 rfl rfl rfl ?_
        refine j_iconst (q := 309) (v := (nI 2)) dL_law_308 rfl rfl ?_
        refine j_iadd (q := 310) dL_law_309 rfl ?_
        refine j_scr (q := 311) hX hb dL_law_310 rfl ?_
        refine j_aload_n (q := 312) (i := 0) (n := 0) dL_law_311 rfl rfl rfl ?_
        refine j_iload_n (q := 313) (i := 3) (n := 3) dL_law_312 rfl rfl rfl ?_
        refine j_iconst (q := 314) (v := (nI 3)) dL_law_313 rfl rfl ?_
        refine j_iadd (q := 315) dL_law_314 rfl ?_
        refine j_scr (q := 316) hX hb dL_law_315 rfl ?_
        refine j_ci (q := 319) (rn_V (R := room_1) (Wf := wp z) (g := (gx, gm)) (As := [.int (xs (i + (nI 1)).toNatClampNeg), .int (xs (i + (nI 2)).toNatClampNeg), .int (xs (i + (nI 3)).toNatClampNeg)]) (rest := [.int r11]) (c_X7_where _ z gx gm (xs (i + (nI 1)).toNatClampNeg) (xs (i + (nI 2)).toNatClampNeg) (xs (i + (nI 3)).toNatClampNeg)) cv_X7_where wM_L_40 ⟨rfl, rfl⟩ ⟨(Nat.le_of_ble_eq_true rfl), (Nat.le_of_ble_eq_true rfl)⟩ (Nat.le_of_ble_eq_true rfl) rfl rfl rfl (Nat.le_of_ble_eq_true rfl) dL_law_316) rfl (fun r12 => ?_)
        refine j_icmp_eq (tgt := 838) (q := 322) dL_law_319 rfl rfl ?_ ?_
        · refine j_iinc (q := 841) (n := 3) (i := 3) (v := i + nI 5) (lv' := [(3, .int (i + nI 5)), (0, .ref b), (1, .ref (za z 76 0)), (2, .ref (za z 77 0))]) dL_law_838 rfl rfl (Nat.le_of_ble_eq_true rfl) rfl rfl ?_
          refine j_goto (tgt := 18) dL_law_841 rfl ?_
          refine j_lv [1, 2, 3, 0] (lv' := [(0, .ref b), (1, .ref (za z 76 0)), (2, .ref (za z 77 0)), (3, .int (i + nI 5))]) rfl ?_
          exact ih gx gm (i + nI 5)
        · refine j_iconst (q := 323) (v := (nI 0)) dL_law_322 rfl rfl ?_
          exact j_ret (x := (nI 0)) dL_law_323 rfl
      refine j_case (v := nI 6) ?_ (fun h6 => ?_)
      · refine j_tableIn (tgt := 324) dL_law_32 (by decide) (by decide) rfl rfl ?_
        refine j_aload_n (q := 325) (i := 1) (n := 1) dL_law_324 rfl rfl rfl ?_
        refine j_aload_n (q := 326) (i := 0) (n := 0) dL_law_325 rfl rfl rfl ?_
        refine j_iload_n (q := 327) (i := 3) (n := 3) dL_law_326 rfl rfl rfl ?_
        refine j_iconst (q := 328) (v := (nI 1)) dL_law_327 rfl rfl ?_
        refine j_iadd (q := 329) dL_law_328 rfl ?_
        refine j_scr (q := 330) hX hb dL_law_329 rfl ?_
        refine j_aload_n (q := 331) (i := 0) (n := 0) dL_law_330 rfl rfl rfl ?_
        refine j_iload_n (q := 332) (i := 3) (n := 3) dL_law_331 rfl rfl rfl ?_
        refine j_iconst (q := 333) (v := (nI 2)) dL_law_332 rfl rfl ?_
        refine j_iadd (q := 334) dL_law_333 rfl ?_
        refine j_scr (q := 335) hX hb dL_law_334 rfl ?_
        refine j_ci (q := 338) (rn_V (R := room_1) (Wf := wp z) (g := (gx, gm)) (As := [.int (xs (i + (nI 1)).toNatClampNeg), .int (xs (i + (nI 2)).toNatClampNeg)]) (rest := []) (c_X6_tray _ z gm gx (xs (i + (nI 1)).toNatClampNeg) (xs (i + (nI 2)).toNatClampNeg)) cv_X6_tray wM_L_41 ⟨rfl, rfl⟩ ⟨(Nat.le_of_ble_eq_true rfl), (Nat.le_of_ble_eq_true rfl)⟩ (Nat.le_of_ble_eq_true rfl) rfl rfl rfl (Nat.le_of_ble_eq_true rfl) dL_law_335) rfl (fun r13 => ?_)
        refine j_aload_n (q := 339) (i := 2) (n := 2) dL_law_338 rfl rfl rfl ?_
        refine j_aload_n (q := 340) (i := 0) (n := 0) dL_law_339 rfl rfl rfl ?_
        refine j_iload_n (q := 341) (i := 3) (n := 3) dL_law_340 rfl rfl rfl ?_
        refine j_iconst (q := 342) (v := (nI 1)) dL_law_341 rfl rfl ?_
        refine j_iadd (q := 343) dL_law_342 rfl ?_
        refine j_scr (q := 344) hX hb dL_law_343 rfl ?_
        refine j_aload_n (q := 345) (i := 0) (n := 0) dL_law_344 rfl rfl rfl ?_
        refine j_iload_n (q := 346) (i := 3) (n := 3) dL_law_345 rfl rfl rfl ?_
        refine j_iconst (q := 347) (v := (nI 2)) dL_law_346 rfl rfl ?_
        refine j_iadd (q := 348) dL_law_347 rfl ?_
        refine j_scr (q := 349) hX hb dL_law_348 rfl ?_
        refine j_ci (q := 352) (rn_V (R := room_1) (Wf := wp z) (g := (gx, gm)) (As := [.int (xs (i + (nI 1)).toNatClampNeg), .int (xs (i + (nI 2)).toNatClampNeg)]) (rest := [.int r13]) (c_X7_tray _ z gx gm (xs (i + (nI 1)).toNatClampNeg) (xs (i + (nI 2)).toNatClampNeg)) cv_X7_tray wM_L_44 ⟨rfl, rfl⟩ ⟨(Nat.le_of_ble_eq_true rfl), (Nat.le_of_ble_eq_true rfl)⟩ (Nat.le_of_ble_eq_true rfl) rfl rfl rfl (Nat.le_of_ble_eq_true rfl) dL_law_349) rfl (fun r14 => ?_)
        refine j_icmp_eq (tgt := 838) (q := 355) dL_law_352 rfl rfl ?_ ?_
        · refine j_iinc (q := 841) (n := 3) (i := 3) (v := i + nI 5) (lv' := [(3, .int (i + nI 5)), (0, .ref b), (1, .ref (za z 76 0)), (2, .ref (za z 77 0))]) dL_law_838 rfl rfl (Nat.le_of_ble_eq_true rfl) rfl rfl ?_
          refine j_goto (tgt := 18) dL_law_841 rfl ?_
          refine j_lv [1, 2, 3, 0] (lv' := [(0, .ref b), (1, .ref (za z 76 0)), (2, .ref (za z 77 0)), (3, .int (i + nI 5))]) rfl ?_
          exact ih gx gm (i + nI 5)
        · refine j_iconst (q := 356) (v := (nI 0)) dL_law_355 rfl rfl ?_
          exact j_ret (x := (nI 0)) dL_law_356 rfl
      refine j_case (v := nI 7) ?_ (fun h7 => ?_)
      · refine j_tableIn (tgt := 357) dL_law_32 (by decide) (by decide) rfl rfl ?_
        refine j_aload_n (q := 358) (i := 1) (n := 1) dL_law_357 rfl rfl rfl ?_
        refine j_aload_n (q := 359) (i := 0) (n := 0) dL_law_358 rfl rfl rfl ?_
        refine j_iload_n (q := 360) (i := 3) (n := 3) dL_law_359 rfl rfl rfl ?_
        refine j_iconst (q := 361) (v := (nI 1)) dL_law_360 rfl rfl ?_
        refine j_iadd (q := 362) dL_law_361 rfl ?_
        refine j_scr (q := 363) hX hb dL_law_362 rfl ?_
        refine j_ci (q := 366) (rn_V (R := room_1) (Wf := wp z) (g := (gx, gm)) (As := [.int (xs (i + (nI 1)).toNatClampNeg)]) (rest := []) (c_X6_bin _ z gm gx (xs (i + (nI 1)).toNatClampNeg)) cv_X6_bin wM_L_45 ⟨rfl, rfl⟩ ⟨(Nat.le_of_ble_eq_true rfl), (Nat.le_of_ble_eq_true rfl)⟩ (Nat.le_of_ble_eq_true rfl) rfl rfl rfl (Nat.le_of_ble_eq_true rfl) dL_law_363) rfl (fun r15 => ?_)
        refine j_aload_n (q := 367) (i := 2) (n := 2) dL_law_366 rfl rfl rfl ?_
        refine j_aload_n (q := 368) (i := 0) (n := 0) dL_law_367 rfl rfl rfl ?_
        refine j_iload_n (q := 369) (i := 3) (n := 3) dL_law_368 rfl rfl rfl ?_
        refine j_iconst (q := 370) (v := (nI 1)) dL_law_369 rfl rfl ?_
        refine j_iadd (q := 371) dL_law_370 rfl ?_
        refine j_scr (q := 372) hX hb dL_law_371 rfl ?_
        refine j_ci (q := 375) (rn_V (R := room_1) (Wf := wp z) (g := (gx, gm)) (As := [.int (xs (i + (nI 1)).toNatClampNeg)]) (rest := [.int r15]) (c_X7_bin _ z gx gm (xs (i + (nI 1)).toNatClampNeg)) cv_X7_bin wM_L_48 ⟨rfl, rfl⟩ ⟨(Nat.le_of_ble_eq_true rfl), (Nat.le_of_ble_eq_true rfl)⟩ (Nat.le_of_ble_eq_true rfl) rfl rfl rfl (Nat.le_of_ble_eq_true rfl) dL_law_372) rfl (fun r16 => ?_)
        refine j_icmp_eq (tgt := 838) (q := 378) dL_law_375 rfl rfl ?_ ?_
        · refine j_iinc (q := 841) (n := 3) (i := 3) (v := i + nI 5) (lv' := [(3, .int (i + nI 5)), (0, .ref b), (1, .ref (za z 76 0)), (2, .ref (za z 77 0))]) dL_law_838 rfl rfl (Nat.le_of_ble_eq_true rfl) rfl rfl ?_
          refine j_goto (tgt := 18) dL_law_841 rfl ?_
          refine j_lv [1, 2, 3, 0] (lv' := [(0, .ref b), (1, .ref (za z 76 0)), (2, .ref (za z 77 0)), (3, .int (i + nI 5))]) rfl ?_
          exact ih gx gm (i + nI 5)
        · refine j_iconst (q := 379) (v := (nI 0)) dL_law_378 rfl rfl ?_
          exact j_ret (x := (nI 0)) dL_law_379 rfl
      refine j_case (v := nI 8) ?_ (fun h8 => ?_)
      · refine j_tableIn (tgt := 380) dL_law_32 (by decide) (by decide) rfl rfl ?_
        refine j_aload_n (q := 381) (i := 1) (n := 1) dL_law_380 rfl rfl rfl ?_
        refine j_aload_n (q := 382) (i := 0) (n := 0) dL_law_381 rfl rfl rfl ?_
        refine j_iload_n (q := 383) (i := 3) (n := 3) dL_law_382 rfl rfl rfl ?_
        refine j_iconst (q := 384) (v := (nI 1)) dL_law_383 rfl rfl ?_
        refine j_iadd (q := 385) dL_law_384 rfl ?_
        refine j_scr (q := 386) hX hb dL_law_385 rfl ?_
        refine j_xs (q := 389) (rn_V (R := room_1) (Wf := wp z) (g := (gx, gm)) (As := [.int (xs (i + (nI 1)).toNatClampNeg)]) (rest := []) (c_X6_ticks _ z gm gx (xs (i + (nI 1)).toNatClampNeg)) cv_X6_ticks wM_L_49 ⟨rfl, rfl⟩ ⟨(Nat.le_of_ble_eq_true rfl), (Nat.le_of_ble_eq_true rfl)⟩ (Nat.le_of_ble_eq_true rfl) rfl rfl rfl (Nat.le_of_ble_eq_true rfl) dL_law_386) rfl (fun r17 g17 => ?_)
        refine j_aload_n (q := 390) (i := 2) (n := 2) dL_law_389 rfl rfl rfl ?_
        refine j_aload_n (q := 391) (i := 0) (n := 0) dL_law_390 rfl rfl rfl ?_
        refine j_iload_n (q := 392) (i := 3) (n := 3) dL_law_391 rfl rfl rfl ?_
        refine j_iconst (q := 393) (v := (nI 1)) dL_law_392 rfl rfl ?_
        refine j_iadd (q := 394) dL_law_393 rfl ?_
        refine j_scr (q := 395) hX hb dL_law_394 rfl ?_
        refine j_xm (q := 398) (rn_V (R := room_1) (Wf := wp z) (g := (g17, gm)) (As := [.int (xs (i + (nI 1)).toNatClampNeg)]) (rest := [.int r17]) (c_X7_ticks _ z g17 gm (xs (i + (nI 1)).toNatClampNeg)) cv_X7_ticks wM_L_52 ⟨rfl, rfl⟩ ⟨(Nat.le_of_ble_eq_true rfl), (Nat.le_of_ble_eq_true rfl)⟩ (Nat.le_of_ble_eq_true rfl) rfl rfl rfl (Nat.le_of_ble_eq_true rfl) dL_law_395) rfl (fun r18 g18 => ?_)
        refine j_icmp_eq (tgt := 838) (q := 401) dL_law_398 rfl rfl ?_ ?_
        · refine j_iinc (q := 841) (n := 3) (i := 3) (v := i + nI 5) (lv' := [(3, .int (i + nI 5)), (0, .ref b), (1, .ref (za z 76 0)), (2, .ref (za z 77 0))]) dL_law_838 rfl rfl (Nat.le_of_ble_eq_true rfl) rfl rfl ?_
          refine j_goto (tgt := 18) dL_law_841 rfl ?_
          refine j_lv [1, 2, 3, 0] (lv' := [(0, .ref b), (1, .ref (za z 76 0)), (2, .ref (za z 77 0)), (3, .int (i + nI 5))]) rfl ?_
          exact ih g17 g18 (i + nI 5)
        · refine j_iconst (q := 402) (v := (nI 0)) dL_law_401 rfl rfl ?_
          exact j_ret (x := (nI 0)) dL_law_402 rfl
      refine j_case (v := nI 9) ?_ (fun h9 => ?_)
      · refine j_tableIn (tgt := 403) dL_law_32 (by decide) (by decide) rfl rfl ?_
        refine j_aload_n (q := 404) (i := 1) (n := 1) dL_law_403 rfl rfl rfl ?_
        refine j_aload_n (q := 405) (i := 0) (n := 0) dL_law_404 rfl rfl rfl ?_
        refine j_iload_n (q := 406) (i := 3) (n := 3) dL_law_405 rfl rfl rfl ?_
        refine j_iconst (q := 407) (v := (nI 1)) dL_law_406 rfl rfl ?_
        refine j_iadd (q := 408) dL_law_407 rfl ?_
        refine j_scr (q := 409) hX hb dL_law_408 rfl ?_
        refine j_xs (q := 412) (rn_V (R := room_1) (Wf := wp z) (g := (gx, gm)) (As := [.int (xs (i + (nI 1)).toNatClampNeg)]) (rest := []) (c_X6_ahead _ z gm gx (xs (i + (nI 1)).toNatClampNeg)) cv_X6_ahead wM_L_53 ⟨rfl, rfl⟩ ⟨(Nat.le_of_ble_eq_true rfl), (Nat.le_of_ble_eq_true rfl)⟩ (Nat.le_of_ble_eq_true rfl) rfl rfl rfl (Nat.le_of_ble_eq_true rfl) dL_law_409) rfl (fun r19 g19 => ?_)
        refine j_aload_n (q := 413) (i := 2) (n := 2) dL_law_412 rfl rfl rfl ?_
        refine j_aload_n (q := 414) (i := 0) (n := 0) dL_law_413 rfl rfl rfl ?_
        refine j_iload_n (q := 415) (i := 3) (n := 3) dL_law_414 rfl rfl rfl ?_
        refine j_iconst (q := 416) (v := (nI 1)) dL_law_415 rfl rfl ?_
        refine j_iadd (q := 417) dL_law_416 rfl ?_
        refine j_scr (q := 418) hX hb dL_law_417 rfl ?_
        refine j_xm (q := 421) (rn_V (R := room_1) (Wf := wp z) (g := (g19, gm)) (As := [.int (xs (i + (nI 1)).toNatClampNeg)]) (rest := [.int r19]) (c_X7_ahead _ z g19 gm (xs (i + (nI 1)).toNatClampNeg)) cv_X7_ahead wM_L_56 ⟨rfl, rfl⟩ ⟨(Nat.le_of_ble_eq_true rfl), (Nat.le_of_ble_eq_true rfl)⟩ (Nat.le_of_ble_eq_true rfl) rfl rfl rfl (Nat.le_of_ble_eq_true rfl) dL_law_418) rfl (fun r20 g20 => ?_)
        refine j_icmp_eq (tgt := 838) (q := 424) dL_law_421 rfl rfl ?_ ?_
        · refine j_iinc (q := 841) (n := 3) (i := 3) (v := i + nI 5) (lv' := [(3, .int (i + nI 5)), (0, .ref b), (1, .ref (za z 76 0)), (2, .ref (za z 77 0))]) dL_law_838 rfl rfl (Nat.le_of_ble_eq_true rfl) rfl rfl ?_
          refine j_goto (tgt := 18) dL_law_841 rfl ?_
          refine j_lv [1, 2, 3, 0] (lv' := [(0, .ref b), (1, .ref (za z 76 0)), (2, .ref (za z 77 0)), (3, .int (i + nI 5))]) rfl ?_
          exact ih g19 g20 (i + nI 5)
        · refine j_iconst (q := 425) (v := (nI 0)) dL_law_424 rfl rfl ?_
          exact j_ret (x := (nI 0)) dL_law_425 rfl
      refine j_case (v := nI 10) ?_ (fun h10 => ?_)
      · refine j_tableIn (tgt := 426) dL_law_32 (by decide) (by decide) rfl rfl ?_
        refine j_aload_n (q := 427) (i := 1) (n := 1) dL_law_426 rfl rfl rfl ?_
        refine j_aload_n (q := 428) (i := 0) (n := 0) dL_law_427 rfl rfl rfl ?_
        refine j_iload_n (q := 429) (i := 3) (n := 3) dL_law_428 rfl rfl rfl ?_
        refine j_iconst (q := 430) (v := (nI 1)) dL_law_429 rfl rfl ?_
        refine j_iadd (q := 431) dL_law_430 rfl ?_
        refine j_scr (q := 432) hX hb dL_law_431 rfl ?_
        refine j_xs (q := 435) (rn_V (R := room_1) (Wf := wp z) (g := (gx, gm)) (As := [.int (xs (i + (nI 1)).toNatClampNeg)]) (rest := []) (c_X6_breaks _ z gm gx (xs (i + (nI 1)).toNatClampNeg)) cv_X6_breaks wM_L_57 ⟨rfl, rfl⟩ ⟨(Nat.le_of_ble_eq_true rfl), (Nat.le_of_ble_eq_true rfl)⟩ (Nat.le_of_ble_eq_true rfl) rfl rfl rfl (Nat.le_of_ble_eq_true rfl) dL_law_432) rfl (fun r21 g21 => ?_)
        refine j_aload_n (q := 436) (i := 2) (n := 2) dL_law_435 rfl rfl rfl ?_
        refine j_aload_n (q := 437) (i := 0) (n := 0) dL_law_436 rfl rfl rfl ?_
        refine j_iload_n (q := 438) (i := 3) (n := 3) dL_law_437 rfl rfl rfl ?_
        refine j_iconst (q := 439) (v := (nI 1)) dL_law_438 rfl rfl ?_
        refine j_iadd (q := 440) dL_law_439 rfl ?_
        refine j_scr (q := 441) hX hb dL_law_440 rfl ?_
        refine j_xm (q := 444) (rn_V (R := room_1) (Wf := wp z) (g := (g21, gm)) (As := [.int (xs (i + (nI 1)).toNatClampNeg)]) (rest := [.int r21]) (c_X7_breaks _ z g21 gm (xs (i + (nI 1)).toNatClampNeg)) cv_X7_breaks wM_L_60 ⟨rfl, rfl⟩ ⟨(Nat.le_of_ble_eq_true rfl), (Nat.le_of_ble_eq_true rfl)⟩ (Nat.le_of_ble_eq_true rfl) rfl rfl rfl (Nat.le_of_ble_eq_true rfl) dL_law_441) rfl (fun r22 g22 => ?_)
        refine j_icmp_eq (tgt := 838) (q := 447) dL_law_444 rfl rfl ?_ ?_
        · refine j_iinc (q := 841) (n := 3) (i := 3) (v := i + nI 5) (lv' := [(3, .int (i + nI 5)), (0, .ref b), (1, .ref (za z 76 0)), (2, .ref (za z 77 0))]) dL_law_838 rfl rfl (Nat.le_of_ble_eq_true rfl) rfl rfl ?_
          refine j_goto (tgt := 18) dL_law_841 rfl ?_
          refine j_lv [1, 2, 3, 0] (lv' := [(0, .ref b), (1, .ref (za z 76 0)), (2, .ref (za z 77 0)), (3, .int (i + nI 5))]) rfl ?_
          exact ih g21 g22 (i + nI 5)
        · refine j_iconst (q := 448) (v := (nI 0)) dL_law_447 rfl rfl ?_
          exact j_ret (x := (nI 0)) dL_law_448 rfl
      refine j_case (v := nI 11) ?_ (fun h11 => ?_)
      · refine j_tableIn (tgt := 449) dL_law_32 (by decide) (by decide) rfl rfl ?_
        refine j_aload_n (q := 450) (i := 1) (n := 1) dL_law_449 rfl rfl rfl ?_
        refine j_aload_n (q := 451) (i := 0) (n := 0) dL_law_450 rfl rfl rfl ?_
        refine j_iload_n (q := 452) (i := 3) (n := 3) dL_law_451 rfl rfl rfl ?_
        refine j_iconst (q := 453) (v := (nI 1)) dL_law_452 rfl rfl ?_
        refine j_iadd (q := 454) dL_law_453 rfl ?_
        refine j_scr (q := 455) hX hb dL_law_454 rfl ?_
        refine j_aload_n (q := 456) (i := 0) (n := 0) dL_law_455 rfl rfl rfl ?_
        refine j_iload_n (q := 457) (i := 3) (n := 3) dL_law_456 rfl rfl rfl ?_
        refine j_iconst (q := 458) (v := (nI 2)) dL_law_457 rfl rfl ?_
        refine j_iadd (q := 459) dL_law_458 rfl ?_
        refine j_scr (q := 460) hX hb dL_law_459 rfl ?_
        refine j_xs (q := 463) (rn_V (R := room_1) (Wf := wp z) (g := (gx, gm)) (As := [.int (xs (i + (nI 1)).toNatClampNeg), .int (xs (i + (nI 2)).toNatClampNeg)]) (rest := []) (c_X6_fills _ z gm gx (xs (i + (nI 1)).toNatClampNeg) (xs (i + (nI 2)).toNatClampNeg)) cv_X6_fills wM_L_61 ⟨rfl, rfl⟩ ⟨(Nat.le_of_ble_eq_true rfl), (Nat.le_of_ble_eq_true rfl)⟩ (Nat.le_of_ble_eq_true rfl) rfl rfl rfl (Nat.le_of_ble_eq_true rfl) dL_law_460) rfl (fun r23 g23 => ?_)
        refine j_aload_n (q := 464) (i := 2) (n := 2) dL_law_463 rfl rfl rfl ?_
        refine j_aload_n (q := 465) (i := 0) (n := 0) dL_law_464 rfl rfl rfl ?_
        refine j_iload_n (q := 466) (i := 3) (n := 3) dL_law_465 rfl rfl rfl ?_
        refine j_iconst (q := 467) (v := (nI 1)) dL_law_466 rfl rfl ?_
        refine j_iadd (q := 468) dL_law_467 rfl ?_
        refine j_scr (q := 469) hX hb dL_law_468 rfl ?_
        refine j_aload_n (q := 470) (i := 0) (n := 0) dL_law_469 rfl rfl rfl ?_
        refine j_iload_n (q := 471) (i := 3) (n := 3) dL_law_470 rfl rfl rfl ?_
        refine j_iconst (q := 472) (v := (nI 2)) dL_law_471 rfl rfl ?_
        refine j_iadd (q := 473) dL_law_472 rfl ?_
        refine j_scr (q := 474) hX hb dL_law_473 rfl ?_
        refine j_xm (q := 477) (rn_V (R := room_1) (Wf := wp z) (g := (g23, gm)) (As := [.int (xs (i + (nI 1)).toNatClampNeg), .int (xs (i + (nI 2)).toNatClampNeg)]) (rest := [.int r23]) (c_X7_fills _ z g23 gm (xs (i + (nI 1)).toNatClampNeg) (xs (i + (nI 2)).toNatClampNeg)) cv_X7_fills wM_L_64 ⟨rfl, rfl⟩ ⟨(Nat.le_of_ble_eq_true rfl), (Nat.le_of_ble_eq_true rfl)⟩ (Nat.le_of_ble_eq_true rfl) rfl rfl rfl (Nat.le_of_ble_eq_true rfl) dL_law_474) rfl (fun r24 g24 => ?_)
        refine j_icmp_eq (tgt := 838) (q := 480) dL_law_477 rfl rfl ?_ ?_
        · refine j_iinc (q := 841) (n := 3) (i := 3) (v := i + nI 5) (lv' := [(3, .int (i + nI 5)), (0, .ref b), (1, .ref (za z 76 0)), (2, .ref (za z 77 0))]) dL_law_838 rfl rfl (Nat.le_of_ble_eq_true rfl) rfl rfl ?_
          refine j_goto (tgt := 18) dL_law_841 rfl ?_
          refine j_lv [1, 2, 3, 0] (lv' := [(0, .ref b), (1, .ref (za z 76 0)), (2, .ref (za z 77 0)), (3, .int (i + nI 5))]) rfl ?_
          exact ih g23 g24 (i + nI 5)
        · refine j_iconst (q := 481) (v := (nI 0)) dL_law_480 rfl rfl ?_
          exact j_ret (x := (nI 0)) dL_law_481 rfl
      refine j_case (v := nI 12) ?_ (fun h12 => ?_)
      · refine j_tableIn (tgt := 482) dL_law_32 (by decide) (by decide) rfl rfl ?_
        refine j_aload_n (q := 483) (i := 1) (n := 1) dL_law_482 rfl rfl rfl ?_
        refine j_aload_n (q := 484) (i := 0) (n := 0) dL_law_483 rfl rfl rfl ?_
        refine j_iload_n (q := 485) (i := 3) (n := 3) dL_law_484 rfl rfl rfl ?_
        refine j_iconst (q := 486) (v := (nI 1)) dL_law_485 rfl rfl ?_
        refine j_iadd (q := 487) dL_law_486 rfl ?_
        refine j_scr (q := 488) hX hb dL_law_487 rfl ?_
        refine j_xs (q := 491) (rn_V (R := room_1) (Wf := wp z) (g := (gx, gm)) (As := [.int (xs (i + (nI 1)).toNatClampNeg)]) (rest := []) (c_X6_toner _ z gm gx (xs (i + (nI 1)).toNatClampNeg)) cv_X6_toner wM_L_65 ⟨rfl, rfl⟩ ⟨(Nat.le_of_ble_eq_true rfl), (Nat.le_of_ble_eq_true rfl)⟩ (Nat.le_of_ble_eq_true rfl) rfl rfl rfl (Nat.le_of_ble_eq_true rfl) dL_law_488) rfl (fun r25 g25 => ?_)
        refine j_aload_n (q := 492) (i := 2) (n := 2) dL_law_491 rfl rfl rfl ?_
        refine j_aload_n (q := 493) (i := 0) (n := 0) dL_law_492 rfl rfl rfl ?_
        refine j_iload_n (q := 494) (i := 3) (n := 3) dL_law_493 rfl rfl rfl ?_
        refine j_iconst (q := 495) (v := (nI 1)) dL_law_494 rfl rfl ?_
        refine j_iadd (q := 496) dL_law_495 rfl ?_
        refine j_scr (q := 497) hX hb dL_law_496 rfl ?_
        refine j_xm (q := 500) (rn_V (R := room_1) (Wf := wp z) (g := (g25, gm)) (As := [.int (xs (i + (nI 1)).toNatClampNeg)]) (rest := [.int r25]) (c_X7_toner _ z g25 gm (xs (i + (nI 1)).toNatClampNeg)) cv_X7_toner wM_L_68 ⟨rfl, rfl⟩ ⟨(Nat.le_of_ble_eq_true rfl), (Nat.le_of_ble_eq_true rfl)⟩ (Nat.le_of_ble_eq_true rfl) rfl rfl rfl (Nat.le_of_ble_eq_true rfl) dL_law_497) rfl (fun r26 g26 => ?_)
        refine j_icmp_eq (tgt := 838) (q := 503) dL_law_500 rfl rfl ?_ ?_
        · refine j_iinc (q := 841) (n := 3) (i := 3) (v := i + nI 5) (lv' := [(3, .int (i + nI 5)), (0, .ref b), (1, .ref (za z 76 0)), (2, .ref (za z 77 0))]) dL_law_838 rfl rfl (Nat.le_of_ble_eq_true rfl) rfl rfl ?_
          refine j_goto (tgt := 18) dL_law_841 rfl ?_
          refine j_lv [1, 2, 3, 0] (lv' := [(0, .ref b), (1, .ref (za z 76 0)), (2, .ref (za z 77 0)), (3, .int (i + nI 5))]) rfl ?_
          exact ih g25 g26 (i + nI 5)
        · refine j_iconst (q := 504) (v := (nI 0)) dL_law_503 rfl rfl ?_
          exact j_ret (x := (nI 0)) dL_law_504 rfl
      refine j_case (v := nI 13) ?_ (fun h13 => ?_)
      · refine j_tableIn (tgt := 505) dL_law_32 (by decide) (by decide) rfl rfl ?_
        refine j_aload_n (q := 506) (i := 1) (n := 1) dL_law_505 rfl rfl rfl ?_
        refine j_aload_n (q := 507) (i := 0) (n := 0) dL_law_506 rfl rfl rfl ?_
        refine j_iload_n (q := 508) (i := 3) (n := 3) dL_law_507 rfl rfl rfl ?_
        refine j_iconst (q := 509) (v := (nI 1)) dL_law_508 rfl rfl ?_
        refine j_iadd (q := 510) dL_law_509 rfl ?_
        refine j_scr (q := 511) hX hb dL_law_510 rfl ?_
        refine j_xs (q := 514) (rn_V (R := room_1) (Wf := wp z) (g := (gx, gm)) (As := [.int (xs (i + (nI 1)).toNatClampNeg)]) (rest := []) (c_X6_empties _ z gm gx (xs (i + (nI 1)).toNatClampNeg)) cv_X6_empties wM_L_69 ⟨rfl, rfl⟩ ⟨(Nat.le_of_ble_eq_true rfl), (Nat.le_of_ble_eq_true rfl)⟩ (Nat.le_of_ble_eq_true rfl) rfl rfl rfl (Nat.le_of_ble_eq_true rfl) dL_law_511) rfl (fun r27 g27 => ?_)
        refine j_aload_n (q := 515) (i := 2) (n := 2) dL_law_514 rfl rfl rfl ?_
        refine j_aload_n (q := 516) (i := 0) (n := 0) dL_law_515 rfl rfl rfl ?_
        refine j_iload_n (q := 517) (i := 3) (n := 3) dL_law_516 rfl rfl rfl ?_
        refine j_iconst (q := 518) (v := (nI 1)) dL_law_517 rfl rfl ?_
        refine j_iadd (q := 519) dL_law_518 rfl ?_
        refine j_scr (q := 520) hX hb dL_law_519 rfl ?_
        refine j_xm (q := 523) (rn_V (R := room_1) (Wf := wp z) (g := (g27, gm)) (As := [.int (xs (i + (nI 1)).toNatClampNeg)]) (rest := [.int r27]) (c_X7_empties _ z g27 gm (xs (i + (nI 1)).toNatClampNeg)) cv_X7_empties wM_L_72 ⟨rfl, rfl⟩ ⟨(Nat.le_of_ble_eq_true rfl), (Nat.le_of_ble_eq_true rfl)⟩ (Nat.le_of_ble_eq_true rfl) rfl rfl rfl (Nat.le_of_ble_eq_true rfl) dL_law_520) rfl (fun r28 g28 => ?_)
        refine j_icmp_eq (tgt := 838) (q := 526) dL_law_523 rfl rfl ?_ ?_
        · refine j_iinc (q := 841) (n := 3) (i := 3) (v := i + nI 5) (lv' := [(3, .int (i + nI 5)), (0, .ref b), (1, .ref (za z 76 0)), (2, .ref (za z 77 0))]) dL_law_838 rfl rfl (Nat.le_of_ble_eq_true rfl) rfl rfl ?_
          refine j_goto (tgt := 18) dL_law_841 rfl ?_
          refine j_lv [1, 2, 3, 0] (lv' := [(0, .ref b), (1, .ref (za z 76 0)), (2, .ref (za z 77 0)), (3, .int (i + nI 5))]) rfl ?_
          exact ih g27 g28 (i + nI 5)
        · refine j_iconst (q := 527) (v := (nI 0)) dL_law_526 rfl rfl ?_
          exact j_ret (x := (nI 0)) dL_law_527 rfl
      refine j_case (v := nI 14) ?_ (fun h14 => ?_)
      · refine j_tableIn (tgt := 528) dL_law_32 (by decide) (by decide) rfl rfl ?_
        refine j_aload_n (q := 529) (i := 1) (n := 1) dL_law_528 rfl rfl rfl ?_
        refine j_xs (q := 532) (rn_V (R := room_1) (Wf := wp z) (g := (gx, gm)) (As := []) (rest := []) (c_X6_undo _ z gm gx) cv_X6_undo wM_L_73 ⟨rfl, rfl⟩ ⟨(Nat.le_of_ble_eq_true rfl), (Nat.le_of_ble_eq_true rfl)⟩ (Nat.le_of_ble_eq_true rfl) rfl rfl rfl (Nat.le_of_ble_eq_true rfl) dL_law_529) rfl (fun r29 g29 => ?_)
        refine j_aload_n (q := 533) (i := 2) (n := 2) dL_law_532 rfl rfl rfl ?_
        refine j_xm (q := 536) (rn_V (R := room_1) (Wf := wp z) (g := (g29, gm)) (As := []) (rest := [.int r29]) (c_X7_undo _ z g29 gm) cv_X7_undo wM_L_76 ⟨rfl, rfl⟩ ⟨(Nat.le_of_ble_eq_true rfl), (Nat.le_of_ble_eq_true rfl)⟩ (Nat.le_of_ble_eq_true rfl) rfl rfl rfl (Nat.le_of_ble_eq_true rfl) dL_law_533) rfl (fun r30 g30 => ?_)
        refine j_icmp_eq (tgt := 838) (q := 539) dL_law_536 rfl rfl ?_ ?_
        · refine j_iinc (q := 841) (n := 3) (i := 3) (v := i + nI 5) (lv' := [(3, .int (i + nI 5)), (0, .ref b), (1, .ref (za z 76 0)), (2, .ref (za z 77 0))]) dL_law_838 rfl rfl (Nat.le_of_ble_eq_true rfl) rfl rfl ?_
          refine j_goto (tgt := 18) dL_law_841 rfl ?_
          refine j_lv [1, 2, 3, 0] (lv' := [(0, .ref b), (1, .ref (za z 76 0)), (2, .ref (za z 77 0)), (3, .int (i + nI 5))]) rfl ?_
          exact ih g29 g30 (i + nI 5)
        · refine j_iconst (q := 540) (v := (nI 0)) dL_law_539 rfl rfl ?_
          exact j_ret (x := (nI 0)) dL_law_540 rfl
      refine j_case (v := nI 15) ?_ (fun h15 => ?_)
      · refine j_tableIn (tgt := 541) dL_law_32 (by decide) (by decide) rfl rfl ?_
        refine j_aload_n (q := 542) (i := 1) (n := 1) dL_law_541 rfl rfl rfl ?_
        refine j_aload_n (q := 543) (i := 0) (n := 0) dL_law_542 rfl rfl rfl ?_
        refine j_iload_n (q := 544) (i := 3) (n := 3) dL_law_543 rfl rfl rfl ?_
        refine j_iconst (q := 545) (v := (nI 1)) dL_law_544 rfl rfl ?_
        refine j_iadd (q := 546) dL_law_545 rfl ?_
        refine j_scr (q := 547) hX hb dL_law_546 rfl ?_
        refine j_ci (q := 550) (rn_V (R := room_1) (Wf := wp z) (g := (gx, gm)) (As := [.int (xs (i + (nI 1)).toNatClampNeg)]) (rest := []) (c_X6_now _ z gm gx (xs (i + (nI 1)).toNatClampNeg)) cv_X6_now wM_L_77 ⟨rfl, rfl⟩ ⟨(Nat.le_of_ble_eq_true rfl), (Nat.le_of_ble_eq_true rfl)⟩ (Nat.le_of_ble_eq_true rfl) rfl rfl rfl (Nat.le_of_ble_eq_true rfl) dL_law_547) rfl (fun r31 => ?_)
        refine j_aload_n (q := 551) (i := 2) (n := 2) dL_law_550 rfl rfl rfl ?_
        refine j_aload_n (q := 552) (i := 0) (n := 0) dL_law_551 rfl rfl rfl ?_
        refine j_iload_n (q := 553) (i := 3) (n := 3) dL_law_552 rfl rfl rfl ?_
        refine j_iconst (q := 554) (v := (nI 1)) dL_law_553 rfl rfl ?_
        refine j_iadd (q := 555) dL_law_554 rfl ?_
        refine j_scr (q := 556) hX hb dL_law_555 rfl ?_
        refine j_ci (q := 559) (rn_V (R := room_1) (Wf := wp z) (g := (gx, gm)) (As := [.int (xs (i + (nI 1)).toNatClampNeg)]) (rest := [.int r31]) (c_X7_now _ z gx gm (xs (i + (nI 1)).toNatClampNeg)) cv_X7_now wM_L_80 ⟨rfl, rfl⟩ ⟨(Nat.le_of_ble_eq_true rfl), (Nat.le_of_ble_eq_true rfl)⟩ (Nat.le_of_ble_eq_true rfl) rfl rfl rfl (Nat.le_of_ble_eq_true rfl) dL_law_556) rfl (fun r32 => ?_)
        refine j_icmp_eq (tgt := 838) (q := 562) dL_law_559 rfl rfl ?_ ?_
        · refine j_iinc (q := 841) (n := 3) (i := 3) (v := i + nI 5) (lv' := [(3, .int (i + nI 5)), (0, .ref b), (1, .ref (za z 76 0)), (2, .ref (za z 77 0))]) dL_law_838 rfl rfl (Nat.le_of_ble_eq_true rfl) rfl rfl ?_
          refine j_goto (tgt := 18) dL_law_841 rfl ?_
          refine j_lv [1, 2, 3, 0] (lv' := [(0, .ref b), (1, .ref (za z 76 0)), (2, .ref (za z 77 0)), (3, .int (i + nI 5))]) rfl ?_
          exact ih gx gm (i + nI 5)
        · refine j_iconst (q := 563) (v := (nI 0)) dL_law_562 rfl rfl ?_
          exact j_ret (x := (nI 0)) dL_law_563 rfl
      refine j_case (v := nI 16) ?_ (fun h16 => ?_)
      · refine j_tableIn (tgt := 564) dL_law_32 (by decide) (by decide) rfl rfl ?_
        refine j_aload_n (q := 565) (i := 1) (n := 1) dL_law_564 rfl rfl rfl ?_
        refine j_aload_n (q := 566) (i := 0) (n := 0) dL_law_565 rfl rfl rfl ?_
        refine j_iload_n (q := 567) (i := 3) (n := 3) dL_law_566 rfl rfl rfl ?_
        refine j_iconst (q := 568) (v := (nI 1)) dL_law_567 rfl rfl ?_
        refine j_iadd (q := 569) dL_law_568 rfl ?_
        refine j_scr (q := 570) hX hb dL_law_569 rfl ?_
        refine j_ci (q := 573) (rn_V (R := room_1) (Wf := wp z) (g := (gx, gm)) (As := [.int (xs (i + (nI 1)).toNatClampNeg)]) (rest := []) (c_X6_soon _ z gm gx (xs (i + (nI 1)).toNatClampNeg)) cv_X6_soon wM_L_81 ⟨rfl, rfl⟩ ⟨(Nat.le_of_ble_eq_true rfl), (Nat.le_of_ble_eq_true rfl)⟩ (Nat.le_of_ble_eq_true rfl) rfl rfl rfl (Nat.le_of_ble_eq_true rfl) dL_law_570) rfl (fun r33 => ?_)
        refine j_aload_n (q := 574) (i := 2) (n := 2) dL_law_573 rfl rfl rfl ?_
        refine j_aload_n (q := 575) (i := 0) (n := 0) dL_law_574 rfl rfl rfl ?_
        refine j_iload_n (q := 576) (i := 3) (n := 3) dL_law_575 rfl rfl rfl ?_
        refine j_iconst (q := 577) (v := (nI 1)) dL_law_576 rfl rfl ?_
        refine j_iadd (q := 578) dL_law_577 rfl ?_
        refine j_scr (q := 579) hX hb dL_law_578 rfl ?_
        refine j_ci (q := 582) (rn_V (R := room_1) (Wf := wp z) (g := (gx, gm)) (As := [.int (xs (i + (nI 1)).toNatClampNeg)]) (rest := [.int r33]) (c_X7_soon _ z gx gm (xs (i + (nI 1)).toNatClampNeg)) cv_X7_soon wM_L_84 ⟨rfl, rfl⟩ ⟨(Nat.le_of_ble_eq_true rfl), (Nat.le_of_ble_eq_true rfl)⟩ (Nat.le_of_ble_eq_true rfl) rfl rfl rfl (Nat.le_of_ble_eq_true rfl) dL_law_579) rfl (fun r34 => ?_)
        refine j_icmp_eq (tgt := 838) (q := 585) dL_law_582 rfl rfl ?_ ?_
        · refine j_iinc (q := 841) (n := 3) (i := 3) (v := i + nI 5) (lv' := [(3, .int (i + nI 5)), (0, .ref b), (1, .ref (za z 76 0)), (2, .ref (za z 77 0))]) dL_law_838 rfl rfl (Nat.le_of_ble_eq_true rfl) rfl rfl ?_
          refine j_goto (tgt := 18) dL_law_841 rfl ?_
          refine j_lv [1, 2, 3, 0] (lv' := [(0, .ref b), (1, .ref (za z 76 0)), (2, .ref (za z 77 0)), (3, .int (i + nI 5))]) rfl ?_
          exact ih gx gm (i + nI 5)
        · refine j_iconst (q := 586) (v := (nI 0)) dL_law_585 rfl rfl ?_
          exact j_ret (x := (nI 0)) dL_law_586 rfl
      refine j_case (v := nI 17) ?_ (fun h17 => ?_)
      · refine j_tableIn (tgt := 587) dL_law_32 (by decide) (by decide) rfl rfl ?_
        refine j_aload_n (q := 588) (i := 1) (n := 1) dL_law_587 rfl rfl rfl ?_
        refine j_aload_n (q := 589) (i := 0) (n := 0) dL_law_588 rfl rfl rfl ?_
        refine j_iload_n (q := 590) (i := 3) (n := 3) dL_law_589 rfl rfl rfl ?_
        refine j_iconst (q := 591) (v := (nI 1)) dL_law_590 rfl rfl ?_
        refine j_iadd (q := 592) dL_law_591 rfl ?_
        refine j_scr (q := 593) hX hb dL_law_592 rfl ?_
        refine j_aload_n (q := 594) (i := 0) (n := 0) dL_law_593 rfl rfl rfl ?_
        refine j_iload_n (q := 595) (i := 3) (n := 3) dL_law_594 rfl rfl rfl ?_
        refine j_iconst (q := 596) (v := (nI 2)) dL_law_595 rfl rfl ?_
        refine j_iadd (q := 597) dL_law_596 rfl ?_
        refine j_scr (q := 598) hX hb dL_law_597 rfl ?_
        refine j_aload_n (q := 599) (i := 0) (n := 0) dL_law_598 rfl rfl rfl ?_
        refine j_iload_n (q := 600) (i := 3) (n := 3) dL_law_599 rfl rfl rfl ?_
        refine j_iconst (q := 601) (v := (nI 3)) dL_law_600 rfl rfl ?_
        refine j_iadd (q := 602) dL_law_601 rfl ?_
        refine j_scr (q := 603) hX hb dL_law_602 rfl ?_
        refine j_aload_n (q := 604) (i := 0) (n := 0) dL_law_603 rfl rfl rfl ?_
        refine j_iload_n (q := 605) (i := 3) (n := 3) dL_law_604 rfl rfl rfl ?_
        refine j_iconst (q := 606) (v := (nI 4)) dL_law_605 rfl rfl ?_
        refine j_iadd (q := 607) dL_law_606 rfl ?_
        refine j_scr (q := 608) hX hb dL_law_607 rfl ?_
        refine j_ci (q := 611) (rn_V (R := room_1) (Wf := wp z) (g := (gx, gm)) (As := [.int (xs (i + (nI 1)).toNatClampNeg), .int (xs (i + (nI 2)).toNatClampNeg), .int (xs (i + (nI 3)).toNatClampNeg), .int (xs (i + (nI 4)).toNatClampNeg)]) (rest := []) (c_X6_odds _ z gm gx (xs (i + (nI 1)).toNatClampNeg) (xs (i + (nI 2)).toNatClampNeg) (xs (i + (nI 3)).toNatClampNeg) (xs (i + (nI 4)).toNatClampNeg)) cv_X6_odds wM_L_85 ⟨rfl, rfl⟩ ⟨(Nat.le_of_ble_eq_true rfl), (Nat.le_of_ble_eq_true rfl)⟩ (Nat.le_of_ble_eq_true rfl) rfl rfl rfl (Nat.le_of_ble_eq_true rfl) dL_law_608) rfl (fun r35 => ?_)
        refine j_aload_n (q := 612) (i := 2) (n := 2) dL_law_611 rfl rfl rfl ?_
        refine j_aload_n (q := 613) (i := 0) (n := 0) dL_law_612 rfl rfl rfl ?_
        refine j_iload_n (q := 614) (i := 3) (n := 3) dL_law_613 rfl rfl rfl ?_
        refine j_iconst (q := 615) (v := (nI 1)) dL_law_614 rfl rfl ?_
        refine j_iadd (q := 616) dL_law_615 rfl ?_
        refine j_scr (q := 617) hX hb dL_law_616 rfl ?_
        refine j_aload_n (q := 618) (i := 0) (n := 0) dL_law_617 rfl rfl rfl ?_
        refine j_iload_n (q := 619) (i := 3) (n := 3) dL_law_618 rfl rfl rfl ?_
        refine j_iconst (q := 620) (v := (nI 2)) dL_law_619 rfl rfl ?_
        refine j_iadd (q := 621) dL_law_620 rfl ?_
        refine j_scr (q := 622) hX hb dL_law_621 rfl ?_
        refine j_aload_n (q := 623) (i := 0) (n := 0) dL_law_622 rfl rfl rfl ?_
        refine j_iload_n (q := 624) (i := 3) (n := 3) dL_law_623 rfl rfl rfl ?_
        refine j_iconst (q := 625) (v := (nI 3)) dL_law_624 rfl rfl ?_
        refine j_iadd (q := 626) dL_law_625 rfl ?_
        refine j_scr (q := 627) hX hb dL_law_626 rfl ?_
        refine j_aload_n (q := 628) (i := 0) (n := 0) dL_law_627 rfl rfl rfl ?_
        refine j_iload_n (q := 629) (i := 3) (n := 3) dL_law_628 rfl rfl rfl ?_
        refine j_iconst (q := 630) (v := (nI 4)) dL_law_629 rfl rfl ?_
        refine j_iadd (q := 631) dL_law_630 rfl ?_
        refine j_scr (q := 632) hX hb dL_law_631 rfl ?_
        refine j_ci (q := 635) (rn_V (R := room_1) (Wf := wp z) (g := (gx, gm)) (As := [.int (xs (i + (nI 1)).toNatClampNeg), .int (xs (i + (nI 2)).toNatClampNeg), .int (xs (i + (nI 3)).toNatClampNeg), .int (xs (i + (nI 4)).toNatClampNeg)]) (rest := [.int r35]) (c_X7_odds _ z gx gm (xs (i + (nI 1)).toNatClampNeg) (xs (i + (nI 2)).toNatClampNeg) (xs (i + (nI 3)).toNatClampNeg) (xs (i + (nI 4)).toNatClampNeg)) cv_X7_odds wM_L_89 ⟨rfl, rfl⟩ ⟨(Nat.le_of_ble_eq_true rfl), (Nat.le_of_ble_eq_true rfl)⟩ (Nat.le_of_ble_eq_true rfl) rfl rfl rfl (Nat.le_of_ble_eq_true rfl) dL_law_632) rfl (fun r36 => ?_)
        refine j_icmp_eq (tgt := 838) (q := 638) dL_law_635 rfl rfl ?_ ?_
        · refine j_iinc (q := 841) (n := 3) (i := 3) (v := i + nI 5) (lv' := [(3, .int (i + nI 5)), (0, .ref b), (1, .ref (za z 76 0)), (2, .ref (za z 77 0))]) dL_law_838 rfl rfl (Nat.le_of_ble_eq_true rfl) rfl rfl ?_
          refine j_goto (tgt := 18) dL_law_841 rfl ?_
          refine j_lv [1, 2, 3, 0] (lv' := [(0, .ref b), (1, .ref (za z 76 0)), (2, .ref (za z 77 0)), (3, .int (i + nI 5))]) rfl ?_
          exact ih gx gm (i + nI 5)
        · refine j_iconst (q := 639) (v := (nI 0)) dL_law_638 rfl rfl ?_
          exact j_ret (x := (nI 0)) dL_law_639 rfl
      refine j_case (v := nI 18) ?_ (fun h18 => ?_)
      · refine j_tableIn (tgt := 640) dL_law_32 (by decide) (by decide) rfl rfl ?_
        refine j_aload_n (q := 641) (i := 1) (n := 1) dL_law_640 rfl rfl rfl ?_
        refine j_aload_n (q := 642) (i := 0) (n := 0) dL_law_641 rfl rfl rfl ?_
        refine j_iload_n (q := 643) (i := 3) (n := 3) dL_law_642 rfl rfl rfl ?_
        refine j_iconst (q := 644) (v := (nI 1)) dL_law_643 rfl rfl ?_
        refine j_iadd (q := 645) dL_law_644 rfl ?_
        refine j_scr (q := 646) hX hb dL_law_645 rfl ?_
        refine j_aload_n (q := 647) (i := 0) (n := 0) dL_law_646 rfl rfl rfl ?_
        refine j_iload_n (q := 648) (i := 3) (n := 3) dL_law_647 rfl rfl rfl ?_
        refine j_iconst (q := 649) (v := (nI 2)) dL_law_648 rfl rfl ?_
        refine j_iadd (q := 650) dL_law_649 rfl ?_
        refine j_scr (q := 651) hX hb dL_law_650 rfl ?_
        refine j_aload_n (q := 652) (i := 0) (n := 0) dL_law_651 rfl rfl rfl ?_
        refine j_iload_n (q := 653) (i := 3) (n := 3) dL_law_652 rfl rfl rfl ?_
        refine j_iconst (q := 654) (v := (nI 3)) dL_law_653 rfl rfl ?_
        refine j_iadd (q := 655) dL_law_654 rfl ?_
        refine j_scr (q := 656) hX hb dL_law_655 rfl ?_
        refine j_xs (q := 659) (rn_V (R := room_1) (Wf := wp z) (g := (gx, gm)) (As := [.int (xs (i + (nI 1)).toNatClampNeg), .int (xs (i + (nI 2)).toNatClampNeg), .int (xs (i + (nI 3)).toNatClampNeg)]) (rest := []) (c_X6_sees _ z gm gx (xs (i + (nI 1)).toNatClampNeg) (xs (i + (nI 2)).toNatClampNeg) (xs (i + (nI 3)).toNatClampNeg)) cv_X6_sees wM_L_90 ⟨rfl, rfl⟩ ⟨(Nat.le_of_ble_eq_true rfl), (Nat.le_of_ble_eq_true rfl)⟩ (Nat.le_of_ble_eq_true rfl) rfl rfl rfl (Nat.le_of_ble_eq_true rfl) dL_law_656) rfl (fun r37 g37 => ?_)
        refine j_aload_n (q := 660) (i := 2) (n := 2) dL_law_659 rfl rfl rfl ?_
        refine j_aload_n (q := 661) (i := 0) (n := 0) dL_law_660 rfl rfl rfl ?_
        refine j_iload_n (q := 662) (i := 3) (n := 3) dL_law_661 rfl rfl rfl ?_
        refine j_iconst (q := 663) (v := (nI 1)) dL_law_662 rfl rfl ?_
        refine j_iadd (q := 664) dL_law_663 rfl ?_
        refine j_scr (q := 665) hX hb dL_law_664 rfl ?_
        refine j_aload_n (q := 666) (i := 0) (n := 0) dL_law_665 rfl rfl rfl ?_
        refine j_iload_n (q := 667) (i := 3) (n := 3) dL_law_666 rfl rfl rfl ?_
        refine j_iconst (q := 668) (v := (nI 2)) dL_law_667 rfl rfl ?_
        refine j_iadd (q := 669) dL_law_668 rfl ?_
        refine j_scr (q := 670) hX hb dL_law_669 rfl ?_
        refine j_aload_n (q := 671) (i := 0) (n := 0) dL_law_670 rfl rfl rfl ?_
        refine j_iload_n (q := 672) (i := 3) (n := 3) dL_law_671 rfl rfl rfl ?_
        refine j_iconst (q := 673) (v := (nI 3)) dL_law_672 rfl rfl ?_
        refine j_iadd (q := 674) dL_law_673 rfl ?_
        refine j_scr (q := 675) hX hb dL_law_674 rfl ?_
        refine j_xm (q := 678) (rn_V (R := room_1) (Wf := wp z) (g := (g37, gm)) (As := [.int (xs (i + (nI 1)).toNatClampNeg), .int (xs (i + (nI 2)).toNatClampNeg), .int (xs (i + (nI 3)).toNatClampNeg)]) (rest := [.int r37]) (c_X7_sees _ z g37 gm (xs (i + (nI 1)).toNatClampNeg) (xs (i + (nI 2)).toNatClampNeg) (xs (i + (nI 3)).toNatClampNeg)) cv_X7_sees wM_L_93 ⟨rfl, rfl⟩ ⟨(Nat.le_of_ble_eq_true rfl), (Nat.le_of_ble_eq_true rfl)⟩ (Nat.le_of_ble_eq_true rfl) rfl rfl rfl (Nat.le_of_ble_eq_true rfl) dL_law_675) rfl (fun r38 g38 => ?_)
        refine j_icmp_eq (tgt := 838) (q := 681) dL_law_678 rfl rfl ?_ ?_
        · refine j_iinc (q := 841) (n := 3) (i := 3) (v := i + nI 5) (lv' := [(3, .int (i + nI 5)), (0, .ref b), (1, .ref (za z 76 0)), (2, .ref (za z 77 0))]) dL_law_838 rfl rfl (Nat.le_of_ble_eq_true rfl) rfl rfl ?_
          refine j_goto (tgt := 18) dL_law_841 rfl ?_
          refine j_lv [1, 2, 3, 0] (lv' := [(0, .ref b), (1, .ref (za z 76 0)), (2, .ref (za z 77 0)), (3, .int (i + nI 5))]) rfl ?_
          exact ih g37 g38 (i + nI 5)
        · refine j_iconst (q := 682) (v := (nI 0)) dL_law_681 rfl rfl ?_
          exact j_ret (x := (nI 0)) dL_law_682 rfl
      refine j_case (v := nI 19) ?_ (fun h19 => ?_)
      · refine j_tableIn (tgt := 683) dL_law_32 (by decide) (by decide) rfl rfl ?_
        refine j_aload_n (q := 684) (i := 1) (n := 1) dL_law_683 rfl rfl rfl ?_
        refine j_xs (q := 687) (rn_V (R := room_1) (Wf := wp z) (g := (gx, gm)) (As := []) (rest := []) (c_X6_forget _ z gm gx) cv_X6_forget wM_L_94 ⟨rfl, rfl⟩ ⟨(Nat.le_of_ble_eq_true rfl), (Nat.le_of_ble_eq_true rfl)⟩ (Nat.le_of_ble_eq_true rfl) rfl rfl rfl (Nat.le_of_ble_eq_true rfl) dL_law_684) rfl (fun r39 g39 => ?_)
        refine j_aload_n (q := 688) (i := 2) (n := 2) dL_law_687 rfl rfl rfl ?_
        refine j_xm (q := 691) (rn_V (R := room_1) (Wf := wp z) (g := (g39, gm)) (As := []) (rest := [.int r39]) (c_X7_forget _ z g39 gm) cv_X7_forget wM_L_97 ⟨rfl, rfl⟩ ⟨(Nat.le_of_ble_eq_true rfl), (Nat.le_of_ble_eq_true rfl)⟩ (Nat.le_of_ble_eq_true rfl) rfl rfl rfl (Nat.le_of_ble_eq_true rfl) dL_law_688) rfl (fun r40 g40 => ?_)
        refine j_icmp_eq (tgt := 838) (q := 694) dL_law_691 rfl rfl ?_ ?_
        · refine j_iinc (q := 841) (n := 3) (i := 3) (v := i + nI 5) (lv' := [(3, .int (i + nI 5)), (0, .ref b), (1, .ref (za z 76 0)), (2, .ref (za z 77 0))]) dL_law_838 rfl rfl (Nat.le_of_ble_eq_true rfl) rfl rfl ?_
          refine j_goto (tgt := 18) dL_law_841 rfl ?_
          refine j_lv [1, 2, 3, 0] (lv' := [(0, .ref b), (1, .ref (za z 76 0)), (2, .ref (za z 77 0)), (3, .int (i + nI 5))]) rfl ?_
          exact ih g39 g40 (i + nI 5)
        · refine j_iconst (q := 695) (v := (nI 0)) dL_law_694 rfl rfl ?_
          exact j_ret (x := (nI 0)) dL_law_695 rfl
      refine j_case (v := nI 20) ?_ (fun h20 => ?_)
      · refine j_tableIn (tgt := 696) dL_law_32 (by decide) (by decide) rfl rfl ?_
        refine j_aload_n (q := 697) (i := 1) (n := 1) dL_law_696 rfl rfl rfl ?_
        refine j_ci (q := 700) (rn_V (R := room_1) (Wf := wp z) (g := (gx, gm)) (As := []) (rest := []) (c_X6_whose _ z gm gx) cv_X6_whose wM_L_98 ⟨rfl, rfl⟩ ⟨(Nat.le_of_ble_eq_true rfl), (Nat.le_of_ble_eq_true rfl)⟩ (Nat.le_of_ble_eq_true rfl) rfl rfl rfl (Nat.le_of_ble_eq_true rfl) dL_law_697) rfl (fun r41 => ?_)
        refine j_aload_n (q := 701) (i := 2) (n := 2) dL_law_700 rfl rfl rfl ?_
        refine j_ci (q := 704) (rn_V (R := room_1) (Wf := wp z) (g := (gx, gm)) (As := []) (rest := [.int r41]) (c_X7_whose _ z gx gm) cv_X7_whose wM_L_101 ⟨rfl, rfl⟩ ⟨(Nat.le_of_ble_eq_true rfl), (Nat.le_of_ble_eq_true rfl)⟩ (Nat.le_of_ble_eq_true rfl) rfl rfl rfl (Nat.le_of_ble_eq_true rfl) dL_law_701) rfl (fun r42 => ?_)
        refine j_icmp_eq (tgt := 838) (q := 707) dL_law_704 rfl rfl ?_ ?_
        · refine j_iinc (q := 841) (n := 3) (i := 3) (v := i + nI 5) (lv' := [(3, .int (i + nI 5)), (0, .ref b), (1, .ref (za z 76 0)), (2, .ref (za z 77 0))]) dL_law_838 rfl rfl (Nat.le_of_ble_eq_true rfl) rfl rfl ?_
          refine j_goto (tgt := 18) dL_law_841 rfl ?_
          refine j_lv [1, 2, 3, 0] (lv' := [(0, .ref b), (1, .ref (za z 76 0)), (2, .ref (za z 77 0)), (3, .int (i + nI 5))]) rfl ?_
          exact ih gx gm (i + nI 5)
        · refine j_iconst (q := 708) (v := (nI 0)) dL_law_707 rfl rfl ?_
          exact j_ret (x := (nI 0)) dL_law_708 rfl
      refine j_case (v := nI 21) ?_ (fun h21 => ?_)
      · refine j_tableIn (tgt := 709) dL_law_32 (by decide) (by decide) rfl rfl ?_
        refine j_aload_n (q := 710) (i := 1) (n := 1) dL_law_709 rfl rfl rfl ?_
        refine j_xs (q := 713) (rn_V (R := room_1) (Wf := wp z) (g := (gx, gm)) (As := []) (rest := []) (c_X6_look _ z gm gx) cv_X6_look wM_L_102 ⟨rfl, rfl⟩ ⟨(Nat.le_of_ble_eq_true rfl), (Nat.le_of_ble_eq_true rfl)⟩ (Nat.le_of_ble_eq_true rfl) rfl rfl rfl (Nat.le_of_ble_eq_true rfl) dL_law_710) rfl (fun r43 g43 => ?_)
        refine j_aload_n (q := 714) (i := 2) (n := 2) dL_law_713 rfl rfl rfl ?_
        refine j_ci (q := 717) (rn_V (R := room_1) (Wf := wp z) (g := (g43, gm)) (As := []) (rest := [.int r43]) (c_X7_look _ z g43 gm) cv_X7_look wM_L_105 ⟨rfl, rfl⟩ ⟨(Nat.le_of_ble_eq_true rfl), (Nat.le_of_ble_eq_true rfl)⟩ (Nat.le_of_ble_eq_true rfl) rfl rfl rfl (Nat.le_of_ble_eq_true rfl) dL_law_714) rfl (fun r44 => ?_)
        refine j_icmp_eq (tgt := 838) (q := 720) dL_law_717 rfl rfl ?_ ?_
        · refine j_iinc (q := 841) (n := 3) (i := 3) (v := i + nI 5) (lv' := [(3, .int (i + nI 5)), (0, .ref b), (1, .ref (za z 76 0)), (2, .ref (za z 77 0))]) dL_law_838 rfl rfl (Nat.le_of_ble_eq_true rfl) rfl rfl ?_
          refine j_goto (tgt := 18) dL_law_841 rfl ?_
          refine j_lv [1, 2, 3, 0] (lv' := [(0, .ref b), (1, .ref (za z 76 0)), (2, .ref (za z 77 0)), (3, .int (i + nI 5))]) rfl ?_
          exact ih g43 gm (i + nI 5)
        · refine j_iconst (q := 721) (v := (nI 0)) dL_law_720 rfl rfl ?_
          exact j_ret (x := (nI 0)) dL_law_721 rfl
      refine j_case (v := nI 22) ?_ (fun h22 => ?_)
      · refine j_tableIn (tgt := 722) dL_law_32 (by decide) (by decide) rfl rfl ?_
        refine j_aload_n (q := 723) (i := 1) (n := 1) dL_law_722 rfl rfl rfl ?_
        refine j_aload_n (q := 724) (i := 0) (n := 0) dL_law_723 rfl rfl rfl ?_
        refine j_iload_n (q := 725) (i := 3) (n := 3) dL_law_724 rfl rfl rfl ?_
        refine j_iconst (q := 726) (v := (nI 1)) dL_law_725 rfl rfl ?_
        refine j_iadd (q := 727) dL_law_726 rfl ?_
        refine j_scr (q := 728) hX hb dL_law_727 rfl ?_
        refine j_aload_n (q := 729) (i := 0) (n := 0) dL_law_728 rfl rfl rfl ?_
        refine j_iload_n (q := 730) (i := 3) (n := 3) dL_law_729 rfl rfl rfl ?_
        refine j_iconst (q := 731) (v := (nI 2)) dL_law_730 rfl rfl ?_
        refine j_iadd (q := 732) dL_law_731 rfl ?_
        refine j_scr (q := 733) hX hb dL_law_732 rfl ?_
        refine j_xs (q := 736) (rn_V (R := room_1) (Wf := wp z) (g := (gx, gm)) (As := [.int (xs (i + (nI 1)).toNatClampNeg), .int (xs (i + (nI 2)).toNatClampNeg)]) (rest := []) (c_X6_mark _ z gm gx (xs (i + (nI 1)).toNatClampNeg) (xs (i + (nI 2)).toNatClampNeg)) cv_X6_mark wM_L_106 ⟨rfl, rfl⟩ ⟨(Nat.le_of_ble_eq_true rfl), (Nat.le_of_ble_eq_true rfl)⟩ (Nat.le_of_ble_eq_true rfl) rfl rfl rfl (Nat.le_of_ble_eq_true rfl) dL_law_733) rfl (fun r45 g45 => ?_)
        refine j_aload_n (q := 737) (i := 2) (n := 2) dL_law_736 rfl rfl rfl ?_
        refine j_aload_n (q := 738) (i := 0) (n := 0) dL_law_737 rfl rfl rfl ?_
        refine j_iload_n (q := 739) (i := 3) (n := 3) dL_law_738 rfl rfl rfl ?_
        refine j_iconst (q := 740) (v := (nI 1)) dL_law_739 rfl rfl ?_
        refine j_iadd (q := 741) dL_law_740 rfl ?_
        refine j_scr (q := 742) hX hb dL_law_741 rfl ?_
        refine j_aload_n (q := 743) (i := 0) (n := 0) dL_law_742 rfl rfl rfl ?_
        refine j_iload_n (q := 744) (i := 3) (n := 3) dL_law_743 rfl rfl rfl ?_
        refine j_iconst (q := 745) (v := (nI 2)) dL_law_744 rfl rfl ?_
        refine j_iadd (q := 746) dL_law_745 rfl ?_
        refine j_scr (q := 747) hX hb dL_law_746 rfl ?_
        refine j_xm (q := 750) (rn_V (R := room_1) (Wf := wp z) (g := (g45, gm)) (As := [.int (xs (i + (nI 1)).toNatClampNeg), .int (xs (i + (nI 2)).toNatClampNeg)]) (rest := [.int r45]) (c_X7_mark _ z g45 gm (xs (i + (nI 1)).toNatClampNeg) (xs (i + (nI 2)).toNatClampNeg)) cv_X7_mark wM_L_109 ⟨rfl, rfl⟩ ⟨(Nat.le_of_ble_eq_true rfl), (Nat.le_of_ble_eq_true rfl)⟩ (Nat.le_of_ble_eq_true rfl) rfl rfl rfl (Nat.le_of_ble_eq_true rfl) dL_law_747) rfl (fun r46 g46 => ?_)
        refine j_icmp_eq (tgt := 838) (q := 753) dL_law_750 rfl rfl ?_ ?_
        · refine j_iinc (q := 841) (n := 3) (i := 3) (v := i + nI 5) (lv' := [(3, .int (i + nI 5)), (0, .ref b), (1, .ref (za z 76 0)), (2, .ref (za z 77 0))]) dL_law_838 rfl rfl (Nat.le_of_ble_eq_true rfl) rfl rfl ?_
          refine j_goto (tgt := 18) dL_law_841 rfl ?_
          refine j_lv [1, 2, 3, 0] (lv' := [(0, .ref b), (1, .ref (za z 76 0)), (2, .ref (za z 77 0)), (3, .int (i + nI 5))]) rfl ?_
          exact ih g45 g46 (i + nI 5)
        · refine j_iconst (q := 754) (v := (nI 0)) dL_law_753 rfl rfl ?_
          exact j_ret (x := (nI 0)) dL_law_754 rfl
      refine j_case (v := nI 23) ?_ (fun h23 => ?_)
      · refine j_tableIn (tgt := 755) dL_law_32 (by decide) (by decide) rfl rfl ?_
        refine j_aload_n (q := 756) (i := 1) (n := 1) dL_law_755 rfl rfl rfl ?_
        refine j_aload_n (q := 757) (i := 0) (n := 0) dL_law_756 rfl rfl rfl ?_
        refine j_iload_n (q := 758) (i := 3) (n := 3) dL_law_757 rfl rfl rfl ?_
        refine j_iconst (q := 759) (v := (nI 1)) dL_law_758 rfl rfl ?_
        refine j_iadd (q := 760) dL_law_759 rfl ?_
        refine j_scr (q := 761) hX hb dL_law_760 rfl ?_
        refine j_xs (q := 764) (rn_V (R := room_1) (Wf := wp z) (g := (gx, gm)) (As := [.int (xs (i + (nI 1)).toNatClampNeg)]) (rest := []) (c_X6_keep _ z gm gx (xs (i + (nI 1)).toNatClampNeg)) cv_X6_keep wM_L_110 ⟨rfl, rfl⟩ ⟨(Nat.le_of_ble_eq_true rfl), (Nat.le_of_ble_eq_true rfl)⟩ (Nat.le_of_ble_eq_true rfl) rfl rfl rfl (Nat.le_of_ble_eq_true rfl) dL_law_761) rfl (fun r47 g47 => ?_)
        refine j_aload_n (q := 765) (i := 2) (n := 2) dL_law_764 rfl rfl rfl ?_
        refine j_aload_n (q := 766) (i := 0) (n := 0) dL_law_765 rfl rfl rfl ?_
        refine j_iload_n (q := 767) (i := 3) (n := 3) dL_law_766 rfl rfl rfl ?_
        refine j_iconst (q := 768) (v := (nI 1)) dL_law_767 rfl rfl ?_
        refine j_iadd (q := 769) dL_law_768 rfl ?_
        refine j_scr (q := 770) hX hb dL_law_769 rfl ?_
        refine j_xm (q := 773) (rn_V (R := room_1) (Wf := wp z) (g := (g47, gm)) (As := [.int (xs (i + (nI 1)).toNatClampNeg)]) (rest := [.int r47]) (c_X7_keep _ z g47 gm (xs (i + (nI 1)).toNatClampNeg)) cv_X7_keep wM_L_113 ⟨rfl, rfl⟩ ⟨(Nat.le_of_ble_eq_true rfl), (Nat.le_of_ble_eq_true rfl)⟩ (Nat.le_of_ble_eq_true rfl) rfl rfl rfl (Nat.le_of_ble_eq_true rfl) dL_law_770) rfl (fun r48 g48 => ?_)
        refine j_icmp_eq (tgt := 838) (q := 776) dL_law_773 rfl rfl ?_ ?_
        · refine j_iinc (q := 841) (n := 3) (i := 3) (v := i + nI 5) (lv' := [(3, .int (i + nI 5)), (0, .ref b), (1, .ref (za z 76 0)), (2, .ref (za z 77 0))]) dL_law_838 rfl rfl (Nat.le_of_ble_eq_true rfl) rfl rfl ?_
          refine j_goto (tgt := 18) dL_law_841 rfl ?_
          refine j_lv [1, 2, 3, 0] (lv' := [(0, .ref b), (1, .ref (za z 76 0)), (2, .ref (za z 77 0)), (3, .int (i + nI 5))]) rfl ?_
          exact ih g47 g48 (i + nI 5)
        · refine j_iconst (q := 777) (v := (nI 0)) dL_law_776 rfl rfl ?_
          exact j_ret (x := (nI 0)) dL_law_777 rfl
      refine j_case (v := nI 24) ?_ (fun h24 => ?_)
      · refine j_tableIn (tgt := 778) dL_law_32 (by decide) (by decide) rfl rfl ?_
        refine j_aload_n (q := 779) (i := 1) (n := 1) dL_law_778 rfl rfl rfl ?_
        refine j_aload_n (q := 780) (i := 0) (n := 0) dL_law_779 rfl rfl rfl ?_
        refine j_iload_n (q := 781) (i := 3) (n := 3) dL_law_780 rfl rfl rfl ?_
        refine j_iconst (q := 782) (v := (nI 1)) dL_law_781 rfl rfl ?_
        refine j_iadd (q := 783) dL_law_782 rfl ?_
        refine j_scr (q := 784) hX hb dL_law_783 rfl ?_
        refine j_xs (q := 787) (rn_V (R := room_1) (Wf := wp z) (g := (gx, gm)) (As := [.int (xs (i + (nI 1)).toNatClampNeg)]) (rest := []) (c_X6_back _ z gm gx (xs (i + (nI 1)).toNatClampNeg)) cv_X6_back wM_L_114 ⟨rfl, rfl⟩ ⟨(Nat.le_of_ble_eq_true rfl), (Nat.le_of_ble_eq_true rfl)⟩ (Nat.le_of_ble_eq_true rfl) rfl rfl rfl (Nat.le_of_ble_eq_true rfl) dL_law_784) rfl (fun r49 g49 => ?_)
        refine j_aload_n (q := 788) (i := 2) (n := 2) dL_law_787 rfl rfl rfl ?_
        refine j_aload_n (q := 789) (i := 0) (n := 0) dL_law_788 rfl rfl rfl ?_
        refine j_iload_n (q := 790) (i := 3) (n := 3) dL_law_789 rfl rfl rfl ?_
        refine j_iconst (q := 791) (v := (nI 1)) dL_law_790 rfl rfl ?_
        refine j_iadd (q := 792) dL_law_791 rfl ?_
        refine j_scr (q := 793) hX hb dL_law_792 rfl ?_
        refine j_xm (q := 796) (rn_V (R := room_1) (Wf := wp z) (g := (g49, gm)) (As := [.int (xs (i + (nI 1)).toNatClampNeg)]) (rest := [.int r49]) (c_X7_back _ z g49 gm (xs (i + (nI 1)).toNatClampNeg)) cv_X7_back wM_L_117 ⟨rfl, rfl⟩ ⟨(Nat.le_of_ble_eq_true rfl), (Nat.le_of_ble_eq_true rfl)⟩ (Nat.le_of_ble_eq_true rfl) rfl rfl rfl (Nat.le_of_ble_eq_true rfl) dL_law_793) rfl (fun r50 g50 => ?_)
        refine j_icmp_eq (tgt := 838) (q := 799) dL_law_796 rfl rfl ?_ ?_
        · refine j_iinc (q := 841) (n := 3) (i := 3) (v := i + nI 5) (lv' := [(3, .int (i + nI 5)), (0, .ref b), (1, .ref (za z 76 0)), (2, .ref (za z 77 0))]) dL_law_838 rfl rfl (Nat.le_of_ble_eq_true rfl) rfl rfl ?_
          refine j_goto (tgt := 18) dL_law_841 rfl ?_
          refine j_lv [1, 2, 3, 0] (lv' := [(0, .ref b), (1, .ref (za z 76 0)), (2, .ref (za z 77 0)), (3, .int (i + nI 5))]) rfl ?_
          exact ih g49 g50 (i + nI 5)
        · refine j_iconst (q := 800) (v := (nI 0)) dL_law_799 rfl rfl ?_
          exact j_ret (x := (nI 0)) dL_law_800 rfl
      refine j_case (v := nI 25) ?_ (fun h25 => ?_)
      · refine j_tableIn (tgt := 801) dL_law_32 (by decide) (by decide) rfl rfl ?_
        refine j_aload_n (q := 802) (i := 1) (n := 1) dL_law_801 rfl rfl rfl ?_
        refine j_aload_n (q := 803) (i := 0) (n := 0) dL_law_802 rfl rfl rfl ?_
        refine j_iload_n (q := 804) (i := 3) (n := 3) dL_law_803 rfl rfl rfl ?_
        refine j_iconst (q := 805) (v := (nI 1)) dL_law_804 rfl rfl ?_
        refine j_iadd (q := 806) dL_law_805 rfl ?_
        refine j_scr (q := 807) hX hb dL_law_806 rfl ?_
        refine j_ci (q := 810) (rn_V (R := room_1) (Wf := wp z) (g := (gx, gm)) (As := [.int (xs (i + (nI 1)).toNatClampNeg)]) (rest := []) (c_X6_count _ z gm gx (xs (i + (nI 1)).toNatClampNeg)) cv_X6_count wM_L_118 ⟨rfl, rfl⟩ ⟨(Nat.le_of_ble_eq_true rfl), (Nat.le_of_ble_eq_true rfl)⟩ (Nat.le_of_ble_eq_true rfl) rfl rfl rfl (Nat.le_of_ble_eq_true rfl) dL_law_807) rfl (fun r51 => ?_)
        refine j_aload_n (q := 811) (i := 2) (n := 2) dL_law_810 rfl rfl rfl ?_
        refine j_aload_n (q := 812) (i := 0) (n := 0) dL_law_811 rfl rfl rfl ?_
        refine j_iload_n (q := 813) (i := 3) (n := 3) dL_law_812 rfl rfl rfl ?_
        refine j_iconst (q := 814) (v := (nI 1)) dL_law_813 rfl rfl ?_
        refine j_iadd (q := 815) dL_law_814 rfl ?_
        refine j_scr (q := 816) hX hb dL_law_815 rfl ?_
        refine j_ci (q := 819) (rn_V (R := room_1) (Wf := wp z) (g := (gx, gm)) (As := [.int (xs (i + (nI 1)).toNatClampNeg)]) (rest := [.int r51]) (c_X7_count _ z gx gm (xs (i + (nI 1)).toNatClampNeg)) cv_X7_count wM_L_121 ⟨rfl, rfl⟩ ⟨(Nat.le_of_ble_eq_true rfl), (Nat.le_of_ble_eq_true rfl)⟩ (Nat.le_of_ble_eq_true rfl) rfl rfl rfl (Nat.le_of_ble_eq_true rfl) dL_law_816) rfl (fun r52 => ?_)
        refine j_icmp_eq (tgt := 838) (q := 822) dL_law_819 rfl rfl ?_ ?_
        · refine j_iinc (q := 841) (n := 3) (i := 3) (v := i + nI 5) (lv' := [(3, .int (i + nI 5)), (0, .ref b), (1, .ref (za z 76 0)), (2, .ref (za z 77 0))]) dL_law_838 rfl rfl (Nat.le_of_ble_eq_true rfl) rfl rfl ?_
          refine j_goto (tgt := 18) dL_law_841 rfl ?_
          refine j_lv [1, 2, 3, 0] (lv' := [(0, .ref b), (1, .ref (za z 76 0)), (2, .ref (za z 77 0)), (3, .int (i + nI 5))]) rfl ?_
          exact ih gx gm (i + nI 5)
        · refine j_iconst (q := 823) (v := (nI 0)) dL_law_822 rfl rfl ?_
          exact j_ret (x := (nI 0)) dL_law_823 rfl
      refine j_case (v := nI 26) ?_ (fun h26 => ?_)
      · refine j_tableIn (tgt := 824) dL_law_32 (by decide) (by decide) rfl rfl ?_
        refine j_aload_n (q := 825) (i := 1) (n := 1) dL_law_824 rfl rfl rfl ?_
        refine j_cl (q := 828) (rn_V (R := room_1) (Wf := wp z) (g := (gx, gm)) (As := []) (rest := []) (c_X6_trace _ z gm gx) cv_X6_trace wM_L_122 ⟨rfl, rfl⟩ ⟨(Nat.le_of_ble_eq_true rfl), (Nat.le_of_ble_eq_true rfl)⟩ (Nat.le_of_ble_eq_true rfl) rfl rfl rfl (Nat.le_of_ble_eq_true rfl) dL_law_825) rfl (fun r53 => ?_)
        refine j_aload_n (q := 829) (i := 2) (n := 2) dL_law_828 rfl rfl rfl ?_
        refine j_cl (q := 832) (rn_V (R := room_1) (Wf := wp z) (g := (gx, gm)) (As := []) (rest := [.long r53]) (c_X7_trace _ z gx gm) cv_X7_trace wM_L_126 ⟨rfl, rfl⟩ ⟨(Nat.le_of_ble_eq_true rfl), (Nat.le_of_ble_eq_true rfl)⟩ (Nat.le_of_ble_eq_true rfl) rfl rfl rfl (Nat.le_of_ble_eq_true rfl) dL_law_829) rfl (fun r54 => ?_)
        refine j_lcmp (q := 833) dL_law_832 rfl ?_
        refine j_if_eq (tgt := 838) (q := 836) dL_law_833 rfl rfl ?_ ?_
        · refine j_iinc (q := 841) (n := 3) (i := 3) (v := i + nI 5) (lv' := [(3, .int (i + nI 5)), (0, .ref b), (1, .ref (za z 76 0)), (2, .ref (za z 77 0))]) dL_law_838 rfl rfl (Nat.le_of_ble_eq_true rfl) rfl rfl ?_
          refine j_goto (tgt := 18) dL_law_841 rfl ?_
          refine j_lv [1, 2, 3, 0] (lv' := [(0, .ref b), (1, .ref (za z 76 0)), (2, .ref (za z 77 0)), (3, .int (i + nI 5))]) rfl ?_
          exact ih gx gm (i + nI 5)
        · refine j_iconst (q := 837) (v := (nI 0)) dL_law_836 rfl rfl ?_
          exact j_ret (x := (nI 0)) dL_law_837 rfl
      refine j_tableOut (tgt := 838) dL_law_32 (by have e0 := q_ne (n := 0) h0 rfl; have e1 := q_ne (n := 1) h1 rfl; have e2 := q_ne (n := 2) h2 rfl; have e3 := q_ne (n := 3) h3 rfl; have e4 := q_ne (n := 4) h4 rfl; have e5 := q_ne (n := 5) h5 rfl; have e6 := q_ne (n := 6) h6 rfl; have e7 := q_ne (n := 7) h7 rfl; have e8 := q_ne (n := 8) h8 rfl; have e9 := q_ne (n := 9) h9 rfl; have e10 := q_ne (n := 10) h10 rfl; have e11 := q_ne (n := 11) h11 rfl; have e12 := q_ne (n := 12) h12 rfl; have e13 := q_ne (n := 13) h13 rfl; have e14 := q_ne (n := 14) h14 rfl; have e15 := q_ne (n := 15) h15 rfl; have e16 := q_ne (n := 16) h16 rfl; have e17 := q_ne (n := 17) h17 rfl; have e18 := q_ne (n := 18) h18 rfl; have e19 := q_ne (n := 19) h19 rfl; have e20 := q_ne (n := 20) h20 rfl; have e21 := q_ne (n := 21) h21 rfl; have e22 := q_ne (n := 22) h22 rfl; have e23 := q_ne (n := 23) h23 rfl; have e24 := q_ne (n := 24) h24 rfl; have e25 := q_ne (n := 25) h25 rfl; have e26 := q_ne (n := 26) h26 rfl; omega) rfl ?_
      refine j_iinc (q := 841) (n := 3) (i := 3) (v := i + nI 5) (lv' := [(3, .int (i + nI 5)), (0, .ref b), (1, .ref (za z 76 0)), (2, .ref (za z 77 0))]) dL_law_838 rfl rfl (Nat.le_of_ble_eq_true rfl) rfl rfl ?_
      refine j_goto (tgt := 18) dL_law_841 rfl ?_
      refine j_lv [1, 2, 3, 0] (lv' := [(0, .ref b), (1, .ref (za z 76 0)), (2, .ref (za z 77 0)), (3, .int (i + nI 5))]) rfl ?_
      exact ih gx gm (i + nI 5)
