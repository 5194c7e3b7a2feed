/-! look -/
def b01 (b : Bool) : Nat := if b then 1 else 0
def pcn (W n : Nat) : Nat := smf (fun j => b01 (W.testBit j)) n
def cnt (J : Nat → Nat → Nat) (W k pg n : Nat) : Nat := smf (fun j => b01 (W.testBit j && hif J j k pg)) n
def P44 : Nat → Nat → Prop := fun f a => f = 44 ∧ a = 0
theorem bcF : ∀ P : Fin 64, m_J6_bitCount_0f7a4 (nI P.1) = some (nI (bcnt P.1)) := by decide +kernel
theorem smf_mono {f g : Nat → Nat} : ∀ n, (∀ j, j < n → f j ≤ g j) → smf f n ≤ smf g n := by
  intro n
  induction n with
  | zero => intro _; exact Nat.le_refl _
  | succ n ih => intro h; rw [smf_s, smf_s]; have := ih (fun j hj => h j (by omega)); have := h n (by omega); omega
theorem smf_z {f : Nat → Nat} {n : Nat} : ∀ c, (∀ j, n ≤ j → j < n + c → f j = 0) → smf f (n + c) = smf f n := by
  intro c
  induction c with
  | zero => intro _; rfl
  | succ c ih => intro h; rw [← Nat.add_assoc, smf_s, ih (fun j h1 h2 => h j h1 (by omega)), h (n + c) (by omega) (by omega)]; rfl
theorem b_gt {P j : Nat} (hP : P < 64) (hj : j < 6) : ((nI P >>> (nI j &&& 31)) &&& nI 1) = n01 (P.testBit j) := by
  rw [b_get hP hj]; cases P.testBit j <;> rfl
section LOOK
variable {x m : zG} {p nj nb j k pg sn W : Nat} {J : Nat → Nat → Nat} {N : Nat → Nat} {sv : Nat → Nat → Nat}
theorem pcn_all (h6 : nj ≤ 6) (hz : ∀ r, r < 6 → nj ≤ r → W.testBit r = false) : pcn W nj = bcnt W := by
  have e : pcn W 6 = bcnt W := by
    unfold pcn bcnt smf smf smf smf smf smf smf b01
    omega
  rw [← e]
  unfold pcn
  have := smf_z (f := fun j => b01 (W.testBit j)) (n := nj) (6 - nj) (fun j h1 h2 => by show b01 (W.testBit j) = 0; rw [hz j (by omega) h1]; rfl)
  rw [show nj + (6 - nj) = 6 by omega] at this
  exact this.symm
theorem cnt_le : cnt J W k pg nj ≤ pcn W nj := smf_mono nj (fun j _ => by
  show b01 (W.testBit j && hif J j k pg) ≤ b01 (W.testBit j)
  cases W.testBit j <;> cases hif J j k pg <;> simp [b01])
theorem pcn_le : pcn W nj ≤ 1 * nj := smf_le nj (fun j _ => by show b01 _ ≤ 1; unfold b01; split <;> omega)
theorem cnt_s (n : Nat) : cnt J W k pg (n + 1) = cnt J W k pg n + b01 (W.testBit n && hif J n k pg) := rfl
theorem pcn_s (n : Nat) : pcn W (n + 1) = pcn W n + b01 (W.testBit n) := rfl
theorem m_bitsL (hW : W < 64) (h6 : nj ≤ 6) (h120 : gi m 120 0 0 = nI nj) : ∀ (c f r : Nat), r + c = nj → c < f → m_X7_look_L9 m f (nI W) (nI (pcn W r)) (nI r) = m_X7_look_B31 m (nI W) (nI (pcn W nj)) := by
  intro c
  induction c with
  | zero =>
    intro f r hr hf
    obtain ⟨f, rfl⟩ : ∃ g, f = g + 1 := ⟨f - 1, by omega⟩
    unfold m_X7_look_L9
    rw [h120, lt_f (by omega) (by omega), show r = nj by omega]
  | succ c ih =>
    intro f r hr hf
    obtain ⟨f, rfl⟩ : ∃ g, f = g + 1 := ⟨f - 1, by omega⟩
    unfold m_X7_look_L9
    rw [h120, lt_t (by omega) (by omega), b_get hW (by omega), n_add, bd_e, n_add]
    exact ih f (r + 1) (by omega) (by omega)
theorem m_cntL {K40 : Int32 → Int32 → Int32 → Int32 → Int32 → Option Int32} {K50 : Int32 → Int32 → Int32 → Int32 → Int32 → Int32 → Option Int32} {y2 y3 y4 : Int32} (hB : JB nj nb J) (hM : JM m nj nb J) (hW : W < 64) (hk : k < 1000) (hg : pg < 1000) : ∀ (c f r : Nat), r + c = nj → c < f → m_X7_look_L63 m K40 K50 f (nI W) y2 y3 y4 (nI k) (nI pg) (nI (cnt J W k pg r)) (nI r) = m_X7_look_B111 m K40 K50 (nI W) y2 y3 y4 (nI k) (nI pg) (nI (cnt J W k pg nj)) := by
  have h6 := hB.1
  intro c
  induction c with
  | zero =>
    intro f r hr hf
    obtain ⟨f, rfl⟩ : ∃ g, f = g + 1 := ⟨f - 1, by omega⟩
    unfold m_X7_look_L63
    rw [hM.1, lt_f (by omega) (by omega), show r = nj by omega]
  | succ c ih =>
    intro f r hr hf
    obtain ⟨f, rfl⟩ : ∃ g, f = g + 1 := ⟨f - 1, by omega⟩
    have ih' := ih f (r + 1) (by omega) (by omega)
    rw [cnt_s] at ih'
    unfold m_X7_look_L63 m_X7_look_B101 m_X7_look_B102
    rw [hM.1, lt_t (by omega) (by omega), b_gt hW (by omega), m_hif hB hM (by omega) hk hg, bi_e, n_add r 1, n_add, n_add]
    cases hb : W.testBit r with
    | true =>
      rw [n01_t, eq_t rfl]
      rw [hb] at ih'
      cases hh : hif J r k pg with
      | true => rw [hh] at ih'; rw [n01_t, eq_f (by omega) (by omega) (by omega)]; exact ih'
      | false => rw [hh] at ih'; rw [n01_f, eq_t rfl]; exact ih'
    | false =>
      rw [hb] at ih'
      rw [n01_f, eq_f (by omega) (by omega) (by omega)]; exact ih'
theorem x_cntL (hB : JB nj nb J) (hX : JX x p nj nb J) (hp : p < 2) (hW : W < 64) (hk : k < 1000) (hz : ∀ r, r < 6 → nj ≤ r → W.testBit r = false) : ∀ (c f r : Nat) (g : zG), r + c = 6 → c < f → Fr P44 x g → (∀ pg, pg < 10 → gi g 44 0 pg = nI (cnt J W k pg r)) → ∃ g', m_X4_countFronts_L11 p (nI W) (nI k) f g (nI r) = some g' ∧ Fr P44 x g' ∧ ∀ pg, pg < 10 → gi g' 44 0 pg = nI (cnt J W k pg 6) := by
  have h6 := hB.1
  intro c
  induction c with
  | zero =>
    intro f r g hr hf hF hg
    obtain ⟨f, rfl⟩ : ∃ g, f = g + 1 := ⟨f - 1, by omega⟩
    unfold m_X4_countFronts_L11
    rw [lt_f (by omega) (by omega)]
    have : r = 6 := by omega
    subst this
    exact ⟨g, rfl, hF, hg⟩
  | succ c ih =>
    intro f r g hr hf hF hg
    obtain ⟨f, rfl⟩ : ∃ g, f = g + 1 := ⟨f - 1, by omega⟩
    have hXg : JX g p nj nb J := hX.fr hF (fun f a h1 h2 q => by have := q.1; omega)
    have same : (∀ pg, pg < 10 → (W.testBit r && hif J r k pg) = false) → ∃ g', m_X4_countFronts_L11 p (nI W) (nI k) f g (nI (r + 1)) = some g' ∧ Fr P44 x g' ∧ ∀ pg, pg < 10 → gi g' 44 0 pg = nI (cnt J W k pg 6) := fun h =>
      ih f (r + 1) g (by omega) (by omega) hF (fun pg hpg => by rw [hg pg hpg, cnt_s, h pg hpg]; rfl)
    unfold m_X4_countFronts_L11 m_X4_countFronts_B77
    rw [lt_t (by omega) (by omega), b_gt hW (by omega), n_add]
    by_cases hrn : r < nj
    · rw [x_jobAt hB hXg hrn, bi_e, oc_s, gd_71 (by omega)]
      have ha := al_in hB hrn
      cases hb : W.testBit r with
      | false => rw [n01_f, eq_t rfl]; exact same (fun pg _ => by rw [hb]; rfl)
      | true =>
        rw [n01_t, eq_f (by omega) (by omega) (by omega)]
        by_cases hka : k < al J r
        · have hf := frt_in hB hrn hka
          have hq := hg (frt J r k) (by omega)
          rw [x_hasSheet_t hB hXg hrn hka, bi_e, eq_f (by omega) (by omega) (by omega), x_front hB hXg hrn (by omega), bi_e, x_at (k := 44) (n := 10) rfl (by omega) (by omega) (by omega), hq, bi_e, n_add, x_put (k := 44) (n := 10) rfl (by omega) (by omega), bi_e]
          refine ih f (r + 1) _ (by omega) (by omega) (hF.ui ⟨rfl, rfl⟩) (fun pg hpg => ?_)
          rw [gi_ui, cnt_s, hb]
          by_cases he : pg = frt J r k
          · subst he
            rw [if_pos ⟨rfl, rfl, rfl⟩]
            have : hif J r k (frt J r k) = true := by unfold hif; simp [hka]
            rw [this]; rfl
          · rw [if_neg (fun q => he q.2.2), hg pg hpg]
            have : hif J r k pg = false := by unfold hif; simp; intro _ q; exact he q.symm
            rw [this]; rfl
        · rw [x_hasSheet_f hB hXg hrn (Or.inr (by rw [nI_toInt (by omega)]; omega)), bi_e, eq_t rfl]
          exact same (fun pg _ => by unfold hif; simp [hka])
    · have hb := hz r (by omega) (by omega)
      rw [x_jobAt_big hB hXg (by omega) (by omega), bi_e, oc_n, hb, n01_f, eq_t rfl]
      exact same (fun pg _ => by rw [hb]; rfl)
theorem x_cnt (hB : JB nj nb J) (hX : JX x p nj nb J) (hp : p < 2) (hW : W < 64) (hk : k < 1000) (hz : ∀ r, r < 6 → nj ≤ r → W.testBit r = false) : ∃ g', m_X4_countFronts x p (nI W) (nI k) = some g' ∧ Fr P44 x g' ∧ ∀ pg, pg < 10 → gi g' 44 0 pg = nI (cnt J W k pg nj) := by
  have h6 := hB.1
  unfold m_X4_countFronts
  rw [x_fill (k := 44) (n := 10) rfl (by omega), bi_e]
  have F1 : Fr P44 x (ur x 44 0 10 (fun _ => nI 0)) := Fr.rf.ur ⟨rfl, rfl⟩
  obtain ⟨g', e1, e2, e3⟩ := x_cntL hB hX hp hW hk hz 6 FU 0 _ (by omega) (by show _ < 1000; omega) F1 (fun pg hpg => by rw [gi_ur, if_pos ⟨rfl, rfl, hpg⟩]; rfl)
  refine ⟨g', e1, e2, fun pg hpg => ?_⟩
  rw [e3 pg hpg]
  have := smf_z (f := fun j => b01 (W.testBit j && hif J j k pg)) (n := nj) (6 - nj) (fun j h1 h2 => by show b01 (W.testBit j && hif J j k pg) = 0; rw [hz j (by omega) h1]; rfl)
  rw [show nj + (6 - nj) = 6 by omega] at this
  exact congrArg nI this
theorem max_n {a b : Nat} (ha : a < 1000000) (hb : b < 1000000) : m_J9_max_7cf53 (nI a) (nI b) = some (nI (if b < a then a else b)) := by
  unfold m_J9_max_7cf53
  by_cases h : b < a
  · rw [if_pos h, lt_f (by omega) (by omega)]
  · rw [if_neg h]
    by_cases h2 : a < b
    · rw [lt_t (by omega) (by omega)]
    · rw [lt_f (by omega) (by omega), show a = b by omega]
theorem pagesL {K26 : zG → Int32 → Int32 → Int32 → Int32 → Int32 → Option (Int32 × zG)} {K40 : Int32 → Int32 → Int32 → Int32 → Int32 → Option Int32} {g : zG} (hB : JB nj nb J) (hM : JM m nj nb J) (hW : W < 64) (hk : k < 1000) (hg : ∀ pg, pg < 10 → gi g 44 0 pg = nI (cnt J W k pg nj)) : ∀ (c f f' pg l : Nat) (b : Int32), pg + c = 10 → c < f → c < f' → l ≤ 6 → ∃ l' b', l' ≤ 6 ∧ m_X6_look_L50 K26 f g (nI W) (nI (pcn W nj)) (nI l) b (nI k) (nI pg) = K26 g (nI W) (nI (pcn W nj)) (nI l') b' (nI k + nI 1) ∧ m_X7_look_L50 m K40 f' (nI W) (nI (pcn W nj)) b (nI l) (nI k) (nI pg) = K40 (nI W) (nI (pcn W nj)) b' (nI l') (nI k + nI 1) := by
  have h6 := hB.1
  intro c
  induction c with
  | zero =>
    intro f f' pg l b hpg hf hf' hl
    obtain ⟨f, rfl⟩ : ∃ g, f = g + 1 := ⟨f - 1, by omega⟩
    obtain ⟨f', rfl⟩ : ∃ g, f' = g + 1 := ⟨f' - 1, by omega⟩
    unfold m_X6_look_L50 m_X7_look_L50
    rw [lt_t (by omega) (by omega), lt_t (by omega) (by omega)]
    exact ⟨l, b, hl, rfl, rfl⟩
  | succ c ih =>
    intro f f' pg l b hpg hf hf' hl
    obtain ⟨f, rfl⟩ : ∃ g, f = g + 1 := ⟨f - 1, by omega⟩
    obtain ⟨f', rfl⟩ : ∃ g, f' = g + 1 := ⟨f' - 1, by omega⟩
    have c1 := cnt_le (J := J) (W := W) (k := k) (pg := pg) (nj := nj)
    have c2 := pcn_le (W := W) (nj := nj)
    have em := m_cntL (K40 := K40) (K50 := m_X7_look_L50 m K40 f') (y2 := nI (pcn W nj)) (y3 := b) (y4 := nI l) hB hM hW hk (show pg < 1000 by omega) nj FU 0 (by omega) (by show _ < 1000; omega)
    have em' : m_X7_look_L63 m K40 (m_X7_look_L50 m K40 f') FU (nI W) (nI (pcn W nj)) b (nI l) (nI k) (nI pg) (nI 0) (nI 0) = _ := em
    unfold m_X6_look_L50 m_X7_look_L50 m_X6_look_B101
    rw [lt_f (by omega) (by omega), lt_f (by omega) (by omega), x_at (k := 44) (n := 10) rfl (by omega) (by omega) (by omega), hg pg (by omega), bi_e, n_sub c1, max_n (by omega) (by omega), bi_e, em']
    unfold m_X7_look_B111 m_X7_look_B129 m_X7_look_B150 m_X7_look_B165
    rw [n_sub c1, n_add pg 1]
    generalize cnt J W k pg nj = C at c1 ⊢
    have fin : ∀ G, G ≤ 6 → ∃ l' b', l' ≤ 6 ∧ (if nI G < nI l then m_X6_look_L50 K26 f g (nI W) (nI (pcn W nj)) (nI G) (nI 10 * nI k + nI pg) (nI k) (nI (pg + 1)) else m_X6_look_L50 K26 f g (nI W) (nI (pcn W nj)) (nI l) b (nI k) (nI (pg + 1))) = K26 g (nI W) (nI (pcn W nj)) (nI l') b' (nI k + nI 1) ∧ (if nI G < nI l then (if nI G < nI l then m_X7_look_L50 m K40 f' (nI W) (nI (pcn W nj)) (nI 10 * nI k + nI pg) (nI G) (nI k) (nI (pg + 1)) else m_X7_look_L50 m K40 f' (nI W) (nI (pcn W nj)) (nI 10 * nI k + nI pg) (nI l) (nI k) (nI (pg + 1))) else (if nI G < nI l then m_X7_look_L50 m K40 f' (nI W) (nI (pcn W nj)) b (nI G) (nI k) (nI (pg + 1)) else m_X7_look_L50 m K40 f' (nI W) (nI (pcn W nj)) b (nI l) (nI k) (nI (pg + 1)))) = K40 (nI W) (nI (pcn W nj)) b' (nI l') (nI k + nI 1) := by
      intro G hG
      by_cases h : G < l
      · simp only [if_pos (nI_lt h (show l < 2147483648 by omega))]
        exact ih f f' (pg + 1) G _ (by omega) (by omega) (by omega) hG
      · simp only [if_neg (nI_nlt (show l ≤ G by omega) (show G < 2147483648 by omega))]
        exact ih f f' (pg + 1) l b (by omega) (by omega) (by omega) hl
    by_cases h : pcn W nj - C < C
    · rw [if_pos h, lt_t (a := pcn W nj - C) (b := C) (by omega) h]; exact fin C (by omega)
    · rw [if_neg h, lt_f (a := pcn W nj - C) (b := C) (by omega) (by omega)]; exact fin (pcn W nj - C) (by omega)
theorem lookL (hB : JB nj nb J) (hX : JX x p nj nb J) (hM : JM m nj nb J) (hp : p < 2) (hg : gn x 0 = p) (hW : W < 64) (hz : ∀ r, r < 6 → nj ≤ r → W.testBit r = false) : ∀ (c f f' k l : Nat) (b : Int32) (g : zG), k + c = 81 → c < f → c < f' → l ≤ 6 → Fr P44 x g → ∃ r g', m_X6_look_L26 f g (nI W) (nI (pcn W nj)) (nI l) b (nI k) = some (r, g') ∧ m_X7_look_L40 m f' (nI W) (nI (pcn W nj)) b (nI l) (nI k) = some r ∧ Fr P44 x g' := by
  have h6 := hB.1
  intro c
  induction c with
  | zero =>
    intro f f' k l b g hk hf hf' hl hF
    obtain ⟨f, rfl⟩ : ∃ g, f = g + 1 := ⟨f - 1, by omega⟩
    obtain ⟨f', rfl⟩ : ∃ g, f' = g + 1 := ⟨f' - 1, by omega⟩
    unfold m_X6_look_L26 m_X7_look_L40
    rw [lt_t (by omega) (by omega), lt_f (by omega) (by omega)]
    exact ⟨b, g, rfl, rfl, hF⟩
  | succ c ih =>
    intro f f' k l b g hk hf hf' hl hF
    obtain ⟨f, rfl⟩ : ∃ g, f = g + 1 := ⟨f - 1, by omega⟩
    obtain ⟨f', rfl⟩ : ∃ g, f' = g + 1 := ⟨f' - 1, by omega⟩
    have hXg : JX g p nj nb J := hX.fr hF (fun f a h1 h2 q => by have := q.1; omega)
    have hgg : gn g 0 = p := by rw [hF.2.2 0]; exact hg
    obtain ⟨g1, e1, e2, e3⟩ := x_cnt hB hXg hp hW (show k < 1000 by omega) hz
    obtain ⟨l', b', q1, q2, q3⟩ := pagesL (K26 := m_X6_look_L26 f) (K40 := m_X7_look_L40 m f') (g := g1) hB hM hW (show k < 1000 by omega) e3 9 FU FU 1 l b (by omega) (by show _ < 1000; omega) (by show _ < 1000; omega) hl
    unfold m_X6_look_L26 m_X7_look_L40
    rw [lt_f (by omega) (by omega), lt_t (by omega) (by omega), hgg, gd_73 hp, e1, bi_e, q2, q3, n_add]
    exact ih f f' (k + 1) l' b' g1 (by omega) (by omega) (by omega) q1 (hF.tr e2)
theorem s_look (hR : Rl x m) : ∃ r x', m_X6_look x = some (r, x') ∧ m_X7_look m = some r ∧ Rl x' m := by
  obtain ⟨p, nj, nb, J, N, un, U, tl, tx, sn, sv, hP, hC, hI, hT, hS, ht⟩ := id hR
  obtain ⟨hp, hg, -, hB, hX, hM⟩ := id hP
  have h6 := hB.1
  obtain ⟨W, h1, h2, h3, h4⟩ := who_both hB hX hM hS hp
  have hb := bcF ⟨W, h1⟩
  have hpc := pcn_all h6 h2
  have c2 := pcn_le (W := W) (nj := nj)
  simp only at hb
  rw [← hpc] at hb
  obtain ⟨r, x', e1, e2, e3⟩ := lookL hB hX hM hp hg h1 h2 81 FU FU 0 (pcn W nj) (-9) x (by omega) (by show _ < 1000; omega) (by show _ < 1000; omega) (by omega) Fr.rf
  have mb := m_bitsL (m := m) h1 h6 hM.1 nj FU 0 (by omega) (by show _ < 1000; omega)
  have mb' : m_X7_look_L9 m FU (nI W) (nI 0) (nI 0) = _ := mb
  unfold m_X6_look m_X7_look
  rw [hg, gd_73 hp, h3, h4, bi_e, bi_e, hb, bi_e, mb', e1]
  unfold m_X7_look_B31
  rw [e2]
  have Fm : Fr (fun _ _ => False) m m := Fr.rf
  exact ⟨r, x', rfl, rfl, p, nj, nb, J, N, un, U, tl, tx, sn, sv, hP.fr e3 (fun f i h1 h2 q => by have := q.1; omega) Fm (fun f h q => q), hC.fr e3 (fun f a h1 h2 q => by have := q.1; omega) ⟨fun q => by have := q.1; omega, fun q => by have := q.1; omega⟩ Fm ⟨id, id, id⟩, hI.fr e3 (fun f a h1 h2 h3 q => by have := q.1; omega) (fun c h1 h2 => ⟨fun q => by have := q.1; omega, fun q => by have := q.1; omega⟩) (fun q => by have := q.1; omega) Fm ⟨id, id⟩, hT.fr e3 ⟨fun q => by have := q.1; omega, fun q => by have := q.1; omega⟩ Fm ⟨id, id⟩, hS.fr e3 ⟨fun q => by have := q.1; omega, fun q => by have := q.1; omega, fun q => by have := q.1; omega, fun q => by have := q.1; omega⟩ Fm ⟨id, id⟩, by rw [e3.tr_t]; exact ht⟩
end LOOK
