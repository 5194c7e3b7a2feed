/-! THE RELATION between the class' state x and the reference's m -/
def RP (x m : zG) (p nj nb : Nat) (J : Nat → Nat → Nat) : Prop := p < 2 ∧ gn x 0 = p ∧ gn x 1 = 1 - p ∧ JB nj nb J ∧ JX x p nj nb J ∧ JM m nj nb J
/-- a course in good form -/
def WC (nj : Nat) (J : Nat → Nat → Nat) (N : Nat → Nat) (un : Nat) (U : Nat → Nat → Nat) : Prop := un ≤ 10 ∧ WN nj J N ∧ N 0 ≤ 9999 ∧ ∀ u, u < un → WN nj J (U u) ∧ U u 0 ≤ 9999
def RC (x m : zG) (nj : Nat) (J : Nat → Nat → Nat) (N : Nat → Nat) (un : Nat) (U : Nat → Nat → Nat) : Prop := CX x 0 N un U ∧ CM m N un U ∧ WC nj J N un U
def RI (x m : zG) (nj : Nat) (J : Nat → Nat → Nat) : Prop := ∀ im, im < 2 → ∃ kp, kp ≤ 1 ∧ gi x 60 0 im = nI kp ∧ gi m 113 0 im = nI kp ∧ (kp = 1 → ∃ N un U, CX x (1 + im) N un U ∧ IM m im N un U ∧ WC nj J N un U)
def RT (x m : zG) (tl : Nat) (tx : Nat → Nat) : Prop := tl ≤ 120 ∧ gi x 50 0 0 = nI tl ∧ gi m 124 0 0 = nI tl ∧ ∀ j, j < tl → gi x 55 0 j = nI (tx j) ∧ gi m 108 0 j = nI (tx j) ∧ tx j ≤ 255
def RS (x m : zG) (sn : Nat) (sv : Nat → Nat → Nat) : Prop := sn ≤ 6 ∧ gi x 40 0 0 = nI sn ∧ gi m 123 0 0 = nI sn ∧ ∀ u, u < sn → gi x 41 0 u = nI (sv 0 u) ∧ gi m 107 0 (3 * u) = nI (sv 0 u) ∧ sv 0 u ≤ 80 ∧ gi x 42 0 u = nI (sv 1 u) ∧ gi m 107 0 (3 * u + 1) = nI (sv 1 u) ∧ 1 ≤ sv 1 u ∧ sv 1 u ≤ 9 ∧ gi x 43 0 u = nI (sv 2 u) ∧ gi m 107 0 (3 * u + 2) = nI (sv 2 u) ∧ sv 2 u ≤ 1
def Rl (x m : zG) : Prop := ∃ (p nj nb : Nat) (J : Nat → Nat → Nat) (N : Nat → Nat) (un : Nat) (U : Nat → Nat → Nat) (tl : Nat) (tx : Nat → Nat) (sn : Nat) (sv : Nat → Nat → Nat), RP x m p nj nb J ∧ RC x m nj J N un U ∧ RI x m nj J ∧ RT x m tl tx ∧ RS x m sn sv ∧ gl x 0 = gl m 0
section REL
variable {x m x' m' : zG} {p nj nb un tl sn : Nat} {J : Nat → Nat → Nat} {N : Nat → Nat} {U : Nat → Nat → Nat} {tx : Nat → Nat} {sv : Nat → Nat → Nat} {Px Pm : Nat → Nat → Prop}
theorem CX.fr {c : Nat} (h : CX x c N un U) (hf : Fr Px x x') (hc : c < 3) (hp : ∀ f a, f ≤ 8 → 11 * c ≤ a → a < 11 * c + 11 → ¬ Px f a) (hp2 : ¬ Px 30 c ∧ ¬ Px 31 c) : CX x' c N un U := by
  obtain ⟨hS, h31, old, ho, h30, hU⟩ := h
  refine ⟨hS.fr hf (fun f q => hp f _ q (by omega) (by omega)), by rw [hf.1 31 c 0 hp2.2]; exact h31, old, ho, by rw [hf.1 30 c 0 hp2.1]; exact h30, fun u hu => ?_⟩
  have hm : (old + u) % 10 < 10 := Nat.mod_lt _ (by omega)
  exact (hU u hu).fr hf (fun f q => hp f _ q (by omega) (by omega))
theorem CM.fr (h : CM m N un U) (hf : Fr Pm m m') (hp : ¬ Pm 105 0 ∧ ¬ Pm 106 0 ∧ ¬ Pm 122 0) : CM m' N un U :=
  ⟨h.1.fr hf hp.1, by rw [hf.1 122 0 0 hp.2.2]; exact h.2.1, fun u hu => (h.2.2 u hu).fr hf hp.2.1⟩
theorem IM.fr {im : Nat} (h : IM m im N un U) (hf : Fr Pm m m') (hp : ¬ Pm 112 0) : IM m' im N un U :=
  ⟨h.1.fr hf hp, by rw [hf.1 112 0 _ hp]; exact h.2.1, fun u hu => (h.2.2 u hu).fr hf hp⟩
theorem RP.fr (h : RP x m p nj nb J) (hx : Fr Px x x') (hpx : ∀ f i, 10 ≤ f → f ≤ 26 → ¬ Px f i) (hm : Fr Pm m m') (hpm : ∀ f, (100 ≤ f ∧ f ≤ 104) ∨ f = 120 ∨ f = 121 → ¬ Pm f 0) : RP x' m' p nj nb J :=
  ⟨h.1, by rw [hx.2.2]; exact h.2.1, by rw [hx.2.2]; exact h.2.2.1, h.2.2.2.1, h.2.2.2.2.1.fr hx hpx, h.2.2.2.2.2.fr hm hpm⟩
theorem RC.fr (h : RC x m nj J N un U) (hx : Fr Px x x') (hpx : ∀ f a, f ≤ 8 → a < 11 → ¬ Px f a) (hpx2 : ¬ Px 30 0 ∧ ¬ Px 31 0) (hm : Fr Pm m m') (hpm : ¬ Pm 105 0 ∧ ¬ Pm 106 0 ∧ ¬ Pm 122 0) : RC x' m' nj J N un U :=
  ⟨h.1.fr hx (by omega) (fun f a q1 q2 q3 => hpx f a q1 (by omega)) hpx2, h.2.1.fr hm hpm, h.2.2⟩
theorem RI.fr (h : RI x m nj J) (hx : Fr Px x x') (hpx : ∀ f a, f ≤ 8 → 11 ≤ a → a < 33 → ¬ Px f a) (hpx2 : ∀ c, 1 ≤ c → c < 3 → ¬ Px 30 c ∧ ¬ Px 31 c) (h60 : ¬ Px 60 0) (hm : Fr Pm m m') (hpm : ¬ Pm 112 0 ∧ ¬ Pm 113 0) : RI x' m' nj J := fun im him => by
  obtain ⟨kp, h1, h2, h3, h4⟩ := h im him
  refine ⟨kp, h1, by rw [hx.1 60 0 im h60]; exact h2, by rw [hm.1 113 0 im hpm.2]; exact h3, fun q => ?_⟩
  obtain ⟨N', un', U', a1, a2, a3⟩ := h4 q
  exact ⟨N', un', U', a1.fr hx (by omega) (fun f a q1 q2 q3 => hpx f a q1 (by omega) (by omega)) (hpx2 _ (by omega) (by omega)), a2.fr hm hpm.1, a3⟩
theorem RT.fr (h : RT x m tl tx) (hx : Fr Px x x') (hpx : ¬ Px 50 0 ∧ ¬ Px 55 0) (hm : Fr Pm m m') (hpm : ¬ Pm 124 0 ∧ ¬ Pm 108 0) : RT x' m' tl tx :=
  ⟨h.1, by rw [hx.1 50 0 0 hpx.1]; exact h.2.1, by rw [hm.1 124 0 0 hpm.1]; exact h.2.2.1, fun j hj => by rw [hx.1 55 0 j hpx.2, hm.1 108 0 j hpm.2]; exact h.2.2.2 j hj⟩
theorem RS.fr (h : RS x m sn sv) (hx : Fr Px x x') (hpx : ¬ Px 40 0 ∧ ¬ Px 41 0 ∧ ¬ Px 42 0 ∧ ¬ Px 43 0) (hm : Fr Pm m m') (hpm : ¬ Pm 123 0 ∧ ¬ Pm 107 0) : RS x' m' sn sv :=
  ⟨h.1, by rw [hx.1 40 0 0 hpx.1]; exact h.2.1, by rw [hm.1 123 0 0 hpm.1]; exact h.2.2.1, fun u hu => by rw [hx.1 41 0 u hpx.2.1, hx.1 42 0 u hpx.2.2.1, hx.1 43 0 u hpx.2.2.2, hm.1 107 0 _ hpm.2, hm.1 107 0 _ hpm.2, hm.1 107 0 _ hpm.2]; exact h.2.2.2 u hu⟩
theorem Fr.tr_t (h : Fr Px x x') : gl x' 0 = gl x 0 := h.2.1 0
/-- only the course changed -/
theorem Rl.course {N' : Nat → Nat} {un' : Nat} {U' : Nat → Nat → Nat} (hP : RP x m p nj nb J) (hI : RI x m nj J) (hT : RT x m tl tx) (hS : RS x m sn sv) (ht : gl x 0 = gl m 0) (hx : Fr (PCo 0) x x') (hm : Fr PCm m m') (hC : RC x' m' nj J N' un' U') : Rl x' m' := by
  refine ⟨p, nj, nb, J, N', un', U', tl, tx, sn, sv, hP.fr hx ?_ hm ?_, hC, hI.fr hx ?_ ?_ ?_ hm ?_, hT.fr hx ?_ hm ?_, hS.fr hx ?_ hm ?_, by rw [hx.tr_t, hm.tr_t]; exact ht⟩
  · intro f i h1 h2 q; rcases q with q | q <;> omega
  · intro f h q; unfold PCm at q; omega
  · intro f a h1 h2 h3 q; rcases q with q | q <;> omega
  · intro c h1 h2; exact ⟨fun q => by rcases q with q | q <;> omega, fun q => by rcases q with q | q <;> omega⟩
  · intro q; rcases q with q | q <;> omega
  · exact ⟨by unfold PCm; omega, by unfold PCm; omega⟩
  · exact ⟨fun q => by rcases q with q | q <;> omega, fun q => by rcases q with q | q <;> omega⟩
  · exact ⟨by unfold PCm; omega, by unfold PCm; omega⟩
  · refine ⟨fun q => ?_, fun q => ?_, fun q => ?_, fun q => ?_⟩ <;> rcases q with q | q <;> omega
  · exact ⟨by unfold PCm; omega, by unfold PCm; omega⟩
theorem WC.ps (h : WC nj J N un U) : WC nj J N (psn un) (psU un U N) := by
  obtain ⟨h1, h2, h3, h4⟩ := h
  refine ⟨by unfold psn; split <;> omega, h2, h3, fun u hu => ?_⟩
  unfold psn at hu
  unfold psU
  by_cases hun : un < 10
  · rw [if_pos hun] at hu ⊢
    by_cases q : u = un
    · simp only [q, if_true]; exact ⟨h2, h3⟩
    · simp only [q, if_false]; exact h4 u (by omega)
  · rw [if_neg hun] at hu ⊢
    by_cases q : u = 9
    · simp only [q, if_true]; exact ⟨h2, h3⟩
    · simp only [q, if_false]; exact h4 (u + 1) (by omega)
end REL
/-- both sides answer alike and stay related -/
def Sm (rx rm : Option (Int32 × zG)) : Prop := ∃ r x' m', rx = some (r, x') ∧ rm = some (r, m') ∧ Rl x' m'
def Sr (rx rm : Option Int32) : Prop := ∃ r, rx = some r ∧ rm = some r
