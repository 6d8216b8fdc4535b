/-! what would replace the circuit between two nodes -/
def rD (z : xC) (t : Int32) (y : Nat) : Int := DD (dN z t y) (fun c r => iM z t (dP z t y) (nE z) r c)
def rX (z : xC) (t : Int32) (x y : Nat) : Nat → Int := cmX (fun r c => iM z t (dP z t y) (nE z) r c) (fun r => iF (dP z t y) x 1 r) (dN z t y)
/-- potentials times the denominator, when 1 is brought into x and taken out of y, that of y being 0 -/
def rV (z : xC) (t : Int32) (x y : Nat) : Nat → Int := vV (dP z t y) (fun _ => 0) (rD z t y) (rX z t x y)
theorem dP_at {z : xC} (hw : wf z) (t : Int32) {y : Nat} (hy : y < nN z) (j : Nat) : dP z t y j = -1 ↔ ¬ (j < nN z ∧ ¬ (gM z t y / 2 ^ j % 2 = 0 ∨ j = y)) := by
  rw [(dP_rP hw t hy).1]
  exact rs_at _ _ _ _ hw.N
theorem dP_k {z : xC} (hw : wf z) (t : Int32) {y v : Nat} (hy : y < nN z) (hv : v < nN z) (hb : (gM z t y).testBit v = true) (hvy : ¬ v = y) : ∃ r, r < dN z t y ∧ ∀ j, dP z t y j = nI r ↔ j = v := by
  have hN := hw.N
  have e := dP_rP hw t hy
  have h7 := rN_7 hw (gM z t y) hy
  have h0 : ¬ gM z t y / 2 ^ v % 2 = 0 := by rw [bt_0, hb]; decide
  have h1 : ¬ dP z t y v = -1 := fun q => (dP_at hw t hy v).mp q ⟨hv, fun g => by rcases g with g | g; exact h0 g; exact hvy g⟩
  have hp : plQ (dP z t y) (dN z t y) := by rw [e.1, e.2]; exact rs_pl _ _ _
  obtain ⟨r, k1, k2, k3⟩ := hp.at (j := v) (by omega) h1 (by rw [e.2]; omega)
  refine ⟨r, k1, fun j => ⟨fun h => ?_, fun h => by rw [h]; exact k2⟩⟩
  rw [e.1] at h k2
  rw [e.2] at k1
  exact rs_inj (gM z t y) y (nN z) hN r j v (by omega) h k2
theorem rD_pos {z : xC} (hw : wf z) (t : Int32) {y : Nat} (hy : y < nN z) : 0 < rD z t y := by
  have h := r_pos hw t hy
  have e := dP_rP hw t hy
  rw [rD, e.1, e.2]
  exact h
theorem rV_0 {z : xC} (hw : wf z) (t : Int32) {x y v : Nat} (hy : y < nN z) (h : v = y ∨ (gM z t y).testBit v = false ∨ ¬ v < nN z) : rV z t x y v = 0 := by
  have h1 : dP z t y v = -1 := (dP_at hw t hy v).mpr (fun q => by
    rcases h with g | g | g
    · exact q.2 (Or.inr g)
    · exact q.2 (Or.inl (bt_0.mpr g))
    · exact g q.1)
  have e : rV z t x y v = 0 * rD z t y := vV_m h1
  rw [e, Int.zero_mul]
theorem kcl_r0 {z : xC} (hw : wf z) (t : Int32) {x y v : Nat} (hy : y < nN z) (hv : v < nN z) (hb : (gM z t y).testBit v = true) (hvy : ¬ v = y) : ntC z t (rV z t x y) v = if x = v then rD z t y else 0 := by
  have e := dP_rP hw t hy
  have h7 := rN_7 hw (gM z t y) hy
  have hp : plQ (dP z t y) (dN z t y) := by rw [e.1, e.2]; exact rs_pl _ _ _
  obtain ⟨r, h1, h2⟩ := dP_k hw t hy hv hb hvy
  have hc := cramer (fun r c => iM z t (dP z t y) (nE z) r c) (fun r => iF (dP z t y) x 1 r) h1
  have hm := iM_V hw t (show dN z t y ≤ 8 by rw [e.2]; omega) hp h1 (rD z t y) (fun _ => 0) (rX z t x y) (nE z) (Nat.le_refl _)
  rw [ntC_p h2, iT_0, Int.zero_mul, Int.zero_add] at hm
  have hc : sumI (dN z t y) (fun c => iM z t (dP z t y) (nE z) r c * rX z t x y c) = iF (dP z t y) x 1 r * rD z t y := hc
  rw [hm, iF, ite_iff (d' := instDecidableEqNat x v) (h2 x)] at hc
  refine Eq.trans hc ?_
  split
  · exact Int.one_mul _
  · exact Int.zero_mul _
theorem sI_only {f : Nat → Int} {y : Nat} : ∀ n, y < n → (∀ j, j < n → j ≠ y → f j = 0) → sumI n f = f y
  | 0, h, _ => absurd h (Nat.not_lt_zero _)
  | n + 1, h, k => by
    rw [sumI]
    by_cases e : y = n
    · subst e
      rw [sumI_0 y (fun j hj => k j (by omega) (by omega)), Int.zero_add]
    · rw [sI_only n (by omega) (fun j hj hn => k j (by omega) hn), k n (by omega) (fun q => e q.symm), Int.add_zero]
theorem kcl_r {z : xC} (hw : wf z) (t : Int32) {x y : Nat} (hx : x < nN z) (hy : y < nN z) (hxy : (gM z t y).testBit x = true) {v : Nat} (hv : v < nN z) : ntC z t (rV z t x y) v = (if x = v then rD z t y else 0) - (if y = v then rD z t y else 0) := by
  have hN := hw.N
  have key : ∀ v, v < nN z → v ≠ y → ntC z t (rV z t x y) v - (if x = v then rD z t y else 0) + (if y = v then rD z t y else 0) = 0 := fun v hv hvy => by
    rw [if_neg (show ¬ y = v from fun q => hvy q.symm)]
    cases hb : (gM z t y).testBit v
    · have hxv : ¬ x = v := fun q => by rw [q, hb] at hxy; cases hxy
      have h0 : ntC z t (rV z t x y) v = 0 := by
        rw [ntC]
        refine sumI_0 _ (fun e he => ?_)
        have hz : (cA z e = v ∨ cB z e = v) → cZ z t e * dV z (rV z t x y) e = 0 := fun hq => by
          by_cases c : cnd z t e
          · have hg := gM_bit hw he c (b := y) (by omega)
            have hf : (gM z t y).testBit (cA z e) = false ∧ (gM z t y).testBit (cB z e) = false := by
              rcases hq with q | q
              · rw [q] at hg ⊢; rw [← hg]; exact ⟨hb, hb⟩
              · rw [q] at hg ⊢; rw [hg]; exact ⟨hb, hb⟩
            rw [dV, rV_0 hw t hy (Or.inr (Or.inl hf.1)), rV_0 hw t hy (Or.inr (Or.inl hf.2)), Int.sub_self, Int.mul_zero]
          · rw [(cZ_nn hw t he).2.2 c, Int.zero_mul]
        by_cases q1 : cA z e = v
        · rw [hz (Or.inl q1), if_pos q1]; split <;> rfl
        · by_cases q2 : cB z e = v
          · rw [hz (Or.inr q2), if_neg q1, if_pos q2]; rfl
          · rw [if_neg q1, if_neg q2]; rfl
      rw [h0, if_neg hxv]; rfl
    · rw [kcl_r0 hw t hy hv hb hvy]; split <;> omega
  have hs : sumI (nN z) (fun v => ntC z t (rV z t x y) v - (if x = v then rD z t y else 0) + (if y = v then rD z t y else 0)) = 0 := by
    rw [sI_add, sI_sub, sI_eq, sI_eq, if_pos hx, if_pos hy]
    have e1 : sumI (nN z) (fun v => ntC z t (rV z t x y) v) = sumI (nN z) (fun v => (fun _ => (1 : Int)) v * ntC z t (rV z t x y) v) := sumI_congr _ (fun _ _ => (Int.one_mul _).symm)
    have e2 : enC z t (fun _ => 1) (rV z t x y) = 0 := sumI_0 _ (fun e _ => by
      rw [dV, Int.sub_self, Int.zero_mul, Int.mul_zero])
    rw [e1, en_net hw t (fun _ => 1), e2]
    omega
  rw [sI_only _ hy (fun j h1 h2 => key j h1 h2)] at hs
  by_cases e : v = y
  · subst e; omega
  · have := key v hv e; omega
/-- the product of a function's steps and the currents -/
theorem en_r {z : xC} (hw : wf z) (t : Int32) {x y : Nat} (hx : x < nN z) (hy : y < nN z) (hxy : (gM z t y).testBit x = true) (φ : Nat → Int) : enC z t φ (rV z t x y) = rD z t y * (φ x - φ y) := by
  rw [← en_net hw]
  have e : sumI (nN z) (fun j => φ j * ntC z t (rV z t x y) j) = sumI (nN z) (fun j => φ j * (if x = j then rD z t y else 0) - φ j * (if y = j then rD z t y else 0)) := sumI_congr _ (fun j hj => by
    rw [kcl_r hw t hx hy hxy hj, Int.mul_sub])
  rw [e, sI_sub, sI_pick φ hx, sI_pick φ hy]
  grind
theorem en_neg (z : xC) (t : Int32) (φ V : Nat → Int) : enC z t φ (fun i => -V i) = -enC z t φ V := by
  rw [enC, enC]
  refine sumI_neg _ (fun e _ => ?_)
  have e1 : dV z (fun i => -V i) e = -dV z V e := by
    show -V (cA z e) - -V (cB z e) = -(V (cA z e) - V (cB z e))
    omega
  rw [e1, Int.mul_neg, Int.mul_neg]
section RR
variable {z : xC} {t : Int32} {x y : Nat}
theorem rV_min (hw : wf z) (hx : x < nN z) (hy : y < nN z) (hxy : (gM z t y).testBit x = true) (v : Nat) : 0 ≤ rV z t x y v := by
  have hN := hw.N
  have hD := rD_pos hw t hy
  by_cases hv : v < nN z ∧ (gM z t y).testBit v = true
  · have hE : ∀ e, e < nE z → cnd z t e → 0 ≤ dV z (fun j => posP (-rV z t x y j - 0)) e * dV z (fun i => -rV z t x y i) e ∧ (dV z (fun j => posP (-rV z t x y j - 0)) e * dV z (fun i => -rV z t x y i) e = 0 → posP (-rV z t x y (cA z e) - 0) = posP (-rV z t x y (cB z e) - 0)) := fun e _ _ => pos_mono _ _ _
    have h1 : enC z t (fun j => posP (-rV z t x y j - 0)) (fun i => -rV z t x y i) ≤ 0 := by
      rw [en_neg, en_r hw t hx hy hxy]
      have h2 : posP (-rV z t x y y - 0) = 0 := by rw [rV_0 hw t hy (Or.inl rfl)]; rfl
      have h3 : 0 ≤ posP (-rV z t x y x - 0) := by unfold posP; split <;> omega
      rw [h2]
      have := Int.mul_nonneg (Int.le_of_lt hD) (show 0 ≤ posP (-rV z t x y x - 0) - 0 by omega)
      omega
    have hz := en_0 hw (fun e he hc => (hE e he hc).1) h1
    have hg := gM_const hw (t := t) (φ := fun j => posP (-rV z t x y j - 0)) (fun e he hc => (hE e he hc).2 (hz e he hc)) (j := y) (k := v) (by omega) (by omega) hv.2
    have hg : posP (-rV z t x y v - 0) = posP (-rV z t x y y - 0) := hg
    rw [rV_0 hw t hy (v := y) (Or.inl rfl)] at hg
    unfold posP at hg
    split at hg <;> omega
  · rw [rV_0 hw t hy]
    · exact Int.le_refl _
    · by_cases h : v < nN z
      · refine Or.inr (Or.inl ?_)
        cases q : (gM z t y).testBit v
        · rfl
        · exact absurd ⟨h, q⟩ hv
      · exact Or.inr (Or.inr h)
theorem rV_max (hw : wf z) (hx : x < nN z) (hy : y < nN z) (hxy : (gM z t y).testBit x = true) (v : Nat) : rV z t x y v ≤ rV z t x y x := by
  have hN := hw.N
  have hD := rD_pos hw t hy
  by_cases hv : v < nN z ∧ (gM z t y).testBit v = true
  · have hE : ∀ e, e < nE z → cnd z t e → 0 ≤ dV z (fun j => posP (rV z t x y j - rV z t x y x)) e * dV z (rV z t x y) e ∧ (dV z (fun j => posP (rV z t x y j - rV z t x y x)) e * dV z (rV z t x y) e = 0 → posP (rV z t x y (cA z e) - rV z t x y x) = posP (rV z t x y (cB z e) - rV z t x y x)) := fun e _ _ => pos_mono _ _ _
    have h2 : posP (rV z t x y x - rV z t x y x) = 0 := by rw [Int.sub_self]; rfl
    have h1 : enC z t (fun j => posP (rV z t x y j - rV z t x y x)) (rV z t x y) ≤ 0 := by
      rw [en_r hw t hx hy hxy]
      have h3 : 0 ≤ posP (rV z t x y y - rV z t x y x) := by unfold posP; split <;> omega
      rw [h2]
      have := Int.mul_nonneg (Int.le_of_lt hD) h3
      grind
    have hz := en_0 hw (fun e he hc => (hE e he hc).1) h1
    have hc : ∀ e, e < nE z → cnd z t e → posP (rV z t x y (cA z e) - rV z t x y x) = posP (rV z t x y (cB z e) - rV z t x y x) := fun e he hc => (hE e he hc).2 (hz e he hc)
    have g1 : posP (rV z t x y v - rV z t x y x) = posP (rV z t x y y - rV z t x y x) := gM_const hw (t := t) (φ := fun j => posP (rV z t x y j - rV z t x y x)) hc (j := y) (k := v) (by omega) (by omega) hv.2
    have g2 : posP (rV z t x y x - rV z t x y x) = posP (rV z t x y y - rV z t x y x) := gM_const hw (t := t) (φ := fun j => posP (rV z t x y j - rV z t x y x)) hc (j := y) (k := x) (by omega) (by omega) hxy
    rw [← g2, h2] at g1
    unfold posP at g1
    split at g1 <;> omega
  · rw [rV_0 hw t hy (v := v)]
    · exact rV_min hw hx hy hxy x
    · by_cases h : v < nN z
      · refine Or.inr (Or.inl ?_)
        cases q : (gM z t y).testBit v
        · rfl
        · exact absurd ⟨h, q⟩ hv
      · exact Or.inr (Or.inr h)
theorem sI_pos {f : Nat → Int} : ∀ n, 0 < sumI n f → ∃ j, j < n ∧ 0 < f j
  | 0, h => absurd h (by show ¬ (0 : Int) < 0; omega)
  | n + 1, h => by
    rw [sumI] at h
    by_cases c : 0 < sumI n f
    · obtain ⟨j, h1, h2⟩ := sI_pos n c
      exact ⟨j, by omega, h2⟩
    · exact ⟨n, Nat.lt_succ_self _, by omega⟩
/-- above each potential below the greatest there is one at most 1 greater -/
theorem rV_step (hw : wf z) (hx : x < nN z) (hy : y < nN z) (hxy : (gM z t y).testBit x = true) {θ : Int} (h0 : 0 ≤ θ) (h1 : θ < rV z t x y x) : ∃ i, i < nN z ∧ θ < rV z t x y i ∧ rV z t x y i ≤ θ + rD z t y := by
  have hE : ∀ e, e < nE z → cnd z t e → 0 ≤ dV z (fun j => if θ < rV z t x y j then 1 else 0) e * dV z (rV z t x y) e := fun e _ _ => by
    show 0 ≤ ((if θ < rV z t x y (cA z e) then 1 else 0) - (if θ < rV z t x y (cB z e) then 1 else 0)) * (rV z t x y (cA z e) - rV z t x y (cB z e))
    by_cases a : θ < rV z t x y (cA z e) <;> by_cases b : θ < rV z t x y (cB z e)
    · rw [if_pos a, if_pos b]; omega
    · rw [if_pos a, if_neg b]; omega
    · rw [if_neg a, if_pos b]; omega
    · rw [if_neg a, if_neg b]; omega
  have hs : enC z t (fun j => if θ < rV z t x y j then 1 else 0) (rV z t x y) = rD z t y := by
    rw [en_r hw t hx hy hxy, if_pos h1, rV_0 hw t hy (v := y) (Or.inl rfl), if_neg (by omega)]
    omega
  have hD := rD_pos hw t hy
  have ht := en_t hw hE
  obtain ⟨e, e1, e2⟩ := sI_pos (nE z) (by rw [← hs] at hD; exact hD)
  have e3 : cZ z t e * (dV z (fun j => if θ < rV z t x y j then 1 else 0) e * dV z (rV z t x y) e) ≤ rD z t y := by
    rw [← hs]; exact (sI_nn (nE z) ht).2 e e1
  obtain ⟨c1, c2, c3⟩ := cZ_nn hw t e1
  have e2 : 0 < cZ z t e * (dV z (fun j => if θ < rV z t x y j then 1 else 0) e * dV z (rV z t x y) e) := e2
  have hc : cnd z t e := Classical.byContradiction (fun q => by rw [c3 q, Int.zero_mul] at e2; omega)
  have c4 := c2 hc
  have h5 := hE e e1 hc
  have h6 : dV z (fun j => if θ < rV z t x y j then 1 else 0) e * dV z (rV z t x y) e ≤ rD z t y := by
    have := Int.mul_le_mul_of_nonneg_right c4 h5
    omega
  have h7 : ¬ dV z (fun j => if θ < rV z t x y j then 1 else 0) e * dV z (rV z t x y) e = 0 := fun q => by rw [q, Int.mul_zero] at e2; omega
  have h6 : ((if θ < rV z t x y (cA z e) then 1 else 0) - (if θ < rV z t x y (cB z e) then 1 else 0)) * (rV z t x y (cA z e) - rV z t x y (cB z e)) ≤ rD z t y := h6
  have h7 : ¬ ((if θ < rV z t x y (cA z e) then 1 else 0) - (if θ < rV z t x y (cB z e) then 1 else 0)) * (rV z t x y (cA z e) - rV z t x y (cB z e)) = 0 := h7
  by_cases a : θ < rV z t x y (cA z e) <;> by_cases b : θ < rV z t x y (cB z e)
  · rw [if_pos a, if_pos b] at h7; omega
  · rw [if_pos a, if_neg b] at h6; exact ⟨cA z e, hw.a8 e1, a, by omega⟩
  · rw [if_neg a, if_pos b] at h6; exact ⟨cB z e, hw.b8 e1, b, by omega⟩
  · rw [if_neg a, if_neg b] at h7; omega
theorem sN_lt {f g : Nat → Nat} {i : Nat} : ∀ n, i < n → (∀ j, j < n → f j ≤ g j) → f i < g i → sumN n f < sumN n g
  | 0, h, _, _ => absurd h (Nat.not_lt_zero _)
  | n + 1, h, k, l => by
    rw [sumN, sumN]
    have h1 := sumN_le n (fun j hj => k j (by omega))
    have h2 := k n (by omega)
    by_cases e : i = n
    · subst e; omega
    · have := sN_lt n (by omega) (fun j hj => k j (by omega)) l
      omega
theorem rV_cnt (hw : wf z) (hx : x < nN z) (hy : y < nN z) (hxy : (gM z t y).testBit x = true) : ∀ (c : Nat) (θ : Int), 0 ≤ θ → sumN (nN z) (fun i => if θ < rV z t x y i then 1 else 0) ≤ c → rV z t x y x ≤ θ + (c : Int) * rD z t y
  | 0, θ, h0, h => by
    apply Classical.byContradiction
    intro g
    have := sumN_ge (fun i => if θ < rV z t x y i then 1 else 0) (nN z) x hx
    rw [if_pos (by omega)] at this
    omega
  | c + 1, θ, h0, h => by
    have hD := rD_pos hw t hy
    by_cases g : θ < rV z t x y x
    · obtain ⟨i, i1, i2, i3⟩ := rV_step hw hx hy hxy h0 g
      have hl := sN_lt (f := fun j => if rV z t x y i < rV z t x y j then 1 else 0) (g := fun j => if θ < rV z t x y j then 1 else 0) (i := i) (nN z) i1 (fun j _ => by
        by_cases q : rV z t x y i < rV z t x y j
        · rw [if_pos q, if_pos (by omega)]; exact Nat.le_refl _
        · rw [if_neg q]; exact Nat.zero_le _) (by rw [if_neg (by omega), if_pos i2]; decide)
      have ih := rV_cnt hw hx hy hxy c (rV z t x y i) (by omega) (by omega)
      have e : ((c + 1 : Nat) : Int) * rD z t y = (c : Int) * rD z t y + rD z t y := by
        rw [Int.natCast_add, Int.add_mul]
        omega
      omega
    · have := Int.mul_nonneg (show (0 : Int) ≤ ((c + 1 : Nat) : Int) by omega) (Int.le_of_lt hD)
      omega
theorem sN_8 (P : Nat → Prop) [d : DecidablePred P] : ∀ n, sumN n (fun i => if P i then 1 else 0) ≤ n
  | 0 => Nat.le_refl _
  | n + 1 => by
    have := sN_8 P n
    rw [sumN]
    split <;> omega
/-- a resistance is at most 8 -/
theorem rV_8 (hw : wf z) (hx : x < nN z) (hy : y < nN z) (hxy : (gM z t y).testBit x = true) : rV z t x y x ≤ 8 * rD z t y := by
  have hN := hw.N
  have h1 : sumN (nN z) (fun i => if (0 : Int) < rV z t x y i then 1 else 0) ≤ 8 := by
    have : sumN (nN z) (fun i => if (0 : Int) < rV z t x y i then 1 else 0) ≤ nN z := by
      induction nN z with
      | zero => exact Nat.le_refl _
      | succ n ih => rw [sumN]; split <;> omega
    omega
  have := rV_cnt hw hx hy hxy 8 0 (Int.le_refl _) h1
  omega
end RR
theorem en_lin (z : xC) (t : Int32) (φ U V : Nat → Int) (a b : Int) : enC z t φ (fun i => a * U i + b * V i) = a * enC z t φ U + b * enC z t φ V := by
  rw [enC, enC, enC]
  refine sumI_lin _ (fun e _ => ?_)
  have e1 : dV z (fun i => a * U i + b * V i) e = a * dV z U e + b * dV z V e := by
    show a * U (cA z e) + b * V (cA z e) - (a * U (cB z e) + b * V (cB z e)) = a * (U (cA z e) - U (cB z e)) + b * (V (cA z e) - V (cB z e))
    grind
  rw [e1]
  grind
/-- the way by a third node is no shorter -/
theorem rV_tri {z : xC} (hw : wf z) {t : Int32} {a c d : Nat} (ha : a < nN z) (hc : c < nN z) (hd : d < nN z) (hac : (gM z t a).testBit c = true) (had : (gM z t a).testBit d = true) : rV z t a c a * rD z t d ≤ rV z t a d a * rD z t c + rV z t d c d * rD z t d := by
  have hN := hw.N
  have ec := gM_eq hw (t := t) (j := a) (k := c) (by omega) (by omega) hac
  have ed := gM_eq hw (t := t) (j := a) (k := d) (by omega) (by omega) had
  have hca : (gM z t c).testBit a = true := by rw [ec]; exact gM_self hw t (by omega)
  have hda : (gM z t d).testBit a = true := by rw [ed]; exact gM_self hw t (by omega)
  have hcd : (gM z t c).testBit d = true := by rw [ec]; exact had
  have hDc := rD_pos hw t hc
  have hDd := rD_pos hw t hd
  have hlin : ∀ φ : Nat → Int, enC z t φ (fun i => rD z t d * rV z t a c i + 1 * (-rD z t c * rV z t a d i + -rD z t d * rV z t d c i)) = 0 := fun φ => by
    rw [en_lin z t φ (rV z t a c) (fun i => -rD z t c * rV z t a d i + -rD z t d * rV z t d c i), en_lin z t φ (rV z t a d) (rV z t d c), en_r hw t ha hc hca, en_r hw t ha hd hda, en_r hw t hd hc hcd]
    generalize rD z t c = A
    generalize rD z t d = B
    grind
  have sq : ∀ a : Int, 0 ≤ a * a := fun a => by
    rcases Int.le_total 0 a with h | h
    · exact Int.mul_nonneg h h
    · exact Int.mul_nonneg_of_nonpos_of_nonpos h h
  generalize hH : (fun i => rD z t d * rV z t a c i + 1 * (-rD z t c * rV z t a d i + -rD z t d * rV z t d c i)) = H at hlin
  have hz := en_0 hw (t := t) (φ := H) (V := H) (fun e _ _ => sq _) (by rw [hlin]; exact Int.le_refl _)
  have hg : H a = H c := gM_const hw (t := t) (φ := H) (fun e he hc => by
    have h := hz e he hc
    have h2 : dV z H e = 0 := by
      rcases Int.mul_eq_zero.mp h with g | g <;> exact g
    rw [dV] at h2
    omega) (j := c) (k := a) (by omega) (by omega) hca
  have h1 : H a = rD z t d * rV z t a c a + 1 * (-rD z t c * rV z t a d a + -rD z t d * rV z t d c a) := by rw [← hH]
  have h2 : H c = rD z t d * rV z t a c c + 1 * (-rD z t c * rV z t a d c + -rD z t d * rV z t d c c) := by rw [← hH]
  rw [h1, h2, rV_0 hw t hc (x := a) (v := c) (Or.inl rfl), rV_0 hw t hc (x := d) (v := c) (Or.inl rfl)] at hg
  have p1 := Int.mul_nonneg (Int.le_of_lt hDc) (rV_min hw ha hd hda c)
  have p2 := Int.mul_nonneg (Int.le_of_lt hDd) (show 0 ≤ rV z t d c d - rV z t d c a by have := rV_max hw hd hc hcd a; omega)
  generalize rV z t a c a = x1 at hg ⊢
  generalize rV z t a d a = x2 at hg ⊢
  generalize rV z t d c a = x3 at hg p2 ⊢
  generalize rV z t d c d = x4 at p2 ⊢
  generalize rV z t a d c = x5 at hg p1
  generalize rD z t c = A at hg p1 ⊢
  generalize rD z t d = B at hg p2 ⊢
  grind
theorem rD_I {z : xC} (hw : wf z) (t : Int32) {a b : Nat} (ha : a < nN z) (hb : b < nN z) : (dm (dR z t a b) (dN z t b) (2 ^ dN z t b - 1)).toInt = rD z t b ∧ rD z t b < mxK := by
  have hK : mxK = 124500000000000 := rfl
  obtain ⟨e1, e2⟩ := dP_rP hw t hb
  have h7 : dN z t b ≤ 7 := by rw [e2]; exact rN_7 hw _ hb
  have hm : ∀ r, r < dN z t b → ∀ c, c < dN z t b → (dR z t a b r c).toInt = iM z t (dP z t b) (nE z) r c := fun r hr c hc => by
    have h := (m_le hw (t := t) (p := dP z t b) (show dN z t b ≤ 8 by omega) (ki := fun _ => 0) (fun _ => by decide) hr).1 c hc
    rw [dR_M hw t ha hb hr hc, sM_I, i64_I (by omega)]
  have e : DD (dN z t b) (fun c r => (dR z t a b r c).toInt) = rD z t b := DD_congr _ _ _ (fun c hc r hr => hm r hr c hc)
  have h2 : (rD z t b).natAbs < mxK := d_le hw h7 (t := t) (p := dP z t b)
  rw [dm_full _ h7, e, i64_I (by omega)]
  exact ⟨rfl, by omega⟩
theorem rV_I {z : xC} (hw : wf z) (t : Int32) {a b : Nat} (ha : a < nN z) (hb : b < nN z) : (upV (dP z t b) (fun _ => 0) (dm (dR z t a b) (dN z t b)) (dN z t b) a).toInt = rV z t a b a ∧ rV z t a b a < mxK := by
  have hK : mxK = 124500000000000 := rfl
  have hN := hw.N
  obtain ⟨e1, e2⟩ := dP_rP hw t hb
  have h7 : dN z t b ≤ 7 := by rw [e2]; exact rN_7 hw _ hb
  have hp : plQ (dP z t b) (dN z t b) := by rw [e1, e2]; exact rs_pl _ _ _
  have hm : ∀ r, r < dN z t b → ∀ c, c < dN z t b → (dR z t a b r c).toInt = iM z t (dP z t b) (nE z) r c := fun r hr c hc => by
    have h := (m_le hw (t := t) (p := dP z t b) (show dN z t b ≤ 8 by omega) (ki := fun _ => 0) (fun _ => by decide) hr).1 c hc
    rw [dR_M hw t ha hb hr hc, sM_I, i64_I (by omega)]
  have hf : ∀ r, r < dN z t b → (dR z t a b r (dN z t b)).toInt = iF (dP z t b) a 1 r := fun r hr => by
    rw [dR_R hw t ha hb hr, show (1 : Int64) = Int64.ofInt 1 by decide, fC_I, i64_I (by rw [iF]; split <;> decide)]
  rw [upV]
  by_cases h1 : dP z t b a = -1
  · have hv : rV z t a b a = 0 * rD z t b := vV_m h1
    rw [if_pos (by rw [h1]; decide), Int64.zero_mul, i64_0, hv, Int.zero_mul]
    exact ⟨rfl, by decide⟩
  · obtain ⟨k, hk, ek, ck⟩ := hp.at (by omega) h1 (by omega)
    have hv : rV z t a b a = rX z t a b k := vV_k (by omega) ek
    rw [if_neg (fun q => h1 ((neg1_lt hp (by omega) (by omega)).mp q)), ck, ← dm_cr (dR z t a b) (fun r c => if c = k then dR z t a b r (dN z t b) else dR z t a b r c) h7 hk (fun r _ => if_pos rfl) (fun r c _ _ hne => if_neg hne), dm_full _ h7]
    have e : DD (dN z t b) (fun c r => (if c = k then dR z t a b r (dN z t b) else dR z t a b r c).toInt) = DD (dN z t b) (fun c r => if c = k then iF (dP z t b) a 1 r else iM z t (dP z t b) (nE z) r c) := DD_congr _ _ _ (fun c hc r hr => by
      by_cases q : c = k
      · rw [if_pos q, if_pos q, hf r hr]
      · rw [if_neg q, if_neg q, hm r hr c hc])
    have hb2 := c_le hw h7 (t := t) (p := dP z t b) (a := a) (k := k)
    have e2 : rX z t a b k = DD (dN z t b) (fun c r => if c = k then iF (dP z t b) a 1 r else iM z t (dP z t b) (nE z) r c) := rfl
    rw [e, hv, e2, i64_I (by omega)]
    exact ⟨rfl, by omega⟩
