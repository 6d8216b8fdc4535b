/-! Euclid on both sides; what is to be known of the numbers -/
theorem rm_t (u w : Int64) : (u - u / w * w).toInt = u.toInt.tmod w.toInt := by
  rw [Int64.toInt_sub, Int64.toInt_mul, Int64.toInt_div, Int.bmod_mul_bmod, Int.sub_bmod_bmod]
  have e1 : u.toInt - u.toInt.tdiv w.toInt * w.toInt = u.toInt.tmod w.toInt := by
    have := Int.tmod_add_mul_tdiv u.toInt w.toInt
    rw [Int.mul_comm] at this
    omega
  rw [e1, ← Int64.toInt_mod, Int64.toInt_bmod]
def gI (n : Nat) (a b : Int64) : Prop := 0 ≤ a.toInt ∧ 0 ≤ b.toInt ∧ (n % 2 = 0 → b.toInt < 2 ^ (n / 2)) ∧ (n % 2 = 1 → b.toInt ≤ a.toInt ∧ a.toInt < 2 ^ (n / 2 + 1))
theorem gI_s {n : Nat} {a b : Int64} (h : gI (n + 1) a b) (hb : ¬ b = 0) : gI n b (a - a / b * b) := by
  obtain ⟨ha, hb0, h3, h4⟩ := h
  have hbn : ¬ b.toInt = 0 := fun e => hb (Int64.toInt_inj.mp e)
  have er : (a - a / b * b).toInt = a.toInt % b.toInt := by rw [rm_t, Int.tmod_eq_emod_of_nonneg ha]
  have a1 := Int.emod_nonneg a.toInt (b := b.toInt) (by omega)
  have a2 := Int.emod_lt_of_pos a.toInt (b := b.toInt) (by omega)
  refine ⟨hb0, by omega, fun e => ?_, fun e => ?_⟩
  · have ⟨q1, q2⟩ := h4 (by omega)
    have e2 : (n + 1) / 2 + 1 = n / 2 + 1 := by omega
    rw [e2, Int.pow_succ] at q2
    have q3 : b.toInt * (a.toInt / b.toInt) + a.toInt % b.toInt = a.toInt := by
      have := Int.emod_add_mul_ediv a.toInt b.toInt
      omega
    have q4 : 1 ≤ a.toInt / b.toInt := (Int.le_ediv_iff_mul_le (by omega)).mpr (by omega)
    have q5 := Int.mul_nonneg (show 0 ≤ b.toInt by omega) (show 0 ≤ a.toInt / b.toInt - 1 by omega)
    rw [Int.mul_sub, Int.mul_one] at q5
    rw [er]
    omega
  · have q := h3 (by omega)
    have e2 : (n + 1) / 2 = n / 2 + 1 := by omega
    rw [e2] at q
    exact ⟨by omega, q⟩
theorem gcdS_z (k : Nat) (a : Int64) : gcdS k a 0 = a := by
  cases k with
  | zero => rfl
  | succ k => rw [gcdS, if_pos rfl]
theorem gcdS_st : ∀ (n k l : Nat) (a b : Int64), n ≤ k → n ≤ l → gI n a b → gcdS k a b = gcdS l a b
  | 0, k, l, a, b, _, _, h => by
    have h1 := h.2.2.1 rfl
    have h2 := h.2.1
    have e : (2 : Int) ^ (0 / 2) = 1 := rfl
    have : b = 0 := Int64.toInt_inj.mp (by rw [i64_0]; omega)
    rw [this, gcdS_z, gcdS_z]
  | n + 1, k, l, a, b, hk, hl, h => by
    obtain ⟨k, rfl⟩ : ∃ j, k = j + 1 := ⟨k - 1, by omega⟩
    obtain ⟨l, rfl⟩ : ∃ j, l = j + 1 := ⟨l - 1, by omega⟩
    rw [gcdS, gcdS]
    by_cases c : b = 0
    · rw [if_pos c, if_pos c]
    · rw [if_neg c, if_neg c]
      exact gcdS_st n k l _ _ (by omega) (by omega) (gI_s h c)
theorem gI_top {a b : Int64} (ha : 0 ≤ a.toInt) (hb : 0 ≤ b.toInt) : gI 126 a b := by
  refine ⟨ha, hb, fun _ => ?_, fun h => absurd h (by decide)⟩
  have := b.toInt_lt
  have e : (2 : Int) ^ (126 / 2) = 9223372036854775808 := by decide
  rw [e]
  omega
theorem gcd_eq {a b : Int64} (ha : 0 ≤ a.toInt) (hb : 0 ≤ b.toInt) : gcdS 200 a b = gcdW a b := by
  rw [gcdW, gcdS_st 126 200 (126 + (b.toInt.natAbs + 1)) a b (by decide) (by omega) (gI_top ha hb)]
  exact (gcdS_more _ _ a b (Nat.lt_succ_self _) (by omega)).symm
theorem gcdS_pos : ∀ (k : Nat) (a b : Int64), 0 ≤ a.toInt → 0 ≤ b.toInt → b.toInt.natAbs < k → (0 < a.toInt ∨ 0 < b.toInt) → 0 < (gcdS k a b).toInt
  | 0, _, _, _, _, h, _ => absurd h (Nat.not_lt_zero _)
  | k + 1, a, b, ha, hb, h, hp => by
    rw [gcdS]
    by_cases c : b = 0
    · rw [if_pos c]
      rcases hp with g | g
      · exact g
      · rw [c, i64_0] at g; omega
    · rw [if_neg c]
      have hbn : ¬ b.toInt = 0 := fun e => c (Int64.toInt_inj.mp e)
      have er : (a - a / b * b).toInt = a.toInt % b.toInt := by rw [rm_t, Int.tmod_eq_emod_of_nonneg ha]
      have a1 := Int.emod_nonneg a.toInt (b := b.toInt) (by omega)
      have a2 := Int.emod_lt_of_pos a.toInt (b := b.toInt) (by omega)
      exact gcdS_pos k b _ hb (by omega) (by omega) (Or.inl (by omega))
theorem absL_nn {u : Int64} (h : u ≠ Int64.minValue) : 0 ≤ (absL u).toInt := by
  rw [absL]
  by_cases c : 0 ≤ u
  · rw [if_pos c]; exact i64_nn.mp c
  · rw [if_neg c]
    have hn : ¬ 0 ≤ u.toInt := fun g => c (i64_nn.mpr g)
    have hm : u.toInt ≠ -9223372036854775808 := fun g => h (Int64.toInt_inj.mp (by rw [g]; rfl))
    have h1 := u.le_toInt
    rw [Int64.toInt_neg, Int.bmod_eq_of_le (by omega) (by omega)]
    omega
theorem absL_pos {w : Int64} (h : 0 < w) : absL w = w := by
  rw [absL, if_pos (i64_nn.mpr (by have := i64_pos.mp h; omega))]
theorem gcdW_ne {u w : Int64} (hw : 0 < w) (hu : u ≠ Int64.minValue) : ¬ gcdW (absL u) (absL w) = 0 := by
  rw [absL_pos hw]
  intro e
  have h := gcdS_pos (w.toInt.natAbs + 1) (absL u) w (absL_nn hu) (by have := i64_pos.mp hw; omega) (Nat.lt_succ_self _) (Or.inr (i64_pos.mp hw))
  have e2 : gcdS (w.toInt.natAbs + 1) (absL u) w = 0 := e
  rw [e2, i64_0] at h
  omega
theorem pt_eq {u w : Int64} (hw : 0 < w) (hu : u ≠ Int64.minValue) (b : Int32) : ptW u w b = ptF u w b := by
  have hp := i64_pos.mp hw
  have hg := gcdW_ne hw hu
  have hpos := gcdS_pos (w.toInt.natAbs + 1) (absL u) w (absL_nn hu) (by omega) (Nat.lt_succ_self _) (Or.inr hp)
  have e0 : gcdS (w.toInt.natAbs + 1) (absL u) w = gcdW (absL u) w := rfl
  rw [e0] at hpos
  rw [ptW, ptF, absL_pos hw, gcd_eq (absL_nn hu) (by omega)]
  by_cases c : 1 < gcdW (absL u) w
  · rw [if_pos c]
  · rw [if_neg c]
    have e1 : gcdW (absL u) w = 1 := by
      apply Int64.toInt_inj.mp
      rw [Int64.lt_iff_toInt_lt, i64_1] at c
      rw [i64_1]
      omega
    rw [e1]
    exact Int64.div_one
theorem pt_1 (u : Int64) (b : Int32) : ptF u 1 b = if b = 0 then 1 else u := by
  have e : gcdS 200 (absL u) 1 = 1 := by
    rw [gcdS, if_neg (by decide), Int64.div_one, Int64.mul_one, Int64.sub_self, gcdS_z]
  rw [ptF, e, if_neg (by decide)]
/-- what is to be known of the numbers at a time -/
def nOk (z : xC) : Prop := ∀ t, 0 < den z t ∧ (∀ j, j < nN z → aflI z (gM z t j) = 0 → num z t j ≠ Int64.minValue) ∧
  (∀ i, i < nE z → aflI z (gM z t (cA z i)) = 0 → flw z (num z t) (den z t) i (cA z i) ≠ Int64.minValue) ∧ ∀ j, j < nN z → ¬ nR z j = 0 → fdS z t (num z t) (den z t) j (nE z) ≠ Int64.minValue
theorem afl_rail {z : xC} (hw : wf z) (t : Int32) {j : Nat} (hj : j < nN z) (ha : ¬ aflI z (gM z t j) = 0) : nR z j = 0 := by
  apply Classical.byContradiction
  intro h
  have hN := hw.N
  have h2 := bt_1.mpr (gM_self hw t (j := j) (by omega))
  exact ha (by rw [aflI, aflB_s0 h (by omega) (nN z) hj]; rfl)
theorem br_nu2 {z w : xC} (hq : Rq z w) (hw : wf z) (t : Int32) {j : Nat} (hj : j < nN z) : nuR z w t j = num z t j := by
  by_cases ha : aflI z (gM z t j) = 0
  · exact br_nu hq hw t hj ha
  · have h1 : uP z t j = -1 := (uP_at hw t j).mpr (fun q => ha q.2.1)
    have h2 : ¬ (j < nN z ∧ ¬ nR z j = 0) := fun q => q.2 (afl_rail hw t hj ha)
    rw [nuR, if_neg ha, num, upV, sP_uP hw, h1, if_pos (by decide), sK_at hw, if_neg h2, Int64.zero_mul]
theorem fdS_n {z : xC} {t : Int32} {N : Nat → Int64} {d : Int64} {j i : Nat} (h1 : ¬ cA z i = j) (h2 : ¬ cB z i = j) : fdS z t N d j (i + 1) = fdS z t N d j i := by
  by_cases c : onI z i t = 0
  · exact fdS_0 c
  · rw [fdS_1 c, flw, if_pos ⟨fun e => h1 e.symm, fun e => h2 e.symm⟩, Int64.add_zero]
