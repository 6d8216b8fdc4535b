/-! doubles: which results are numbers -/
def fdB (x : UInt64) (b : Int) : Prop := ∃ (s : Bool) (c : Nat) (q : Int), FP.Core.decode FP.Core.b64 x.toNat = FP.Core.Datum.fin s c q ∧ c < 9007199254740992 ∧ q ≤ b
theorem f_qmin : FP.Core.b64.qmin = -1074 := by decide
theorem f_qmax : FP.Core.b64.qmax = 971 := by decide
theorem f_tails : FP.Core.b64.tails = 4503599627370496 := by decide
theorem f_exps : FP.Core.b64.exps = 2048 := by decide
theorem f_p : FP.Core.b64.p = 53 := rfl
theorem f_2p : 2 ^ FP.Core.b64.p = 9007199254740992 := by decide
theorem f_u64 {n : Nat} (h : n < 18446744073709551616) : (UInt64.ofNat n).toNat = n := Nat.mod_eq_of_lt h
theorem f_asm (s : Bool) {e t : Nat} (he : e < 2048) (ht : t < 4503599627370496) : FP.Core.fieldT FP.Core.b64 (FP.Core.assemble FP.Core.b64 s e t) = t ∧ FP.Core.fieldE FP.Core.b64 (FP.Core.assemble FP.Core.b64 s e t) = e ∧ FP.Core.fieldS FP.Core.b64 (FP.Core.assemble FP.Core.b64 s e t) = s ∧ FP.Core.assemble FP.Core.b64 s e t < 18446744073709551616 := by
  unfold FP.Core.fieldT FP.Core.fieldE FP.Core.fieldS FP.Core.assemble
  rw [f_tails, f_exps]
  have hs : s.toNat ≤ 1 := by cases s <;> decide
  have h : ((s.toNat * 2048 + e) * 4503599627370496 + t) / 4503599627370496 / 2048 % 2 = s.toNat := by omega
  refine ⟨by omega, by omega, ?_, by omega⟩
  rw [h]
  cases s <;> rfl
theorem f_dec {s : Bool} {c : Nat} {q : Int} (hc : c < 9007199254740992) (h1 : -1074 ≤ q) (h2 : q ≤ 971) : FP.Core.decode FP.Core.b64 (UInt64.ofNat (FP.Core.encode FP.Core.b64 (.fin s c q))).toNat = if c < 4503599627370496 then .fin s c (-1074) else .fin s c q := by
  have e : FP.Core.encode FP.Core.b64 (.fin s c q) = if c < FP.Core.b64.tails then FP.Core.assemble FP.Core.b64 s 0 c else FP.Core.assemble FP.Core.b64 s ((q - FP.Core.b64.qmin).toNat + 1) (c - FP.Core.b64.tails) := rfl
  rw [f_tails, f_qmin] at e
  by_cases h : c < 4503599627370496
  · rw [if_pos h] at e
    obtain ⟨a1, a2, a3, a4⟩ := f_asm s (e := 0) (t := c) (by decide) h
    rw [e, if_pos h, f_u64 a4, FP.Core.decode, a1, a2, a3, f_exps, f_qmin, if_neg (by decide), if_pos rfl]
  · rw [if_neg h] at e
    obtain ⟨a1, a2, a3, a4⟩ := f_asm s (e := (q - -1074).toNat + 1) (t := c - 4503599627370496) (by omega) (by omega)
    rw [e, if_neg h, f_u64 a4, FP.Core.decode, a1, a2, a3, f_exps, f_qmin, f_tails, if_neg (by omega), if_neg (by omega)]
    have h3 : 4503599627370496 + (c - 4503599627370496) = c := by omega
    have h4 : (-1074 : Int) + ((((q - -1074).toNat + 1 : Nat) : Int) - 1) = q := by omega
    rw [h3, h4]
theorem fd_of {s : Bool} {c : Nat} {q : Int} (hc : c < 9007199254740992) (h1 : -1074 ≤ q) (h2 : q ≤ 971) {b : Int} (hb : q ≤ b) : fdB (UInt64.ofNat (FP.Core.encode FP.Core.b64 (.fin s c q))) b := by
  have h := f_dec (s := s) hc h1 h2
  by_cases k : c < 4503599627370496
  · rw [if_pos k] at h; exact ⟨_, _, _, h, hc, by omega⟩
  · rw [if_neg k] at h; exact ⟨_, _, _, h, hc, hb⟩
theorem fdB.le {x : UInt64} {a b : Int} (h : fdB x a) (hb : a ≤ b) : fdB x b := by
  obtain ⟨s, c, q, h1, h2, h3⟩ := h
  exact ⟨s, c, q, h1, h2, by omega⟩
theorem f_set {s : Bool} {b : Int} (h2 : b < 971) (c : Nat) (q : Int) (h1 : -1074 ≤ q) (h3 : q ≤ b) : ∃ c' q', FP.Core.settle FP.Core.b64 s c q = .fin s c' q' ∧ c' < 9007199254740992 ∧ -1074 ≤ q' ∧ q' ≤ b + 1 := by
  unfold FP.Core.settle FP.Core.bound
  rw [f_2p, f_qmax, f_tails]
  by_cases h : c < 9007199254740992
  · rw [if_pos h, if_pos (by omega)]
    exact ⟨c, q, rfl, h, h1, by omega⟩
  · rw [if_neg h, if_pos (by omega)]
    exact ⟨4503599627370496, q + 1, rfl, by decide, by omega, by omega⟩
theorem f_rr {s : Bool} {num den : Nat} {e b : Int} (hL : num ≠ 0 → FP.Core.leading num den + e - 52 ≤ b) (h1 : -1074 ≤ b) (h2 : b < 971) : ∃ c q, FP.Core.roundRatio FP.Core.b64 s num den e = .fin s c q ∧ c < 9007199254740992 ∧ -1074 ≤ q ∧ q ≤ b + 1 := by
  unfold FP.Core.roundRatio
  by_cases h : num = 0
  · rw [if_pos h, f_qmin]; exact ⟨0, -1074, rfl, by decide, by omega, by omega⟩
  · have hL := hL h
    rw [if_neg h]
    have hq : FP.Core.quantum FP.Core.b64 num den e = max (-1074) (FP.Core.leading num den + e - 52) := by
      unfold FP.Core.quantum
      rw [f_qmin, f_p]
      rfl
    unfold FP.Core.roundAt
    rw [hq]
    exact f_set h2 _ _ (by omega) (by omega)
theorem f_ratio {s : Bool} {num den : Nat} {e b : Int} (hL : num ≠ 0 → FP.Core.leading num den + e - 52 ≤ b) (h1 : -1074 ≤ b) (h2 : b < 971) : fdB (UInt64.ofNat (FP.Core.encode FP.Core.b64 (FP.Core.roundRatio FP.Core.b64 s num den e))) (b + 1) := by
  obtain ⟨c, q, e1, e2, e3, e4⟩ := f_rr (s := s) hL h1 h2
  rw [e1]
  exact fd_of e2 e3 (by omega) e4
theorem f_lead {num den m : Nat} (h0 : num ≠ 0) (h : num < 2 ^ m) : FP.Core.leading num den ≤ (m : Int) - 1 := by
  have h1 : num.log2 < m := (Nat.log2_lt h0).mpr h
  have e : FP.Core.leading num den = if den * 2 ^ ((num.log2 : Int) - (den.log2 : Int)).toNat ≤ num * 2 ^ (-((num.log2 : Int) - (den.log2 : Int))).toNat then (num.log2 : Int) - (den.log2 : Int) else (num.log2 : Int) - (den.log2 : Int) - 1 := rfl
  rw [e]
  split <;> omega
theorem f_mul {x y : UInt64} {a b : Int} (hx : fdB x a) (hy : fdB y b) (h1 : -1074 ≤ a + b + 53) (h2 : a + b + 53 < 971) : fdB (FP.dmul x y) (a + b + 54) := by
  obtain ⟨s, c, q, e1, c1, q1⟩ := hx
  obtain ⟨t, d, r, e2, c2, q2⟩ := hy
  show fdB (UInt64.ofNat (FP.Core.encode FP.Core.b64 (FP.Core.round FP.Core.b64 (FP.Core.exactProduct (FP.Core.decode FP.Core.b64 x.toNat) (FP.Core.decode FP.Core.b64 y.toNat))))) _
  rw [e1, e2]
  show fdB (UInt64.ofNat (FP.Core.encode FP.Core.b64 (FP.Core.roundRatio FP.Core.b64 (s != t) (c * d) 1 (q + r)))) _
  have hm : c * d < 2 ^ 106 := Nat.lt_of_lt_of_le (Nat.mul_lt_mul'' c1 c2) (by decide)
  rw [show a + b + 54 = (a + b + 53) + 1 by omega]
  exact f_ratio (fun h0 => by have := f_lead (den := 1) h0 hm; omega) h1 h2
theorem f_sgn (s : Bool) (c : Nat) : (FP.Core.signed s c).natAbs = c := by
  unfold FP.Core.signed
  cases s
  · rw [if_neg (by decide)]; omega
  · rw [if_pos rfl]; omega
theorem f_units {c : Nat} {q e b : Int} (hc : c < 9007199254740992) (h1 : e ≤ q) (h2 : q ≤ b) : FP.Core.inUnits c q e ≤ 9007199254740992 * 2 ^ (b - e).toNat := by
  unfold FP.Core.inUnits
  exact Nat.mul_le_mul (by omega) (Nat.pow_le_pow_right (by decide) (by omega))
theorem f_sum {s t : Bool} {c d : Nat} {q r b : Int} (c1 : c < 9007199254740992) (c2 : d < 9007199254740992) (q1 : q ≤ b) (r1 : r ≤ b) (h1 : -1074 ≤ b + 2) (h2 : b + 2 < 971) : fdB (UInt64.ofNat (FP.Core.encode FP.Core.b64 (FP.Core.round FP.Core.b64 (FP.Core.exactSum (.fin s c q) (.fin t d r))))) (b + 3) := by
  show fdB (UInt64.ofNat (FP.Core.encode FP.Core.b64 (FP.Core.roundRatio FP.Core.b64 _ (FP.Core.sumUnits s c q t d r (min q r)).natAbs 1 (min q r)))) _
  have u1 := f_units (b := b) c1 (Int.min_le_left q r) q1
  have u2 := f_units (b := b) c2 (Int.min_le_right q r) r1
  have s1 := f_sgn s (FP.Core.inUnits c q (min q r))
  have s2 := f_sgn t (FP.Core.inUnits d r (min q r))
  have hm : (FP.Core.sumUnits s c q t d r (min q r)).natAbs < 2 ^ (55 + (b - min q r).toNat) := by
    unfold FP.Core.sumUnits
    have h3 : 0 < 2 ^ (b - min q r).toNat := Nat.pow_pos (by decide)
    rw [Nat.pow_add, show (2 : Nat) ^ 55 = 36028797018963968 by decide]
    omega
  rw [show b + 3 = (b + 2) + 1 by omega]
  exact f_ratio (fun h0 => by have := f_lead (den := 1) h0 hm; omega) h1 h2
theorem f_add {x y : UInt64} {b : Int} (hx : fdB x b) (hy : fdB y b) (h1 : -1074 ≤ b + 2) (h2 : b + 2 < 971) : fdB (FP.dadd x y) (b + 3) := by
  obtain ⟨s, c, q, e1, c1, q1⟩ := hx
  obtain ⟨t, d, r, e2, c2, q2⟩ := hy
  show fdB (UInt64.ofNat (FP.Core.encode FP.Core.b64 (FP.Core.round FP.Core.b64 (FP.Core.exactSum (FP.Core.decode FP.Core.b64 x.toNat) (FP.Core.decode FP.Core.b64 y.toNat))))) _
  rw [e1, e2]
  exact f_sum c1 c2 q1 q2 h1 h2
theorem f_sub {x y : UInt64} {b : Int} (hx : fdB x b) (hy : fdB y b) (h1 : -1074 ≤ b + 2) (h2 : b + 2 < 971) : fdB (FP.dsub x y) (b + 3) := by
  obtain ⟨s, c, q, e1, c1, q1⟩ := hx
  obtain ⟨t, d, r, e2, c2, q2⟩ := hy
  show fdB (UInt64.ofNat (FP.Core.encode FP.Core.b64 (FP.Core.round FP.Core.b64 (FP.Core.exactSum (FP.Core.decode FP.Core.b64 x.toNat) (FP.Core.negate (FP.Core.decode FP.Core.b64 y.toNat)))))) _
  rw [e1, e2]
  exact f_sum (t := !t) c1 c2 q1 q2 h1 h2
theorem f_int {x : UInt64} {i : Int} (hx : x = UInt64.ofNat (FP.Core.fromInt FP.Core.b64 i)) (hi : i.natAbs < 2 ^ 64) : fdB x 12 := by
  rw [hx]
  show fdB (UInt64.ofNat (FP.Core.encode FP.Core.b64 (FP.Core.roundRatio FP.Core.b64 _ i.natAbs 1 0))) (11 + 1)
  exact f_ratio (fun h0 => by have := f_lead (den := 1) h0 hi; omega) (by decide) (by decide)
theorem f_i2d (x : Int32) : fdB (FP.i2d x) 12 := f_int rfl (by have := x.le_toInt; have := x.toInt_lt; omega)
theorem f_l2d (x : Int64) : fdB (FP.l2d x) 12 := f_int rfl (by have := x.le_toInt; have := x.toInt_lt; omega)
/-- a positive long -/
theorem f_near (a b : Nat) : a / b ≤ FP.Core.nearest a b := by
  unfold FP.Core.nearest
  split
  · exact Nat.le_refl _
  · split <;> omega
theorem f_lpos {x : Int64} (h : 0 < x) : ∃ c q, FP.Core.decode FP.Core.b64 (FP.l2d x).toNat = .fin false c q ∧ 4503599627370496 ≤ c ∧ c < 9007199254740992 ∧ -52 ≤ q ∧ q ≤ 12 := by
  have hp := i64_pos.mp h
  have hlt := x.toInt_lt
  obtain ⟨y, hy⟩ : ∃ y : Nat, y = x.toInt.natAbs := ⟨_, rfl⟩
  have hy0 : y ≠ 0 := by omega
  have hyl : y.log2 < 64 := (Nat.log2_lt hy0).mpr (by omega)
  have hself := Nat.log2_self_le hy0
  have e0 : FP.l2d x = UInt64.ofNat (FP.Core.encode FP.Core.b64 (FP.Core.roundRatio FP.Core.b64 false y 1 0)) := by
    have e : FP.l2d x = UInt64.ofNat (FP.Core.encode FP.Core.b64 (FP.Core.roundRatio FP.Core.b64 (decide (x.toInt < 0)) x.toInt.natAbs 1 0)) := rfl
    rw [e, ← hy, decide_eq_false (by omega)]
  have hlead : FP.Core.leading y 1 = (y.log2 : Int) := by
    have e : FP.Core.leading y 1 = if 1 * 2 ^ ((y.log2 : Int) - ((Nat.log2 1 : Nat) : Int)).toNat ≤ y * 2 ^ (-((y.log2 : Int) - ((Nat.log2 1 : Nat) : Int))).toNat then (y.log2 : Int) - ((Nat.log2 1 : Nat) : Int) else (y.log2 : Int) - ((Nat.log2 1 : Nat) : Int) - 1 := rfl
    have e1 : Nat.log2 1 = 0 := by decide
    have e2 : ((y.log2 : Int) - ((0 : Nat) : Int)).toNat = y.log2 := by omega
    have e3 : (-((y.log2 : Int) - ((0 : Nat) : Int))).toNat = 0 := by omega
    rw [e1, e2, e3] at e
    rw [e, if_pos (by rw [Nat.one_mul, Nat.pow_zero, Nat.mul_one]; exact hself)]
    omega
  have hq : FP.Core.quantum FP.Core.b64 y 1 0 = (y.log2 : Int) - 52 := by
    unfold FP.Core.quantum
    rw [f_qmin, f_p, hlead]
    show max (-1074 : Int) ((y.log2 : Int) + 0 - (53 - 1)) = _
    omega
  have hu : 4503599627370496 ≤ FP.Core.nearest (FP.Core.unitsNum y 0 ((y.log2 : Int) - 52)) (FP.Core.unitsDen 1 0 ((y.log2 : Int) - 52)) := by
    refine Nat.le_trans ?_ (f_near _ _)
    unfold FP.Core.unitsNum FP.Core.unitsDen
    refine (Nat.le_div_iff_mul_le (Nat.mul_pos (by decide) (Nat.pow_pos (by decide)))).mpr ?_
    have e52 : (4503599627370496 : Nat) = 2 ^ 52 := by decide
    rw [e52, Nat.one_mul, ← Nat.pow_add]
    rcases Nat.lt_or_ge y.log2 52 with g | g
    · rw [show ((y.log2 : Int) - 52 - 0).toNat = 0 by omega, show (0 - ((y.log2 : Int) - 52)).toNat = 52 - y.log2 by omega, show 52 + 0 = y.log2 + (52 - y.log2) by omega, Nat.pow_add]
      exact Nat.mul_le_mul_right _ hself
    · rw [show ((y.log2 : Int) - 52 - 0).toNat = y.log2 - 52 by omega, show (0 - ((y.log2 : Int) - 52)).toNat = 0 by omega, show 52 + (y.log2 - 52) = y.log2 by omega, Nat.pow_zero, Nat.mul_one]
      exact hself
  have hr : ∃ c q, FP.Core.roundRatio FP.Core.b64 false y 1 0 = .fin false c q ∧ 4503599627370496 ≤ c ∧ c < 9007199254740992 ∧ -52 ≤ q ∧ q ≤ 12 := by
    unfold FP.Core.roundRatio
    rw [if_neg hy0]
    unfold FP.Core.roundAt
    rw [hq]
    generalize FP.Core.nearest (FP.Core.unitsNum y 0 ((y.log2 : Int) - 52)) (FP.Core.unitsDen 1 0 ((y.log2 : Int) - 52)) = c at hu ⊢
    unfold FP.Core.settle FP.Core.bound
    rw [f_2p, f_qmax, f_tails]
    by_cases g : c < 9007199254740992
    · rw [if_pos g, if_pos (by omega)]
      exact ⟨c, _, rfl, hu, g, by omega, by omega⟩
    · rw [if_neg g, if_pos (by omega)]
      exact ⟨4503599627370496, _, rfl, by decide, by decide, by omega, by omega⟩
  obtain ⟨c, q, a1, a2, a3, a4, a5⟩ := hr
  refine ⟨c, q, ?_, a2, a3, a4, a5⟩
  rw [e0, a1, f_dec a3 (by omega) (by omega), if_neg (by omega)]
theorem f_div {x : UInt64} {a : Int} (hx : fdB x a) {y : Int64} (hy : 0 < y) (h1 : -1074 ≤ a + 52) (h2 : a + 52 < 971) : fdB (FP.ddiv x (FP.l2d y)) (a + 53) := by
  obtain ⟨s, c, q, e1, c1, q1⟩ := hx
  obtain ⟨d, r, e2, d1, d2, r1, r2⟩ := f_lpos hy
  show fdB (UInt64.ofNat (FP.Core.encode FP.Core.b64 (FP.Core.quotient FP.Core.b64 (FP.Core.decode FP.Core.b64 x.toNat) (FP.Core.decode FP.Core.b64 (FP.l2d y).toNat)))) _
  rw [e1, e2]
  have e : FP.Core.quotient FP.Core.b64 (.fin s c q) (.fin false d r) = if d = 0 then (if c = 0 then .nan else .inf (s != false)) else FP.Core.roundRatio FP.Core.b64 (s != false) c d (q - r) := rfl
  rw [e, if_neg (by omega), show a + 53 = (a + 52) + 1 by omega]
  exact f_ratio (fun h0 => by have := f_lead (den := d) (m := 53) h0 (by omega); omega) h1 h2
theorem f_num {x : UInt64} {b : Int} (h : fdB x b) : vf_n64 x := by
  obtain ⟨s, c, q, e, -, -⟩ := h
  have h1 : ¬ FP.Core.fieldE FP.Core.b64 x.toNat = 2047 := fun k => by
    rw [FP.Core.decode, f_exps, if_pos k] at e
    split at e <;> cases e
  unfold FP.Core.fieldE at h1
  rw [f_tails, f_exps] at h1
  unfold vf_n64
  rw [UInt64.le_iff_toNat_le, UInt64.toNat_and]
  have e1 : (0x7fffffffffffffff : UInt64).toNat = 2 ^ 63 - 1 := by decide
  have e2 : (0x7ff0000000000000 : UInt64).toNat = 9218868437227405312 := by decide
  rw [e1, e2, Nat.and_two_pow_sub_one_eq_mod]
  omega
theorem f_gt {x : Int64} (h : 0 < x) : FP.dcmp (FP.l2d x) FP.dconst0 = some .gt := by
  obtain ⟨c, q, e, h1, h2, h3, h4⟩ := f_lpos h
  show FP.Core.order (FP.Core.decode FP.Core.b64 (FP.l2d x).toNat) (FP.Core.decode FP.Core.b64 FP.dconst0.toNat) = _
  have e0 : FP.Core.decode FP.Core.b64 FP.dconst0.toNat = .fin false 0 (-1074) := by decide
  rw [e, e0]
  show some (compare (FP.Core.signed false (FP.Core.inUnits c q (min q (-1074)))) (FP.Core.signed false (FP.Core.inUnits 0 (-1074) (min q (-1074))))) = _
  have h5 : FP.Core.signed false (FP.Core.inUnits 0 (-1074) (min q (-1074))) = 0 := by
    unfold FP.Core.inUnits; rw [Nat.zero_mul]; rfl
  have h6 : 0 < FP.Core.inUnits c q (min q (-1074)) := by
    unfold FP.Core.inUnits
    exact Nat.mul_pos (by omega) (Nat.pow_pos (by decide))
  have h7 : FP.Core.signed false (FP.Core.inUnits c q (min q (-1074))) = ((FP.Core.inUnits c q (min q (-1074)) : Nat) : Int) := rfl
  rw [h5, Int.compare_eq_gt.mpr (by rw [h7]; omega)]
theorem f_eq {x : UInt64} {b : Int} (h : fdB x b) : FP.dcmp x x = some .eq := by
  obtain ⟨s, c, q, e, -, -⟩ := h
  show FP.Core.order (FP.Core.decode FP.Core.b64 x.toNat) (FP.Core.decode FP.Core.b64 x.toNat) = _
  rw [e]
  show some (compare _ _) = _
  rw [Int.compare_eq_eq.mpr rfl]
/-! the power -/
/-- a part in lowest terms: the denominator stays greater than 0 -/
theorem gcd_le : ∀ (k : Nat) (a b : Int64), 0 ≤ a.toInt → 0 < b.toInt → 0 < (gcdS (k + 1) a b).toInt ∧ (gcdS (k + 1) a b).toInt ≤ b.toInt := by
  intro k
  induction k with
  | zero =>
    intro a b ha hb
    have hb0 : ¬ b = 0 := fun e => by rw [e, i64_0] at hb; omega
    rw [gcdS, if_neg hb0]
    exact ⟨hb, Int.le_refl _⟩
  | succ k ih =>
    intro a b ha hb
    have hb0 : ¬ b = 0 := fun e => by rw [e, i64_0] at hb; omega
    have er : (a - a / b * b).toInt = a.toInt % b.toInt := by rw [rm_t, Int.tmod_eq_emod_of_nonneg ha]
    have a1 := Int.emod_nonneg a.toInt (b := b.toInt) (by omega)
    have a2 := Int.emod_lt_of_pos a.toInt hb
    rw [gcdS, if_neg hb0]
    by_cases c : a - a / b * b = 0
    · rw [c, gcdS_z]; exact ⟨hb, Int.le_refl _⟩
    · have cn : ¬ (a - a / b * b).toInt = 0 := fun e => c (Int64.toInt_inj.mp e)
      have := ih b (a - a / b * b) (by omega) (by omega)
      omega
theorem pt_pos {u w : Int64} (hw : 0 < w) (hu : u ≠ Int64.minValue) : 0 < ptF u w 0 := by
  have hp := i64_pos.mp hw
  have h := gcd_le 199 (absL u) w (absL_nn hu) hp
  rw [ptF]
  by_cases c : 1 < gcdS 200 (absL u) w
  · rw [if_pos c, if_pos rfl, i64_pos]
    have hm : gcdS 200 (absL u) w ≠ -1 := fun e => by
      have h1 := h.1
      have e2 : gcdS (199 + 1) (absL u) w = -1 := e
      rw [e2] at h1
      exact absurd h1 (by decide)
    rw [Int64.toInt_div_of_ne_right _ _ hm, Int.tdiv_eq_ediv_of_nonneg (by omega)]
    have := (Int.le_ediv_iff_mul_le h.1 (a := 1) (b := w.toInt)).mpr (by omega)
    have e3 : w.toInt / (gcdS (199 + 1) (absL u) w).toInt = w.toInt / (gcdS 200 (absL u) w).toInt := rfl
    omega
  · rw [if_neg c, if_pos rfl]; exact hw
/-- the quotient of a node, as a double -/
def qtD (z : xC) (t : Int32) (j : Nat) : UInt64 := FP.ddiv (FP.l2d (ptF (num z t j) (den z t) 1)) (FP.l2d (ptF (num z t j) (den z t) 0))
def dfD (z : xC) (t : Int32) (i : Nat) : UInt64 := FP.dsub (qtD z t (cA z i)) (qtD z t (cB z i))
def pwT (z : xC) (t : Int32) (i : Nat) : UInt64 := FP.dmul (FP.dmul (FP.i2d (eZ z i)) (dfD z t i)) (dfD z t i)
/-- the power over the first elements -/
def pwS (z : xC) (t : Int32) : Nat → UInt64
  | 0 => FP.dconst0
  | i + 1 => if (eS z i = 0 ∧ ¬ onI z i t = 0) ∧ aflI z (gM z t (cA z i)) = 0 then FP.dadd (pwS z t i) (pwT z t i) else pwS z t i
theorem pwS_1 {z : xC} {t : Int32} {i : Nat} (h : (eS z i = 0 ∧ ¬ onI z i t = 0) ∧ aflI z (gM z t (cA z i)) = 0) : pwS z t (i + 1) = FP.dadd (pwS z t i) (pwT z t i) := by rw [pwS, if_pos h]
theorem pwS_0 {z : xC} {t : Int32} {i : Nat} (h : ¬ ((eS z i = 0 ∧ ¬ onI z i t = 0) ∧ aflI z (gM z t (cA z i)) = 0)) : pwS z t (i + 1) = pwS z t i := by rw [pwS, if_neg h]
theorem nu_min {z : xC} (hw : wf z) (t : Int32) {j : Nat} (hj : j < nN z) : num z t j ≠ Int64.minValue := not_min (nu_I hw t hj) (by decide)
theorem qt_f {z : xC} (hw : wf z) (t : Int32) {j : Nat} (hj : j < nN z) : fdB (qtD z t j) 65 := f_div (f_l2d _) (pt_pos (i64_pos.mpr (de_I hw t).1) (nu_min hw t hj)) (by decide) (by decide)
theorem df_f {z : xC} (hw : wf z) (t : Int32) {i : Nat} (hi : i < nE z) : fdB (dfD z t i) 68 := f_sub (qt_f hw t (hw.a8 hi)) (qt_f hw t (hw.b8 hi)) (by decide) (by decide)
theorem p1_f {z : xC} (hw : wf z) (t : Int32) {i : Nat} (hi : i < nE z) : fdB (FP.dmul (FP.i2d (eZ z i)) (dfD z t i)) 134 := f_mul (f_i2d _) (df_f hw t hi) (by decide) (by decide)
theorem pt_f {z : xC} (hw : wf z) (t : Int32) {i : Nat} (hi : i < nE z) : fdB (pwT z t i) 256 := f_mul (p1_f hw t hi) (df_f hw t hi) (by decide) (by decide)
theorem f_0 : fdB FP.dconst0 0 := ⟨false, 0, -1074, by decide, by decide, by decide⟩
theorem pw_f {z : xC} (hw : wf z) (t : Int32) : ∀ i, i ≤ nE z → fdB (pwS z t i) (256 + 3 * (i : Int))
  | 0, _ => f_0.le (by omega)
  | i + 1, hi => by
    have ih := pw_f hw t i (by omega)
    have hE := hw.E
    by_cases c : (eS z i = 0 ∧ ¬ onI z i t = 0) ∧ aflI z (gM z t (cA z i)) = 0
    · rw [pwS_1 c, show (256 : Int) + 3 * ((i + 1 : Nat) : Int) = (256 + 3 * (i : Int)) + 3 by omega]
      exact f_add ih ((pt_f hw t (i := i) (by omega)).le (by omega)) (by omega) (by omega)
    · rw [pwS_0 c]
      exact ih.le (by omega)
