/-! longs as doubles, quotients and sums of such -/
/-- a whole number of at most 53 digits is a double -/
theorem f_exact (s : Bool) {y : Nat} (h : y < 9007199254740992) : ∃ c q, FP.Core.decode FP.Core.b64 (UInt64.ofNat (FP.Core.encode FP.Core.b64 (FP.Core.roundRatio FP.Core.b64 s y 1 0))).toNat = .fin s c q ∧ c < 9007199254740992 ∧ -1074 ≤ q ∧ q ≤ 1 ∧ ivD c q = y * 2 ^ 1074 := by
  by_cases h0 : y = 0
  · refine ⟨0, -1074, ?_, by decide, by decide, by decide, ?_⟩
    · rw [FP.Core.roundRatio, if_pos h0, f_qmin, f_dec (by decide) (by decide) (by decide), if_pos (by decide)]
    · rw [h0, ivD, Nat.zero_mul, Nat.zero_mul]
  · obtain ⟨l1, l2⟩ := f_lead2 (num := y) (den := 1) h0 (by decide)
    have hL : FP.Core.leading y 1 < 53 := f_lt l1 (by
      have e1 : (-(53 : Int)).toNat = 0 := by decide
      have e2 : (53 : Int).toNat = 53 := by decide
      have e3 : (2 : Nat) ^ 53 = 9007199254740992 := by decide
      rw [e1, e2, e3]
      omega)
    have hq : FP.Core.quantum FP.Core.b64 y 1 0 = max (-1074) (FP.Core.leading y 1 + 0 - 52) := by
      unfold FP.Core.quantum
      rw [f_qmin, f_p]
      rfl
    rw [FP.Core.roundRatio, if_neg h0, FP.Core.roundAt, hq]
    generalize FP.Core.leading y 1 = L at l1 l2 hL
    obtain ⟨K, hK⟩ : ∃ K, K = max (-1074) (L + 0 - 52) := ⟨_, rfl⟩
    rw [← hK]
    obtain ⟨hc1, hc2⟩ := f_cK (e := 0) (by decide) l1 l2 hK
    obtain ⟨c', q, r1, r2, r3, r4, r5⟩ := f_core s hc1 hc2 (by omega) (by omega)
    refine ⟨c', q, r1, r2, r3, by omega, ?_⟩
    have e1 : FP.Core.unitsDen 1 0 K = 1 := by
      unfold FP.Core.unitsDen
      rw [show (K - 0).toNat = 0 by omega]
    have e2 : FP.Core.nearest (FP.Core.unitsNum y 0 K) 1 = FP.Core.unitsNum y 0 K := by
      unfold FP.Core.nearest
      rw [Nat.mod_one, Nat.div_one, if_pos (by decide)]
    rw [r5, e1, e2, ivD]
    unfold FP.Core.unitsNum
    rw [Nat.mul_assoc, ← Nat.pow_add, show (0 - K).toNat + (K + 1074).toNat = 1074 by omega]
theorem f_l2e {x : Int64} (h0 : 0 ≤ x.toInt) (h : x.toInt < 9007199254740992) : ∃ c q, FP.Core.decode FP.Core.b64 (FP.l2d x).toNat = .fin false c q ∧ c < 9007199254740992 ∧ -1074 ≤ q ∧ q ≤ 1 ∧ ivD c q = x.toInt.natAbs * 2 ^ 1074 := by
  have e : FP.l2d x = UInt64.ofNat (FP.Core.encode FP.Core.b64 (FP.Core.roundRatio FP.Core.b64 (decide (x.toInt < 0)) x.toInt.natAbs 1 0)) := rfl
  rw [e, decide_eq_false (by omega)]
  exact f_exact false (by omega)
/-- a double that is no less than 0, in units of 2^-1074 -/
def fpV (x : UInt64) (v : Nat) : Prop := ∃ c q, FP.Core.decode FP.Core.b64 x.toNat = .fin false c q ∧ c < 9007199254740992 ∧ -1074 ≤ q ∧ ivD c q = v
theorem p2_add {a b c : Nat} (h : c = a + b) : 2 ^ c = 2 ^ a * 2 ^ b := by rw [h, Nat.pow_add]
set_option maxRecDepth 100000 in
theorem f_divV {x y : Int64} (h0 : 0 ≤ x.toInt) (h1 : x.toInt < 9007199254740992) (h2 : 0 < y.toInt) (h3 : y.toInt < 9007199254740992) (h8 : x.toInt ≤ 8 * y.toInt) :
    ∃ v, fpV (FP.ddiv (FP.l2d x) (FP.l2d y)) v ∧ 2 * x.toInt.natAbs * 2 ^ 1074 ≤ (2 * v + 2 ^ 1025) * y.toInt.natAbs ∧ 2 * v * y.toInt.natAbs ≤ 2 * x.toInt.natAbs * 2 ^ 1074 + 2 ^ 1025 * y.toInt.natAbs := by
  obtain ⟨c, q, e1, c1, q1, q2, i1⟩ := f_l2e h0 h1
  obtain ⟨d, r, e2, d1, r1, r2, i2⟩ := f_l2e (x := y) (by omega) h3
  obtain ⟨N, hN⟩ : ∃ N, N = x.toInt.natAbs := ⟨_, rfl⟩
  obtain ⟨M, hM⟩ : ∃ M, M = y.toInt.natAbs := ⟨_, rfl⟩
  rw [← hN] at i1 ⊢
  rw [← hM] at i2 ⊢
  have hM0 : 0 < M := by omega
  have hNM : N ≤ 8 * M := by omega
  have hT : 0 < 2 ^ 1074 := p2_pos 1074
  have hd0 : ¬ d = 0 := fun g => by
    rw [g, ivD, Nat.zero_mul] at i2
    have := Nat.mul_pos hM0 hT
    omega
  -- the exponent of y is not greater than 0
  have hr0 : r ≤ 1 := r2
  have hexp : FP.ddiv (FP.l2d x) (FP.l2d y) = UInt64.ofNat (FP.Core.encode FP.Core.b64 (FP.Core.quotient FP.Core.b64 (FP.Core.decode FP.Core.b64 (FP.l2d x).toNat) (FP.Core.decode FP.Core.b64 (FP.l2d y).toNat))) := rfl
  have eq : FP.Core.quotient FP.Core.b64 (.fin false c q) (.fin false d r) = if d = 0 then (if c = 0 then .nan else .inf (false != false)) else FP.Core.roundRatio FP.Core.b64 (false != false) c d (q - r) := rfl
  rw [e1, e2, eq, if_neg hd0] at hexp
  by_cases hc0 : c = 0
  · -- 0
    have hN0 : N = 0 := by
      rw [hc0, ivD, Nat.zero_mul] at i1
      rcases Nat.mul_eq_zero.mp i1.symm with g | g
      · exact g
      · omega
    refine ⟨0, ⟨0, -1074, ?_, by decide, by decide, by rw [ivD, Nat.zero_mul]⟩, ?_, ?_⟩
    · rw [hexp, hc0, FP.Core.roundRatio, if_pos rfl, f_qmin, f_dec (by decide) (by decide) (by decide), if_pos (by decide)]
      rfl
    · rw [hN0, Nat.mul_zero, Nat.zero_mul]; exact Nat.zero_le _
    · rw [Nat.mul_zero, Nat.zero_mul]; exact Nat.zero_le _
  · -- exponents from -53 on
    have hlow : ∀ {c : Nat} {q : Int} {N : Nat}, c < 9007199254740992 → 0 < N → ivD c q = N * 2 ^ 1074 → -53 < q := fun {c q N} hc hN h => by
      apply Classical.byContradiction
      intro g
      rw [ivD] at h
      have h1 : 2 ^ (q + 1074).toNat ≤ 2 ^ 1021 := p2_le (by omega)
      have h2 : c * 2 ^ (q + 1074).toNat < 9007199254740992 * 2 ^ 1021 := by
        refine Nat.lt_of_le_of_lt (Nat.mul_le_mul_left c h1) ?_
        exact Nat.mul_lt_mul_of_pos_right hc (p2_pos 1021)
      have h3 : (9007199254740992 : Nat) * 2 ^ 1021 = 2 ^ 1074 := by
        rw [show (9007199254740992 : Nat) = 2 ^ 53 by decide, ← Nat.pow_add]
      have h4 := Nat.mul_le_mul_right (2 ^ 1074) (show 1 ≤ N by omega)
      omega
    have hNpos : 0 < N := by
      rcases Nat.eq_zero_or_pos N with g | g
      · rw [g, Nat.zero_mul, ivD] at i1
        rcases Nat.mul_eq_zero.mp i1 with k | k
        · exact absurd k hc0
        · have := p2_pos (q + 1074).toNat; omega
      · exact g
    have ql := hlow c1 hNpos i1
    have rl := hlow d1 hM0 i2
    rw [ivD] at i1 i2
    have hlt : c * 2 ^ (-(4 - (q - r))).toNat < d * 2 ^ (4 - (q - r)).toNat := by
      have h16 : c * 2 ^ (q + 1074).toNat < d * 2 ^ (r + 1078).toNat := by
        rw [i1, show (r + 1078).toNat = (r + 1074).toNat + 4 by omega, Nat.pow_add, ← Nat.mul_assoc, i2]
        have := Nat.mul_le_mul_right (2 ^ 1074) hNM
        have h5 := Nat.mul_pos hM0 hT
        rw [show (2 : Nat) ^ 4 = 16 by decide]
        rw [Nat.mul_assoc] at this
        omega
      rcases Int.le_total 0 (4 - (q - r)) with a | a
      · rw [show (-(4 - (q - r))).toNat = 0 by omega, Nat.pow_zero, Nat.mul_one]
        rw [show (r + 1078).toNat = (4 - (q - r)).toNat + (q + 1074).toNat by omega, Nat.pow_add, ← Nat.mul_assoc] at h16
        exact Nat.lt_of_mul_lt_mul_right h16
      · rw [show (4 - (q - r)).toNat = 0 by omega, Nat.pow_zero, Nat.mul_one]
        rw [show (q + 1074).toNat = (-(4 - (q - r))).toNat + (r + 1078).toNat by omega, Nat.pow_add, ← Nat.mul_assoc] at h16
        exact Nat.lt_of_mul_lt_mul_right h16
    obtain ⟨c', q', a1, a2, a3, a4, a5⟩ := f_rnd (false != false) (num := c) (den := d) (e := q - r) (k := 4) (by omega) (by omega) (by decide) (by decide) (fun _ => hlt)
    refine ⟨ivD c' q', ⟨c', q', by rw [hexp]; exact a1, a2, a3, rfl⟩, ?_, ?_⟩
    · have b := Nat.mul_le_mul_right (2 ^ (r + 1074).toNat) a4
      have e3 : 2 * c * 2 ^ (q - r + 1074).toNat * 2 ^ (r + 1074).toNat = 2 * N * 2 ^ 1074 * 2 ^ 1074 := by
        have : 2 * c * 2 ^ (q - r + 1074).toNat * 2 ^ (r + 1074).toNat = 2 * (c * 2 ^ (q + 1074).toNat) * 2 ^ 1074 := by
          rw [Nat.mul_assoc (2 * c), ← Nat.pow_add, show (q - r + 1074).toNat + (r + 1074).toNat = (q + 1074).toNat + 1074 by omega, Nat.pow_add]
          ac_rfl
        rw [this, i1]
        ac_rfl
      have e4 : (2 * ivD c' q' + 2 ^ ((4 : Int) + 1021).toNat) * d * 2 ^ (r + 1074).toNat = (2 * ivD c' q' + 2 ^ 1025) * M * 2 ^ 1074 := by
        rw [Nat.mul_assoc _ d, i2, ← Nat.mul_assoc]
        rfl
      rw [e3, e4] at b
      exact Nat.le_of_mul_le_mul_right b hT
    · have b := Nat.mul_le_mul_right (2 ^ (r + 1074).toNat) a5
      have e3 : (2 * c * 2 ^ (q - r + 1074).toNat + 2 ^ ((4 : Int) + 1021).toNat * d) * 2 ^ (r + 1074).toNat = (2 * N * 2 ^ 1074 + 2 ^ 1025 * M) * 2 ^ 1074 := by
        have h1 : 2 * c * 2 ^ (q - r + 1074).toNat * 2 ^ (r + 1074).toNat = 2 * (c * 2 ^ (q + 1074).toNat) * 2 ^ 1074 := by
          rw [Nat.mul_assoc (2 * c), ← Nat.pow_add, show (q - r + 1074).toNat + (r + 1074).toNat = (q + 1074).toNat + 1074 by omega, Nat.pow_add]
          ac_rfl
        have h2 : 2 ^ ((4 : Int) + 1021).toNat * d * 2 ^ (r + 1074).toNat = 2 ^ 1025 * M * 2 ^ 1074 := by
          rw [Nat.mul_assoc _ d, i2, ← Nat.mul_assoc]
          rfl
        rw [Nat.add_mul, h1, h2, i1, Nat.add_mul]
        rw [← Nat.mul_assoc 2 N]
      have e4 : 2 * ivD c' q' * d * 2 ^ (r + 1074).toNat = 2 * ivD c' q' * M * 2 ^ 1074 := by
        rw [Nat.mul_assoc _ d, i2, ← Nat.mul_assoc]
      rw [e3, e4] at b
      exact Nat.le_of_mul_le_mul_right b hT
set_option maxRecDepth 100000 in
theorem f_addV {x y : UInt64} {a b : Nat} (hx : fpV x a) (hy : fpV y b) (hlt : a + b < 2 ^ 1080) : ∃ v, fpV (FP.dadd x y) v ∧ 2 * (a + b) ≤ 2 * v + 2 ^ 1027 ∧ 2 * v ≤ 2 * (a + b) + 2 ^ 1027 := by
  obtain ⟨c, q, e1, c1, q1, i1⟩ := hx
  obtain ⟨d, r, e2, d1, r1, i2⟩ := hy
  have hexp : FP.dadd x y = UInt64.ofNat (FP.Core.encode FP.Core.b64 (FP.Core.round FP.Core.b64 (FP.Core.exactSum (FP.Core.decode FP.Core.b64 x.toNat) (FP.Core.decode FP.Core.b64 y.toNat)))) := rfl
  rw [e1, e2] at hexp
  obtain ⟨m, hm⟩ : ∃ m, m = min q r := ⟨_, rfl⟩
  obtain ⟨S, hS⟩ : ∃ S, S = FP.Core.inUnits c q m + FP.Core.inUnits d r m := ⟨_, rfl⟩
  have hsu : FP.Core.sumUnits false c q false d r (min q r) = (S : Int) := by
    rw [← hm, hS]
    unfold FP.Core.sumUnits FP.Core.signed
    rw [if_neg (by decide), if_neg (by decide)]
    omega
  have hsg : FP.Core.sumSign false false (S : Int) = false := by
    unfold FP.Core.sumSign
    split
    · rfl
    · exact decide_eq_false (by omega)
  have hex : FP.Core.round FP.Core.b64 (FP.Core.exactSum (.fin false c q) (.fin false d r)) = FP.Core.roundRatio FP.Core.b64 (FP.Core.sumSign false false (FP.Core.sumUnits false c q false d r (min q r))) (FP.Core.sumUnits false c q false d r (min q r)).natAbs 1 (min q r) := rfl
  rw [hex, hsu, hsg, ← hm, Int.natAbs_natCast] at hexp
  have hm1 : -1074 ≤ m := by omega
  have hab : S * 2 ^ (m + 1074).toNat = a + b := by
    rw [hS, Nat.add_mul, ← i1, ← i2]
    unfold FP.Core.inUnits ivD
    rw [Nat.mul_assoc, Nat.mul_assoc, ← Nat.pow_add, ← Nat.pow_add, show (q - m).toNat + (m + 1074).toNat = (q + 1074).toNat by omega, show (r - m).toNat + (m + 1074).toNat = (r + 1074).toNat by omega]
  obtain ⟨c', q', a1, a2, a3, a4, a5⟩ := f_rnd false (num := S) (den := 1) (e := m) (k := 6) (by decide) hm1 (by decide) (by decide) (fun _ => by
    rw [← hab] at hlt
    rcases Int.le_total 0 (6 - m) with g | g
    · rw [show (-(6 - m)).toNat = 0 by omega, Nat.pow_zero, Nat.mul_one, Nat.one_mul]
      rw [show 1080 = (6 - m).toNat + (m + 1074).toNat by omega, Nat.pow_add] at hlt
      exact Nat.lt_of_mul_lt_mul_right hlt
    · rw [show (6 - m).toNat = 0 by omega, Nat.pow_zero]
      rw [show (m + 1074).toNat = (-(6 - m)).toNat + 1080 by omega, Nat.pow_add, ← Nat.mul_assoc] at hlt
      have := Nat.lt_of_mul_lt_mul_right (show S * 2 ^ (-(6 - m)).toNat * 2 ^ 1080 < 1 * 2 ^ 1080 by rw [Nat.one_mul]; exact hlt)
      omega)
  refine ⟨ivD c' q', ⟨c', q', by rw [hexp]; exact a1, a2, a3, rfl⟩, ?_, ?_⟩
  · have e3 : 2 * S * 2 ^ (m + 1074).toNat = 2 * (a + b) := by rw [Nat.mul_assoc, hab]
    have e4 : 2 ^ ((6 : Int) + 1021).toNat = 2 ^ 1027 := rfl
    rw [e3, e4, Nat.mul_one] at a4
    exact a4
  · have e3 : 2 * S * 2 ^ (m + 1074).toNat = 2 * (a + b) := by rw [Nat.mul_assoc, hab]
    have e4 : 2 ^ ((6 : Int) + 1021).toNat = 2 ^ 1027 := rfl
    rw [e3, e4, Nat.mul_one, Nat.mul_one] at a5
    exact a5
theorem f_cmpV {x y : UInt64} {a b : Nat} (hx : fpV x a) (hy : fpV y b) : ∃ o, FP.dcmp x y = some o ∧ (o = .gt ↔ b < a) ∧ (o = .lt ↔ a < b) := by
  obtain ⟨c, q, e1, c1, q1, i1⟩ := hx
  obtain ⟨d, r, e2, d1, r1, i2⟩ := hy
  have hexp : FP.dcmp x y = FP.Core.order (FP.Core.decode FP.Core.b64 x.toNat) (FP.Core.decode FP.Core.b64 y.toNat) := rfl
  rw [e1, e2] at hexp
  have hex : FP.Core.order (.fin false c q) (.fin false d r) = some (compare (FP.Core.signed false (FP.Core.inUnits c q (min q r))) (FP.Core.signed false (FP.Core.inUnits d r (min q r)))) := rfl
  refine ⟨_, hexp.trans hex, ?_, ?_⟩
  all_goals
    obtain ⟨m, hm⟩ : ∃ m, m = min q r := ⟨_, rfl⟩
    rw [← hm]
    have h1 : FP.Core.inUnits c q m * 2 ^ (m + 1074).toNat = a := by
      rw [← i1]
      unfold FP.Core.inUnits ivD
      rw [Nat.mul_assoc, ← Nat.pow_add, show (q - m).toNat + (m + 1074).toNat = (q + 1074).toNat by omega]
    have h2 : FP.Core.inUnits d r m * 2 ^ (m + 1074).toNat = b := by
      rw [← i2]
      unfold FP.Core.inUnits ivD
      rw [Nat.mul_assoc, ← Nat.pow_add, show (r - m).toNat + (m + 1074).toNat = (r + 1074).toNat by omega]
    have hp := p2_pos (m + 1074).toNat
    have s1 : FP.Core.signed false (FP.Core.inUnits c q m) = ((FP.Core.inUnits c q m : Nat) : Int) := rfl
    have s2 : FP.Core.signed false (FP.Core.inUnits d r m) = ((FP.Core.inUnits d r m : Nat) : Int) := rfl
    rw [s1, s2, ← h1, ← h2]
    generalize FP.Core.inUnits c q m = u
    generalize FP.Core.inUnits d r m = w
    generalize 2 ^ (m + 1074).toNat = P at hp
  · rw [Int.compare_eq_gt]
    exact ⟨fun g => Nat.mul_lt_mul_of_pos_right (by omega) hp, fun g => by have := Nat.lt_of_mul_lt_mul_right g; omega⟩
  · rw [Int.compare_eq_lt]
    exact ⟨fun g => Nat.mul_lt_mul_of_pos_right (by omega) hp, fun g => by have := Nat.lt_of_mul_lt_mul_right g; omega⟩
set_option maxRecDepth 100000 in
/-- the room of 10^-9 -/
theorem f_nano : fpV 4472406533629990549 (4835703278458517 * 2 ^ 992) := ⟨4835703278458517, -82, by decide, by decide, by decide, by
  have e : ((-82 : Int) + 1074).toNat = 992 := by decide
  rw [ivD, e]⟩
theorem f_zero : fpV FP.dconst0 0 := ⟨0, -1074, by decide, by decide, by decide, by rw [ivD, Nat.zero_mul]⟩
/-- the triangle, as doubles -/
theorem f_tri {n1 d1 n2 d2 n3 d3 : Int64} (p1 : 0 ≤ n1.toInt ∧ n1.toInt < 9007199254740992) (p2 : 0 ≤ n2.toInt ∧ n2.toInt < 9007199254740992) (p3 : 0 ≤ n3.toInt ∧ n3.toInt < 9007199254740992)
    (q1 : 0 < d1.toInt ∧ d1.toInt < 9007199254740992) (q2 : 0 < d2.toInt ∧ d2.toInt < 9007199254740992) (q3 : 0 < d3.toInt ∧ d3.toInt < 9007199254740992)
    (b1 : n1.toInt ≤ 8 * d1.toInt) (b2 : n2.toInt ≤ 8 * d2.toInt) (b3 : n3.toInt ≤ 8 * d3.toInt)
    (ht : n1.toInt * (d2.toInt * d3.toInt) ≤ (n2.toInt * d3.toInt + n3.toInt * d2.toInt) * d1.toInt) :
    (∃ o, FP.dcmp (FP.ddiv (FP.l2d n1) (FP.l2d d1)) (FP.dadd (FP.dadd (FP.ddiv (FP.l2d n2) (FP.l2d d2)) (FP.ddiv (FP.l2d n3) (FP.l2d d3))) 4472406533629990549) = some o ∧ o ≠ .gt) ∧
    ∃ o, FP.dcmp (FP.ddiv (FP.l2d n1) (FP.l2d d1)) FP.dconst0 = some o ∧ o ≠ .lt := by
  obtain ⟨x, x1, x2, x3⟩ := f_divV p1.1 p1.2 q1.1 q1.2 b1
  obtain ⟨y, y1, y2, y3⟩ := f_divV p2.1 p2.2 q2.1 q2.2 b2
  obtain ⟨w, w1, w2, w3⟩ := f_divV p3.1 p3.2 q3.1 q3.2 b3
  have ht' : n1.toInt.natAbs * (d2.toInt.natAbs * d3.toInt.natAbs) ≤ (n2.toInt.natAbs * d3.toInt.natAbs + n3.toInt.natAbs * d2.toInt.natAbs) * d1.toInt.natAbs := by
    have e1 : ((n1.toInt.natAbs : Nat) : Int) = n1.toInt := by omega
    have e2 : ((n2.toInt.natAbs : Nat) : Int) = n2.toInt := by omega
    have e3 : ((n3.toInt.natAbs : Nat) : Int) = n3.toInt := by omega
    have f1 : ((d1.toInt.natAbs : Nat) : Int) = d1.toInt := by omega
    have f2 : ((d2.toInt.natAbs : Nat) : Int) = d2.toInt := by omega
    have f3 : ((d3.toInt.natAbs : Nat) : Int) = d3.toInt := by omega
    apply Int.ofNat_le.mp
    rw [Int.natCast_mul, Int.natCast_mul, Int.natCast_mul, Int.natCast_add, Int.natCast_mul, Int.natCast_mul, e1, e2, e3, f1, f2, f3]
    exact ht
  have g1 : 0 < d1.toInt.natAbs := by omega
  have g2 : 0 < d2.toInt.natAbs := by omega
  have g3 : 0 < d3.toInt.natAbs := by omega
  have c1 : n1.toInt.natAbs ≤ 8 * d1.toInt.natAbs := by omega
  have c2 : n2.toInt.natAbs ≤ 8 * d2.toInt.natAbs := by omega
  have c3 : n3.toInt.natAbs ≤ 8 * d3.toInt.natAbs := by omega
  generalize n1.toInt.natAbs = N1 at x2 x3 ht' c1
  generalize n2.toInt.natAbs = N2 at y2 y3 ht' c2
  generalize n3.toInt.natAbs = N3 at w2 w3 ht' c3
  generalize d1.toInt.natAbs = D1 at x2 x3 ht' g1 c1
  generalize d2.toInt.natAbs = D2 at y2 y3 ht' g2 c2
  generalize d3.toInt.natAbs = D3 at w2 w3 ht' g3 c3
  obtain ⟨u, hu⟩ : ∃ u : Nat, u = 2 ^ 1025 := ⟨_, rfl⟩
  have eT : 2 ^ 1074 = 562949953421312 * u := by rw [hu, show (562949953421312 : Nat) = 2 ^ 49 by decide, ← Nat.pow_add]
  have e27 : 2 ^ 1027 = 4 * u := by rw [hu, show (4 : Nat) = 2 ^ 2 by decide, ← Nat.pow_add]
  have e80 : 2 ^ 1080 = 36028797018963968 * u := by rw [hu, show (36028797018963968 : Nat) = 2 ^ 55 by decide, ← Nat.pow_add]
  have e92 : u = 8589934592 * 2 ^ 992 := by rw [hu, show (8589934592 : Nat) = 2 ^ 33 by decide, ← Nat.pow_add]
  have hu0 : 0 < u := by rw [hu]; exact p2_pos _
  rw [← hu, eT] at x2 x3 y2 y3 w2 w3
  have bd : ∀ {v N D : Nat}, 0 < D → N ≤ 8 * D → 2 * v * D ≤ 2 * N * (562949953421312 * u) + u * D → v ≤ 4503599627370497 * u := fun {v N D} hD hN h => by
    apply Classical.byContradiction
    intro g
    have a1 := Nat.mul_le_mul_right D (show 2 * (4503599627370497 * u) + 2 ≤ 2 * v by omega)
    have a2 := Nat.mul_le_mul_right (562949953421312 * u) (show 2 * N ≤ 16 * D by omega)
    have a3 : (2 * (4503599627370497 * u) + 2) * D = 9007199254740994 * (u * D) + 2 * D := by grind
    have a4 : 16 * D * (562949953421312 * u) = 9007199254740992 * (u * D) := by grind
    omega
  have ly := bd g2 c2 y3
  have lw := bd g3 c3 w3
  obtain ⟨s, s1, s2, s3⟩ := f_addV y1 w1 (by rw [e80]; omega)
  rw [e27] at s2 s3
  obtain ⟨n, hn⟩ : ∃ n : Nat, n = 2 ^ 992 := ⟨_, rfl⟩
  have hnano := f_nano
  rw [← hn] at hnano e92
  obtain ⟨s', t1, t2, t3⟩ := f_addV s1 hnano (by rw [e80]; omega)
  rw [e27] at t2 t3
  -- x is not greater than y + w and a little
  have key : 2 * x ≤ 2 * (y + w) + 3 * u := by
    apply Classical.byContradiction
    intro g
    have hp : 0 < D1 * (D2 * D3) := Nat.mul_pos g1 (Nat.mul_pos g2 g3)
    have a1 := Nat.mul_le_mul_right (D1 * (D2 * D3)) (show 2 * (y + w) + 3 * u + 1 ≤ 2 * x by omega)
    have a2 := Nat.mul_le_mul_right (D2 * D3) x3
    have a3 := Nat.mul_le_mul_right (D1 * D3) y2
    have a4 := Nat.mul_le_mul_right (D1 * D2) w2
    have a5 := Nat.mul_le_mul_right (2 * (562949953421312 * u)) ht'
    generalize 562949953421312 * u = T at a2 a3 a4 a5
    have i1 : 2 * x * D1 * (D2 * D3) = 2 * x * (D1 * (D2 * D3)) := by ac_rfl
    have i2 : (2 * N1 * T + u * D1) * (D2 * D3) = N1 * (D2 * D3) * (2 * T) + u * (D1 * (D2 * D3)) := by grind
    have i3 : 2 * N2 * T * (D1 * D3) = N2 * D3 * D1 * (2 * T) := by grind
    have i4 : 2 * N3 * T * (D1 * D2) = N3 * D2 * D1 * (2 * T) := by grind
    have i5 : (2 * y + u) * D2 * (D1 * D3) = 2 * y * (D1 * (D2 * D3)) + u * (D1 * (D2 * D3)) := by grind
    have i6 : (2 * w + u) * D3 * (D1 * D2) = 2 * w * (D1 * (D2 * D3)) + u * (D1 * (D2 * D3)) := by grind
    have i7 : (N2 * D3 + N3 * D2) * D1 * (2 * T) = N2 * D3 * D1 * (2 * T) + N3 * D2 * D1 * (2 * T) := by grind
    have i8 : (2 * (y + w) + 3 * u + 1) * (D1 * (D2 * D3)) = 2 * y * (D1 * (D2 * D3)) + 2 * w * (D1 * (D2 * D3)) + 3 * (u * (D1 * (D2 * D3))) + D1 * (D2 * D3) := by grind
    omega
  constructor
  · obtain ⟨o, o1, o2, o3⟩ := f_cmpV x1 t1
    refine ⟨o, o1, fun g => ?_⟩
    have := o2.mp g
    omega
  · obtain ⟨o, o1, o2, o3⟩ := f_cmpV x1 f_zero
    refine ⟨o, o1, fun g => ?_⟩
    have := o3.mp g
    omega
