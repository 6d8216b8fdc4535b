/-! a part in lowest terms is the same ratio -/
theorem gcd_dvd : ∀ (k : Nat) (a b : Int64), b.toInt.natAbs < k → (gcdS k a b).toInt ∣ a.toInt ∧ (gcdS k a b).toInt ∣ b.toInt
  | 0, _, _, h => absurd h (Nat.not_lt_zero _)
  | k + 1, a, b, h => by
    rw [gcdS]
    by_cases c : b = 0
    · rw [if_pos c, c, i64_0]
      exact ⟨Int.dvd_refl _, Int.dvd_zero _⟩
    · rw [if_neg c]
      have hr := rem_lt a c
      obtain ⟨h1, h2⟩ := gcd_dvd k b (a - a / b * b) (by omega)
      refine ⟨?_, h1⟩
      rw [rm_t] at h2
      have e := Int.tmod_add_mul_tdiv a.toInt b.toInt
      rw [← e]
      exact Int.dvd_add h2 (Int.dvd_trans h1 (Int.dvd_mul_right _ _))
theorem absL_dvd {u : Int64} (h : u ≠ Int64.minValue) {g : Int} (hg : g ∣ (absL u).toInt) : g ∣ u.toInt := by
  rw [absL] at hg
  by_cases c : 0 ≤ u
  · rw [if_pos c] at hg; exact hg
  · rw [if_neg c] at hg
    have hn : ¬ 0 ≤ u.toInt := fun g => c (i64_nn.mpr g)
    have hm : u.toInt ≠ -9223372036854775808 := fun g => h (Int64.toInt_inj.mp (by rw [g]; rfl))
    have h1 := u.le_toInt
    rw [Int64.toInt_neg, Int.bmod_eq_of_le (by omega) (by omega)] at hg
    exact Int.dvd_neg.mp hg
/-- u / w, w > 0: the parts -/
theorem pt_rat {u w : Int64} (hw : 0 < w) (hu : u ≠ Int64.minValue) : ∃ g : Int, 0 < g ∧ u.toInt = g * (ptF u w 1).toInt ∧ w.toInt = g * (ptF u w 0).toInt := by
  have hp := i64_pos.mp hw
  have h := gcd_le 199 (absL u) w (absL_nn hu) hp
  have hd : (gcdS 200 (absL u) w).toInt ∣ (absL u).toInt ∧ (gcdS 200 (absL u) w).toInt ∣ w.toInt := by
    rw [gcd_eq (absL_nn hu) (by omega)]
    exact gcd_dvd _ _ _ (Nat.lt_succ_self _)
  have h : 0 < (gcdS 200 (absL u) w).toInt ∧ (gcdS 200 (absL u) w).toInt ≤ w.toInt := h
  have hdu := absL_dvd hu hd.1
  by_cases c : 1 < gcdS 200 (absL u) w
  · have hm : gcdS 200 (absL u) w ≠ -1 := fun e => by
      have h1 := h.1
      rw [e] at h1
      exact absurd h1 (by decide)
    refine ⟨(gcdS 200 (absL u) w).toInt, h.1, ?_, ?_⟩
    · rw [ptF, if_pos c, if_neg (by decide), Int64.toInt_div_of_ne_right _ _ hm]
      exact (Int.mul_tdiv_cancel' hdu).symm
    · rw [ptF, if_pos c, if_pos rfl, Int64.toInt_div_of_ne_right _ _ hm]
      exact (Int.mul_tdiv_cancel' hd.2).symm
  · refine ⟨1, by decide, ?_, ?_⟩
    · rw [ptF, if_neg c, if_neg (by decide), Int.one_mul]
    · rw [ptF, if_neg c, if_pos rfl, Int.one_mul]
/-! comparing with a whole number -/
theorem fd_1 (b : Int64) : fdL b 1 = b ∧ fmL b 1 = 0 := by
  have e : b / 1 = b := Int64.div_one
  constructor
  · rw [fdL, e, Int64.mul_one]
    split
    · rfl
    · rw [if_pos rfl]
  · rw [fmL, e, Int64.mul_one, Int64.sub_self]
    split
    · rfl
    · rw [if_pos rfl]
theorem cf_int {a u b : Int64} (hu : 0 < u) : (b.toInt * u.toInt ≤ a.toInt → ¬ cfS 200 a u b 1 1 < 0) ∧ (a.toInt ≤ b.toInt * u.toInt → ¬ 0 < cfS 200 a u b 1 1) := by
  have hp := i64_pos.mp hu
  have hu0 : ¬ u = 0 := fun e => by rw [e, i64_0] at hp; omega
  have hf := fd_toInt (a := a) hu
  have hm := rm_toInt (a := a) hu
  obtain ⟨d1, d2⟩ := fd_1 b
  have q3 : u.toInt * (a.toInt / u.toInt) + a.toInt % u.toInt = a.toInt := by
    have := Int.emod_add_mul_ediv a.toInt u.toInt
    omega
  have q1 := Int.emod_nonneg a.toInt (b := u.toInt) (by omega)
  have q2 := Int.emod_lt_of_pos a.toInt hp
  by_cases e : fdL a u = fdL b 1
  · have e2 : fdL a u = b := e.trans d1
    have h1 : cfS 200 a u b 1 1 = cfS 199 u (fmL a u) 1 0 (-1) := by
      have h := cfS_eq (k := 199) (sg := 1) hu0 (show ¬ (1 : Int64) = 0 by decide) e
      rw [d2] at h
      exact h
    have h2 : cfS 199 u (fmL a u) 1 0 (-1) = if fmL a u = 0 then nI 0 else if fmL a u = 0 then (-1 : Int32) else - -1 := cfS_z (Or.inr rfl)
    rw [h1, h2]
    rw [e2] at hf
    by_cases z0 : fmL a u = 0
    · rw [if_pos z0]
      exact ⟨fun _ => by decide, fun _ => by decide⟩
    · rw [if_neg z0, if_neg z0]
      refine ⟨fun _ => by decide, fun hle => ?_⟩
      exfalso
      rw [fm_rm] at z0
      apply z0
      apply Int64.toInt_inj.mp
      rw [hm, i64_0]
      rw [hf, Int.mul_comm] at hle
      omega
  · have hne : ¬ (fdL a u).toInt = b.toInt := fun q => e (by rw [d1]; exact Int64.toInt_inj.mp q)
    by_cases l : fdL a u ≤ fdL b 1
    · have h1 := cfS_lt (k := 199) (sg := 1) hu0 (show ¬ (1 : Int64) = 0 by decide) e l
      have h1 : cfS 200 a u b 1 1 = -1 := h1
      rw [d1, Int64.le_iff_toInt_le] at l
      rw [h1]
      refine ⟨fun hle => ?_, fun _ => by decide⟩
      exfalso
      rw [hf] at l hne
      have h3 : a.toInt / u.toInt + 1 ≤ b.toInt := by omega
      have h4 := Int.mul_le_mul_of_nonneg_right h3 (Int.le_of_lt hp)
      rw [Int.add_mul, Int.one_mul, Int.mul_comm (a.toInt / u.toInt)] at h4
      omega
    · have h1 := cfS_gt (k := 199) (sg := 1) hu0 (show ¬ (1 : Int64) = 0 by decide) l
      have h1 : cfS 200 a u b 1 1 = 1 := h1
      rw [d1, Int64.le_iff_toInt_le] at l
      rw [h1]
      refine ⟨fun _ => by decide, fun hle => ?_⟩
      exfalso
      rw [hf] at l
      have h3 : b.toInt + 1 ≤ a.toInt / u.toInt := by omega
      have h4 := Int.mul_le_mul_of_nonneg_right h3 (Int.le_of_lt hp)
      rw [Int.add_mul, Int.one_mul, Int.mul_comm (a.toInt / u.toInt)] at h4
      omega
/-! doubles near their numbers -/
/-- in units of 2^-1074 -/
def ivD (c : Nat) (q : Int) : Nat := c * 2 ^ (q + 1074).toNat
theorem f_near2 (a b : Nat) (hb : 0 < b) : 2 * a ≤ (2 * FP.Core.nearest a b + 1) * b ∧ 2 * FP.Core.nearest a b * b ≤ 2 * a + b := by
  have h1 := Nat.div_add_mod a b
  have h2 := Nat.mod_lt a hb
  unfold FP.Core.nearest
  generalize a / b = d at h1 ⊢
  generalize a % b = r at h1 h2 ⊢
  have e1 : (2 * d + 1) * b = 2 * (b * d) + b := by grind
  have e2 : 2 * d * b = 2 * (b * d) := by grind
  have e3 : (2 * (d + 1) + 1) * b = 2 * (b * d) + 3 * b := by grind
  have e4 : 2 * (d + 1) * b = 2 * (b * d) + 2 * b := by grind
  split
  · rw [e1, e2]; omega
  · split
    · rw [e3, e4]; omega
    · have : d % 2 = 0 ∨ d % 2 = 1 := by omega
      rcases this with g | g
      · rw [show d + d % 2 = d by omega, e1, e2]; omega
      · rw [show d + d % 2 = d + 1 by omega, e3, e4]; omega
/-- the leading digit's exponent: not too great, not too small -/
theorem f_lead2 {num den : Nat} (h0 : num ≠ 0) (hd : 0 < den) : den * 2 ^ (FP.Core.leading num den).toNat ≤ num * 2 ^ (-(FP.Core.leading num den)).toNat ∧ num * 2 ^ (-(FP.Core.leading num den + 1)).toNat < den * 2 ^ (FP.Core.leading num den + 1).toNat := by
  have e0 : FP.Core.leading num den = if den * 2 ^ ((num.log2 : Int) - (den.log2 : Int)).toNat ≤ num * 2 ^ (-((num.log2 : Int) - (den.log2 : Int))).toNat then (num.log2 : Int) - (den.log2 : Int) else (num.log2 : Int) - (den.log2 : Int) - 1 := rfl
  have n1 := Nat.log2_self_le h0
  have d0 : den ≠ 0 := by omega
  have d1 := Nat.log2_self_le d0
  have n2 : num < 2 ^ (num.log2 + 1) := Nat.lt_log2_self
  have d2 : den < 2 ^ (den.log2 + 1) := Nat.lt_log2_self
  generalize num.log2 = a at e0 n1 n2
  generalize den.log2 = b at e0 d1 d2
  by_cases h : den * 2 ^ ((a : Int) - (b : Int)).toNat ≤ num * 2 ^ (-((a : Int) - (b : Int))).toNat
  · rw [if_pos h] at e0
    rw [e0]
    refine ⟨h, ?_⟩
    rcases Nat.lt_or_ge a b with g | g
    · rw [show ((a : Int) - (b : Int) + 1).toNat = 0 by omega, show (-((a : Int) - (b : Int) + 1)).toNat = b - a - 1 by omega, Nat.pow_zero, Nat.mul_one]
      have h1 := Nat.mul_lt_mul_of_pos_right n2 (Nat.pow_pos (by decide) : 0 < 2 ^ (b - a - 1))
      rw [← Nat.pow_add, show a + 1 + (b - a - 1) = b by omega] at h1
      omega
    · rw [show ((a : Int) - (b : Int) + 1).toNat = a - b + 1 by omega, show (-((a : Int) - (b : Int) + 1)).toNat = 0 by omega, Nat.pow_zero, Nat.mul_one]
      have h1 := Nat.mul_le_mul_right (2 ^ (a - b + 1)) d1
      rw [← Nat.pow_add, show b + (a - b + 1) = a + 1 by omega] at h1
      omega
  · rw [if_neg h] at e0
    rw [e0]
    constructor
    · rcases Nat.lt_or_ge b a with g | g
      · rw [show ((a : Int) - (b : Int) - 1).toNat = a - b - 1 by omega, show (-((a : Int) - (b : Int) - 1)).toNat = 0 by omega, Nat.pow_zero, Nat.mul_one]
        have h1 := Nat.mul_le_mul_right (2 ^ (a - b - 1)) (Nat.le_of_lt d2)
        rw [← Nat.pow_add, show b + 1 + (a - b - 1) = a by omega] at h1
        omega
      · rw [show ((a : Int) - (b : Int) - 1).toNat = 0 by omega, show (-((a : Int) - (b : Int) - 1)).toNat = b - a + 1 by omega, Nat.pow_zero, Nat.mul_one]
        have h1 := Nat.mul_le_mul_right (2 ^ (b - a + 1)) n1
        rw [← Nat.pow_add, show a + (b - a + 1) = b + 1 by omega] at h1
        omega
    · rw [show (a : Int) - (b : Int) - 1 + 1 = (a : Int) - (b : Int) by omega]
      omega
theorem p2_pos (n : Nat) : 0 < 2 ^ n := Nat.pow_pos (by decide)
theorem p2_le {a b : Nat} (h : a ≤ b) : 2 ^ a ≤ 2 ^ b := Nat.pow_le_pow_right (by decide) h
/-- less than 2^k: the leading digit is below -/
theorem f_lt {num den : Nat} {L m : Int} (hL : den * 2 ^ L.toNat ≤ num * 2 ^ (-L).toNat) (hlt : num * 2 ^ (-m).toNat < den * 2 ^ m.toNat) : L < m := by
  apply Classical.byContradiction
  intro g
  rcases Int.le_total 0 m with a | a
  · rw [show (-m).toNat = 0 by omega, Nat.pow_zero, Nat.mul_one] at hlt
    rw [show (-L).toNat = 0 by omega, Nat.pow_zero, Nat.mul_one] at hL
    have := Nat.mul_le_mul_left den (p2_le (a := m.toNat) (b := L.toNat) (by omega))
    omega
  · rw [show m.toNat = 0 by omega, Nat.pow_zero, Nat.mul_one] at hlt
    rcases Int.le_total 0 L with b | b
    · rw [show (-L).toNat = 0 by omega, Nat.pow_zero, Nat.mul_one] at hL
      have h5 := Nat.mul_le_mul_left den (p2_pos L.toNat)
      have h6 := Nat.mul_le_mul_left num (p2_pos (-m).toNat)
      omega
    · rw [show L.toNat = 0 by omega, Nat.pow_zero, Nat.mul_one] at hL
      have := Nat.mul_le_mul_left num (p2_le (a := (-L).toNat) (b := (-m).toNat) (by omega))
      omega
/-- in units of the last digit: less than 2^53 -/
theorem f_ulo {num den : Nat} {e L K : Int} (h : num * 2 ^ (-(L + 1)).toNat < den * 2 ^ (L + 1).toNat) (hK : L + e - 52 ≤ K) : FP.Core.unitsNum num e K < 9007199254740992 * FP.Core.unitsDen den e K := by
  unfold FP.Core.unitsNum FP.Core.unitsDen
  have e53 : (9007199254740992 : Nat) = 2 ^ 53 := by decide
  rw [e53]
  rcases Int.le_total K e with a | a
  · rw [show (K - e).toNat = 0 by omega, Nat.pow_zero, Nat.mul_one]
    rcases Int.le_total 0 (L + 1) with b | b
    · rw [show (-(L + 1)).toNat = 0 by omega, Nat.pow_zero, Nat.mul_one] at h
      have h1 := Nat.mul_lt_mul_of_pos_right h (p2_pos (e - K).toNat)
      rw [Nat.mul_assoc, ← Nat.pow_add] at h1
      have h2 := Nat.mul_le_mul_left den (p2_le (a := (L + 1).toNat + (e - K).toNat) (b := 53) (by omega))
      rw [Nat.mul_comm (2 ^ 53)]
      omega
    · rw [show (L + 1).toNat = 0 by omega, Nat.pow_zero, Nat.mul_one] at h
      have h1 := Nat.mul_lt_mul_of_pos_right h (p2_pos 53)
      rw [Nat.mul_assoc, ← Nat.pow_add] at h1
      have h2 := Nat.mul_le_mul_left num (p2_le (a := (e - K).toNat) (b := (-(L + 1)).toNat + 53) (by omega))
      rw [Nat.mul_comm (2 ^ 53)]
      omega
  · rw [show (e - K).toNat = 0 by omega, Nat.pow_zero, Nat.mul_one]
    have h3 : num ≤ num * 2 ^ (-(L + 1)).toNat := by
      have := Nat.mul_le_mul_left num (p2_pos (-(L + 1)).toNat)
      omega
    have h2 := Nat.mul_le_mul_left den (p2_le (a := (L + 1).toNat) (b := (K - e).toNat + 53) (by omega))
    rw [Nat.pow_add] at h2
    have h4 : 2 ^ 53 * (den * 2 ^ (K - e).toNat) = den * (2 ^ (K - e).toNat * 2 ^ 53) := by ac_rfl
    rw [h4]
    omega
/-- in units of the last digit: at least 2^52 -/
theorem f_uhi {num den : Nat} {e L : Int} (h : den * 2 ^ L.toNat ≤ num * 2 ^ (-L).toNat) : 4503599627370496 * FP.Core.unitsDen den e (L + e - 52) ≤ FP.Core.unitsNum num e (L + e - 52) := by
  unfold FP.Core.unitsNum FP.Core.unitsDen
  have e52 : (4503599627370496 : Nat) = 2 ^ 52 := by decide
  rw [e52]
  rcases Int.le_total 0 L with b | b
  · rw [show (-L).toNat = 0 by omega, Nat.pow_zero, Nat.mul_one] at h
    rcases Int.le_total L 52 with a | a
    · rw [show (L + e - 52 - e).toNat = 0 by omega, Nat.pow_zero, Nat.mul_one]
      have h1 := Nat.mul_le_mul_right (2 ^ (e - (L + e - 52)).toNat) h
      rw [Nat.mul_assoc, ← Nat.pow_add, show L.toNat + (e - (L + e - 52)).toNat = 52 by omega] at h1
      rw [Nat.mul_comm (2 ^ 52)]
      exact h1
    · rw [show (e - (L + e - 52)).toNat = 0 by omega, Nat.pow_zero, Nat.mul_one]
      have h4 : 2 ^ 52 * (den * 2 ^ (L + e - 52 - e).toNat) = den * 2 ^ L.toNat := by
        rw [show L.toNat = (L + e - 52 - e).toNat + 52 by omega, Nat.pow_add]
        ac_rfl
      rw [h4]
      exact h
  · rw [show L.toNat = 0 by omega, Nat.pow_zero, Nat.mul_one] at h
    rw [show (L + e - 52 - e).toNat = 0 by omega, Nat.pow_zero, Nat.mul_one]
    have h1 := Nat.mul_le_mul_right (2 ^ 52) h
    rw [Nat.mul_assoc, ← Nat.pow_add, show (-L).toNat + 52 = (e - (L + e - 52)).toNat by omega] at h1
    rw [Nat.mul_comm (2 ^ 52)]
    exact h1
/-- a rounded number, written as it is read back -/
theorem f_core (s : Bool) {c : Nat} {K : Int} (hc1 : c ≤ 9007199254740992) (hc2 : ¬ K = -1074 → 4503599627370496 ≤ c) (k2 : -1074 ≤ K) (k4 : K ≤ 900) : ∃ c' q, FP.Core.decode FP.Core.b64 (UInt64.ofNat (FP.Core.encode FP.Core.b64 (FP.Core.settle FP.Core.b64 s c K))).toNat = .fin s c' q ∧ c' < 9007199254740992 ∧ -1074 ≤ q ∧ q ≤ K + 1 ∧ ivD c' q = ivD c K := by
  unfold FP.Core.settle FP.Core.bound
  rw [f_2p, f_qmax, f_tails]
  by_cases g : c < 9007199254740992
  · rw [if_pos g, if_pos (by omega), f_dec g k2 (by omega)]
    by_cases g2 : c < 4503599627370496
    · rw [if_pos g2]
      have hK0 : K = -1074 := Classical.byContradiction (fun q => by have := hc2 q; omega)
      exact ⟨c, -1074, rfl, g, by decide, by omega, by rw [hK0]⟩
    · rw [if_neg g2]
      exact ⟨c, K, rfl, g, k2, by omega, rfl⟩
  · rw [if_neg g, if_pos (by omega), f_dec (by decide) (by omega) (by omega), if_neg (by decide)]
    refine ⟨4503599627370496, K + 1, rfl, by decide, by omega, by omega, ?_⟩
    rw [ivD, ivD, show c = 4503599627370496 * 2 by omega, show (K + 1 + 1074).toNat = 1 + (K + 1074).toNat by omega, Nat.pow_add, Nat.pow_one]
    ac_rfl
/-- in units of the quantum: at most 2^53, at least 2^52 but for the least exponent -/
theorem f_cK {num den : Nat} {e L K : Int} (hd : 0 < den) (l1 : den * 2 ^ L.toNat ≤ num * 2 ^ (-L).toNat) (l2 : num * 2 ^ (-(L + 1)).toNat < den * 2 ^ (L + 1).toNat) (hK : K = max (-1074) (L + e - 52)) : FP.Core.nearest (FP.Core.unitsNum num e K) (FP.Core.unitsDen den e K) ≤ 9007199254740992 ∧ (¬ K = -1074 → 4503599627370496 ≤ FP.Core.nearest (FP.Core.unitsNum num e K) (FP.Core.unitsDen den e K)) := by
  have hb : 0 < FP.Core.unitsDen den e K := Nat.mul_pos hd (p2_pos _)
  have u1 := f_ulo (e := e) (K := K) l2 (by omega)
  have u2 : ¬ K = -1074 → 4503599627370496 * FP.Core.unitsDen den e K ≤ FP.Core.unitsNum num e K := fun g => by
    have := f_uhi (e := e) l1
    rw [show L + e - 52 = K by omega] at this
    exact this
  obtain ⟨n1, n2⟩ := f_near2 (FP.Core.unitsNum num e K) (FP.Core.unitsDen den e K) hb
  refine ⟨?_, fun g => Nat.le_trans ((Nat.le_div_iff_mul_le hb).mpr (u2 g)) (f_near _ _)⟩
  generalize FP.Core.nearest (FP.Core.unitsNum num e K) (FP.Core.unitsDen den e K) = c at n2 ⊢
  generalize FP.Core.unitsDen den e K = b at hb n2 u1
  apply Classical.byContradiction
  intro g
  have := Nat.mul_le_mul_right b (show 2 * 9007199254740993 ≤ 2 * c by omega)
  omega
/-- rounding a number less than 2^k: no more than 2^(k-54) off -/
theorem f_rnd (s : Bool) {num den : Nat} {e k : Int} (hd : 0 < den) (he : -1074 ≤ e) (hk : -1021 ≤ k) (hk2 : k ≤ 900) (hlt : num ≠ 0 → num * 2 ^ (-(k - e)).toNat < den * 2 ^ (k - e).toNat) :
    ∃ c q, FP.Core.decode FP.Core.b64 (UInt64.ofNat (FP.Core.encode FP.Core.b64 (FP.Core.roundRatio FP.Core.b64 s num den e))).toNat = .fin s c q ∧ c < 9007199254740992 ∧ -1074 ≤ q ∧
      2 * num * 2 ^ (e + 1074).toNat ≤ (2 * ivD c q + 2 ^ (k + 1021).toNat) * den ∧ 2 * ivD c q * den ≤ 2 * num * 2 ^ (e + 1074).toNat + 2 ^ (k + 1021).toNat * den := by
  by_cases h0 : num = 0
  · refine ⟨0, -1074, ?_, by decide, by omega, ?_, ?_⟩
    · rw [FP.Core.roundRatio, if_pos h0, f_qmin, f_dec (by decide) (by decide) (by decide), if_pos (by decide)]
    · rw [h0, Nat.mul_zero, Nat.zero_mul]; exact Nat.zero_le _
    · rw [h0, ivD, Nat.zero_mul, Nat.mul_zero, Nat.zero_mul, Nat.zero_mul]; exact Nat.zero_le _
  · obtain ⟨l1, l2⟩ := f_lead2 h0 hd
    have hL := f_lt l1 (hlt h0)
    have hq : FP.Core.quantum FP.Core.b64 num den e = max (-1074) (FP.Core.leading num den + e - 52) := by
      unfold FP.Core.quantum
      rw [f_qmin, f_p]
      rfl
    rw [FP.Core.roundRatio, if_neg h0, FP.Core.roundAt, hq]
    generalize FP.Core.leading num den = L at l1 l2 hL
    obtain ⟨K, hK⟩ : ∃ K, K = max (-1074) (L + e - 52) := ⟨_, rfl⟩
    rw [← hK]
    have k1 : K ≤ k - 53 := by omega
    have k2 : -1074 ≤ K := by omega
    have k3 : L + e - 52 ≤ K := by omega
    have hp : ∀ n : Nat, 0 < 2 ^ n := p2_pos
    have hb : 0 < FP.Core.unitsDen den e K := Nat.mul_pos hd (hp _)
    obtain ⟨n1, n2⟩ := f_near2 (FP.Core.unitsNum num e K) (FP.Core.unitsDen den e K) hb
    have hkey : 2 * num * 2 ^ (e + 1074).toNat ≤ (2 * ivD (FP.Core.nearest (FP.Core.unitsNum num e K) (FP.Core.unitsDen den e K)) K + 2 ^ (k + 1021).toNat) * den ∧ 2 * ivD (FP.Core.nearest (FP.Core.unitsNum num e K) (FP.Core.unitsDen den e K)) K * den ≤ 2 * num * 2 ^ (e + 1074).toNat + 2 ^ (k + 1021).toNat * den := by
      generalize FP.Core.nearest (FP.Core.unitsNum num e K) (FP.Core.unitsDen den e K) = c at n1 n2 ⊢
      unfold FP.Core.unitsNum FP.Core.unitsDen at n1 n2
      have hw : 2 ^ (K + 1074).toNat ≤ 2 ^ (k + 1021).toNat := p2_le (by omega)
      have hwd := Nat.mul_le_mul_right den hw
      rw [ivD]
      rcases Int.le_total K e with g | g
      · rw [show (K - e).toNat = 0 by omega, Nat.pow_zero, Nat.mul_one] at n1 n2
        have e1 : 2 ^ (e + 1074).toNat = 2 ^ (e - K).toNat * 2 ^ (K + 1074).toNat := by
          rw [← Nat.pow_add]; congr 1; omega
        rw [e1]
        have m1 := Nat.mul_le_mul_right (2 ^ (K + 1074).toNat) n1
        have m2 := Nat.mul_le_mul_right (2 ^ (K + 1074).toNat) n2
        generalize 2 ^ (e - K).toNat = P at m1 m2 ⊢
        generalize 2 ^ (K + 1074).toNat = S at m1 m2 hwd ⊢
        generalize 2 ^ (k + 1021).toNat = U at hwd ⊢
        have a1 : 2 * num * (P * S) = 2 * (num * P) * S := by ac_rfl
        have a3 : (2 * (c * S) + U) * den = 2 * (c * S) * den + U * den := Nat.add_mul _ _ _
        constructor
        · have a2 : (2 * c + 1) * den * S = 2 * (c * S) * den + S * den := by grind
          omega
        · have a2 : 2 * c * den * S = 2 * (c * S) * den := by ac_rfl
          have a4 : (2 * (num * P) + den) * S = 2 * (num * P) * S + S * den := by grind
          omega
      · rw [show (e - K).toNat = 0 by omega, Nat.pow_zero, Nat.mul_one] at n1 n2
        have e1 : 2 ^ (K + 1074).toNat = 2 ^ (K - e).toNat * 2 ^ (e + 1074).toNat := by
          rw [← Nat.pow_add]; congr 1; omega
        rw [e1] at hwd ⊢
        have m1 := Nat.mul_le_mul_right (2 ^ (e + 1074).toNat) n1
        have m2 := Nat.mul_le_mul_right (2 ^ (e + 1074).toNat) n2
        generalize 2 ^ (K - e).toNat = P at m1 m2 hwd ⊢
        generalize 2 ^ (e + 1074).toNat = S at m1 m2 hwd ⊢
        generalize 2 ^ (k + 1021).toNat = U at hwd ⊢
        have a3 : (2 * (c * (P * S)) + U) * den = 2 * (c * (P * S)) * den + U * den := Nat.add_mul _ _ _
        constructor
        · have a2 : (2 * c + 1) * (den * P) * S = 2 * (c * (P * S)) * den + P * S * den := by grind
          omega
        · have a2 : 2 * c * (den * P) * S = 2 * (c * (P * S)) * den := by ac_rfl
          have a4 : (2 * num + den * P) * S = 2 * num * S + P * S * den := by grind
          omega
    obtain ⟨hc1, hc2⟩ := f_cK hd l1 l2 hK
    obtain ⟨c', q, r1, r2, r3, r4, r5⟩ := f_core s hc1 hc2 k2 (by omega)
    rw [← r5] at hkey
    exact ⟨c', q, r1, r2, r3, hkey.1, hkey.2⟩
