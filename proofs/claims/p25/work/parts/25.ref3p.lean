/-! comparing fractions: the reference's way against the bench's -/
theorem tl_test (x q y : Int64) : x - q * y + y = x - (q - 1) * y := by grind
theorem xor_nn (x y : Int64) : 0 ≤ x ^^^ y ↔ (0 ≤ x ↔ 0 ≤ y) := by
  have e : ∀ w : Int64, 0 ≤ w ↔ w.toBitVec.msb = false := fun w => by
    rw [Int64.le_iff_toInt_le, BitVec.msb_eq_toInt]
    show (0 : Int) ≤ w.toBitVec.toInt ↔ _
    simp
  rw [e, e, e, Int64.toBitVec_xor, BitVec.msb_xor]
  cases x.toBitVec.msb <;> cases y.toBitVec.msb <;> simp
theorem i64_0 : (0 : Int64).toInt = 0 := by decide
theorem i64_1 : (1 : Int64).toInt = 1 := by decide
theorem i64_pos {x : Int64} : 0 < x ↔ 0 < x.toInt := by rw [Int64.lt_iff_toInt_lt, i64_0]
theorem i64_nn {x : Int64} : 0 ≤ x ↔ 0 ≤ x.toInt := by rw [Int64.le_iff_toInt_le, i64_0]
theorem fd_toInt {a b : Int64} (hb : 0 < b) : (fdL a b).toInt = a.toInt / b.toInt := by
  have hb' := i64_pos.mp hb
  have hb0 : b ≠ -1 := fun h => by rw [h] at hb; exact absurd hb (by decide)
  have hd : (a / b).toInt = a.toInt.tdiv b.toInt := Int64.toInt_div_of_ne_right _ _ hb0
  have hx : 0 ≤ a ^^^ b ↔ 0 ≤ a.toInt := by
    rw [xor_nn, i64_nn, i64_nn]
    exact ⟨fun h => h.mpr (by omega), fun h => ⟨fun _ => by omega, fun _ => h⟩⟩
  have hq := Int.tdiv_eq_ediv (a := a.toInt) (b := b.toInt)
  have hs : b.toInt.sign = 1 := Int.sign_eq_one_of_pos hb'
  rw [hs] at hq
  rw [fdL]
  by_cases c : 0 ≤ a ^^^ b
  · rw [if_pos c, hd, hq, if_pos (Or.inl (hx.mp c))]
    omega
  · rw [if_neg c]
    have ha : ¬ 0 ≤ a.toInt := fun h => c (hx.mpr h)
    have hm : (a / b * b).toInt = a.toInt.tdiv b.toInt * b.toInt := by
      rw [Int64.toInt_mul, hd]
      have h1 := Int.tmod_add_mul_tdiv a.toInt b.toInt
      have h2 : a.toInt.tmod b.toInt ≤ 0 := by
        have := Int.tmod_nonneg b.toInt (a := -a.toInt) (by omega)
        rw [Int.neg_tmod] at this
        omega
      have h3 : -(b.toInt) < a.toInt.tmod b.toInt := by
        have := Int.tmod_lt_of_pos (-a.toInt) hb'
        rw [Int.neg_tmod] at this
        omega
      have h4 := a.le_toInt
      rw [Int.mul_comm] at h1
      have h5 : a.toInt.tdiv b.toInt * b.toInt = a.toInt - a.toInt.tmod b.toInt := by omega
      have h6 : a.toInt.tdiv b.toInt * b.toInt ≤ 0 := by
        have : a.toInt.tdiv b.toInt ≤ 0 := by
          have := Int.tdiv_nonneg (a := -a.toInt) (b := b.toInt) (by omega) (by omega)
          rw [Int.neg_tdiv] at this
          omega
        exact Int.mul_nonpos_of_nonpos_of_nonneg this (by omega)
      exact Int.bmod_eq_of_le (by omega) (by omega)
    by_cases c2 : a / b * b = a
    · rw [if_pos c2, hd, hq, if_pos (Or.inr ⟨a.toInt.tdiv b.toInt, by rw [Int.mul_comm, ← hm, c2]⟩)]
      omega
    · rw [if_neg c2]
      have h7 : ¬ b.toInt ∣ a.toInt := fun h => c2 (by
        apply Int64.toInt_inj.mp
        rw [hm, Int.tdiv_mul_cancel h])
      rw [if_neg (by rintro (h | h); exact ha h; exact h7 h)] at hq
      rw [Int64.toInt_sub, hd, hq, i64_1]
      have h8 : a.toInt / b.toInt < 0 := Int.ediv_neg_of_neg_of_pos (by omega) hb'
      have h9 : a.toInt ≤ a.toInt / b.toInt := by
        refine (Int.le_ediv_iff_mul_le hb').mpr ?_
        have h := Int.mul_nonneg (show 0 ≤ -a.toInt by omega) (show 0 ≤ b.toInt - 1 by omega)
        rw [Int.mul_sub, Int.neg_mul, Int.mul_one] at h
        omega
      have h4 := a.le_toInt
      have h14 := a.toInt_lt
      have e : a.toInt / b.toInt + 1 - 1 = a.toInt / b.toInt := by omega
      rw [e]
      exact Int.bmod_eq_of_le (by omega) (by omega)

theorem rm_toInt {a b : Int64} (hb : 0 < b) : (a - fdL a b * b).toInt = a.toInt % b.toInt := by
  have hb' := i64_pos.mp hb
  have e1 : a.toInt - a.toInt / b.toInt * b.toInt = a.toInt % b.toInt := by
    have := Int.emod_add_mul_ediv a.toInt b.toInt
    rw [Int.mul_comm] at this
    omega
  rw [Int64.toInt_sub, Int64.toInt_mul, fd_toInt hb, Int.sub_bmod_bmod, e1]
  have h1 := Int.emod_nonneg a.toInt (b := b.toInt) (by omega)
  have h2 := Int.emod_lt_of_pos a.toInt hb'
  have h4 := b.toInt_lt
  exact Int.bmod_eq_of_le (by omega) (by omega)
theorem fm_rm (a b : Int64) : fmL a b = a - fdL a b * b := by
  rw [fmL, fdL]
  by_cases c : 0 ≤ a ^^^ b
  · rw [if_pos c, if_pos c]
  · rw [if_neg c, if_neg c]
    by_cases c2 : a / b * b = a
    · rw [if_pos c2, if_pos (by rw [c2]; exact Int64.sub_self _)]
    · rw [if_neg c2, if_neg (fun h => c2 (by grind))]
      grind
def cpW : Nat → Int64 → Int64 → Int64 → Int64 → Int32
  | 0, _, _, _, _ => 0
  | n + 1, a, b, c, d => if fdL a b = fdL c d then (if a - fdL a b * b = 0 ∨ c - fdL c d * d = 0 then (if a - fdL a b * b = c - fdL c d * d then 0 else if a - fdL a b * b = 0 then -1 else 1)
      else cpW n d (c - fdL c d * d) b (a - fdL a b * b)) else if fdL a b < fdL c d then -1 else 1
/-- how deep it may go -/
def cpI (n : Nat) (a b d : Int64) : Prop := 0 < b ∧ 0 < d ∧ (n % 2 = 0 → d.toInt < 2 ^ (n / 2)) ∧ (n % 2 = 1 → b.toInt ≤ a.toInt ∧ a.toInt < 2 ^ (n / 2 + 1))
theorem cpI_0 {a b d : Int64} (h : cpI 0 a b d) : False := by
  have h1 := i64_pos.mp h.2.1
  have h2 := h.2.2.1 rfl
  have : (2 : Int) ^ (0 / 2) = 1 := rfl
  omega
theorem cpI_s {n : Nat} {a b c d : Int64} (h : cpI (n + 1) a b d) (h1 : ¬ a - fdL a b * b = 0) (h2 : ¬ c - fdL c d * d = 0) : cpI n d (c - fdL c d * d) (a - fdL a b * b) := by
  obtain ⟨hb, hd, h3, h4⟩ := h
  have ea := rm_toInt (a := a) hb
  have ec := rm_toInt (a := c) hd
  have hb' := i64_pos.mp hb
  have hd' := i64_pos.mp hd
  have na : ¬ (a - fdL a b * b).toInt = 0 := fun e => h1 (Int64.toInt_inj.mp e)
  have nc : ¬ (c - fdL c d * d).toInt = 0 := fun e => h2 (Int64.toInt_inj.mp e)
  have a1 := Int.emod_nonneg a.toInt (b := b.toInt) (by omega)
  have a2 := Int.emod_lt_of_pos a.toInt hb'
  have c1 := Int.emod_nonneg c.toInt (b := d.toInt) (by omega)
  have c2 := Int.emod_lt_of_pos c.toInt hd'
  refine ⟨i64_pos.mpr (by omega), i64_pos.mpr (by omega), fun e => ?_, fun e => ?_⟩
  · have ⟨q1, q2⟩ := h4 (by omega)
    have e2 : (n + 1) / 2 + 1 = n / 2 + 1 := by omega
    rw [e2, Int.pow_succ] at q2
    have q3 : b.toInt * (a.toInt / b.toInt) + a.toInt % b.toInt = a.toInt := by
      have := Int.emod_add_mul_ediv a.toInt b.toInt
      omega
    have q4 : 1 ≤ a.toInt / b.toInt := (Int.le_ediv_iff_mul_le hb').mpr (by omega)
    have q5 := Int.mul_nonneg (show 0 ≤ b.toInt by omega) (show 0 ≤ a.toInt / b.toInt - 1 by omega)
    rw [Int.mul_sub, Int.mul_one] at q5
    rw [ea]
    omega
  · have q := h3 (by omega)
    have e2 : (n + 1) / 2 = n / 2 + 1 := by omega
    rw [e2] at q
    exact ⟨by omega, q⟩
def cfZ (u v : Int64) (sg : Int32) : Int32 := if u = v then nI 0 else if u = 0 then sg else -sg
theorem cfS_0 (a u b v : Int64) (sg : Int32) : cfS 0 a u b v sg = cfZ u v sg := rfl
theorem cfS_z0 {u v : Int64} (h : u = 0 ∨ v = 0) : ∀ (k : Nat) (a b : Int64) (sg : Int32), cfS k a u b v sg = cfZ u v sg
  | 0, _, _, _ => rfl
  | k + 1, a, b, sg => by
    rw [cfS, cfZ]
    rcases h with h | h
    · rw [if_pos h]
    · by_cases g : u = 0
      · rw [if_pos g]
      · rw [if_neg g, if_pos h]
theorem cfS_st {u v : Int64} (h : ¬ u = 0) (g : ¬ v = 0) (k : Nat) (a b : Int64) (sg : Int32) : cfS (k + 1) a u b v sg = if cmpL (fdL a u) (fdL b v) = 0 then cfS k u (fmL a u) v (fmL b v) (-sg) else sg * cmpL (fdL a u) (fdL b v) := by
  rw [cfS, if_neg h, if_neg g]
theorem cfZ_neg (u v : Int64) (sg : Int32) : cfZ u v (-sg) = -cfZ u v sg := by
  rw [cfZ, cfZ]
  have h0 : -nI 0 = nI 0 := by decide
  split
  · exact h0.symm
  · split <;> rfl
theorem i32_nm (x y : Int32) : -x * y = -(x * y) := by grind
theorem cfS_neg : ∀ (k : Nat) (a u b v : Int64) (sg : Int32), cfS k a u b v (-sg) = -cfS k a u b v sg
  | 0, a, u, b, v, sg => cfZ_neg u v sg
  | k + 1, a, u, b, v, sg => by
    by_cases h : u = 0 ∨ v = 0
    · rw [cfS_z0 h, cfS_z0 h]; exact cfZ_neg u v sg
    · have h1 : ¬ u = 0 := fun e => h (Or.inl e)
      have h2 : ¬ v = 0 := fun e => h (Or.inr e)
      rw [cfS_st h1 h2, cfS_st h1 h2]
      by_cases c : cmpL (fdL a u) (fdL b v) = 0
      · rw [if_pos c, if_pos c]; exact cfS_neg k _ _ _ _ _
      · rw [if_neg c, if_neg c]; exact i32_nm _ _
theorem cmp_sw (x y : Int64) : cmpL x y = -cmpL y x := by
  rw [cmpL, cmpL]
  by_cases h : y ≤ x
  · rw [if_pos h]
    by_cases e : x = y
    · subst e; rw [if_pos h, if_pos rfl]; decide
    · rw [if_neg e, if_neg (fun h2 => e (Int64.le_antisymm h2 h))]; decide
  · rw [if_neg h]
    have h1 : x ≤ y := by
      rw [Int64.le_iff_toInt_le] at h ⊢
      omega
    rw [if_pos h1, if_neg (fun e => h (by rw [e]; exact Int64.le_refl _))]; decide
theorem cmp_0 (x y : Int64) : cmpL x y = 0 ↔ x = y := by
  rw [cmpL]
  by_cases h : y ≤ x
  · rw [if_pos h]
    by_cases e : x = y
    · rw [if_pos e]; exact ⟨fun _ => e, fun _ => rfl⟩
    · rw [if_neg e]; exact ⟨fun h => absurd h (by decide), fun h => absurd h e⟩
  · rw [if_neg h]; exact ⟨fun h => absurd h (by decide), fun e => absurd (by rw [e]; exact Int64.le_refl _) h⟩

theorem cp_cf : ∀ (n k : Nat) (a b c d : Int64), n ≤ k → cpI n a b d → cpW n a b c d = cfS k a b c d 1 ∧ cpW n a b c d = -cfS k c d a b 1
  | 0, _, _, _, _, _, _, h => absurd h (fun h => cpI_0 h)
  | n + 1, k, a, b, c, d, hk, h => by
    obtain ⟨k, rfl⟩ : ∃ j, k = j + 1 := ⟨k - 1, by omega⟩
    have hb : ¬ b = 0 := fun e => by have := h.1; rw [e] at this; exact absurd this (by decide)
    have hd : ¬ d = 0 := fun e => by have := h.2.1; rw [e] at this; exact absurd this (by decide)
    rw [cfS_st hb hd, cfS_st hd hb, cpW]
    have hn1 : -(1 : Int32) = -1 := rfl
    by_cases f : fdL a b = fdL c d
    · rw [if_pos f, if_pos ((cmp_0 _ _).mpr f), if_pos ((cmp_0 _ _).mpr f.symm), fm_rm, fm_rm, cfS_neg, cfS_neg]
      by_cases z : a - fdL a b * b = 0 ∨ c - fdL c d * d = 0
      · rw [if_pos z, cfS_z0 z, cfS_z0 z.symm, cfZ, cfZ]
        by_cases e : a - fdL a b * b = c - fdL c d * d
        · rw [if_pos e, if_pos e, if_pos e.symm]; decide
        · have e' : ¬ c - fdL c d * d = a - fdL a b * b := fun g => e g.symm
          rw [if_neg e, if_neg e, if_neg e']
          by_cases e1 : a - fdL a b * b = 0
          · have e3 : ¬ c - fdL c d * d = 0 := fun g => e (e1.trans g.symm)
            rw [if_pos e1, if_pos e1, if_neg e3]; decide
          · have e2 : c - fdL c d * d = 0 := by rcases z with g | g; exact absurd g e1; exact g
            rw [if_neg e1, if_neg e1, if_pos e2]; decide
      · have z1 : ¬ a - fdL a b * b = 0 := fun g => z (Or.inl g)
        have z2 : ¬ c - fdL c d * d = 0 := fun g => z (Or.inr g)
        have ih := cp_cf n k d (c - fdL c d * d) b (a - fdL a b * b) (by omega) (cpI_s h z1 z2)
        rw [if_neg z]
        exact ⟨ih.2, by rw [ih.1]; exact (Int32.neg_neg).symm⟩
    · rw [if_neg f, if_neg (fun g => f ((cmp_0 _ _).mp g)), if_neg (fun g => f ((cmp_0 _ _).mp g).symm), cmpL, cmpL]
      by_cases l : fdL a b < fdL c d
      · have l1 : ¬ fdL c d ≤ fdL a b := Int64.not_le.mpr l
        have l2 : fdL a b ≤ fdL c d := Int64.le_of_lt l
        rw [if_pos l, if_neg l1, if_pos l2, if_neg (fun g => f g.symm)]; decide
      · have l1 : fdL c d ≤ fdL a b := Int64.not_lt.mp l
        have l2 : ¬ fdL a b ≤ fdL c d := fun g => f (Int64.le_antisymm g l1)
        rw [if_neg l, if_pos l1, if_neg f, if_neg l2]; decide
theorem cpI_top {a b d : Int64} (hb : 0 < b) (hd : 0 < d) : cpI 126 a b d := by
  refine ⟨hb, hd, fun _ => ?_, fun h => absurd h (by decide)⟩
  have := d.toInt_lt
  have e : (2 : Int) ^ (126 / 2) = 9223372036854775808 := by decide
  rw [e]
  omega
theorem cp_top {a b c d : Int64} (hb : 0 < b) (hd : 0 < d) : cpW 126 a b c d = cfS 200 a b c d 1 := (cp_cf 126 200 a b c d (by decide) (cpI_top hb hd)).1
