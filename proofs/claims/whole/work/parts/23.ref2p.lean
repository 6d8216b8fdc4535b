/-! the reference's least toggle, its divisor: against the bench's -/
def fmI (z : xC) (t : Int32) (i : Nat) (f : Int32) : Nat → Int32
  | 0 => f
  | k + 1 => if t < tT z (6 * i + k) ∧ (fmI z t i f k = -1 ∨ tT z (6 * i + k) < fmI z t i f k) then tT z (6 * i + k) else fmI z t i f k
def fmS (z : xC) (t : Int32) : Nat → Int32
  | 0 => -1
  | i + 1 => fmI z t i (fmS z t i) (cT z i)
theorem fmI_0 {z : xC} {t : Int32} {i k : Nat} {f : Int32} (h : ¬ t < tT z (6 * i + k)) : fmI z t i f (k + 1) = fmI z t i f k := by rw [fmI, if_neg (fun g => h g.1)]
theorem fmI_1 {z : xC} {t : Int32} {i k : Nat} {f : Int32} (h : t < tT z (6 * i + k)) (h2 : fmI z t i f k = -1 ∨ tT z (6 * i + k) < fmI z t i f k) : fmI z t i f (k + 1) = tT z (6 * i + k) := by rw [fmI, if_pos ⟨h, h2⟩]
theorem fmI_2 {z : xC} {t : Int32} {i k : Nat} {f : Int32} (h : t < tT z (6 * i + k)) (h2 : ¬ (fmI z t i f k = -1 ∨ tT z (6 * i + k) < fmI z t i f k)) : fmI z t i f (k + 1) = fmI z t i f k := by rw [fmI, if_neg (fun g => h2 g.2)]
/-- Euclid to its end -/
def gcdW (a b : Int64) : Int64 := gcdS (b.toInt.natAbs + 1) a b
theorem rem_lt (u : Int64) {w : Int64} (h : ¬ w = 0) : (u - u / w * w).toInt.natAbs < w.toInt.natAbs := by
  have e : (u - u / w * w).toInt = u.toInt.tmod w.toInt := by
    rw [Int64.toInt_sub, Int64.toInt_mul, Int64.toInt_div, Int.bmod_mul_bmod, Int.sub_bmod_bmod]
    have e1 : u.toInt - u.toInt.tdiv w.toInt * w.toInt = u.toInt.tmod w.toInt := by
      have := Int.tmod_add_mul_tdiv u.toInt w.toInt
      rw [Int.mul_comm] at this
      omega
    rw [e1, ← Int64.toInt_mod, Int64.toInt_bmod]
  rw [e]
  have hw : w.toInt ≠ 0 := fun q => h (Int64.toInt_inj.mp (by rw [q]; rfl))
  have h1 : (u.toInt.tmod w.toInt).natAbs = u.toInt.natAbs % w.toInt.natAbs := Int.natAbs_tmod _ _
  rw [h1]
  exact Nat.mod_lt _ (Int.natAbs_pos.mpr hw)
theorem gcdS_more : ∀ (k l : Nat) (a b : Int64), b.toInt.natAbs < k → k ≤ l → gcdS k a b = gcdS l a b
  | 0, _, _, _, h, _ => absurd h (Nat.not_lt_zero _)
  | k + 1, l, a, b, h, hl => by
    obtain ⟨m, rfl⟩ : ∃ m, l = m + 1 := ⟨l - 1, by omega⟩
    rw [gcdS, gcdS]
    by_cases c : b = 0
    · rw [if_pos c, if_pos c]
    · rw [if_neg c, if_neg c]
      have := rem_lt a c
      exact gcdS_more k m _ _ (by omega) (by omega)
theorem gcdW_0 (a : Int64) : gcdW a 0 = a := by
  rw [gcdW, gcdS, if_pos rfl]
theorem gcdW_s {a b : Int64} (h : ¬ b = 0) : gcdW a b = gcdW b (a - a / b * b) := by
  rw [gcdW, gcdS, if_neg h, gcdW]
  have := rem_lt a h
  exact (gcdS_more _ _ _ _ (Nat.lt_succ_self _) (by omega)).symm
def ptW (u w : Int64) (f : Int32) : Int64 := (if f = 0 then w else u) / gcdW (absL u) (absL w)
