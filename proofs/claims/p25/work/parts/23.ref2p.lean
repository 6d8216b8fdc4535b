/-! the reference's least toggle, its divisor: against the bench's -/
def fmI (z : xC) (t : Int32) (i : Nat) (f : Int32) : Nat → Int32
  | 0 => f
  | k + 1 => if t < tT z (6 * i + k) ∧ (fmI z t i f k = -1 ∨ tT z (6 * i + k) < fmI z t i f k) then tT z (6 * i + k) else fmI z t i f k
def fmS (z : xC) (t : Int32) : Nat → Int32
  | 0 => -1
  | i + 1 => fmI z t i (fmS z t i) (cT z i)
theorem fmI_0 {z : xC} {t : Int32} {i k : Nat} {f : Int32} (h : ¬ t < tT z (6 * i + k)) : fmI z t i f (k + 1) = fmI z t i f k := by rw [fmI, if_neg (fun g => h g.1)]
theorem fmI_1 {z : xC} {t : Int32} {i k : Nat} {f : Int32} (h : t < tT z (6 * i + k)) (h2 : fmI z t i f k = -1 ∨ tT z (6 * i + k) < fmI z t i f k) : fmI z t i f (k + 1) = tT z (6 * i + k) := by rw [fmI, if_pos ⟨h, h2⟩]
theorem fmI_2 {z : xC} {t : Int32} {i k : Nat} {f : Int32} (h : t < tT z (6 * i + k)) (h2 : ¬ (fmI z t i f k = -1 ∨ tT z (6 * i + k) < fmI z t i f k)) : fmI z t i f (k + 1) = fmI z t i f k := by rw [fmI, if_neg (fun g => h2 g.2)]
/-- Euclid to its end -/
def gcdW (a b : Int64) : Int64 := gcdS (b.toInt.natAbs + 1) a b
theorem rem_lt (u : Int64) {w : Int64} (h : ¬ w = 0) : (u - u / w * w).toInt.natAbs < w.toInt.natAbs := by
  have e : (u - u / w * w).toInt = u.toInt.tmod w.toInt := by
    rw [Int64.toInt_sub, Int64.toInt_mul, Int64.toInt_div, Int.bmod_mul_bmod, Int.sub_bmod_bmod]
    have e1 : u.toInt - u.toInt.tdiv w.toInt * w.toInt = u.toInt.tmod w.toInt := by
      have := Int.tmod_add_mul_tdiv u.toInt w.toInt
      rw [Int.mul_comm] at this
      omega
    rw [e1, ← Int64.toInt_mod, Int64.toInt_bmod]
  rw [e]
  have hw : w.toInt ≠ 0 := fun q => h (Int64.toInt_inj.mp (by rw [q]; rfl))
  have h1 : (u.toInt.tmod w.toInt).natAbs = u.toInt.natAbs % w.toInt.natAbs := Int.natAbs_tmod _ _
  rw [h1]
  exact Nat.mod_lt _ (Int.natAbs_pos.mpr hw)
theorem gcdS_more : ∀ (k l : Nat) (a b : Int64), b.toInt.natAbs < k → k ≤ l → gcdS k a b = gcdS l a b
  | 0, _, _, _, h, _ => absurd h (Nat.not_lt_zero _)
  | k + 1, l, a, b, h, hl => by
    obtain ⟨m, rfl⟩ : ∃ m, l = m + 1 := ⟨l - 1, by omega⟩
    rw [gcdS, gcdS]
    by_cases c : b = 0
    · rw [if_pos c, if_pos c]
    · rw [if_neg c, if_neg c]
      have := rem_lt a c
      exact gcdS_more k m _ _ (by omega) (by omega)
theorem gcdW_0 (a : Int64) : gcdW a 0 = a := by
  rw [gcdW, gcdS, if_pos rfl]
theorem gcdW_s {a b : Int64} (h : ¬ b = 0) : gcdW a b = gcdW b (a - a / b * b) := by
  rw [gcdW, gcdS, if_neg h, gcdW]
  have := rem_lt a h
  exact (gcdS_more _ _ _ _ (Nat.lt_succ_self _) (by omega)).symm
def ptW (u w : Int64) (f : Int32) : Int64 := (if f = 0 then w else u) / gcdW (absL u) (absL w)
/-- the least of two, -1 meaning none -/
def cmb (f x : Int32) : Int32 := if x < 0 then f else if f < 0 then x else if f ≤ x then f else x
theorem cmb_x {f x : Int32} (h : ¬ x < 0) (hf : f = -1 ∨ 0 ≤ f) : (if f = -1 ∨ x < f then x else f) = cmb f x := by
  rw [cmb, if_neg h]
  rcases hf with q | q
  · rw [q, if_pos (Or.inl rfl), if_pos (by decide)]
  · have h0 : ¬ f < 0 := Int32.not_lt.mpr q
    have h1 : ¬ f = -1 := fun e => h0 (by rw [e]; decide)
    rw [if_neg h0]
    by_cases c : f ≤ x
    · rw [if_pos c, if_neg (fun g => by rcases g with g | g; exact h1 g; exact Int32.not_lt.mpr c g)]
    · rw [if_neg c, if_pos (Or.inr (Int32.not_le.mp c))]
theorem cmb_ok {f x : Int32} (hf : f = -1 ∨ 0 ≤ f) : cmb f x = -1 ∨ 0 ≤ cmb f x := by
  rw [cmb]
  split
  · exact hf
  · rename_i h
    split
    · exact Or.inr (Int32.not_lt.mp h)
    · split
      · exact hf
      · exact Or.inr (Int32.not_lt.mp h)
theorem cmb_lt {f x y : Int32} (h : ¬ x < 0) (hxy : x < y) (hf : f = -1 ∨ 0 ≤ f) : ¬ (cmb f x = -1 ∨ y < cmb f x) := by
  have hx := Int32.not_lt.mp h
  have hy := Int32.lt_iff_toInt_lt.mp hxy
  have hx0 := Int32.le_iff_toInt_le.mp hx
  have key : 0 ≤ cmb f x ∧ cmb f x ≤ x := by
    rw [cmb, if_neg h]
    rcases hf with q | q
    · rw [q, if_pos (by decide)]
      exact ⟨hx, Int32.le_refl _⟩
    · rw [if_neg (Int32.not_lt.mpr q)]
      split
      · rename_i c; exact ⟨q, c⟩
      · exact ⟨hx, Int32.le_refl _⟩
  intro g
  rcases g with g | g
  · have := key.1
    rw [g] at this
    exact absurd this (by decide)
  · have a := Int32.le_iff_toInt_le.mp key.2
    have b := Int32.lt_iff_toInt_lt.mp g
    omega
theorem t1_le {t : Nat} (ht : t ≤ 999) {x : Int32} : nI t + nI 1 ≤ x ↔ nI t < x := by
  rw [nI_add, Int32.le_iff_toInt_le, Int32.lt_iff_toInt_lt, nI_toInt (by omega), nI_toInt (by omega)]
  omega
theorem fmI_tb {z : xC} {t i : Nat} (ht : t ≤ 999) (hi : tmOk z i) {f : Int32} (hf : f = -1 ∨ 0 ≤ f) : ∀ k, k ≤ cT z i →
    (tb z i (nI t + nI 1) k < k → nI t < tT z (6 * i + tb z i (nI t + nI 1) k)) ∧
    fmI z (nI t) i f k = if tb z i (nI t + nI 1) k = k then f else cmb f (tT z (6 * i + tb z i (nI t + nI 1) k))
  | 0, _ => ⟨fun h => absurd h (Nat.not_lt_zero _), rfl⟩
  | k + 1, hk => by
    obtain ⟨h1, h2⟩ := fmI_tb ht hi hf k (by omega)
    have hle := tb_le z i (nI t + nI 1) k
    have hp : ∀ j, j < cT z i → ¬ tT z (6 * i + j) < 0 := fun j hj h => by
      have a := Int32.le_iff_toInt_le.mp (hi.1 j hj).1
      have b := Int32.lt_iff_toInt_lt.mp h
      have : (nI 1).toInt = 1 := by decide
      have : (0 : Int32).toInt = 0 := by decide
      omega
    by_cases c : nI t < tT z (6 * i + k)
    · have e : tb z i (nI t + nI 1) (k + 1) = tb z i (nI t + nI 1) k := tb_s0 ((t1_le ht).mpr c)
      rw [e]
      by_cases q : tb z i (nI t + nI 1) k = k
      · refine ⟨fun _ => by rw [q]; exact c, ?_⟩
        rw [if_neg (by omega), q]
        rw [if_pos q] at h2
        rw [← cmb_x (hp k (by omega)) hf, fmI, h2]
        by_cases w : f = -1 ∨ tT z (6 * i + k) < f
        · rw [if_pos ⟨c, w⟩, if_pos w]
        · rw [if_neg (fun g => w g.2), if_neg w]
      · have lt : tb z i (nI t + nI 1) k < k := by omega
        refine ⟨fun _ => h1 lt, ?_⟩
        rw [if_neg q] at h2
        rw [if_neg (by omega)]
        rw [fmI_2 c (by rw [h2]; exact cmb_lt (hp _ (by omega)) (hi.2 _ _ lt (by omega)) hf), h2]
    · have q : tb z i (nI t + nI 1) k = k := by
        apply Classical.byContradiction
        intro q
        have lt : tb z i (nI t + nI 1) k < k := by omega
        exact c (Int32.lt_trans (h1 lt) (hi.2 _ _ lt (by omega)))
      have e : tb z i (nI t + nI 1) (k + 1) = k + 1 := by rw [tb_s1 (fun g => c ((t1_le ht).mp g)), q]
      rw [e]
      refine ⟨fun h => absurd h (Nat.lt_irrefl _), ?_⟩
      rw [if_pos rfl, fmI_0 c, h2, if_pos q]
theorem fm_ft {z : xC} (hw : wf z) {t : Nat} (ht : t ≤ 999) : ∀ i, i ≤ nE z → fmS z (nI t) i = ftS z (nI t) i ∧ (fmS z (nI t) i = -1 ∨ 0 ≤ fmS z (nI t) i)
  | 0, _ => ⟨rfl, Or.inl rfl⟩
  | i + 1, h => by
    obtain ⟨h1, h2⟩ := fm_ft hw ht i (by omega)
    have hi := hw.el (i := i) (by omega)
    have ho : tmOk z i := hi.2.2.2.2.2.2.1
    obtain ⟨h3, h4⟩ := fmI_tb ht ho h2 (cT z i) (Nat.le_refl _)
    have e : fmS z (nI t) (i + 1) = cmb (fmS z (nI t) i) (tgb z i (nI t)) := by
      rw [fmS, h4]
      have hle := tb_le z i (nI t + nI 1) (cT z i)
      have hT := hw.t (i := i) (by omega)
      have h6 := hw.t6 (i := i) (by omega)
      by_cases q : tb z i (nI t + nI 1) (cT z i) = cT z i
      · rw [if_pos q, tgb, q, tgt, if_neg (nI_pos (by omega)), hT, if_pos (Int32.le_refl _), cmb, if_pos (by decide)]
      · rw [if_neg q, tgb, tgt, if_neg (nI_pos (by omega)), hT, if_neg (nI_ge (by omega) (by omega)), nI_clamp (by omega)]
    refine ⟨?_, by rw [e]; exact cmb_ok h2⟩
    rw [e, h1]
    rfl
