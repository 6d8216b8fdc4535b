/-! Cramer: what the minors say of the rows -/
theorem DD_zrow : ∀ (m : Nat) (v : Nat → Nat → Int) (p : Nat), p < m → (∀ j, j < m → v j p = 0) → DD m v = 0
  | 0, _, _, h, _ => absurd h (Nat.not_lt_zero _)
  | m + 1, v, p, h, e => by
    rw [DD]
    refine sumI_0 _ (fun i hi => ?_)
    by_cases c : p = m
    · subst c; rw [e i hi, Int.mul_zero, Int.zero_mul]
    · rw [DD_zrow m (skp v i) p (by omega) (fun j hj => by
        unfold skp
        split
        · exact e j (by omega)
        · exact e (j + 1) (by omega)), Int.mul_zero]
theorem pow_ne0 {a : Int} (h : ¬ a = 0) : ∀ n : Nat, ¬ a ^ n = 0
  | 0 => by rw [Int.pow_zero]; decide
  | n + 1 => by
    rw [Int.pow_succ]
    intro e
    rcases Int.mul_eq_zero.mp e with g | g
    · exact pow_ne0 h n g
    · exact h g
theorem DD_row0 (m : Nat) (v : Nat → Nat → Int) {p : Nat} (hp : p < m) (hm : ¬ v m m = 0) (e : ∀ j, j ≤ m → v j p = v j m) : DD (m + 1) v = 0 := by
  have h := DD_elim v m
  rw [DD_zrow m (elW v m) p hp (fun j hj => by
    show v m m * v j p + -(v j m) * v m p = 0
    rw [e j (by omega), e m (Nat.le_refl _)]
    grind), Int.mul_zero] at h
  rcases Int.mul_eq_zero.mp h with g | g
  · exact absurd g (pow_ne0 hm m)
  · exact g
/-- two equal rows, the last one of them -/
theorem DD_rows (m : Nat) (v : Nat → Nat → Int) {p : Nat} (hp : p < m) (e : ∀ j, j ≤ m → v j p = v j m) : DD (m + 1) v = 0 := by
  by_cases h0 : v m m = 0
  · by_cases hj : ∃ j, j < m ∧ ¬ v j m = 0
    · obtain ⟨j, hj, hn⟩ := hj
      have h1 := DD_lin (m + 1) v m (v m) (v j) 1 1 (Nat.lt_succ_self m)
      have h2 : upc v m (v m) = v := by
        funext i
        by_cases c : i = m
        · subst c; exact if_pos rfl
        · exact if_neg c
      have h3 : DD (m + 1) (upc v m (v j)) = 0 := DD_eq0 (m + 1) (m - j - 1) _ j (by omega) (by
        rw [show j + (m - j - 1) + 1 = m by omega]
        have a : upc v m (v j) j = v j := if_neg (by omega)
        have b : upc v m (v j) m = v j := if_pos rfl
        rw [a, b])
      have h4 := DD_row0 m (upc v m (fun r => 1 * v m r + 1 * v j r)) hp (by
        have a : upc v m (fun r => 1 * v m r + 1 * v j r) m = fun r => 1 * v m r + 1 * v j r := if_pos rfl
        rw [a]
        show ¬ 1 * v m m + 1 * v j m = 0
        omega) (fun i hi => by
          unfold upc
          split
          · show 1 * v m p + 1 * v j p = 1 * v m m + 1 * v j m
            rw [e m (Nat.le_refl _), e j (by omega)]
          · exact e i hi)
      rw [h4, h2, h3] at h1
      omega
    · rw [DD]
      exact sumI_0 _ (fun i hi => by
        have q : v i m = 0 := by
          by_cases c : i = m
          · subst c; exact h0
          · exact Classical.byContradiction (fun g => hj ⟨i, by omega, g⟩)
        rw [q, Int.mul_zero, Int.zero_mul])
  · exact DD_row0 m v hp h0 e
/-- the numerator at the place k -/
def cmX (M : Nat → Nat → Int) (B : Nat → Int) (n k : Nat) : Int := DD n (fun c r => if c = k then B r else M r c)
def cmV (M : Nat → Nat → Int) (B : Nat → Int) (n r : Nat) : Nat → Nat → Int := fun j i => if j < n then (if i < n then M i j else M r j) else (if i < n then B i else B r)
theorem cramer (M : Nat → Nat → Int) (B : Nat → Int) {n r : Nat} (hr : r < n) : sumI n (fun c => M r c * cmX M B n c) = B r * DD n (fun c r => M r c) := by
  have h := DD_rows n (cmV M B n r) hr (fun j _ => by
    unfold cmV
    rw [if_pos hr, if_pos hr, if_neg (Nat.lt_irrefl n), if_neg (Nat.lt_irrefl n)])
  rw [DD, sumI] at h
  have e1 : sumI n (fun i => sg (n - i) * cmV M B n r i n * DD n (skp (cmV M B n r) i)) = -sumI n (fun c => M r c * cmX M B n c) := sumI_neg n (fun i hi => by
    have a : cmV M B n r i n = M r i := by
      unfold cmV
      rw [if_pos hi, if_neg (Nat.lt_irrefl n)]
    have b : DD n (fun j => if j = i then cmV M B n r n else cmV M B n r j) = cmX M B n i := DD_congr n _ _ (fun j hj q hq => by
      by_cases c : j = i
      · rw [if_pos c, if_pos c]
        unfold cmV
        rw [if_neg (Nat.lt_irrefl n), if_pos hq]
      · rw [if_neg c, if_neg c]
        unfold cmV
        rw [if_pos hj, if_pos hq])
    have d := sg_sq (n - 1 - i)
    rw [DD_cr _ hi, a, b, show n - i = (n - 1 - i) + 1 by omega, sg_s]
    generalize sg (n - 1 - i) = s at d ⊢
    grind)
  have e2 : cmV M B n r n n = B r := by
    unfold cmV
    rw [if_neg (Nat.lt_irrefl n), if_neg (Nat.lt_irrefl n)]
  have e3 : DD n (skp (cmV M B n r) n) = DD n (fun c r => M r c) := DD_congr n _ _ (fun j hj q hq => by
    unfold skp
    rw [if_pos hj]
    unfold cmV
    rw [if_pos hj, if_pos hq])
  rw [e1, e2, e3, Nat.sub_self, show sg 0 = 1 from rfl, Int.one_mul] at h
  omega
