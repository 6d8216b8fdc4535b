/-! how great a determinant can be -/
def sumN : Nat → (Nat → Nat) → Nat
  | 0, _ => 0
  | n + 1, f => sumN n f + f n
def prN : Nat → (Nat → Nat) → Nat
  | 0, _ => 1
  | n + 1, f => prN n f * f n
theorem sumN_congr {f g : Nat → Nat} : ∀ n, (∀ i, i < n → f i = g i) → sumN n f = sumN n g
  | 0, _ => rfl
  | n + 1, h => by rw [sumN, sumN, sumN_congr n (fun i hi => h i (by omega)), h n (by omega)]
theorem sumN_le {f g : Nat → Nat} : ∀ n, (∀ i, i < n → f i ≤ g i) → sumN n f ≤ sumN n g
  | 0, _ => Nat.le_refl _
  | n + 1, h => by
    have := sumN_le n (fun i hi => h i (by omega))
    have := h n (by omega)
    rw [sumN, sumN]; omega
theorem sumN_mul (f : Nat → Nat) (k : Nat) : ∀ n, sumN n (fun i => f i * k) = sumN n f * k
  | 0 => (Nat.zero_mul k).symm
  | n + 1 => by rw [sumN, sumN, sumN_mul f k n, Nat.add_mul]
theorem sumN_skp (g : Nat → Nat) : ∀ (m i : Nat), i ≤ m → sumN m (skp g i) + g i = sumN (m + 1) g
  | 0, i, h => by
    have : i = 0 := by omega
    subst this; rfl
  | m + 1, i, h => by
    by_cases e : i = m + 1
    · subst e
      show _ = sumN (m + 1) g + g (m + 1)
      have e2 : sumN (m + 1) (skp g (m + 1)) = sumN (m + 1) g := sumN_congr (m + 1) (fun j hj => if_pos hj)
      rw [e2]
    · have ih := sumN_skp g m i (by omega)
      have e1 : skp g i m = g (m + 1) := if_neg (by omega)
      show sumN m (skp g i) + skp g i m + g i = sumN (m + 1) g + g (m + 1)
      rw [e1]
      omega
theorem abs_sum (f : Nat → Int) : ∀ n, (sumI n f).natAbs ≤ sumN n (fun i => (f i).natAbs)
  | 0 => Nat.le_refl _
  | n + 1 => by
    have := abs_sum f n
    have := Int.natAbs_add_le (sumI n f) (f n)
    rw [sumI, sumN]; omega
theorem sg_abs (k : Nat) : (sg k).natAbs = 1 := by
  unfold sg
  split <;> rfl
theorem DD_bd : ∀ (m : Nat) (v : Nat → Nat → Int) (B : Nat → Nat), (∀ r, r < m → sumN m (fun j => (v j r).natAbs) ≤ B r) → (DD m v).natAbs ≤ prN m B
  | 0, _, _, _ => Nat.le_refl _
  | m + 1, v, B, h => by
    have h1 := abs_sum (fun i => sg (m - i) * v i m * DD m (skp v i)) (m + 1)
    have h2 : sumN (m + 1) (fun i => (sg (m - i) * v i m * DD m (skp v i)).natAbs) ≤ sumN (m + 1) (fun i => (v i m).natAbs * prN m B) := sumN_le _ (fun i hi => by
      rw [Int.natAbs_mul, Int.natAbs_mul, sg_abs, Nat.one_mul]
      refine Nat.mul_le_mul_left _ (DD_bd m (skp v i) B (fun r hr => ?_))
      have e := sumN_skp (fun j => (v j r).natAbs) m i (by omega)
      have e2 : sumN m (fun j => (skp v i j r).natAbs) = sumN m (skp (fun j => (v j r).natAbs) i) := sumN_congr m (fun j _ => by
        simp only [skp]
        split <;> rfl)
      have := h r (by omega)
      omega)
    rw [sumN_mul] at h2
    have h3 := Nat.mul_le_mul_right (prN m B) (h m (Nat.lt_succ_self _))
    rw [DD, prN, Nat.mul_comm (prN m B)]
    omega
