/-! a grounded matrix has a determinant greater than 0 -/
def gdD (m : Nat) (v : Nat → Nat → Int) (ρ : Nat → Nat) : Prop := ∀ i, i < m → (∀ j, j < m → j ≠ i → v j i ≤ 0) ∧ 0 ≤ sumI m (fun j => v j i) ∧ (0 < sumI m (fun j => v j i) ∨ ∃ j, j < m ∧ j ≠ i ∧ v j i < 0 ∧ ρ j < ρ i)
theorem sumI_le0 {f : Nat → Int} : ∀ n, (∀ i, i < n → f i ≤ 0) → sumI n f ≤ 0 ∧ ∀ j, j < n → f j < 0 → sumI n f < 0
  | 0, _ => ⟨Int.le_refl _, fun j h => absurd h (Nat.not_lt_zero _)⟩
  | n + 1, h => by
    obtain ⟨h1, h2⟩ := sumI_le0 n (fun i hi => h i (by omega))
    have h3 := h n (by omega)
    rw [sumI]
    refine ⟨by omega, fun j hj hlt => ?_⟩
    by_cases e : j = n
    · subst e; omega
    · have := h2 j (by omega) hlt; omega
theorem mul_np {a b : Int} (ha : 0 ≤ a) (hb : b ≤ 0) : a * b ≤ 0 := Int.mul_nonpos_of_nonneg_of_nonpos ha hb
theorem mul_nn {a b : Int} (ha : a ≤ 0) (hb : b ≤ 0) : 0 ≤ a * b := Int.mul_nonneg_of_nonpos_of_nonpos ha hb
theorem DD_pos : ∀ (m : Nat) (v : Nat → Nat → Int) (ρ : Nat → Nat), gdD m v ρ → 0 < DD m v
  | 0, _, _, _ => by show (0 : Int) < 1; decide
  | m + 1, v, ρ, h => by
    obtain ⟨m1, m2, m3⟩ := h m (Nat.lt_succ_self _)
    rw [sumI] at m2 m3
    obtain ⟨l1, l2⟩ := sumI_le0 m (f := fun j => v j m) (fun j hj => m1 j (by omega) (by omega))
    have hp : 0 < v m m := by
      rcases m3 with g | ⟨j, hj, hn, hlt, _⟩
      · omega
      · have := l2 j (by omega) hlt; omega
    have hw : gdD m (elW v m) ρ := by
      intro i hi
      obtain ⟨i1, i2, i3⟩ := h i (by omega)
      have hmi : v m i ≤ 0 := i1 m (by omega) (by omega)
      have hs : sumI m (fun j => elW v m j i) = v m m * sumI (m + 1) (fun j => v j i) + -(v m i) * (sumI m (fun j => v j m) + v m m) := by
        have e := sumI_lin (f := fun j => elW v m j i) (g := fun j => v j i) (h := fun j => v j m) (a := v m m) (b := -(v m i)) m (fun j _ => by
          show v m m * v j i + -(v j m) * v m i = v m m * v j i + -(v m i) * v j m
          grind)
        rw [e, sumI]
        grind
      have q1 : 0 ≤ v m m * sumI (m + 1) (fun j => v j i) := Int.mul_nonneg (by omega) i2
      have q2 : 0 ≤ -(v m i) * (sumI m (fun j => v j m) + v m m) := Int.mul_nonneg (by omega) m2
      refine ⟨fun j hj hne => ?_, by rw [hs]; omega, ?_⟩
      · show v m m * v j i + -(v j m) * v m i ≤ 0
        have a := mul_np (Int.le_of_lt hp) (i1 j (by omega) hne)
        have b := mul_nn (m1 j (by omega) (by omega)) hmi
        rw [Int.neg_mul]
        omega
      · rcases i3 with g | ⟨j, hj, hne, hlt, hr⟩
        · have := Int.mul_pos hp g
          exact Or.inl (by rw [hs]; omega)
        · by_cases e : j = m
          · subst e
            rcases m3 with g | ⟨k, hk, hkn, hkl, hkr⟩
            · have := Int.mul_pos (show 0 < -(v j i) by omega) g
              exact Or.inl (by rw [hs]; omega)
            · have hki : k ≠ i := fun e => by rw [e] at hkr; omega
              refine Or.inr ⟨k, by omega, hki, ?_, by omega⟩
              show v j j * v k i + -(v k j) * v j i < 0
              have a := mul_np (Int.le_of_lt hp) (i1 k (by omega) hki)
              have b := Int.mul_pos (show 0 < -(v k j) by omega) (show 0 < -(v j i) by omega)
              rw [Int.neg_mul_neg] at b
              rw [Int.neg_mul]
              omega
          · refine Or.inr ⟨j, by omega, hne, ?_, hr⟩
            show v m m * v j i + -(v j m) * v m i < 0
            have a := Int.mul_pos hp (show 0 < -(v j i) by omega)
            rw [Int.mul_neg] at a
            have b := mul_nn (m1 j (by omega) (by omega)) hmi
            rw [Int.neg_mul]
            omega
    have ih := DD_pos m (elW v m) ρ hw
    have he := DD_elim v m
    have hr := Int.mul_pos hp ih
    rw [← he] at hr
    apply Classical.byContradiction
    intro hn
    have := mul_np (Int.le_of_lt (Int.pow_pos hp : 0 < v m m ^ m)) (show DD (m + 1) v ≤ 0 by omega)
    omega
