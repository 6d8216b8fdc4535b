/-! the last row is cleared by the last column -/
def elW (v : Nat → Nat → Int) (m : Nat) : Nat → Nat → Int := fun j r => v m m * v j r + -(v j m) * v m r
def elS (v : Nat → Nat → Int) (m k : Nat) : Nat → Nat → Int := fun j => if j < k then elW v m j else v j
theorem el_s (v : Nat → Nat → Int) {m k : Nat} (h : k < m) : DD (m + 1) (elS v m (k + 1)) = v m m * DD (m + 1) (elS v m k) := by
  have e1 : elS v m (k + 1) = upc (elS v m k) k (fun r => v m m * v k r + -(v k m) * v m r) := by
    funext j
    simp only [elS, upc]
    (repeat' split) <;> first | rfl | (exfalso; omega) | (subst_vars; rfl)
  have e2 : upc (elS v m k) k (v k) = elS v m k := by
    funext j
    simp only [elS, upc]
    (repeat' split) <;> first | rfl | (exfalso; omega) | (subst_vars; rfl)
  have e3 : DD (m + 1) (upc (elS v m k) k (v m)) = 0 := by
    refine DD_eq0 (m + 1) (m - k - 1) _ k (by omega) ?_
    rw [show k + (m - k - 1) + 1 = m by omega]
    have a : upc (elS v m k) k (v m) k = v m := if_pos rfl
    have b : upc (elS v m k) k (v m) m = elS v m k m := if_neg (by omega)
    have d : elS v m k m = v m := if_neg (by omega)
    rw [a, b, d]
  rw [e1, DD_lin (m + 1) _ _ _ _ _ _ (by omega), e2, e3, Int.mul_zero, Int.add_zero]
theorem el_k (v : Nat → Nat → Int) (m : Nat) : ∀ k, k ≤ m → DD (m + 1) (elS v m k) = v m m ^ k * DD (m + 1) v
  | 0, _ => by
    have e : elS v m 0 = v := by
      funext j
      exact if_neg (Nat.not_lt_zero _)
    rw [e, Int.pow_zero, Int.one_mul]
  | k + 1, h => by
    rw [el_s v (by omega), el_k v m k (by omega), Int.pow_succ]
    grind
theorem sumI_0 {f : Nat → Int} : ∀ n, (∀ i, i < n → f i = 0) → sumI n f = 0
  | 0, _ => rfl
  | n + 1, h => by rw [sumI, sumI_0 n (fun i hi => h i (by omega)), h n (by omega)]; rfl
theorem DD_elim (v : Nat → Nat → Int) (m : Nat) : v m m ^ m * DD (m + 1) v = v m m * DD m (elW v m) := by
  rw [← el_k v m m (Nat.le_refl _), DD, sumI]
  have e0 : elS v m m m = v m := if_neg (Nat.lt_irrefl _)
  rw [sumI_0 m (fun i hi => by
    have e : elS v m m i = elW v m i := if_pos hi
    show sg (m - i) * elS v m m i m * _ = 0
    rw [e]
    show sg (m - i) * (v m m * v i m + -(v i m) * v m m) * _ = 0
    rw [show v m m * v i m + -(v i m) * v m m = 0 by grind, Int.mul_zero, Int.zero_mul]), e0, Int.zero_add, Nat.sub_self]
  have e1 : DD m (skp (elS v m m) m) = DD m (elW v m) := DD_congr m _ _ (fun j hj r hr => by
    simp only [skp, elS]
    rw [if_pos hj, if_pos hj])
  rw [e1, show sg 0 = 1 from rfl, Int.one_mul]
