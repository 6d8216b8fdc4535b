/-! determinants are linear in each column; two equal columns -/
def upc (v : Nat → Nat → Int) (j : Nat) (x : Nat → Int) : Nat → Nat → Int := fun i => if i = j then x else v i
theorem sumI_lin {f g h : Nat → Int} {a b : Int} : ∀ n, (∀ i, i < n → f i = a * g i + b * h i) → sumI n f = a * sumI n g + b * sumI n h
  | 0, _ => by show (0 : Int) = a * 0 + b * 0; rw [Int.mul_zero, Int.mul_zero]; rfl
  | n + 1, q => by
    rw [sumI, sumI, sumI, sumI_lin n (fun i hi => q i (by omega)), q n (by omega)]
    grind
theorem skp_upj (v : Nat → Nat → Int) (j : Nat) (x : Nat → Int) : skp (upc v j x) j = skp v j := by
  funext i
  simp only [skp, upc]
  (repeat' split) <;> first | rfl | (exfalso; omega)
theorem skp_upl (v : Nat → Nat → Int) {i j : Nat} (h : i < j) (x : Nat → Int) : skp (upc v j x) i = upc (skp v i) (j - 1) x := by
  funext k
  simp only [skp, upc]
  (repeat' split) <;> first | rfl | (exfalso; omega)
theorem skp_upg (v : Nat → Nat → Int) {i j : Nat} (h : j < i) (x : Nat → Int) : skp (upc v j x) i = upc (skp v i) j x := by
  funext k
  simp only [skp, upc]
  (repeat' split) <;> first | rfl | (exfalso; omega)
theorem DD_lin : ∀ (m : Nat) (v : Nat → Nat → Int) (j : Nat) (x y : Nat → Int) (a b : Int), j < m → DD m (upc v j (fun r => a * x r + b * y r)) = a * DD m (upc v j x) + b * DD m (upc v j y)
  | 0, _, _, _, _, _, _, h => absurd h (Nat.not_lt_zero _)
  | m + 1, v, j, x, y, a, b, hj => by
    rw [DD, DD, DD]
    refine sumI_lin _ (fun i hi => ?_)
    rcases Nat.lt_trichotomy i j with h | h | h
    · have e : ∀ z : Nat → Int, upc v j z i = v i := fun z => if_neg (by omega)
      rw [e, e, e, skp_upl v h, skp_upl v h, skp_upl v h, DD_lin m _ _ _ _ _ _ (by omega)]
      grind
    · subst h
      have e : ∀ z : Nat → Int, upc v i z i = z := fun z => if_pos rfl
      rw [e, e, e, skp_upj, skp_upj, skp_upj]
      grind
    · have e : ∀ z : Nat → Int, upc v j z i = v i := fun z => if_neg (by omega)
      rw [e, e, e, skp_upg v h, skp_upg v h, skp_upg v h, DD_lin m _ _ _ _ _ _ (by omega)]
      grind
/-- two equal columns -/
theorem DD_eq0 (m : Nat) : ∀ (d : Nat) (v : Nat → Nat → Int) (i : Nat), i + d + 1 < m → v i = v (i + d + 1) → DD m v = 0
  | 0, v, i, h, e => by
    have h1 := DD_swp m v i h
    have h2 : swp v i = v := by
      funext k
      simp only [swp]
      (repeat' split) <;> first | rfl | (subst_vars; first | exact e | exact e.symm)
    rw [h2] at h1
    omega
  | d + 1, v, i, h, e => by
    have h1 := DD_swp m v (i + d + 1) (by omega)
    have h2 := DD_eq0 m d (swp v (i + d + 1)) i (by omega) (by
      simp only [swp]
      rw [if_neg (by omega), if_neg (by omega)]
      first | exact e | (rw [if_pos rfl]; exact e) | (simp only [if_true]; exact e))
    rw [h2] at h1
    omega
