theorem wR_ad2 {y : Nat → ClassId} {ad ad' : xL → Nat} {th : Int32} {z : xC} {qp : Nat → Int32} {qm qr qi qn : Nat → Int64} {qf : Nat → Int32} {qu : Int32} {qd : Int64} (h : ∀ k : xL, k.1 < 40 → ad' k = ad k) : wR y ad' th z qp qm qr qi qn qf qu qd = wR y ad th z qp qm qr qi qn qf qu qd := by
  have e : ∀ j, j < 40 → ad' (j, 0) = ad (j, 0) := fun j hj => h (j, 0) hj
  funext k i
  by_cases hk : k = 0
  · subst hk
    cases i with
    | zero =>
      unfold wR
      rw [e 21 (by decide), e 22 (by decide), e 23 (by decide), e 24 (by decide), e 25 (by decide), e 26 (by decide), e 27 (by decide), e 28 (by decide), e 29 (by decide), e 30 (by decide), e 31 (by decide), e 32 (by decide), e 33 (by decide), e 34 (by decide), e 35 (by decide)]
    | succ i => rfl
  · unfold wR
    split <;> first | rfl | exact absurd rfl hk
