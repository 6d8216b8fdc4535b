/-! determinants: neighbours change the sign, columns are linear -/
def swp {α : Type} (v : Nat → α) (p : Nat) : Nat → α := fun j => if j = p then v (p + 1) else if j = p + 1 then v p else v j
theorem sg_s (k : Nat) : sg (k + 1) = -sg k := by
  unfold sg
  by_cases h : k % 2 = 0
  · rw [if_pos h, if_neg (by omega)]
  · rw [if_neg h, if_pos (by omega)]; rfl
theorem sg_sq (k : Nat) : sg k * sg k = 1 := by
  unfold sg
  split <;> rfl
theorem sumI_neg {f g : Nat → Int} : ∀ n, (∀ i, i < n → f i = -g i) → sumI n f = -sumI n g
  | 0, _ => rfl
  | n + 1, h => by rw [sumI, sumI, sumI_neg n (fun i hi => h i (by omega)), h n (by omega)]; omega
theorem sumI_sw {f g : Nat → Int} {p : Nat} (h : ∀ i, i ≠ p → i ≠ p + 1 → f i = -g i) (h1 : f p = -g (p + 1)) (h2 : f (p + 1) = -g p) : ∀ k, sumI (p + 2 + k) f = -sumI (p + 2 + k) g
  | 0 => by
    show sumI p f + f p + f (p + 1) = -(sumI p g + g p + g (p + 1))
    rw [sumI_neg p (fun i hi => h i (by omega) (by omega)), h1, h2]
    omega
  | k + 1 => by
    show sumI (p + 2 + k) f + f (p + 2 + k) = -(sumI (p + 2 + k) g + g (p + 2 + k))
    rw [sumI_sw h h1 h2 k, h _ (by omega) (by omega)]
    omega
theorem DD_swp : ∀ (m : Nat) (v : Nat → Nat → Int) (p : Nat), p + 1 < m → DD m (swp v p) = -DD m v
  | 0, _, _, h => absurd h (Nat.not_lt_zero _)
  | m + 1, v, p, h => by
    rw [DD, DD]
    have hb := sumI_sw (p := p) (f := fun i => sg (m - i) * swp v p i m * DD m (skp (swp v p) i)) (g := fun i => if i ≤ m then sg (m - i) * v i m * DD m (skp v i) else -(sg (m - i) * swp v p i m * DD m (skp (swp v p) i))) ?_ ?_ ?_ (m + 1 - (p + 2))
    · rw [show p + 2 + (m + 1 - (p + 2)) = m + 1 by omega] at hb
      rw [hb]
      congr 1
      exact sumI_congr _ (fun i hi => if_pos (by omega))
    · intro i h1 h2
      show _ = -(if i ≤ m then _ else _)
      by_cases hi : i ≤ m
      · rw [if_pos hi]
        have e1 : swp v p i = v i := by unfold swp; rw [if_neg h1, if_neg h2]
        have e2 : DD m (skp (swp v p) i) = -DD m (skp v i) := by
          rcases Nat.lt_or_ge i p with q | q
          · rw [← DD_swp m (skp v i) (p - 1) (by omega)]
            refine congrArg _ (funext fun j => ?_)
            simp only [skp, swp]
            (repeat' split) <;> first | rfl | (exfalso; omega) | exact congrArg v (by omega)
          · rw [← DD_swp m (skp v i) p (by omega)]
            refine congrArg _ (funext fun j => ?_)
            simp only [skp, swp]
            (repeat' split) <;> first | rfl | (exfalso; omega) | exact congrArg v (by omega)
        rw [e1, e2, Int.mul_neg]
      · rw [if_neg hi, Int.neg_neg]
    · show _ = -(if p + 1 ≤ m then _ else _)
      rw [if_pos (by omega)]
      have e1 : swp v p p = v (p + 1) := by unfold swp; rw [if_pos rfl]
      have e2 : skp (swp v p) p = skp v (p + 1) := by
        funext j
        simp only [skp, swp]
        (repeat' split) <;> first | rfl | (exfalso; omega) | exact congrArg v (by omega)
      rw [e1, e2, show m - p = m - (p + 1) + 1 by omega, sg_s, Int.neg_mul, Int.neg_mul]
    · show _ = -(if p ≤ m then _ else _)
      rw [if_pos (by omega)]
      have e1 : swp v p (p + 1) = v p := by unfold swp; rw [if_neg (by omega), if_pos rfl]
      have e2 : skp (swp v p) (p + 1) = skp v p := by
        funext j
        simp only [skp, swp]
        (repeat' split) <;> first | rfl | (exfalso; omega) | exact congrArg v (by omega)
      rw [e1, e2, show m - p = m - (p + 1) + 1 by omega, sg_s, Int.neg_mul, Int.neg_mul, Int.neg_neg]
/-- the last column moves to the place k -/
def mvX (u : Nat → Nat → Int) (n k l : Nat) : Nat → Nat → Int := fun i => if i < k then u i else if i < l then u (i + 1) else if i = l then u n else u i
theorem mv_sw (u : Nat → Nat → Int) {n k l : Nat} (hk : k ≤ l) : mvX u n k (l + 1) = swp (mvX u n k l) l := by
  funext j
  simp only [mvX, swp]
  (repeat' split) <;> first | rfl | (exfalso; omega) | (exfalso; rename_i q; exact q trivial) | exact congrArg u (by omega)
theorem DD_mv (u : Nat → Nat → Int) {n k : Nat} (hk : k < n) : ∀ d, k + d < n → DD n (mvX u n k (k + d)) = sg d * DD n (mvX u n k k)
  | 0, _ => by rw [Nat.add_zero, show sg 0 = 1 from rfl, Int.one_mul]
  | d + 1, h => by
    rw [show k + (d + 1) = (k + d) + 1 by omega, mv_sw u (by omega), DD_swp n _ _ (by omega), DD_mv u hk d (by omega), sg_s, Int.neg_mul]
theorem DD_cr (u : Nat → Nat → Int) {n k : Nat} (hk : k < n) : DD n (skp u k) = sg (n - 1 - k) * DD n (fun i => if i = k then u n else u i) := by
  have h := DD_mv u hk (n - 1 - k) (by omega)
  have e1 : DD n (mvX u n k (k + (n - 1 - k))) = DD n (skp u k) := DD_congr n _ _ (fun j hj r hr => by
    simp only [mvX, skp]
    (repeat' split) <;> first | rfl | (exfalso; omega) | exact congrFun (congrArg u (by omega)) r)
  have e2 : mvX u n k k = fun i => if i = k then u n else u i := by
    funext j
    simp only [mvX]
    (repeat' split) <;> first | rfl | (exfalso; omega)
  rw [← e1, h, e2]
theorem bt_all : ∀ n, n < 8 → pop (2 ^ n - 1) = n ∧ ∀ j, j < n → bt (2 ^ n - 1) j = j := by decide +kernel
theorem bt_cr : ∀ n, n < 8 → ∀ k, k < n → pop (2 ^ (n + 1) - 1 - 2 ^ k) = n ∧ ∀ j, j < n → bt (2 ^ (n + 1) - 1 - 2 ^ k) j = skp (fun i => i) k j := by decide +kernel
theorem dm_full (e : Nat → Nat → Int64) {n : Nat} (hn : n ≤ 7) : dm e n (2 ^ n - 1) = Int64.ofInt (DD n (fun i r => (e r i).toInt)) := by
  obtain ⟨h1, h2⟩ := bt_all n (by omega)
  have hp : 0 < 2 ^ n := Nat.pow_pos (by decide)
  rw [dm_DD e hn (2 ^ n) (2 ^ n - 1) (by omega) (by rw [Nat.pow_succ]; omega), h1]
  exact congrArg _ (DD_congr n _ _ (fun j hj r hr => by show (e r (bt _ j)).toInt = _; rw [h2 j hj]))
/-- the numerator of a sought node: the bench's sign and the reference's column -/
theorem dm_cr (e e' : Nat → Nat → Int64) {n k : Nat} (hn : n ≤ 7) (hk : k < n) (h1 : ∀ r, r < n → e' r k = e r n) (h2 : ∀ r c, r < n → c < n → c ≠ k → e' r c = e r c) :
    dm e' n (2 ^ n - 1) = if (n - 1 - k) % 2 = 0 then dm e n (2 ^ (n + 1) - 1 - 2 ^ k) else -dm e n (2 ^ (n + 1) - 1 - 2 ^ k) := by
  obtain ⟨b1, b2⟩ := bt_cr n (by omega) k hk
  have hp : 0 < 2 ^ k := Nat.pow_pos (by decide)
  have hp2 : 0 < 2 ^ (n + 1) := Nat.pow_pos (by decide)
  have hA : dm e n (2 ^ (n + 1) - 1 - 2 ^ k) = Int64.ofInt (sg (n - 1 - k) * DD n (fun i r => (e' r i).toInt)) := by
    rw [dm_DD e hn (2 ^ (n + 1)) (2 ^ (n + 1) - 1 - 2 ^ k) (by omega) (by omega), b1]
    refine congrArg _ ?_
    have e1 : DD n (fun i r => (e r (bt (2 ^ (n + 1) - 1 - 2 ^ k) i)).toInt) = DD n (skp (fun i r => (e r i).toInt) k) := DD_congr n _ _ (fun j hj r hr => by
      show (e r (bt _ j)).toInt = _
      rw [b2 j hj]
      unfold skp
      split <;> rfl)
    rw [e1, DD_cr _ hk]
    refine congrArg _ (DD_congr n _ _ (fun j hj r hr => ?_))
    show (if j = k then (fun r => (e r n).toInt) else fun r => (e r j).toInt) r = _
    by_cases g : j = k
    · rw [if_pos g, g, h1 r hr]
    · rw [if_neg g, h2 r j hr hj g]
  rw [dm_full e' hn, hA, sg]
  by_cases g : (n - 1 - k) % 2 = 0
  · rw [if_pos g, if_pos g, Int.one_mul]
  · rw [if_neg g, if_neg g, ofI_neg, Int.neg_mul, Int.one_mul, Int.neg_neg]
theorem br_de {z w : xC} (hw : wf z) (t : Int32) : deR z w t = den z t := by
  have h7 := uN_7 hw t
  rw [deR, den, sN_uN hw, dm_full _ h7, dm_full _ h7]
  refine congrArg _ (DD_congr _ _ _ (fun j hj r hr => ?_))
  show (eQ _ _ _ r j).toInt = _
  rw [eQ, if_neg (nI_m1 (by omega)), br_M hw t hr hj]
theorem br_nu {z w : xC} (hq : Rq z w) (hw : wf z) (t : Int32) {j : Nat} (hj : j < nN z) (ha : aflI z (gM z t j) = 0) : nuR z w t j = num z t j := by
  have h7 := uN_7 hw t
  have hN := hw.N
  have hp := uP_ok z t
  rw [nuR, if_pos ha, num, upV, sP_uP hw, sN_uN hw]
  by_cases hr : nR z j = 0
  · have h1 : ¬ uP z t j = -1 := fun e => (uP_at hw t j).mp e ⟨hj, ha, hr⟩
    obtain ⟨k, hk, ek, ck⟩ := hp.at (by omega) h1 (by omega)
    rw [if_pos hr, if_neg (fun q => h1 ((neg1_lt hp (by omega) (by omega)).mp q)), ck, ek]
    exact dm_cr (sR z t) _ h7 hk (fun r hr => by rw [eQ, if_pos rfl, br_R hq hw t hr]) (fun r c hr hc hne => by
      rw [eQ, if_neg (fun q => hne ((nI_inj8 (by omega) (by omega)).mp q)), br_M hw t hr hc])
  · have h1 : uP z t j = -1 := (uP_at hw t j).mpr (fun q => hr q.2.2)
    rw [if_neg hr, h1, if_pos (by decide), sK_at hw, if_pos ⟨hj, hr⟩, hq.p hj hr, br_de hw, den, sN_uN hw]
