/-! determinants over the integers, by the last row -/
def sumI : Nat → (Nat → Int) → Int
  | 0, _ => 0
  | n + 1, f => sumI n f + f n
def skp {α : Type} (v : Nat → α) (i : Nat) : Nat → α := fun j => if j < i then v j else v (j + 1)
def sg (k : Nat) : Int := if k % 2 = 0 then 1 else -1
def DD : Nat → (Nat → Nat → Int) → Int
  | 0, _ => 1
  | m + 1, v => sumI (m + 1) (fun i => sg (m - i) * v i m * DD m (skp v i))
theorem sumI_congr {f g : Nat → Int} : ∀ n, (∀ i, i < n → f i = g i) → sumI n f = sumI n g
  | 0, _ => rfl
  | n + 1, h => by rw [sumI, sumI, sumI_congr n (fun i hi => h i (by omega)), h n (by omega)]
theorem DD_congr : ∀ (m : Nat) (v w : Nat → Nat → Int), (∀ j, j < m → ∀ r, r < m → v j r = w j r) → DD m v = DD m w
  | 0, _, _, _ => rfl
  | m + 1, v, w, h => by
    rw [DD, DD]
    refine sumI_congr _ (fun i hi => ?_)
    rw [h i hi m (Nat.lt_succ_self _), DD_congr m (skp v i) (skp w i) (fun j hj r hr => by
      unfold skp
      split
      · exact h j (by omega) r (by omega)
      · exact h (j + 1) (by omega) r (by omega))]
def bt (M i : Nat) : Nat := ((List.range 8).filter (fun k => M / 2 ^ k % 2 == 1)).getD i 0
def lo (M k : Nat) : Nat := pop (M % 2 ^ k)
theorem lo_0 : ∀ M, M < 256 → ∀ k, k < 8 → M / 2 ^ k % 2 = 0 → lo M (k + 1) = lo M k := by decide +kernel
theorem lo_1 : ∀ M, M < 256 → ∀ k, k < 8 → M / 2 ^ k % 2 = 1 → lo M (k + 1) = lo M k + 1 ∧ bt M (lo M k) = k ∧ pop M = lo M k + 1 + pop (M / 2 ^ (k + 1)) ∧ pop (M - 2 ^ k) = pop M - 1 ∧ 2 ^ k ≤ M := by decide +kernel
theorem bt_sk : ∀ M, M < 256 → ∀ k, k < 8 → M / 2 ^ k % 2 = 1 → ∀ j, j < 7 → j < pop M - 1 → bt (M - 2 ^ k) j = skp (bt M) (lo M k) j := by decide +kernel
theorem lo_8 : ∀ M, M < 256 → lo M 8 = pop M := by decide +kernel
theorem ofI_add (a b : Int) : Int64.ofInt a + Int64.ofInt b = Int64.ofInt (a + b) := (Int64.ofInt_add a b).symm
theorem ofI_mul (a b : Int) : Int64.ofInt a * Int64.ofInt b = Int64.ofInt (a * b) := (Int64.ofInt_mul a b).symm
theorem ofI_neg (a : Int) : -Int64.ofInt a = Int64.ofInt (-a) := (Int64.ofInt_neg a).symm
theorem aQ_ext {e : Nat → Nat → Int64} {mi : Nat → Int64} {M n : Nat} (hM : M < 2 ^ n) : ∀ k, aQ e mi M (n + k) = aQ e mi M n
  | 0 => rfl
  | k + 1 => by
    rw [← Nat.add_assoc, aQ_0, aQ_ext hM k]
    rw [Nat.div_eq_of_lt (Nat.lt_of_lt_of_le hM (Nat.pow_le_pow_right (by decide) (by omega)))]
/-- what dm reckons, over the integers -/
theorem dm_DD (e : Nat → Nat → Int64) {n : Nat} (hn : n ≤ 7) : ∀ (f M : Nat), M < f → M < 2 ^ (n + 1) → dm e n M = Int64.ofInt (DD (pop M) (fun i r => (e r (bt M i)).toInt))
  | 0, M, h, _ => absurd h (Nat.not_lt_zero _)
  | f + 1, M, h, hM => by
    have h8 : 2 ^ (n + 1) ≤ 2 ^ 8 := Nat.pow_le_pow_right (by decide) (by omega)
    have hM8 : M < 256 := by omega
    rcases Nat.eq_zero_or_pos M with e0 | e0
    · subst e0; rfl
    · have hpp := pop_le M hM8
      obtain ⟨m, hm⟩ : ∃ m, pop M = m + 1 := ⟨pop M - 1, by have := hpp.2 e0; omega⟩
      have h1 : dm e n M = aQ e (dm e n) M 8 := by
        have hs := ex_aQ (e := e) (mi := dm e n) (M := M) hM8 (n + 1) 0 (by omega)
        have hz : M / 2 ^ (n + 1) = 0 := Nat.div_eq_of_lt hM
        have e1 : sgQ M (n + 1) = 1 := by rw [sgQ, hz]; rfl
        rw [e1, dm_s e n e0 (fun _ _ => rfl), Int64.zero_add] at hs
        rw [hs, show 8 = n + 1 + (7 - n) by omega]
        exact (aQ_ext hM _).symm
      have key : ∀ k, k ≤ 8 → aQ e (dm e n) M k = Int64.ofInt (sumI (lo M k) (fun i => sg (m - i) * (e m (bt M i)).toInt * DD m (skp (fun i r => (e r (bt M i)).toInt) i))) := by
        intro k
        induction k with
        | zero => intro _; show (0 : Int64) = _; rw [show lo M 0 = 0 by unfold lo; rw [Nat.pow_zero, Nat.mod_one]; rfl]; rfl
        | succ k ih =>
          intro hk
          have ih := ih (by omega)
          by_cases hb : M / 2 ^ k % 2 = 0
          · rw [aQ_0 hb, lo_0 M hM8 k (by omega) hb, ih]
          · obtain ⟨q1, q2, q3, q4, q5⟩ := lo_1 M hM8 k (by omega) (by omega)
            have hp2 : 0 < 2 ^ k := Nat.pow_pos (by decide)
            have hd := dm_DD e hn f (M - 2 ^ k) (by omega) (by omega)
            have hdd : DD (pop (M - 2 ^ k)) (fun i r => (e r (bt (M - 2 ^ k) i)).toInt) = DD m (skp (fun i r => (e r (bt M i)).toInt) (lo M k)) := by
              rw [q4, hm]
              refine DD_congr m _ _ (fun j hj r hr => ?_)
              show (e r (bt (M - 2 ^ k) j)).toInt = skp (fun i r => (e r (bt M i)).toInt) (lo M k) j r
              rw [bt_sk M hM8 k (by omega) (by omega) j (by omega) (by omega)]
              unfold skp
              split <;> rfl
            rw [q1, sumI, ← ofI_add, ← ih, q2, aQ, if_neg hb, hd, hdd, hm]
            congr 1
            show _ = _
            have hpar : pop (M / 2 ^ (k + 1)) = m - lo M k := by omega
            rw [hpar, show m + 1 - 1 = m by omega, sg]
            by_cases g : (m - lo M k) % 2 = 0
            · rw [if_pos g, if_pos g, Int.one_mul, ← ofI_mul, Int64.ofInt_toInt]
            · rw [if_neg g, if_neg g, Int.neg_one_mul, Int.neg_mul, ← ofI_neg, ← ofI_mul, Int64.ofInt_toInt]
      rw [h1, key 8 (Nat.le_refl _), lo_8 M hM8, hm]
      rfl
