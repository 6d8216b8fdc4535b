/-! the entries over the integers, and how great they can be -/
theorem ofI_sub (a b : Int) : Int64.ofInt a - Int64.ofInt b = Int64.ofInt (a - b) := (Int64.ofInt_sub a b).symm
theorem ofI_0 : (0 : Int64) = Int64.ofInt 0 := by decide
theorem tl_I (x : Int32) : x.toInt64 = Int64.ofInt x.toInt := by
  have h1 := x.le_toInt
  have h2 := x.toInt_lt
  apply Int64.toInt_inj.mp
  rw [Int32.toInt_toInt64, Int64.toInt_ofInt_of_le (by omega) (by omega)]
def iC (p : Nat → Int32) (a b : Nat) (g : Int) (r c : Nat) : Int := if p a = nI r then (if r = c then g else 0) - (if p b = nI c then g else 0) else 0
def iR (p : Nat → Int32) (kn : Nat → Int) (a b : Nat) (g : Int) (r : Nat) : Int := if p a = nI r ∧ p b = -1 then g * kn b else 0
def iF (p : Nat → Int32) (a : Nat) (g : Int) (r : Nat) : Int := if p a = nI r then g else 0
theorem mC_I (p : Nat → Int32) (a b : Nat) (g : Int) (r c : Nat) : mC p a b (Int64.ofInt g) r c = Int64.ofInt (iC p a b g r c) := by
  rw [mC, iC]
  by_cases h : p a = nI r
  · rw [if_pos h, if_pos h, ← ofI_sub]
    have k : ∀ (q : Prop) (d : Decidable q), (@ite _ q d (Int64.ofInt g) 0) = Int64.ofInt (@ite _ q d g 0) := fun q d => by
      by_cases hq : q
      · rw [if_pos hq, if_pos hq]
      · rw [if_neg hq, if_neg hq]; exact ofI_0
    rw [k, k]
  · rw [if_neg h, if_neg h]; exact ofI_0
theorem rC_I (p : Nat → Int32) (kn : Nat → Int64) (ki : Nat → Int) (hk : ∀ j, kn j = Int64.ofInt (ki j)) (a b : Nat) (g : Int) (r : Nat) : rC p kn a b (Int64.ofInt g) r = Int64.ofInt (iR p ki a b g r) := by
  rw [rC, iR]
  by_cases h : p a = nI r ∧ p b = -1
  · rw [if_pos h, if_pos h, hk]; exact ofI_mul _ _
  · rw [if_neg h, if_neg h]; exact ofI_0
theorem fC_I (p : Nat → Int32) (a : Nat) (g : Int) (r : Nat) : fC p a (Int64.ofInt g) r = Int64.ofInt (iF p a g r) := by
  rw [fC, iF]
  by_cases h : p a = nI r
  · rw [if_pos h, if_pos h]
  · rw [if_neg h, if_neg h]; exact ofI_0
def iM (z : xC) (t : Int32) (p : Nat → Int32) : Nat → Nat → Nat → Int
  | 0, _, _ => 0
  | i + 1, r, c => iM z t p i r c + (if eS z i = 0 ∧ ¬ onI z i t = 0 then iC p (cA z i) (cB z i) (eZ z i).toInt r c + iC p (cB z i) (cA z i) (eZ z i).toInt r c else 0)
def iS (z : xC) (t : Int32) (p : Nat → Int32) (ki : Nat → Int) : Nat → Nat → Int
  | 0, _ => 0
  | i + 1, r => iS z t p ki i r + (if eS z i = 0 ∧ ¬ onI z i t = 0 then iR p ki (cA z i) (cB z i) (eZ z i).toInt r + iR p ki (cB z i) (cA z i) (eZ z i).toInt r
      else if ¬ eS z i = 0 ∧ ¬ onI z i t = 0 then iF p (cA z i) (-(eZ z i).toInt) r + iF p (cB z i) (eZ z i).toInt r else 0)
theorem sM_I (z : xC) (t : Int32) (p : Nat → Int32) : ∀ i r c, sM z t p i r c = Int64.ofInt (iM z t p i r c)
  | 0, _, _ => ofI_0
  | i + 1, r, c => by
    rw [sM, iM, sM_I z t p i r c]
    by_cases h : eS z i = 0 ∧ ¬ onI z i t = 0
    · rw [if_pos h, if_pos h, tl_I, mC_I, mC_I, ofI_add, ofI_add]
    · rw [if_neg h, if_neg h, Int64.add_zero, Int.add_zero]
theorem sS_I (z : xC) (t : Int32) (p : Nat → Int32) (kn : Nat → Int64) (ki : Nat → Int) (hk : ∀ j, kn j = Int64.ofInt (ki j)) : ∀ i r, sB z t p i r + sC z t p kn i r = Int64.ofInt (iS z t p ki i r)
  | 0, _ => by show (0 : Int64) + 0 = _; exact (Int64.add_zero _).trans ofI_0
  | i + 1, r => by
    have ih := sS_I z t p kn ki hk i r
    rw [sB, sC, iS, ← ofI_add, ← ih]
    by_cases h : eS z i = 0 ∧ ¬ onI z i t = 0
    · have h2 : ¬ (¬ eS z i = 0 ∧ ¬ onI z i t = 0) := fun q => q.1 h.1
      rw [if_pos h, if_neg h2, if_pos h, tl_I, rC_I p kn ki hk, rC_I p kn ki hk, ← ofI_add, Int64.add_zero, Int64.add_assoc]
    · by_cases h2 : ¬ eS z i = 0 ∧ ¬ onI z i t = 0
      · rw [if_neg h, if_pos h2, if_neg h, if_pos h2, tl_I, ofI_neg, fC_I, fC_I, ← ofI_add, Int64.add_zero]
        generalize sC z t p kn i r = X1
        generalize sB z t p i r = X2
        generalize Int64.ofInt (iF p (cA z i) (-(eZ z i).toInt) r) = X3
        generalize Int64.ofInt (iF p (cB z i) (eZ z i).toInt r) = X4
        grind
      · rw [if_neg h, if_neg h2, if_neg h, if_neg h2, ← ofI_0, Int64.add_zero, Int64.add_zero, Int64.add_zero]
/-! sums -/
theorem sumN_0 {f : Nat → Nat} : ∀ n, (∀ i, i < n → f i = 0) → sumN n f = 0
  | 0, _ => rfl
  | n + 1, h => by rw [sumN, sumN_0 n (fun i hi => h i (by omega)), h n (by omega)]
theorem sumN_add (f g : Nat → Nat) : ∀ n, sumN n (fun i => f i + g i) = sumN n f + sumN n g
  | 0 => rfl
  | n + 1 => by rw [sumN, sumN, sumN, sumN_add f g n]; omega
theorem sumN_ml (f : Nat → Nat) (k : Nat) : ∀ n, sumN n (fun i => k * f i) = k * sumN n f
  | 0 => (Nat.mul_zero k).symm
  | n + 1 => by rw [sumN, sumN, sumN_ml f k n, Nat.mul_add]
theorem sumN_ge (f : Nat → Nat) : ∀ n i, i < n → f i ≤ sumN n f
  | 0, i, h => absurd h (Nat.not_lt_zero _)
  | n + 1, i, h => by
    rw [sumN]
    by_cases e : i = n
    · rw [e]; omega
    · have := sumN_ge f n i (by omega); omega
theorem sN_one (x : Int32) (k : Nat) : ∀ n, n ≤ 8 → sumN n (fun r => if x = nI r then k else 0) ≤ k
  | 0, _ => Nat.zero_le _
  | n + 1, h => by
    rw [sumN]
    by_cases e : x = nI n
    · rw [sumN_0 n (fun r hr => if_neg (fun g => by have := (nI_inj8 (by omega) (by omega)).mp (g.symm.trans e); omega)), if_pos e]
      omega
    · rw [if_neg e]; exact sN_one x k n (by omega)
theorem sN_eq (x : Nat) (k : Nat) : ∀ n, sumN n (fun r => if x = r then k else 0) ≤ k
  | 0 => Nat.zero_le _
  | n + 1 => by
    rw [sumN]
    by_cases e : x = n
    · rw [sumN_0 n (fun r hr => if_neg (fun g => by omega)), if_pos e]
      omega
    · rw [if_neg e]; exact sN_eq x k n
/-- how much an element can bring into the rows -/
def qE (z : xC) (t : Int32) (p : Nat → Int32) (i r : Nat) : Nat := if eS z i = 0 ∧ ¬ onI z i t = 0 then (if p (cA z i) = nI r then 18 else 0) + (if p (cB z i) = nI r then 18 else 0)
  else if ¬ eS z i = 0 ∧ ¬ onI z i t = 0 then (if p (cA z i) = nI r then 1 else 0) + (if p (cB z i) = nI r then 1 else 0) else 0
def sQ (z : xC) (t : Int32) (p : Nat → Int32) : Nat → Nat → Nat
  | 0, _ => 0
  | i + 1, r => sQ z t p i r + qE z t p i r
theorem qE_sum (z : xC) (t : Int32) (p : Nat → Int32) {n : Nat} (hn : n ≤ 8) (i : Nat) : sumN n (qE z t p i) ≤ 36 := by
  by_cases h : eS z i = 0 ∧ ¬ onI z i t = 0
  · have e : sumN n (qE z t p i) = sumN n (fun r => (if p (cA z i) = nI r then 18 else 0) + (if p (cB z i) = nI r then 18 else 0)) := sumN_congr n (fun r _ => by rw [qE, if_pos h])
    rw [e, sumN_add]
    have := sN_one (p (cA z i)) 18 n hn
    have := sN_one (p (cB z i)) 18 n hn
    omega
  · by_cases h2 : ¬ eS z i = 0 ∧ ¬ onI z i t = 0
    · have e : sumN n (qE z t p i) = sumN n (fun r => (if p (cA z i) = nI r then 1 else 0) + (if p (cB z i) = nI r then 1 else 0)) := sumN_congr n (fun r _ => by rw [qE, if_neg h, if_pos h2])
      rw [e, sumN_add]
      have := sN_one (p (cA z i)) 1 n hn
      have := sN_one (p (cB z i)) 1 n hn
      omega
    · rw [sumN_0 n (fun r _ => by rw [qE, if_neg h, if_neg h2])]
      omega
theorem sQ_sum (z : xC) (t : Int32) (p : Nat → Int32) {n : Nat} (hn : n ≤ 8) : ∀ i, sumN n (sQ z t p i) ≤ 36 * i
  | 0 => by
    have e : sumN n (sQ z t p 0) = 0 := sumN_0 n (fun _ _ => rfl)
    omega
  | i + 1 => by
    have e : sumN n (sQ z t p (i + 1)) = sumN n (fun r => sQ z t p i r + qE z t p i r) := sumN_congr n (fun r _ => rfl)
    have h1 := sQ_sum z t p hn i
    have h2 := qE_sum z t p hn i
    rw [e, sumN_add]
    omega
theorem iC_bd {p : Nat → Int32} {n : Nat} (hn : n ≤ 8) {ki : Nat → Int} {a b : Nat} (hk : (ki b).natAbs ≤ 99) {g : Int} (hg : g.natAbs ≤ 9) {r : Nat} : 99 * sumN n (fun c => (iC p a b g r c).natAbs) + (iR p ki a b g r).natAbs ≤ 99 * (if p a = nI r then 18 else 0) := by
  by_cases h : p a = nI r
  · rw [if_pos h, iR]
    have h1 : sumN n (fun c => (iC p a b g r c).natAbs) ≤ sumN n (fun c => (if r = c then 9 else 0) + (if p b = nI c then 9 else 0)) := sumN_le n (fun c _ => by
      rw [iC, if_pos h]
      split <;> split <;> omega)
    rw [sumN_add] at h1
    have h2 := sN_eq r 9 n
    by_cases h3 : p b = -1
    · rw [if_pos ⟨h, h3⟩, Int.natAbs_mul]
      have h4 : sumN n (fun c => if p b = nI c then 9 else 0) = 0 := sumN_0 n (fun c hc => if_neg (by rw [h3]; exact fun e => nI_m1 (by omega) e.symm))
      have h5 := Nat.mul_le_mul hg hk
      omega
    · rw [if_neg (fun q => h3 q.2)]
      have h4 := sN_one (p b) 9 n hn
      have h6 : (0 : Int).natAbs = 0 := rfl
      omega
  · have h2 : ¬ (p a = nI r ∧ p b = -1) := fun q => h q.1
    rw [if_neg h, sumN_0 n (fun c _ => by rw [iC, if_neg h]; rfl), iR, if_neg h2]
    exact Nat.le_refl _
theorem iF_bd {p : Nat → Int32} {a : Nat} {g : Int} (hg : g.natAbs ≤ 99) {r : Nat} : (iF p a g r).natAbs ≤ 99 * (if p a = nI r then 1 else 0) := by
  rw [iF]
  by_cases h : p a = nI r
  · rw [if_pos h, if_pos h]; omega
  · rw [if_neg h, if_neg h]; exact Nat.le_refl _
theorem el_con {z : xC} (hw : wf z) {i : Nat} (hi : i < nE z) (h : eS z i = 0) : 1 ≤ (eZ z i).toInt ∧ (eZ z i).toInt ≤ 9 := (hw.el hi).2.2.2.2.2.2.2.1 h
theorem el_src {z : xC} (hw : wf z) {i : Nat} (hi : i < nE z) (h : ¬ eS z i = 0) : -99 ≤ (eZ z i).toInt ∧ (eZ z i).toInt ≤ 99 := (hw.el hi).2.2.2.2.2.2.2.2 (by rcases hw.s hi with g | g; exact absurd g h; exact g)
theorem iM_bd {z : xC} (hw : wf z) (t : Int32) {p : Nat → Int32} {n : Nat} (hn : n ≤ 8) {ki : Nat → Int} (hk : ∀ j, (ki j).natAbs ≤ 99) (r : Nat) : ∀ i, i ≤ nE z → 99 * sumN n (fun c => (iM z t p i r c).natAbs) + (iS z t p ki i r).natAbs ≤ 99 * sQ z t p i r
  | 0, _ => by
    have e : sumN n (fun c => (iM z t p 0 r c).natAbs) = 0 := sumN_0 n (fun c _ => rfl)
    have e2 : (iS z t p ki 0 r).natAbs = 0 := rfl
    omega
  | i + 1, hi => by
    have ih := iM_bd hw t hn hk r i (by omega) (p := p)
    rw [iS, sQ, qE]
    by_cases h : eS z i = 0 ∧ ¬ onI z i t = 0
    · have hz := el_con hw (i := i) (by omega) h.1
      have b1 := iC_bd (p := p) hn (a := cA z i) (b := cB z i) (hk _) (g := (eZ z i).toInt) (by omega) (r := r)
      have b2 := iC_bd (p := p) hn (a := cB z i) (b := cA z i) (hk _) (g := (eZ z i).toInt) (by omega) (r := r)
      have e : sumN n (fun c => (iM z t p (i + 1) r c).natAbs) ≤ sumN n (fun c => (iM z t p i r c).natAbs + ((iC p (cA z i) (cB z i) (eZ z i).toInt r c).natAbs + (iC p (cB z i) (cA z i) (eZ z i).toInt r c).natAbs)) := sumN_le n (fun c _ => by
        rw [iM, if_pos h]
        omega)
      rw [sumN_add, sumN_add] at e
      rw [if_pos h, if_pos h]
      omega
    · have e : sumN n (fun c => (iM z t p (i + 1) r c).natAbs) = sumN n (fun c => (iM z t p i r c).natAbs) := sumN_congr n (fun c _ => by rw [iM, if_neg h, Int.add_zero])
      rw [e, if_neg h, if_neg h]
      by_cases h2 : ¬ eS z i = 0 ∧ ¬ onI z i t = 0
      · have hz := el_src hw (i := i) (by omega) h2.1
        have b1 := iF_bd (p := p) (a := cA z i) (g := -(eZ z i).toInt) (by omega) (r := r)
        have b2 := iF_bd (p := p) (a := cB z i) (g := (eZ z i).toInt) (by omega) (r := r)
        rw [if_pos h2, if_pos h2]
        omega
      · rw [if_neg h2, if_neg h2, Int.add_zero]
        exact ih
/-! products of at most seven numbers whose sum is at most 722 -/
theorem pk_key : ∀ x, x < 723 → x * 101 ^ 100 * 100 ^ x ≤ 100 * 101 ^ x * 100 ^ 100 := by decide +kernel
theorem pr_bd (B : Nat → Nat) : ∀ n, (∀ i, i < n → B i < 723) → prN n B * (101 ^ 100) ^ n * 100 ^ sumN n B ≤ 100 ^ n * 101 ^ sumN n B * (100 ^ 100) ^ n
  | 0, _ => Nat.le_refl _
  | n + 1, h => by
    have ih := pr_bd B n (fun i hi => h i (by omega))
    have hk := pk_key (B n) (h n (Nat.lt_succ_self _))
    have hm := Nat.mul_le_mul ih hk
    rw [prN, sumN]
    generalize (101 : Nat) ^ 100 = u at hm ⊢
    generalize (100 : Nat) ^ 100 = v at hm ⊢
    generalize prN n B = P at hm ⊢
    generalize sumN n B = S at hm ⊢
    generalize B n = x at hm ⊢
    have q1 : u ^ (n + 1) = u ^ n * u := Nat.pow_succ _ _
    have q2 : v ^ (n + 1) = v ^ n * v := Nat.pow_succ _ _
    have q3 : 100 ^ (n + 1) = 100 ^ n * 100 := Nat.pow_succ _ _
    have q4 : 100 ^ (S + x) = 100 ^ S * 100 ^ x := Nat.pow_add 100 S x
    have q5 : 101 ^ (S + x) = 101 ^ S * 101 ^ x := Nat.pow_add 101 S x
    rw [q1, q2, q3, q4, q5]
    have e1 : P * x * (u ^ n * u) * (100 ^ S * 100 ^ x) = P * u ^ n * 100 ^ S * (x * u * 100 ^ x) := by
      generalize u ^ n = U
      generalize (100 : Nat) ^ S = A
      generalize (100 : Nat) ^ x = C
      ac_rfl
    have e2 : 100 ^ n * 100 * (101 ^ S * 101 ^ x) * (v ^ n * v) = 100 ^ n * 101 ^ S * v ^ n * (100 * 101 ^ x * v) := by
      generalize v ^ n = U
      generalize (101 : Nat) ^ S = A
      generalize (101 : Nat) ^ x = C
      generalize (100 : Nat) ^ n = E
      ac_rfl
    rw [e1, e2]
    exact hm
def mxK : Nat := 124500000000000
theorem pk_fin : ∀ n, n < 8 → ∀ S, S < 723 → ¬ mxK * (101 ^ 100) ^ n * 100 ^ S ≤ 100 ^ n * 101 ^ S * (100 ^ 100) ^ n := by decide +kernel
theorem pr_K {B : Nat → Nat} {n : Nat} (hn : n ≤ 7) (h : sumN n B ≤ 722) : prN n B < mxK := by
  apply Classical.byContradiction
  intro hc
  have h1 := pr_bd B n (fun i hi => by have := sumN_ge B n i hi; omega)
  refine pk_fin n (by omega) (sumN n B) (by omega) (Nat.le_trans ?_ h1)
  exact Nat.mul_le_mul_right _ (Nat.mul_le_mul_right _ (Nat.le_of_not_lt hc))
/-! determinants with weights of the columns -/
theorem prN_congr {f g : Nat → Nat} : ∀ n, (∀ i, i < n → f i = g i) → prN n f = prN n g
  | 0, _ => rfl
  | n + 1, h => by rw [prN, prN, prN_congr n (fun i hi => h i (by omega)), h n (by omega)]
theorem prN_skp (g : Nat → Nat) : ∀ (m i : Nat), i ≤ m → prN m (skp g i) * g i = prN (m + 1) g
  | 0, i, h => by
    have : i = 0 := by omega
    subst this; rfl
  | m + 1, i, h => by
    by_cases e : i = m + 1
    · subst e
      show _ = prN (m + 1) g * g (m + 1)
      have e2 : prN (m + 1) (skp g (m + 1)) = prN (m + 1) g := prN_congr (m + 1) (fun j hj => if_pos hj)
      rw [e2]
    · have ih := prN_skp g m i (by omega)
      have e1 : skp g i m = g (m + 1) := if_neg (by omega)
      show prN m (skp g i) * skp g i m * g i = prN (m + 1) g * g (m + 1)
      rw [e1, ← ih]
      ac_rfl
theorem DD_bdw : ∀ (m : Nat) (v : Nat → Nat → Int) (B w : Nat → Nat), (∀ r, r < m → sumN m (fun j => w j * (v j r).natAbs) ≤ B r) → prN m w * (DD m v).natAbs ≤ prN m B
  | 0, _, _, _, _ => Nat.le_refl _
  | m + 1, v, B, w, h => by
    have h1 := abs_sum (fun i => sg (m - i) * v i m * DD m (skp v i)) (m + 1)
    have h2 : sumN (m + 1) (fun i => prN (m + 1) w * (sg (m - i) * v i m * DD m (skp v i)).natAbs) ≤ sumN (m + 1) (fun i => (w i * (v i m).natAbs) * prN m B) := sumN_le _ (fun i hi => by
      rw [Int.natAbs_mul, Int.natAbs_mul, sg_abs, Nat.one_mul, ← prN_skp w m i (by omega)]
      have h3 := DD_bdw m (skp v i) B (skp w i) (fun r hr => by
        have e := sumN_skp (fun j => w j * (v j r).natAbs) m i (by omega)
        have e2 : sumN m (fun j => skp w i j * (skp v i j r).natAbs) = sumN m (skp (fun j => w j * (v j r).natAbs) i) := sumN_congr m (fun j _ => by
          simp only [skp]
          split <;> rfl)
        have := h r (by omega)
        omega)
      have h4 := Nat.mul_le_mul_left (w i * (v i m).natAbs) h3
      refine Nat.le_trans (Nat.le_of_eq ?_) h4
      ac_rfl)
    rw [sumN_mul, sumN_ml] at h2
    have h3 := Nat.mul_le_mul_right (prN m B) (h m (Nat.lt_succ_self _))
    have h5 := Nat.mul_le_mul_left (prN (m + 1) w) h1
    rw [DD]
    show _ ≤ prN m B * B m
    rw [Nat.mul_comm (prN m B)]
    omega
theorem pr_w1 (k : Nat) : ∀ n, n ≤ k → prN n (fun i => if i = k then 1 else 99) = 99 ^ n
  | 0, _ => rfl
  | n + 1, h => by rw [prN, pr_w1 k n (by omega), if_neg (by omega), Nat.pow_succ]
theorem pr_w2 (k : Nat) : ∀ d, prN (k + 1 + d) (fun i => if i = k then 1 else 99) * 99 = 99 ^ (k + 1 + d)
  | 0 => by
    show prN k (fun i => if i = k then 1 else 99) * (if k = k then 1 else 99) * 99 = 99 ^ (k + 1)
    rw [pr_w1 k k (Nat.le_refl _), if_pos rfl, Nat.mul_one, Nat.pow_succ]
  | d + 1 => by
    show prN (k + 1 + d) _ * (if k + 1 + d = k then 1 else 99) * 99 = 99 ^ (k + 1 + d + 1)
    rw [if_neg (by omega), pr_w2 k d, Nat.pow_succ]
theorem pr_99 (B : Nat → Nat) : ∀ n, prN n (fun r => 99 * B r) = 99 ^ n * prN n B
  | 0 => rfl
  | n + 1 => by
    rw [prN, prN, pr_99 B n, Nat.pow_succ]
    generalize (99 : Nat) ^ n = U
    ac_rfl
/-- a column whose entries may be 99 times as great -/
theorem DD_col {n k : Nat} (hk : k < n) (v : Nat → Nat → Int) (B : Nat → Nat) (h : ∀ r, r < n → sumN n (fun j => (if j = k then 1 else 99) * (v j r).natAbs) ≤ 99 * B r) : (DD n v).natAbs ≤ 99 * prN n B := by
  have h1 := DD_bdw n v (fun r => 99 * B r) (fun i => if i = k then 1 else 99) h
  rw [pr_99] at h1
  have h2 := pr_w2 k (n - (k + 1))
  rw [show k + 1 + (n - (k + 1)) = n by omega] at h2
  have h3 := Nat.mul_le_mul_right 99 h1
  have e : prN n (fun i => if i = k then 1 else 99) * (DD n v).natAbs * 99 = 99 ^ n * (DD n v).natAbs := by
    rw [← h2]; ac_rfl
  rw [e] at h3
  refine Nat.le_of_mul_le_mul_left (c := 99 ^ n) (Nat.le_trans h3 (Nat.le_of_eq ?_)) (Nat.pow_pos (by decide))
  generalize (99 : Nat) ^ n = U
  ac_rfl
