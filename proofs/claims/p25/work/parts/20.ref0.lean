/-! the reference's circuit against the bench's -/
def Rq (z w : xC) : Prop := nN w = nN z ∧ nE w = nE z ∧ (∀ j, j < nN z → nR w j = nR z j ∧ (¬ nR z j = 0 → nP w j = nP z j)) ∧ ∀ j, j < nE z → eS w j = eS z j ∧ eA w j = eA z j ∧ eB w j = eB z j ∧ eZ w j = eZ z j ∧ eO w j = eO z j ∧ eT w j = eT z j ∧ ∀ k, k < cT z j → tT w (6 * j + k) = tT z (6 * j + k)
theorem Rq.N {z w : xC} (h : Rq z w) : nN w = nN z := h.1
theorem Rq.E {z w : xC} (h : Rq z w) : nE w = nE z := h.2.1
theorem Rq.r {z w : xC} (h : Rq z w) {j : Nat} (hj : j < nN z) : nR w j = nR z j := (h.2.2.1 j hj).1
theorem Rq.p {z w : xC} (h : Rq z w) {j : Nat} (hj : j < nN z) (hr : ¬ nR z j = 0) : nP w j = nP z j := (h.2.2.1 j hj).2 hr
theorem Rq.s {z w : xC} (h : Rq z w) {j : Nat} (hj : j < nE z) : eS w j = eS z j := (h.2.2.2 j hj).1
theorem Rq.a {z w : xC} (h : Rq z w) (hw : wf z) {j : Nat} (hj : j < nE z) : eA w j = nI (cA z j) := (h.2.2.2 j hj).2.1.trans (hw.a hj)
theorem Rq.b {z w : xC} (h : Rq z w) (hw : wf z) {j : Nat} (hj : j < nE z) : eB w j = nI (cB z j) := (h.2.2.2 j hj).2.2.1.trans (hw.b hj)
theorem Rq.z {z w : xC} (h : Rq z w) {j : Nat} (hj : j < nE z) : eZ w j = eZ z j := (h.2.2.2 j hj).2.2.2.1
theorem Rq.o {z w : xC} (h : Rq z w) {j : Nat} (hj : j < nE z) : eO w j = eO z j := (h.2.2.2 j hj).2.2.2.2.1
theorem Rq.t {z w : xC} (h : Rq z w) (hw : wf z) {j : Nat} (hj : j < nE z) : eT w j = nI (cT z j) := (h.2.2.2 j hj).2.2.2.2.2.1.trans (hw.t hj)
theorem Rq.m {z w : xC} (h : Rq z w) {j k : Nat} (hj : j < nE z) (hk : k < cT z j) : tT w (6 * j + k) = tT z (6 * j + k) := (h.2.2.2 j hj).2.2.2.2.2.2 k hk
/-- a test of the machine -/
def bI (P : Prop) (d : Decidable P) : Int32 := @ite _ P d (nI 1) (nI 0)
theorem b_t {P : Prop} {d : Decidable P} (h : ¬ (@ite _ P d (nI 1) (nI 0)) = 0) : P := by
  by_cases hp : P
  · exact hp
  · rw [if_neg hp] at h; exact absurd rfl h
theorem b_f {P : Prop} {d : Decidable P} (h : (@ite _ P d (nI 1) (nI 0)) = 0) : ¬ P := by
  intro hp
  rw [if_pos hp] at h
  exact absurd h (by decide)
theorem b_01 {P : Prop} {d : Decidable P} : (@ite _ P d (nI 1) (nI 0)) = 0 ∨ (@ite _ P d (nI 1) (nI 0)) = 1 := by
  by_cases hp : P
  · rw [if_pos hp]; exact Or.inr rfl
  · rw [if_neg hp]; exact Or.inl rfl
theorem nd_in {n : Nat} (hn : n ≤ 20) (x : Int32) : (x < nI 0 ∨ nI n - nI 1 < x) ↔ ¬ (0 ≤ x ∧ x < nI n) := by
  have e1 : (nI n - nI 1).toInt = (n : Int) - 1 := pk_sub_toInt (by omega) (by decide)
  have e2 : (nI n).toInt = (n : Int) := nI_toInt (by omega)
  have e0 : (nI 0).toInt = 0 := by decide
  have e3 : (0 : Int32).toInt = 0 := by decide
  rw [Int32.lt_iff_toInt_lt, Int32.lt_iff_toInt_lt, Int32.le_iff_toInt_le, Int32.lt_iff_toInt_lt, e1, e2, e0, e3]
  omega
/-- on at t by turns, as the reference has it -/
def onX (z : xC) (i : Nat) (t : Int32) : Nat → Int32
  | 0 => eO z i
  | k + 1 => if onX z i t k = (if tT z (6 * i + k) ≤ t then nI 1 else nI 0) then nI 0 else nI 1
theorem onX_01 {z : xC} {i : Nat} {t : Int32} (h : eO z i = 0 ∨ eO z i = 1) : ∀ k, onX z i t k = 0 ∨ onX z i t k = 1
  | 0 => h
  | k + 1 => by
    rw [onX]
    by_cases e : onX z i t k = (if tT z (6 * i + k) ≤ t then nI 1 else nI 0)
    · rw [if_pos e]; exact Or.inl rfl
    · rw [if_neg e]; exact Or.inr rfl
theorem onX_tb {z : xC} {i j : Nat} (ho : eO z i = 0 ∨ eO z i = 1) (hj : j ≤ 999) : ∀ k, (∀ l, l < k → nI 1 ≤ tT z (6 * i + l) ∧ tT z (6 * i + l) ≤ nI 999) → onX z i (nI j) k = if tb z i (nI j + nI 1) k % 2 = 0 then eO z i else nI 1 - eO z i
  | 0, _ => (if_pos (show tb z i (nI j + nI 1) 0 % 2 = 0 from rfl)).symm
  | k + 1, hm => by
    have ih := onX_tb ho hj k (fun l hl => hm l (by omega))
    have hk := hm k (by omega)
    obtain ⟨u, hu, eu⟩ : ∃ u, u ≤ 999 ∧ tT z (6 * i + k) = nI u := by
      obtain ⟨u, hu, e⟩ := nI_of (x := tT z (6 * i + k)) (fun h => by
        have h1 := hk.1
        rw [Int32.le_iff_toInt_le] at h1
        rw [Int32.lt_iff_toInt_lt] at h
        have e1 : (nI 1).toInt = 1 := by decide
        have e0 : (0 : Int32).toInt = 0 := by decide
        omega)
      refine ⟨u, ?_, e⟩
      have h2 := hk.2
      rw [e] at h2
      exact (nI_leI hu (by decide)).mp h2
    rw [onX, tb, ih, eu, nI_add]
    have hle : (nI u ≤ nI j) ↔ u ≤ j := nI_leI (by omega) (by omega)
    have hle2 : (nI (j + 1) ≤ nI u) ↔ j + 1 ≤ u := nI_leI (by omega) (by omega)
    generalize tb z i (nI (j + 1)) k = B
    by_cases c : u ≤ j
    · have h1 : (if nI u ≤ nI j then nI 1 else nI 0) = nI 1 := if_pos (hle.mpr c)
      have h2 : (if nI (j + 1) ≤ nI u then 0 else 1) = 1 := if_neg (fun h => by have := hle2.mp h; omega)
      rw [h1, h2]
      rcases Nat.mod_two_eq_zero_or_one B with e | e
      · have e2 : (B + 1) % 2 = 1 := by omega
        rw [e, e2]
        rcases ho with h | h <;> rw [h] <;> decide
      · have e2 : (B + 1) % 2 = 0 := by omega
        rw [e, e2]
        rcases ho with h | h <;> rw [h] <;> decide
    · have h1 : (if nI u ≤ nI j then nI 1 else nI 0) = nI 0 := if_neg (fun h => c (hle.mp h))
      have h2 : (if nI (j + 1) ≤ nI u then 0 else 1) = 0 := if_pos (hle2.mpr (by omega))
      rw [h1, h2, Nat.add_zero]
      rcases Nat.mod_two_eq_zero_or_one B with e | e
      · rw [e]
        rcases ho with h | h <;> rw [h] <;> decide
      · rw [e]
        rcases ho with h | h <;> rw [h] <;> decide
theorem onX_on {z : xC} (hw : wf z) {i j : Nat} (hi : i < nE z) (hj : j ≤ 999) : onX z i (nI j) (cT z i) = onI z i (nI j) := by
  have ho := hw.o hi
  rw [onX_tb ho hj (cT z i) (hw.el hi).2.2.2.2.2.2.1.1, onI]
  rcases Nat.mod_two_eq_zero_or_one (tb z i (nI j + nI 1) (cT z i)) with e | e
  · rw [e, if_pos rfl]
    rcases ho with h | h <;> rw [h] <;> decide
  · rw [e, if_neg (by decide)]
    rcases ho with h | h <;> rw [h] <;> decide
theorem onX_s {z : xC} {i k : Nat} {t : Int32} : onX z i t (k + 1) = if onX z i t k = (if tT z (6 * i + k) ≤ t then nI 1 else nI 0) then nI 0 else nI 1 := rfl
theorem aI_01 (z : xC) (M : Nat) : aflI z M = nI 0 ∨ aflI z M = nI 1 := aflI_01 z M
/-- the closure that the reference reckons: one round over the first e elements -/
def clS (z : xC) (t : Int32) (M : Nat) : Nat → Nat
  | 0 => M
  | i + 1 => if (eS z i = 0 ∧ ¬ onI z i t = 0) ∧ (clS z t M i / 2 ^ cA z i % 2 = 1 ∨ clS z t M i / 2 ^ cB z i % 2 = 1) then clS z t M i ||| (2 ^ cA z i ||| 2 ^ cB z i) else clS z t M i
theorem clS_1 {z : xC} {t : Int32} {M i : Nat} (h : (eS z i = 0 ∧ ¬ onI z i t = 0) ∧ (clS z t M i / 2 ^ cA z i % 2 = 1 ∨ clS z t M i / 2 ^ cB z i % 2 = 1)) : clS z t M (i + 1) = clS z t M i ||| (2 ^ cA z i ||| 2 ^ cB z i) := by rw [clS, if_pos h]
theorem clS_0 {z : xC} {t : Int32} {M i : Nat} (h : ¬ ((eS z i = 0 ∧ ¬ onI z i t = 0) ∧ (clS z t M i / 2 ^ cA z i % 2 = 1 ∨ clS z t M i / 2 ^ cB z i % 2 = 1))) : clS z t M (i + 1) = clS z t M i := by rw [clS, if_neg h]
theorem m_two : ∀ M, M < 256 → ∀ a, a < 8 → ∀ b, b < 8 → (((nI M >>> (nI a &&& 31)) ||| (nI M >>> (nI b &&& 31))) &&& nI 1 = nI 1 ↔ (M / 2 ^ a % 2 = 1 ∨ M / 2 ^ b % 2 = 1)) := by
  intro M hM a ha b hb
  have h1 := m_bit M hM a ha
  have h2 := m_bit M hM b hb
  have key : ∀ x y : Int32, ((x ||| y) &&& nI 1 = nI 1 ↔ (¬ x &&& nI 1 = 0 ∨ ¬ y &&& nI 1 = 0)) := by
    intro x y
    have hx : ∀ x : Int32, x &&& nI 1 = 0 ∨ x &&& nI 1 = nI 1 := fun x => by
      obtain ⟨j, hj, e⟩ := pk_andE x (m := nI 1) 1 (by decide)
      have : j = 0 ∨ j = 1 := by omega
      rcases this with r | r
      · left; rw [e, r]; rfl
      · right; rw [e, r]
    have e : (x ||| y) &&& nI 1 = (x &&& nI 1) ||| (y &&& nI 1) := by
      apply Int32.toBitVec_inj.mp
      show (x.toBitVec ||| y.toBitVec) &&& _ = (x.toBitVec &&& _) ||| (y.toBitVec &&& _)
      rw [BitVec.and_comm, BitVec.and_or_distrib_left, BitVec.and_comm, BitVec.and_comm (y := y.toBitVec)]
    rw [e]
    rcases hx x with a | a <;> rcases hx y with b | b <;> rw [a, b] <;> decide
  rw [key, h1, h2]
  omega
theorem m_or8 {a b : Nat} (ha : a < 256) (hb : b < 256) : a ||| b < 256 := Nat.or_lt_two_pow (n := 8) ha hb
theorem m_pw8 {a : Nat} (ha : a < 8) : 2 ^ a < 256 := Nat.pow_lt_pow_right (m := a) (n := 8) (by decide) ha
