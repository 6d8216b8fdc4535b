/-! what a circuit is: what its numbers keep to; when an element is on -/
def cA (z : xC) (i : Nat) : Nat := (eA z i).toNatClampNeg
def cB (z : xC) (i : Nat) : Nat := (eB z i).toNatClampNeg
def cT (z : xC) (i : Nat) : Nat := (eT z i).toNatClampNeg
def tmOk (z : xC) (i : Nat) : Prop := (∀ k, k < cT z i → (nI 1 ≤ tT z (6 * i + k) ∧ tT z (6 * i + k) ≤ nI 999)) ∧ ∀ k l, k < l → l < cT z i → tT z (6 * i + k) < tT z (6 * i + l)
def elOk (z : xC) (i : Nat) : Prop := (eS z i = 0 ∨ eS z i = 1) ∧ (eO z i = 0 ∨ eO z i = 1) ∧ (eA z i = nI (cA z i) ∧ cA z i < nN z) ∧ (eB z i = nI (cB z i) ∧ cB z i < nN z) ∧ cA z i ≠ cB z i ∧ (eT z i = nI (cT z i) ∧ cT z i ≤ 6) ∧ tmOk z i ∧ (eS z i = 0 → 1 ≤ (eZ z i).toInt ∧ (eZ z i).toInt ≤ 9) ∧ (eS z i = 1 → -99 ≤ (eZ z i).toInt ∧ (eZ z i).toInt ≤ 99)
def wf (z : xC) : Prop := nN z ≤ 8 ∧ nE z ≤ 20 ∧ (∀ i, i < nN z → (nR z i = 0 ∨ nR z i = 1) ∧ (nR z i = 1 → -99 ≤ (nP z i).toInt ∧ (nP z i).toInt ≤ 99)) ∧ ∀ i, i < nE z → elOk z i
theorem wf.N {z : xC} (h : wf z) : nN z ≤ 8 := h.1
theorem wf.E {z : xC} (h : wf z) : nE z ≤ 20 := h.2.1
theorem wf.r {z : xC} (h : wf z) {i : Nat} (hi : i < nN z) : nR z i = 0 ∨ nR z i = 1 := (h.2.2.1 i hi).1
theorem wf.el {z : xC} (h : wf z) {i : Nat} (hi : i < nE z) : elOk z i := h.2.2.2 i hi
theorem wf.s {z : xC} (h : wf z) {i : Nat} (hi : i < nE z) : eS z i = 0 ∨ eS z i = 1 := (h.el hi).1
theorem wf.o {z : xC} (h : wf z) {i : Nat} (hi : i < nE z) : eO z i = 0 ∨ eO z i = 1 := (h.el hi).2.1
theorem wf.a {z : xC} (h : wf z) {i : Nat} (hi : i < nE z) : eA z i = nI (cA z i) := (h.el hi).2.2.1.1
theorem wf.a8 {z : xC} (h : wf z) {i : Nat} (hi : i < nE z) : cA z i < nN z := (h.el hi).2.2.1.2
theorem wf.b {z : xC} (h : wf z) {i : Nat} (hi : i < nE z) : eB z i = nI (cB z i) := (h.el hi).2.2.2.1.1
theorem wf.b8 {z : xC} (h : wf z) {i : Nat} (hi : i < nE z) : cB z i < nN z := (h.el hi).2.2.2.1.2
theorem wf.t {z : xC} (h : wf z) {i : Nat} (hi : i < nE z) : eT z i = nI (cT z i) := (h.el hi).2.2.2.2.2.1.1
theorem wf.t6 {z : xC} (h : wf z) {i : Nat} (hi : i < nE z) : cT z i ≤ 6 := (h.el hi).2.2.2.2.2.1.2
/-- how many of the first k toggles are before t -/
def tb (z : xC) (i : Nat) (t : Int32) : Nat → Nat
  | 0 => 0
  | k + 1 => tb z i t k + (if t ≤ tT z (6 * i + k) then 0 else 1)
theorem tb_le (z : xC) (i : Nat) (t : Int32) : ∀ k, tb z i t k ≤ k
  | 0 => Nat.le_refl _
  | k + 1 => by
    have := tb_le z i t k
    unfold tb
    split <;> omega
theorem tb_s0 {z : xC} {i k : Nat} {t : Int32} (h : t ≤ tT z (6 * i + k)) : tb z i t (k + 1) = tb z i t k := by show tb z i t k + _ = _; rw [if_pos h]; rfl
theorem tb_s1 {z : xC} {i k : Nat} {t : Int32} (h : ¬ t ≤ tT z (6 * i + k)) : tb z i t (k + 1) = tb z i t k + 1 := by show tb z i t k + _ = _; rw [if_neg h]
/-- on at t, as 0 or 1 -/
def onI (z : xC) (i : Nat) (t : Int32) : Int32 := if eO z i = (if tb z i (t + nI 1) (cT z i) % 2 = 0 then nI 1 else nI 0) then nI 1 else nI 0
theorem onI_01 (z : xC) (i : Nat) (t : Int32) : onI z i t = 0 ∨ onI z i t = 1 := by
  unfold onI
  by_cases h : eO z i = (if tb z i (t + nI 1) (cT z i) % 2 = 0 then nI 1 else nI 0)
  · rw [if_pos h]; exact Or.inr rfl
  · rw [if_neg h]; exact Or.inl rfl
/-- toggleTime(k) -/
def tgt (z : xC) (i : Nat) (k : Int32) : Int32 := if k < 0 then -1 else if eT z i ≤ k then -1 else tT z (6 * i + k.toNatClampNeg)
def tgb (z : xC) (i : Nat) (t : Int32) : Int32 := tgt z i (nI (tb z i (t + nI 1) (cT z i)))
/-- what element() tells -/
def trt (z : xC) (i k : Nat) : Int32 := match k with
  | 0 => eS z i
  | 1 => eA z i
  | 2 => eB z i
  | 3 => eZ z i
  | 4 => eO z i
  | _ => eT z i
def bitI (x : Int32) (k : Nat) : Prop := ¬ (x >>> (nI k &&& 31)) &&& nI 1 = 0
