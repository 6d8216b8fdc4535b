/-! what flows between the nodes: sums by nodes are sums by elements -/
theorem sI_mul (a : Int) (f : Nat → Int) : ∀ n, sumI n (fun i => a * f i) = a * sumI n f
  | 0 => (Int.mul_zero a).symm
  | n + 1 => by rw [sumI, sumI, sI_mul a f n, Int.mul_add]
theorem sI_swap (f : Nat → Nat → Int) (m : Nat) : ∀ n, sumI n (fun i => sumI m (f i)) = sumI m (fun j => sumI n (fun i => f i j))
  | 0 => (sumI_0 m (fun _ _ => rfl)).symm
  | n + 1 => by
    rw [sumI, sI_swap f m n]
    exact (sI_add (fun j => sumI n (fun i => f i j)) (f n) m).symm
theorem sI_pick (φ : Nat → Int) {a n : Nat} (ha : a < n) (x : Int) : sumI n (fun j => φ j * (if a = j then x else 0)) = φ a * x := by
  have e : sumI n (fun j => φ j * (if a = j then x else 0)) = sumI n (fun j => if a = j then φ a * x else 0) := sumI_congr n (fun j _ => by
    by_cases c : a = j
    · subst c; rw [if_pos rfl, if_pos rfl]
    · rw [if_neg c, if_neg c, Int.mul_zero])
  rw [e, sI_eq, if_pos ha]
theorem sI_nn {f : Nat → Int} : ∀ n, (∀ i, i < n → 0 ≤ f i) → 0 ≤ sumI n f ∧ ∀ j, j < n → f j ≤ sumI n f
  | 0, _ => ⟨Int.le_refl _, fun j h => absurd h (Nat.not_lt_zero _)⟩
  | n + 1, h => by
    obtain ⟨h1, h2⟩ := sI_nn n (fun i hi => h i (by omega))
    have h3 := h n (by omega)
    rw [sumI]
    refine ⟨by omega, fun j hj => ?_⟩
    by_cases e : j = n
    · subst e; omega
    · have := h2 j (by omega); omega
/-- conductance, 0 where nothing conducts; what a source brings, 0 where it is off -/
def cZ (z : xC) (t : Int32) (e : Nat) : Int := if eS z e = 0 ∧ ¬ onI z e t = 0 then (eZ z e).toInt else 0
def iZ (z : xC) (t : Int32) (e : Nat) : Int := if ¬ eS z e = 0 ∧ ¬ onI z e t = 0 then (eZ z e).toInt else 0
def dV (z : xC) (V : Nat → Int) (e : Nat) : Int := V (cA z e) - V (cB z e)
/-- out of the node j through conductors; into it by sources -/
def ntC (z : xC) (t : Int32) (V : Nat → Int) (j : Nat) : Int := sumI (nE z) (fun e => (if cA z e = j then cZ z t e * dV z V e else 0) + (if cB z e = j then -(cZ z t e * dV z V e) else 0))
def sIn (z : xC) (t : Int32) (j : Nat) : Int := sumI (nE z) (fun e => (if cA z e = j then -iZ z t e else 0) + (if cB z e = j then iZ z t e else 0))
def enC (z : xC) (t : Int32) (φ V : Nat → Int) : Int := sumI (nE z) (fun e => cZ z t e * (dV z φ e * dV z V e))
theorem by_el {z : xC} (hw : wf z) (φ x : Nat → Int) : sumI (nN z) (fun j => φ j * sumI (nE z) (fun e => (if cA z e = j then x e else 0) + (if cB z e = j then -x e else 0))) = sumI (nE z) (fun e => dV z φ e * x e) := by
  have e1 : sumI (nN z) (fun j => φ j * sumI (nE z) (fun e => (if cA z e = j then x e else 0) + (if cB z e = j then -x e else 0))) = sumI (nN z) (fun j => sumI (nE z) (fun e => φ j * ((if cA z e = j then x e else 0) + (if cB z e = j then -x e else 0)))) := sumI_congr _ (fun j _ => (sI_mul _ _ _).symm)
  rw [e1, sI_swap]
  refine sumI_congr _ (fun e he => ?_)
  have e2 : sumI (nN z) (fun j => φ j * ((if cA z e = j then x e else 0) + (if cB z e = j then -x e else 0))) = sumI (nN z) (fun j => φ j * (if cA z e = j then x e else 0) + φ j * (if cB z e = j then -x e else 0)) := sumI_congr _ (fun j _ => Int.mul_add _ _ _)
  rw [e2, sI_add, sI_pick φ (hw.a8 he), sI_pick φ (hw.b8 he), dV]
  grind
theorem en_net {z : xC} (hw : wf z) (t : Int32) (φ V : Nat → Int) : sumI (nN z) (fun j => φ j * ntC z t V j) = enC z t φ V := by
  have h := by_el hw φ (fun e => cZ z t e * dV z V e)
  refine Eq.trans h (sumI_congr _ (fun e _ => ?_))
  grind
theorem src_net {z : xC} (hw : wf z) (t : Int32) (φ : Nat → Int) : sumI (nN z) (fun j => φ j * sIn z t j) = -sumI (nE z) (fun e => dV z φ e * iZ z t e) := by
  have h := by_el hw φ (fun e => -iZ z t e)
  have e1 : sumI (nN z) (fun j => φ j * sIn z t j) = sumI (nN z) (fun j => φ j * sumI (nE z) (fun e => (if cA z e = j then -iZ z t e else 0) + (if cB z e = j then - -iZ z t e else 0))) := sumI_congr _ (fun j _ => by
    rw [sIn]
    refine congrArg _ (sumI_congr _ (fun e _ => ?_))
    rw [Int.neg_neg])
  rw [e1, h]
  exact sumI_neg _ (fun e _ => Int.mul_neg _ _)
theorem cZ_nn {z : xC} (hw : wf z) (t : Int32) {e : Nat} (he : e < nE z) : 0 ≤ cZ z t e ∧ (cnd z t e → 1 ≤ cZ z t e) ∧ (¬ cnd z t e → cZ z t e = 0) := by
  rw [cZ]
  by_cases c : eS z e = 0 ∧ ¬ onI z e t = 0
  · have h := el_con hw he c.1
    rw [if_pos c]
    exact ⟨by omega, fun _ => h.1, fun q => absurd c q⟩
  · rw [if_neg c]
    exact ⟨Int.le_refl _, fun q => absurd q c, fun _ => rfl⟩
theorem en_t {z : xC} (hw : wf z) {t : Int32} {φ V : Nat → Int} (h : ∀ e, e < nE z → cnd z t e → 0 ≤ dV z φ e * dV z V e) : ∀ e, e < nE z → 0 ≤ cZ z t e * (dV z φ e * dV z V e) := fun e he => by
  obtain ⟨c1, c2, c3⟩ := cZ_nn hw t he
  by_cases c : cnd z t e
  · exact Int.mul_nonneg c1 (h e he c)
  · rw [c3 c, Int.zero_mul]; exact Int.le_refl _
/-- a sum of such that are not less than 0 and not greater than 0 -/
theorem en_0 {z : xC} (hw : wf z) {t : Int32} {φ V : Nat → Int} (h : ∀ e, e < nE z → cnd z t e → 0 ≤ dV z φ e * dV z V e) (hs : enC z t φ V ≤ 0) : ∀ e, e < nE z → cnd z t e → dV z φ e * dV z V e = 0 := fun e he c => by
  have h1 := (sI_nn (nE z) (en_t hw h)).2 e he
  have h2 := en_t hw h e he
  obtain ⟨c1, c2, c3⟩ := cZ_nn hw t he
  have h3 : cZ z t e * (dV z φ e * dV z V e) = 0 := by
    have : sumI (nE z) (fun e => cZ z t e * (dV z φ e * dV z V e)) ≤ 0 := hs
    omega
  have c4 := c2 c
  rcases Int.mul_eq_zero.mp h3 with g | g
  · omega
  · exact g
/-- what is one along all that conducts is one in all that hangs together -/
theorem gM_const {z : xC} (hw : wf z) {t : Int32} {φ : Nat → Int} (h : ∀ e, e < nE z → cnd z t e → φ (cA z e) = φ (cB z e)) {j k : Nat} (hj : j < 8) (hk : k < 8) (hg : (gM z t j).testBit k = true) : φ k = φ j := by
  have hN := hw.N
  obtain ⟨B, hB⟩ := ex_mask (fun v => φ v = φ j) 8
  refine (hB k hk).mp (gM_min hw hj (S := B) (fun e he hc => ?_) ((hB j hj).mpr rfl) hk hg)
  have ha : cA z e < nN z := hw.a8 he
  have hb : cB z e < nN z := hw.b8 he
  rw [hB _ (by omega), hB _ (by omega), h e he hc]
theorem gM_bit {z : xC} (hw : wf z) {t : Int32} {e : Nat} (he : e < nE z) (hc : cnd z t e) {b : Nat} (hb : b < 8) : (gM z t b).testBit (cA z e) = (gM z t b).testBit (cB z e) := by
  have hN := hw.N
  have ha8 : cA z e < 8 := by have := hw.a8 he; omega
  have hb8 : cB z e < 8 := by have := hw.b8 he; omega
  have h := gM_edge hw he hc
  cases h1 : (gM z t b).testBit (cA z e) <;> cases h2 : (gM z t b).testBit (cB z e)
  · rfl
  · have q := gM_eq hw hb hb8 h2
    have q2 := gM_self hw t ha8
    rw [h, q, h1] at q2
    cases q2
  · have q := gM_eq hw hb ha8 h1
    have q2 := gM_self hw t hb8
    rw [← h, q, h2] at q2
    cases q2
  · rfl
/-- a function and what is cut off above a number: no step of the other sign -/
def posP (x : Int) : Int := if 0 ≤ x then x else 0
theorem pos_mono (x y m : Int) : 0 ≤ (posP (x - m) - posP (y - m)) * (x - y) ∧ ((posP (x - m) - posP (y - m)) * (x - y) = 0 → posP (x - m) = posP (y - m)) := by
  unfold posP
  have sq : ∀ a : Int, 0 ≤ a * a := fun a => by
    rcases Int.le_total 0 a with h | h
    · exact Int.mul_nonneg h h
    · exact Int.mul_nonneg_of_nonpos_of_nonpos h h
  by_cases h1 : 0 ≤ x - m <;> by_cases h2 : 0 ≤ y - m
  · rw [if_pos h1, if_pos h2, show x - m - (y - m) = x - y by omega]
    refine ⟨sq _, fun h => ?_⟩
    rcases Int.mul_eq_zero.mp h with g | g <;> omega
  · rw [if_pos h1, if_neg h2]
    have h3 : 0 ≤ x - m - 0 := by omega
    refine ⟨Int.mul_nonneg h3 (by omega), fun h => ?_⟩
    rcases Int.mul_eq_zero.mp h with g | g <;> omega
  · rw [if_neg h1, if_pos h2]
    refine ⟨Int.mul_nonneg_of_nonpos_of_nonpos (by omega) (by omega), fun h => ?_⟩
    rcases Int.mul_eq_zero.mp h with g | g <;> omega
  · rw [if_neg h1, if_neg h2]
    refine ⟨by rw [Int.sub_self, Int.zero_mul]; exact Int.le_refl _, fun _ => rfl⟩
