/-! what the equations say of the currents -/
theorem ite_iff {α : Type} {P Q : Prop} {d : Decidable P} {d' : Decidable Q} (h : P ↔ Q) (x y : α) : (@ite _ P d x y) = (@ite _ Q d' x y) := by
  by_cases p : P
  · rw [if_pos p, if_pos (h.mp p)]
  · rw [if_neg p, if_neg (fun q => p (h.mpr q))]
theorem us_inj (z : xC) (t : Int32) : ∀ i, i ≤ 8 → ∀ k j j', k < 8 → (usS z t i).1 j = nI k → (usS z t i).1 j' = nI k → j = j'
  | 0, _, k, j, j', hk, h, _ => absurd (show nI k = -1 from h.symm) (nI_m1 (by omega))
  | i + 1, hi, k, j, j', hk, h, h' => by
    have hc := (us_le z t i).1
    have lt : ∀ v, (usS z t i).1 v = nI (usS z t i).2 → False := fun v hv => by
      have h8 : v < 8 := by
        apply Classical.byContradiction
        intro g
        have q := (us_at z t v i (by omega)).mpr (fun q => by omega)
        rw [hv] at q
        exact nI_m1 (by omega) q
      rcases us_pl z t i v h8 with g | ⟨k2, g1, g2⟩
      · rw [hv] at g; exact nI_m1 (by omega) g
      · rw [hv] at g2
        have := (nI_inj8 (by omega) (by omega)).mp g2
        omega
    by_cases c : aflI z (gM z t i) = 0 ∧ nR z i = 0
    · rw [usS_1 c.1 c.2] at h h'
      have h : upd (usS z t i).1 i (nI (usS z t i).2) j = nI k := h
      have h' : upd (usS z t i).1 i (nI (usS z t i).2) j' = nI k := h'
      by_cases e : j = i <;> by_cases e' : j' = i
      · omega
      · rw [show upd (usS z t i).1 i (nI (usS z t i).2) j = nI (usS z t i).2 by simp [upd, e]] at h
        rw [show upd (usS z t i).1 i (nI (usS z t i).2) j' = (usS z t i).1 j' by simp [upd, e']] at h'
        exact absurd (h'.trans h.symm) (lt j')
      · rw [show upd (usS z t i).1 i (nI (usS z t i).2) j' = nI (usS z t i).2 by simp [upd, e']] at h'
        rw [show upd (usS z t i).1 i (nI (usS z t i).2) j = (usS z t i).1 j by simp [upd, e]] at h
        exact absurd (h.trans h'.symm) (lt j)
      · rw [show upd (usS z t i).1 i (nI (usS z t i).2) j = (usS z t i).1 j by simp [upd, e]] at h
        rw [show upd (usS z t i).1 i (nI (usS z t i).2) j' = (usS z t i).1 j' by simp [upd, e']] at h'
        exact us_inj z t i (by omega) k j j' hk h h'
    · rw [usS_0 c] at h h'
      exact us_inj z t i (by omega) k j j' hk h h'
theorem rs_inj (M b : Nat) : ∀ i, i ≤ 8 → ∀ k j j', k < 8 → (rsS M b i).1 j = nI k → (rsS M b i).1 j' = nI k → j = j'
  | 0, _, k, j, j', hk, h, _ => absurd (show nI k = -1 from h.symm) (nI_m1 (by omega))
  | i + 1, hi, k, j, j', hk, h, h' => by
    have hc := (rs_le M b i).1
    have lt : ∀ v, (rsS M b i).1 v = nI (rsS M b i).2 → False := fun v hv => by
      have h8 : v < 8 := by
        apply Classical.byContradiction
        intro g
        have q := (rs_at M b v i (by omega)).mpr (fun q => by omega)
        rw [hv] at q
        exact nI_m1 (by omega) q
      rcases rs_pl M b i v h8 with g | ⟨k2, g1, g2⟩
      · rw [hv] at g; exact nI_m1 (by omega) g
      · rw [hv] at g2
        have := (nI_inj8 (by omega) (by omega)).mp g2
        omega
    by_cases c : M / 2 ^ i % 2 = 0 ∨ i = b
    · rw [rs_0 c] at h h'
      exact rs_inj M b i (by omega) k j j' hk h h'
    · rw [rs_1 c] at h h'
      have h : upd (rsS M b i).1 i (nI (rsS M b i).2) j = nI k := h
      have h' : upd (rsS M b i).1 i (nI (rsS M b i).2) j' = nI k := h'
      by_cases e : j = i <;> by_cases e' : j' = i
      · omega
      · rw [show upd (rsS M b i).1 i (nI (rsS M b i).2) j = nI (rsS M b i).2 by simp [upd, e]] at h
        rw [show upd (rsS M b i).1 i (nI (rsS M b i).2) j' = (rsS M b i).1 j' by simp [upd, e']] at h'
        exact absurd (h'.trans h.symm) (lt j')
      · rw [show upd (rsS M b i).1 i (nI (rsS M b i).2) j' = nI (rsS M b i).2 by simp [upd, e']] at h'
        rw [show upd (rsS M b i).1 i (nI (rsS M b i).2) j = (rsS M b i).1 j by simp [upd, e]] at h
        exact absurd (h.trans h'.symm) (lt j)
      · rw [show upd (rsS M b i).1 i (nI (rsS M b i).2) j = (rsS M b i).1 j by simp [upd, e]] at h
        rw [show upd (rsS M b i).1 i (nI (rsS M b i).2) j' = (rsS M b i).1 j' by simp [upd, e']] at h'
        exact rs_inj M b i (by omega) k j j' hk h h'
/-- potentials times the denominator -/
def vV (p : Nat → Int32) (ki : Nat → Int) (D : Int) (X : Nat → Int) (j : Nat) : Int := if p j = -1 then ki j * D else X (clN (p j))
theorem vV_k {p : Nat → Int32} {ki X : Nat → Int} {D : Int} {j k : Nat} (hk : k < 8) (h : p j = nI k) : vV p ki D X j = X k := by
  rw [vV, if_neg (by rw [h]; exact nI_m1 (by omega)), h, cl_nI (by omega)]
theorem vV_m {p : Nat → Int32} {ki X : Nat → Int} {D : Int} {j : Nat} (h : p j = -1) : vV p ki D X j = ki j * D := if_pos h
theorem sI_pk (X : Nat → Int) (x : Nat) (g : Int) {n : Nat} (hx : x < n) : sumI n (fun c => (if x = c then g else 0) * X c) = g * X x := by
  have e : sumI n (fun c => (if x = c then g else 0) * X c) = sumI n (fun c => X c * (if x = c then g else 0)) := sumI_congr n (fun c _ => Int.mul_comm _ _)
  rw [e, sI_pick X hx, Int.mul_comm]
theorem iC_V {p : Nat → Int32} {n : Nat} (hn : n ≤ 8) (hp : plQ p n) {a b : Nat} (ha : a < 8) (hb : b < 8) {r : Nat} (hr : r < n) (g D : Int) (ki X : Nat → Int) :
    sumI n (fun c => iC p a b g r c * X c) = iR p ki a b g r * D + (if p a = nI r then g * (vV p ki D X a - vV p ki D X b) else 0) := by
  by_cases h : p a = nI r
  · have e : sumI n (fun c => iC p a b g r c * X c) = sumI n (fun c => (if r = c then g else 0) * X c - (if p b = nI c then g else 0) * X c) := sumI_congr n (fun c _ => by
      rw [iC, if_pos h, Int.sub_mul])
    rw [e, sI_sub, sI_pk X r g hr, if_pos h, vV_k (by omega) h, iR]
    rcases hp b hb with k | ⟨k, hk, ek⟩
    · have e0 : sumI n (fun c => (if p b = nI c then g else 0) * X c) = 0 := sumI_0 n (fun c hc => by
        rw [if_neg (by rw [k]; exact fun q => nI_m1 (by omega) q.symm), Int.zero_mul])
      rw [e0, if_pos ⟨h, k⟩, vV_m k]
      grind
    · have e0 : sumI n (fun c => (if p b = nI c then g else 0) * X c) = sumI n (fun c => (if k = c then g else 0) * X c) := sumI_congr n (fun c hc => by
        rw [ek, ite_iff (nI_inj8 (a := k) (b := c) (by omega) (by omega)) g 0])
      rw [e0, sI_pk X k g hk, if_neg (fun q => nI_m1 (by omega) (ek.symm.trans q.2)), vV_k (by omega) ek]
      grind
  · rw [sumI_0 n (fun c _ => by rw [iC, if_neg h, Int.zero_mul]), iR, if_neg (fun q => h q.1), if_neg h]
    grind
/-- what known potentials bring -/
def iT (z : xC) (t : Int32) (p : Nat → Int32) (ki : Nat → Int) : Nat → Nat → Int
  | 0, _ => 0
  | i + 1, r => iT z t p ki i r + (if eS z i = 0 ∧ ¬ onI z i t = 0 then iR p ki (cA z i) (cB z i) (eZ z i).toInt r + iR p ki (cB z i) (cA z i) (eZ z i).toInt r else 0)
theorem iM_V {z : xC} (hw : wf z) (t : Int32) {p : Nat → Int32} {n : Nat} (hn : n ≤ 8) (hp : plQ p n) {r : Nat} (hr : r < n) (D : Int) (ki X : Nat → Int) : ∀ i, i ≤ nE z →
    sumI n (fun c => iM z t p i r c * X c) = iT z t p ki i r * D + sumI i (fun e => (if p (cA z e) = nI r then cZ z t e * dV z (vV p ki D X) e else 0) + (if p (cB z e) = nI r then -(cZ z t e * dV z (vV p ki D X) e) else 0))
  | 0, _ => by
    rw [sumI_0 n (fun c _ => by show (0 : Int) * _ = 0; exact Int.zero_mul _)]
    show (0 : Int) = 0 * D + 0
    grind
  | i + 1, hi => by
    have ih := iM_V hw t hn hp hr D ki X i (by omega)
    have hN := hw.N
    have ha8 : cA z i < 8 := by have := hw.a8 (i := i) (by omega); omega
    have hb8 : cB z i < 8 := by have := hw.b8 (i := i) (by omega); omega
    rw [sumI, iT]
    by_cases c : eS z i = 0 ∧ ¬ onI z i t = 0
    · have e : sumI n (fun x => iM z t p (i + 1) r x * X x) = sumI n (fun x => iM z t p i r x * X x + (iC p (cA z i) (cB z i) (eZ z i).toInt r x * X x + iC p (cB z i) (cA z i) (eZ z i).toInt r x * X x)) := sumI_congr n (fun x _ => by
        rw [iM, if_pos c, Int.add_mul, Int.add_mul])
      rw [e, sI_add, sI_add, ih, iC_V hn hp ha8 hb8 hr _ D ki X, iC_V hn hp hb8 ha8 hr _ D ki X, if_pos c, cZ, if_pos c, dV]
      split <;> split <;> grind
    · have e : sumI n (fun x => iM z t p (i + 1) r x * X x) = sumI n (fun x => iM z t p i r x * X x) := sumI_congr n (fun x _ => by
        rw [iM, if_neg c, Int.add_zero])
      rw [e, ih, if_neg c, cZ, if_neg c]
      split <;> split <;> grind
theorem iS_T (z : xC) (t : Int32) (p : Nat → Int32) (ki : Nat → Int) (r : Nat) : ∀ i, iS z t p ki i r = iT z t p ki i r + sumI i (fun e => (if p (cA z e) = nI r then -iZ z t e else 0) + (if p (cB z e) = nI r then iZ z t e else 0))
  | 0 => rfl
  | i + 1 => by
    rw [iS, iT, sumI, iS_T z t p ki r i]
    by_cases c : eS z i = 0 ∧ ¬ onI z i t = 0
    · have d : ¬ (¬ eS z i = 0 ∧ ¬ onI z i t = 0) := fun q => q.1 c.1
      rw [if_pos c, if_pos c, iZ, if_neg d]
      split <;> split <;> grind
    · rw [if_neg c, if_neg c]
      by_cases d : ¬ eS z i = 0 ∧ ¬ onI z i t = 0
      · rw [if_pos d, iZ, if_pos d, iF, iF]
        split <;> split <;> grind
      · rw [if_neg d, iZ, if_neg d]
        split <;> split <;> grind
theorem iT_0 (z : xC) (t : Int32) (p : Nat → Int32) (r : Nat) : ∀ i, iT z t p (fun _ => 0) i r = 0
  | 0 => rfl
  | i + 1 => by
    have e : ∀ a b g, iR p (fun _ => 0) a b g r = 0 := fun a b g => by
      rw [iR]
      split
      · exact Int.mul_zero _
      · rfl
    rw [iT, iT_0 z t p r i, e, e]
    split <;> rfl
/-- the rows at a place are the rows at its node -/
theorem ntC_p {z : xC} {t : Int32} {p : Nat → Int32} {V : Nat → Int} {v r : Nat} (hv : ∀ j, p j = nI r ↔ j = v) : sumI (nE z) (fun e => (if p (cA z e) = nI r then cZ z t e * dV z V e else 0) + (if p (cB z e) = nI r then -(cZ z t e * dV z V e) else 0)) = ntC z t V v := by
  rw [ntC]
  refine sumI_congr _ (fun e _ => ?_)
  rw [ite_iff (hv (cA z e)) _ _, ite_iff (hv (cB z e)) _ _]
theorem sIn_p {z : xC} {t : Int32} {p : Nat → Int32} {v r : Nat} (hv : ∀ j, p j = nI r ↔ j = v) : sumI (nE z) (fun e => (if p (cA z e) = nI r then -iZ z t e else 0) + (if p (cB z e) = nI r then iZ z t e else 0)) = sIn z t v := by
  rw [sIn]
  refine sumI_congr _ (fun e _ => ?_)
  rw [ite_iff (hv (cA z e)) _ _, ite_iff (hv (cB z e)) _ _]
/-! at a time -/
def uD (z : xC) (t : Int32) : Int := DD (uN z t) (fun c r => iM z t (uP z t) (nE z) r c)
def uX (z : xC) (t : Int32) : Nat → Int := cmX (fun r c => iM z t (uP z t) (nE z) r c) (fun r => iS z t (uP z t) (kI z) (nE z) r) (uN z t)
def uV (z : xC) (t : Int32) : Nat → Int := vV (uP z t) (kI z) (uD z t) (uX z t)
theorem uP_k {z : xC} (hw : wf z) (t : Int32) {v : Nat} (hv : v < nN z) (ha : aflI z (gM z t v) = 0) (hr : nR z v = 0) : ∃ r, r < uN z t ∧ ∀ j, uP z t j = nI r ↔ j = v := by
  have hN := hw.N
  have h1 : ¬ uP z t v = -1 := fun e => (uP_at hw t v).mp e ⟨hv, ha, hr⟩
  have h7 := uN_7 hw t
  obtain ⟨r, k1, k2, k3⟩ := (uP_ok z t).at (j := v) (by omega) h1 (by omega)
  exact ⟨r, k1, fun j => ⟨fun h => us_inj z t (nN z) hN r j v (by omega) h k2, fun h => by rw [h]; exact k2⟩⟩
theorem kcl_u {z : xC} (hw : wf z) (t : Int32) {v : Nat} (hv : v < nN z) (ha : aflI z (gM z t v) = 0) (hr : nR z v = 0) : ntC z t (uV z t) v = uD z t * sIn z t v := by
  have h7 := uN_7 hw t
  obtain ⟨r, h1, h2⟩ := uP_k hw t hv ha hr
  have hc := cramer (fun r c => iM z t (uP z t) (nE z) r c) (fun r => iS z t (uP z t) (kI z) (nE z) r) h1
  have hm := iM_V hw t (show uN z t ≤ 8 by omega) (uP_ok z t) h1 (uD z t) (kI z) (uX z t) (nE z) (Nat.le_refl _)
  have hs := iS_T z t (uP z t) (kI z) r (nE z)
  rw [ntC_p h2] at hm
  rw [sIn_p h2] at hs
  have hc : sumI (uN z t) (fun c => iM z t (uP z t) (nE z) r c * uX z t c) = iS z t (uP z t) (kI z) (nE z) r * uD z t := hc
  rw [hm, hs] at hc
  have e : ntC z t (vV (uP z t) (kI z) (uD z t) (uX z t)) v = ntC z t (uV z t) v := rfl
  rw [e] at hc
  generalize ntC z t (uV z t) v = A at hc ⊢
  generalize iT z t (uP z t) (kI z) (nE z) r = B at hc
  generalize sIn z t v = C at hc ⊢
  grind
theorem de_V {z : xC} (hw : wf z) (t : Int32) : (den z t).toInt = uD z t := by
  have h7 := uN_7 hw t
  have e : den z t = Int64.ofInt (DD (uN z t) (fun c r => iM z t (uP z t) (nE z) r c)) := by
    rw [den, sN_uN hw, dm_full _ h7]
    refine congrArg _ (DD_congr _ _ _ (fun c hc r hr => ?_))
    show (sR z t r c).toInt = _
    have hm := (m_le hw (t := t) (p := uP z t) (show uN z t ≤ 8 by omega) (ki := fun _ => 0) (fun _ => by decide) hr).1 c hc
    rw [sR_M hw t hr hc, i64_I (by omega)]
  have hb := d_le hw h7 (t := t) (p := uP z t)
  have hK : mxK = 124500000000000 := rfl
  rw [e, i64_I (by omega), uD]
theorem nu_V {z : xC} (hw : wf z) (t : Int32) {j : Nat} (hj : j < nN z) : (num z t j).toInt = uV z t j := by
  have h7 := uN_7 hw t
  have hN := hw.N
  have hp := uP_ok z t
  have hK : mxK = 124500000000000 := rfl
  rw [num, upV, sP_uP hw, sN_uN hw]
  by_cases h1 : uP z t j = -1
  · rw [if_pos (by rw [h1]; decide)]
    have hd := de_I hw t
    have e : dm (sR z t) (uN z t) (2 ^ uN z t - 1) = den z t := by rw [den, sN_uN hw]
    have hk := kI_bd hw j
    have hv : uV z t j = kI z j * uD z t := vV_m h1
    rw [e, sK_I hw, Int64.toInt_mul, i64_I (by omega), hv, ← de_V hw]
    have h3 : (kI z j * (den z t).toInt).natAbs ≤ 99 * mxK := by
      rw [Int.natAbs_mul]
      exact Nat.mul_le_mul hk (by omega)
    rw [Int.bmod_eq_of_le (by omega) (by omega)]
  · obtain ⟨k, hk, ek, ck⟩ := hp.at (by omega) h1 (by omega)
    have hv : uV z t j = uX z t k := vV_k (by omega) ek
    rw [if_neg (fun q => h1 ((neg1_lt hp (by omega) (by omega)).mp q)), ck, ← dm_cr (sR z t) (fun r c => if c = k then sR z t r (uN z t) else sR z t r c) h7 hk (fun r _ => if_pos rfl) (fun r c _ _ hne => if_neg hne), dm_full _ h7]
    have e : DD (uN z t) (fun c r => (if c = k then sR z t r (uN z t) else sR z t r c).toInt) = DD (uN z t) (fun c r => if c = k then iS z t (uP z t) (kI z) (nE z) r else iM z t (uP z t) (nE z) r c) := DD_congr _ _ _ (fun c hc r hr => by
      have hm := m_le hw (t := t) (p := uP z t) (show uN z t ≤ 8 by omega) (kI_bd hw) hr
      by_cases q : c = k
      · rw [if_pos q, if_pos q, sR_R hw t hr, i64_I (by have := hm.2; omega)]
      · rw [if_neg q, if_neg q, sR_M hw t hr hc, i64_I (by have := hm.1 c hc; omega)])
    have hb := n_le hw h7 (t := t) (p := uP z t) (kI_bd hw) hk
    rw [e, i64_I (by omega), hv]
    rfl
theorem uV_r {z : xC} (hw : wf z) (t : Int32) {j : Nat} (hj : j < nN z) (hr : ¬ nR z j = 0) : uV z t j = (nP z j).toInt * uD z t := by
  have h1 : uP z t j = -1 := (uP_at hw t j).mpr (fun q => hr q.2.2)
  have h : uV z t j = kI z j * uD z t := vV_m h1
  rw [h, kI, if_pos ⟨hj, hr⟩]
theorem uD_pos {z : xC} (hw : wf z) (t : Int32) : 0 < uD z t := u_pos hw t
/-- a rail does not float -/
theorem rail_nfl {z : xC} (hw : wf z) (t : Int32) {j : Nat} (hj : j < nN z) (hr : ¬ nR z j = 0) : aflI z (gM z t j) = 0 := Classical.byContradiction (fun q => hr (afl_rail hw t hj q))
/-- no potential beyond the greatest rail, if nothing but rails brings anything -/
theorem mx_gen {z : xC} (hw : wf z) {t : Int32} {V : Nat → Int} {C : Int} (hr : ∀ o, o < nN z → ¬ nR z o = 0 → V o ≤ C) (hn : ∀ j, j < nN z → aflI z (gM z t j) = 0 → nR z j = 0 → ntC z t V j = 0) {j : Nat} (hj : j < nN z) (ha : aflI z (gM z t j) = 0) : V j ≤ C := by
  have hN := hw.N
  have hE : ∀ e, e < nE z → cnd z t e → (0 ≤ dV z (fun j => if aflI z (gM z t j) = 0 then posP (V j - C) else 0) e * dV z V e ∧ (dV z (fun j => if aflI z (gM z t j) = 0 then posP (V j - C) else 0) e * dV z V e = 0 → (if aflI z (gM z t (cA z e)) = 0 then posP (V (cA z e) - C) else 0) = (if aflI z (gM z t (cB z e)) = 0 then posP (V (cB z e) - C) else 0))) := fun e he hc => by
    show 0 ≤ ((if aflI z (gM z t (cA z e)) = 0 then posP (V (cA z e) - C) else 0) - (if aflI z (gM z t (cB z e)) = 0 then posP (V (cB z e) - C) else 0)) * (V (cA z e) - V (cB z e)) ∧ (((if aflI z (gM z t (cA z e)) = 0 then posP (V (cA z e) - C) else 0) - (if aflI z (gM z t (cB z e)) = 0 then posP (V (cB z e) - C) else 0)) * (V (cA z e) - V (cB z e)) = 0 → _)
    rw [gM_edge hw he hc]
    by_cases a : aflI z (gM z t (cB z e)) = 0
    · rw [if_pos a, if_pos a]; exact pos_mono _ _ _
    · rw [if_neg a, if_neg a, Int.sub_self, Int.zero_mul]
      exact ⟨Int.le_refl _, fun _ => rfl⟩
  have h0 : enC z t (fun j => if aflI z (gM z t j) = 0 then posP (V j - C) else 0) V = 0 := by
    rw [← en_net hw]
    refine sumI_0 _ (fun i hi => ?_)
    by_cases a : aflI z (gM z t i) = 0
    · by_cases b : nR z i = 0
      · rw [hn i hi a b, Int.mul_zero]
      · have h1 := hr i hi b
        have h2 : posP (V i - C) = 0 := by
          unfold posP
          split <;> omega
        rw [if_pos a, h2, Int.zero_mul]
    · rw [if_neg a, Int.zero_mul]
  have hz := en_0 hw (fun e he hc => (hE e he hc).1) (by rw [h0]; exact Int.le_refl _)
  obtain ⟨o, o1, o2, o3⟩ := afl_ex ha
  have hg := gM_const hw (t := t) (φ := fun j => if aflI z (gM z t j) = 0 then posP (V j - C) else 0) (fun e he hc => (hE e he hc).2 (hz e he hc)) (j := j) (k := o) (by omega) (by omega) (bt_1.mp (by omega))
  have hg : (if aflI z (gM z t o) = 0 then posP (V o - C) else 0) = (if aflI z (gM z t j) = 0 then posP (V j - C) else 0) := hg
  rw [if_pos (rail_nfl hw t o1 o2), if_pos ha] at hg
  have h1 := hr o o1 o2
  unfold posP at hg
  split at hg <;> split at hg <;> omega
theorem ntC_neg (z : xC) (t : Int32) (V : Nat → Int) (j : Nat) : ntC z t (fun i => -V i) j = -ntC z t V j := by
  rw [ntC, ntC]
  refine sumI_neg _ (fun e _ => ?_)
  have e1 : dV z (fun i => -V i) e = -dV z V e := by
    show -V (cA z e) - -V (cB z e) = -(V (cA z e) - V (cB z e))
    omega
  rw [e1]
  split <;> split <;> grind
theorem mn_gen {z : xC} (hw : wf z) {t : Int32} {V : Nat → Int} {C : Int} (hr : ∀ o, o < nN z → ¬ nR z o = 0 → C ≤ V o) (hn : ∀ j, j < nN z → aflI z (gM z t j) = 0 → nR z j = 0 → ntC z t V j = 0) {j : Nat} (hj : j < nN z) (ha : aflI z (gM z t j) = 0) : C ≤ V j := by
  have h := mx_gen hw (t := t) (V := fun i => -V i) (C := -C) (fun o h1 h2 => by have := hr o h1 h2; show -V o ≤ -C; omega) (fun i h1 h2 h3 => by rw [ntC_neg, hn i h1 h2 h3]; rfl) hj ha
  have h : -V j ≤ -C := h
  omega
theorem sIn_0 {z : xC} {t : Int32} (h : ∀ e, e < nE z → ¬ eS z e = 0 → (eZ z e).toInt = 0) (j : Nat) : sIn z t j = 0 := by
  rw [sIn]
  refine sumI_0 _ (fun e he => ?_)
  have : iZ z t e = 0 := by
    rw [iZ]
    split
    · rename_i c; exact h e he c.1
    · rfl
  rw [this]
  split <;> split <;> rfl
/-- without sources each potential lies between the rails -/
theorem pot_in {z : xC} (hw : wf z) (t : Int32) (h : ∀ e, e < nE z → ¬ eS z e = 0 → (eZ z e).toInt = 0) {lo hi : Int} (hr : ∀ o, o < nN z → ¬ nR z o = 0 → lo ≤ (nP z o).toInt ∧ (nP z o).toInt ≤ hi) {j : Nat} (hj : j < nN z) (ha : aflI z (gM z t j) = 0) : lo * (den z t).toInt ≤ (num z t j).toInt ∧ (num z t j).toInt ≤ hi * (den z t).toInt := by
  have hp := uD_pos hw t
  have hn : ∀ j, j < nN z → aflI z (gM z t j) = 0 → nR z j = 0 → ntC z t (uV z t) j = 0 := fun j h1 h2 h3 => by rw [kcl_u hw t h1 h2 h3, sIn_0 h, Int.mul_zero]
  rw [de_V hw, nu_V hw t hj]
  exact ⟨mn_gen hw (fun o h1 h2 => by rw [uV_r hw t h1 h2]; exact Int.mul_le_mul_of_nonneg_right (hr o h1 h2).1 (by omega)) hn hj ha,
    mx_gen hw (fun o h1 h2 => by rw [uV_r hw t h1 h2]; exact Int.mul_le_mul_of_nonneg_right (hr o h1 h2).2 (by omega)) hn hj ha⟩
/-! feeds -/
def chF (z : xC) (t : Int32) (j : Nat) : Int := if aflI z (gM z t j) = 0 then 1 else 0
/-- what elements take out of the node j, times the denominator -/
def outF (z : xC) (t : Int32) (j : Nat) : Int := ntC z t (uV z t) j - uD z t * sIn z t j
theorem feed_sum {z : xC} (hw : wf z) (t : Int32) : sumI (nN z) (fun j => if nR z j = 0 then 0 else outF z t j) = uD z t * sumI (nE z) (fun e => dV z (chF z t) e * iZ z t e) := by
  have e1 : sumI (nN z) (fun j => if nR z j = 0 then 0 else outF z t j) = sumI (nN z) (fun j => chF z t j * ntC z t (uV z t) j - uD z t * (chF z t j * sIn z t j)) := sumI_congr _ (fun j hj => by
    by_cases r : nR z j = 0
    · rw [if_pos r, chF]
      by_cases a : aflI z (gM z t j) = 0
      · rw [if_pos a, kcl_u hw t hj a r]; grind
      · rw [if_neg a]; grind
    · rw [if_neg r, chF, if_pos (rail_nfl hw t hj r), outF]; grind)
  have e2 : enC z t (chF z t) (uV z t) = 0 := sumI_0 _ (fun e he => by
    by_cases c : cnd z t e
    · have : dV z (chF z t) e = 0 := by
        rw [dV, chF, chF, gM_edge hw he c, Int.sub_self]
      rw [this, Int.zero_mul, Int.mul_zero]
    · rw [(cZ_nn hw t he).2.2 c, Int.zero_mul])
  rw [e1, sI_sub, en_net hw, e2, sI_mul, src_net hw]
  grind
theorem fl_V {z : xC} (hw : wf z) (t : Int32) {i : Nat} (hi : i < nE z) {j : Nat} (hon : ¬ onI z i t = 0) : (flw z (num z t) (den z t) i j).toInt = (if cA z i = j then cZ z t i * dV z (uV z t) i else 0) + (if cB z i = j then -(cZ z t i * dV z (uV z t) i) else 0) - uD z t * ((if cA z i = j then -iZ z t i else 0) + (if cB z i = j then iZ z t i else 0)) := by
  have hK : mxK = 124500000000000 := rfl
  have ha := nu_I hw t (hw.a8 hi)
  have hb := nu_I hw t (hw.b8 hi)
  have hd := de_I hw t
  have hab : cA z i ≠ cB z i := (hw.el hi).2.2.2.2.1
  have hx : ∀ x : Int64, x.toInt.natAbs ≤ 1782 * mxK → (-x).toInt = -x.toInt := fun x h => by
    rw [Int64.toInt_neg, Int.bmod_eq_of_le (by omega) (by omega)]
  have hc : (if eS z i = 0 then (eZ z i).toInt64 * (num z t (cA z i) - num z t (cB z i)) else (eZ z i).toInt64 * den z t).toInt = cZ z t i * dV z (uV z t) i + uD z t * iZ z t i ∧ ((if eS z i = 0 then (eZ z i).toInt64 * (num z t (cA z i) - num z t (cB z i)) else (eZ z i).toInt64 * den z t).toInt).natAbs ≤ 1782 * mxK := by
    by_cases s : eS z i = 0
    · have hz := el_con hw hi s
      have h3 : ((eZ z i).toInt * ((num z t (cA z i)).toInt - (num z t (cB z i)).toInt)).natAbs ≤ 9 * (198 * mxK) := by
        rw [Int.natAbs_mul]
        exact Nat.mul_le_mul (by omega) (by omega)
      rw [if_pos s, Int64.toInt_mul, Int64.toInt_sub, Int32.toInt_toInt64, Int.bmod_eq_of_le (n := (num z t (cA z i)).toInt - (num z t (cB z i)).toInt) (by omega) (by omega), Int.bmod_eq_of_le (by omega) (by omega)]
      refine ⟨?_, by omega⟩
      rw [nu_V hw t (hw.a8 hi), nu_V hw t (hw.b8 hi), cZ, if_pos ⟨s, hon⟩, iZ, if_neg (fun q => q.1 s), dV]
      grind
    · have hz := el_src hw hi s
      have h3 : ((eZ z i).toInt * (den z t).toInt).natAbs ≤ 99 * mxK := by
        rw [Int.natAbs_mul]
        exact Nat.mul_le_mul (by omega) (by omega)
      rw [if_neg s, Int64.toInt_mul, Int32.toInt_toInt64, Int.bmod_eq_of_le (by omega) (by omega)]
      refine ⟨?_, by omega⟩
      rw [de_V hw, cZ, if_neg (fun q => s q.1), iZ, if_pos ⟨s, hon⟩]
      grind
  rw [flw]
  by_cases h1 : j = cA z i
  · rw [if_neg (fun q => q.1 h1), if_pos h1, if_pos h1.symm, if_pos h1.symm, if_neg (show ¬ cB z i = j from fun q => hab (h1.symm.trans q.symm)), if_neg (show ¬ cB z i = j from fun q => hab (h1.symm.trans q.symm)), hc.1]
    grind
  · by_cases h2 : j = cB z i
    · rw [if_neg (fun q => q.2 h2), if_neg h1, if_neg (show ¬ cA z i = j from fun q => h1 q.symm), if_neg (show ¬ cA z i = j from fun q => h1 q.symm), if_pos h2.symm, if_pos h2.symm, hx _ hc.2, hc.1]
      grind
    · rw [if_pos ⟨h1, h2⟩, if_neg (show ¬ cA z i = j from fun q => h1 q.symm), if_neg (show ¬ cA z i = j from fun q => h1 q.symm), if_neg (show ¬ cB z i = j from fun q => h2 q.symm), if_neg (show ¬ cB z i = j from fun q => h2 q.symm), i64_0]
      grind
theorem fd_V {z : xC} (hw : wf z) (t : Int32) (j : Nat) : (fdS z t (num z t) (den z t) j (nE z)).toInt = outF z t j := by
  have key : ∀ i, i ≤ nE z → (fdS z t (num z t) (den z t) j i).toInt = sumI i (fun e => (if cA z e = j then cZ z t e * dV z (uV z t) e else 0) + (if cB z e = j then -(cZ z t e * dV z (uV z t) e) else 0)) - uD z t * sumI i (fun e => (if cA z e = j then -iZ z t e else 0) + (if cB z e = j then iZ z t e else 0)) := by
    intro i
    induction i with
    | zero => intro _; show ((0 : Int64).toInt) = 0 - uD z t * 0; rw [i64_0]; omega
    | succ i ih =>
      intro hi
      have ih := ih (by omega)
      have hE := hw.E
      have hK : mxK = 124500000000000 := rfl
      rw [sumI, sumI]
      by_cases c : onI z i t = 0
      · rw [fdS_0 c, ih, cZ, if_neg (show ¬ (eS z i = 0 ∧ ¬ onI z i t = 0) from fun q => q.2 c), iZ, if_neg (show ¬ (¬ eS z i = 0 ∧ ¬ onI z i t = 0) from fun q => q.2 c)]
        split <;> split <;> grind
      · have hf := fl_I hw t (i := i) (by omega) j
        have hg := fd_I hw t j i (by omega)
        rw [fdS_1 c, Int64.toInt_add, Int.bmod_eq_of_le (by omega) (by omega), ih, fl_V hw t (by omega) c]
        generalize sumI i _ = A
        generalize sumI i _ = B
        grind
  exact key (nE z) (Nat.le_refl _)
