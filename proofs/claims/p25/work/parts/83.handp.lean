/-! the law's own circuit: rows of ints; when an element is on, what hangs together -/
/-- how many of the first n times of a row are not behind t -/
def ctH (f : Nat → Int32) (t : Int32) : Nat → Nat
  | 0 => 0
  | k + 1 => if f (5 + k) ≤ t then ctH f t k + 1 else ctH f t k
theorem ctH_1 {f : Nat → Int32} {t : Int32} {k : Nat} (h : f (5 + k) ≤ t) : ctH f t (k + 1) = ctH f t k + 1 := by rw [ctH, if_pos h]
theorem ctH_0 {f : Nat → Int32} {t : Int32} {k : Nat} (h : ¬ f (5 + k) ≤ t) : ctH f t (k + 1) = ctH f t k := by rw [ctH, if_neg h]
theorem ctH_le (f : Nat → Int32) (t : Int32) : ∀ k, ctH f t k ≤ k
  | 0 => Nat.le_refl _
  | k + 1 => by
    have := ctH_le f t k
    rw [ctH]
    split <;> omega
/-- on after k of its times -/
def hoS (f : Nat → Int32) (t : Int32) : Nat → Int32
  | 0 => if f 4 = nI 1 then nI 1 else nI 0
  | k + 1 => if f (5 + k) ≤ t then (if hoS f t k = 0 then nI 1 else nI 0) else hoS f t k
theorem hoS_1 {f : Nat → Int32} {t : Int32} {k : Nat} (h : f (5 + k) ≤ t) : hoS f t (k + 1) = if hoS f t k = 0 then nI 1 else nI 0 := by rw [hoS, if_pos h]
theorem hoS_0 {f : Nat → Int32} {t : Int32} {k : Nat} (h : ¬ f (5 + k) ≤ t) : hoS f t (k + 1) = hoS f t k := by rw [hoS, if_neg h]
theorem hoS_01 (f : Nat → Int32) (t : Int32) : ∀ k, hoS f t k = 0 ∨ hoS f t k = 1
  | 0 => by
    rw [hoS]
    split
    · exact Or.inr rfl
    · exact Or.inl rfl
  | k + 1 => by
    rw [hoS]
    split
    · split
      · exact Or.inr rfl
      · exact Or.inl rfl
    · exact hoS_01 f t k
theorem hoS_ct (f : Nat → Int32) (t : Int32) : ∀ k, hoS f t k = if ctH f t k % 2 = 0 then (if f 4 = nI 1 then nI 1 else nI 0) else (if f 4 = nI 1 then nI 0 else nI 1)
  | 0 => rfl
  | k + 1 => by
    have ih := hoS_ct f t k
    have h01 : ¬ (nI 1 : Int32) = 0 := by decide
    have h00 : (nI 0 : Int32) = 0 := by decide
    by_cases h : f (5 + k) ≤ t
    · rw [hoS_1 h, ctH_1 h, ih]
      by_cases p : ctH f t k % 2 = 0
      · rw [if_pos p, if_neg (show ¬ (ctH f t k + 1) % 2 = 0 by omega)]
        by_cases q : f 4 = nI 1
        · rw [if_pos q, if_pos q, if_neg h01]
        · rw [if_neg q, if_neg q, if_pos h00]
      · rw [if_neg p, if_pos (show (ctH f t k + 1) % 2 = 0 by omega)]
        by_cases q : f 4 = nI 1
        · rw [if_pos q, if_pos q, if_pos h00]
        · rw [if_neg q, if_neg q, if_neg h01]
    · rw [hoS_0 h, ctH_0 h, ih]
/-- the law's rows stand for the circuit -/
def Rh (z : xC) (nr : Nat) (hr : Nat → Int32) (ne : Nat) (hk : Nat → Nat) (hw : Nat → Nat → Int32) : Prop :=
  nr = nN z ∧ ne = nE z ∧ (∀ j, j < nN z → hr j = if nR z j = 0 then nI 100 else nP z j) ∧
  ∀ e, e < nE z → hw e 0 = eS z e ∧ hw e 1 = eA z e ∧ hw e 2 = eB z e ∧ hw e 4 = eO z e ∧ hk e = 5 + cT z e ∧ ∀ τ, τ ≤ 999 → ctH (hw e) (nI τ) (cT z e) = tb z e (nI τ + nI 1) (cT z e)
section RH
variable {z : xC} {nr : Nat} {hr : Nat → Int32} {ne : Nat} {hk : Nat → Nat} {hw : Nat → Nat → Int32}
theorem Rh.on (h : Rh z nr hr ne hk hw) (w : wf z) {e τ : Nat} (he : e < nE z) (ht : τ ≤ 999) : hoS (hw e) (nI τ) (cT z e) = onI z e (nI τ) := by
  obtain ⟨-, -, -, h4, -, h6⟩ := h.2.2.2 e he
  have h6 := h6 τ ht
  rw [hoS_ct, h6, h4, onI]
  have h10 : ¬ (nI 1 : Int32) = nI 0 := by decide
  rcases w.o he with q | q <;> rw [q] <;> by_cases p : tb z e (nI τ + nI 1) (cT z e) % 2 = 0
  · rw [if_pos p, if_pos p] <;> decide
  · rw [if_neg p, if_neg p] <;> decide
  · rw [if_pos p, if_pos p] <;> decide
  · rw [if_neg p, if_neg p] <;> decide
theorem Rh.rl (h : Rh z nr hr ne hk hw) (w : wf z) {j : Nat} (hj : j < nN z) : hr j < nI 100 ↔ ¬ nR z j = 0 := by
  have h1 := h.2.2.1 j hj
  have hr2 := (w.2.2.1 j hj).1
  by_cases q : nR z j = 0
  · rw [h1, if_pos q]
    exact ⟨fun k => absurd k (by decide), fun k => absurd q k⟩
  · rw [h1, if_neg q]
    have h2 := (w.2.2.1 j hj).2 (by rcases hr2 with g | g; exact absurd g q; exact g)
    refine ⟨fun _ => q, fun _ => ?_⟩
    rw [Int32.lt_iff_toInt_lt]
    have : (nI 100).toInt = 100 := by decide
    omega
end RH
/-! what hangs together, found by rounds -/
def wyE (z : xC) (t : Int32) (g : Nat → Int32) : Nat → Nat → Int32
  | 0 => g
  | e + 1 => if (eS z e = 0 ∧ ¬ onI z e t = 0) ∧ ¬ wyE z t g e (cA z e) = wyE z t g e (cB z e) then upd (upd (wyE z t g e) (cA z e) (nI 1)) (cB z e) (nI 1) else wyE z t g e
theorem wyE_1 {z : xC} {t : Int32} {g : Nat → Int32} {e : Nat} (h : cnd z t e) (h2 : ¬ wyE z t g e (cA z e) = wyE z t g e (cB z e)) : wyE z t g (e + 1) = upd (upd (wyE z t g e) (cA z e) (nI 1)) (cB z e) (nI 1) := by rw [wyE, if_pos ⟨h, h2⟩]
theorem wyE_0 {z : xC} {t : Int32} {g : Nat → Int32} {e : Nat} (h : ¬ cnd z t e ∨ wyE z t g e (cA z e) = wyE z t g e (cB z e)) : wyE z t g (e + 1) = wyE z t g e := by rw [wyE, if_neg (fun q => by rcases h with h | h; exact h q.1; exact q.2 h)]
def wyR (z : xC) (t : Int32) (a : Nat) : Nat → Nat → Int32
  | 0 => upd (fun _ => nI 0) a (nI 1)
  | r + 1 => wyE z t (wyR z t a r) (nE z)
/-- a mask as a row -/
def msk (M : Nat) : Nat → Int32 := fun j => if M.testBit j = true then nI 1 else nI 0
theorem msk_1 {M j : Nat} : msk M j = nI 1 ↔ M.testBit j = true := by
  unfold msk
  by_cases h : M.testBit j = true
  · rw [if_pos h]; exact ⟨fun _ => h, fun _ => rfl⟩
  · rw [if_neg h]; exact ⟨fun q => absurd q (by decide), fun q => absurd q h⟩
theorem msk_eq {M i j : Nat} : msk M i = msk M j ↔ (M.testBit i = true ↔ M.testBit j = true) := by
  unfold msk
  cases M.testBit i <;> cases M.testBit j <;> decide
theorem msk_up (M a b : Nat) : upd (upd (msk M) a (nI 1)) b (nI 1) = msk (M ||| (2 ^ a ||| 2 ^ b)) := by
  funext j
  unfold msk upd
  rw [Nat.testBit_or, Nat.testBit_or, Nat.testBit_two_pow, Nat.testBit_two_pow]
  by_cases hb : j = b
  · subst hb
    rw [if_pos rfl]
    simp
  · rw [if_neg hb]
    by_cases ha : j = a
    · subst ha
      rw [if_pos rfl]
      simp
    · rw [if_neg ha]
      have h1 : ¬ a = j := fun e => ha e.symm
      have h2 : ¬ b = j := fun e => hb e.symm
      simp [h1, h2]
theorem wy_cl (z : xC) (t : Int32) (M : Nat) : ∀ e, wyE z t (msk M) e = msk (clS z t M e)
  | 0 => rfl
  | e + 1 => by
    have ih := wy_cl z t M e
    have ih' : ∀ j, wyE z t (msk M) e j = msk (clS z t M e) j := fun j => congrFun ih j
    by_cases c : cnd z t e
    · by_cases h : wyE z t (msk M) e (cA z e) = wyE z t (msk M) e (cB z e)
      · rw [wyE_0 (Or.inr h), ih]
        rw [ih', ih', msk_eq, ← bt_1, ← bt_1] at h
        by_cases q : clS z t M e / 2 ^ cA z e % 2 = 1 ∨ clS z t M e / 2 ^ cB z e % 2 = 1
        · have q2 : clS z t M e / 2 ^ cA z e % 2 = 1 ∧ clS z t M e / 2 ^ cB z e % 2 = 1 := by
            rcases q with q | q
            · exact ⟨q, h.mp q⟩
            · exact ⟨h.mpr q, q⟩
          rw [clS_1 ⟨c, q⟩, ← msk_up]
          funext j
          unfold upd
          by_cases hb : j = cB z e
          · rw [if_pos hb, hb, msk_1.mpr (bt_1.mp q2.2)]
          · rw [if_neg hb]
            by_cases ha : j = cA z e
            · rw [if_pos ha, ha, msk_1.mpr (bt_1.mp q2.1)]
            · rw [if_neg ha]
        · rw [clS_0 (fun g => q g.2)]
      · rw [wyE_1 c h, ih, msk_up]
        rw [ih', ih', msk_eq, ← bt_1, ← bt_1] at h
        rw [clS_1 ⟨c, by
          by_cases p : clS z t M e / 2 ^ cA z e % 2 = 1
          · exact Or.inl p
          · by_cases p2 : clS z t M e / 2 ^ cB z e % 2 = 1
            · exact Or.inr p2
            · exact absurd ⟨fun g => absurd g p, fun g => absurd g p2⟩ h⟩]
    · rw [wyE_0 (Or.inl c), ih, clS_0 (fun g => c g.1)]
/-- the masks of the rounds -/
def wyM (z : xC) (t : Int32) (a : Nat) : Nat → Nat
  | 0 => 2 ^ a
  | r + 1 => clS z t (wyM z t a r) (nE z)
theorem wyR_M (z : xC) (t : Int32) (a : Nat) : ∀ r, wyR z t a r = msk (wyM z t a r)
  | 0 => by
    funext j
    show upd (fun _ => nI 0) a (nI 1) j = msk (2 ^ a) j
    unfold msk upd
    rw [Nat.testBit_two_pow]
    by_cases h : j = a
    · rw [if_pos h, h]; simp
    · rw [if_neg h]
      have h1 : ¬ a = j := fun e => h e.symm
      simp [h1]
  | r + 1 => by rw [wyR, wyR_M z t a r, wy_cl]; rfl
section WY
variable {z : xC} {t : Int32} {a : Nat}
theorem wyM_lt (w : wf z) (ha : a < nN z) : ∀ r, wyM z t a r < 256
  | 0 => m_pw8 (by have := w.N; omega)
  | r + 1 => cl_lt w t (wyM_lt w ha r) (nE z) (Nat.le_refl _)
theorem wyM_self : ∀ r, (wyM z t a r).testBit a = true
  | 0 => by show (2 ^ a).testBit a = true; rw [Nat.testBit_two_pow]; simp
  | r + 1 => (cl_ge z t (wyM z t a r) (nE z)).2 a (wyM_self r)
theorem wyM_sub (w : wf z) (ha : a < nN z) : ∀ r k, k < 8 → (wyM z t a r).testBit k = true → (gM z t a).testBit k = true
  | 0, k, hk, h => by rw [← bt_pw h]; exact gM_self w t (by have := w.N; omega)
  | r + 1, k, hk, h => cl_sub w (by have := w.N; omega) (wyM_sub w ha r) (nE z) (Nat.le_refl _) k hk h
/-- what hangs together with a node is a node -/
theorem gM_nd (w : wf z) (ha : a < nN z) {k : Nat} (hk : k < 8) (h : (gM z t a).testBit k = true) : k < nN z := by
  have hN := w.N
  obtain ⟨S, hS⟩ := ex_mask (fun v => v < nN z) 8
  refine (hS k hk).mp (gM_min w (by omega) (S := S) (fun e he hc => ?_) ((hS a (by omega)).mpr ha) hk h)
  have h1 := w.a8 he
  have h2 := w.b8 he
  rw [hS _ (by omega), hS _ (by omega)]
  exact ⟨fun _ => h2, fun _ => h1⟩
def wyC (z : xC) (t : Int32) (a r : Nat) : Nat := sumN (nN z) (fun j => if (wyM z t a r).testBit j = true then 1 else 0)
theorem wyC_up (w : wf z) (ha : a < nN z) {r : Nat} (h : ¬ wyM z t a (r + 1) = wyM z t a r) : wyC z t a r < wyC z t a (r + 1) := by
  have hN := w.N
  have hg := cl_ge z t (wyM z t a r) (nE z)
  have hex : ∃ k, k < 8 ∧ (wyM z t a (r + 1)).testBit k = true ∧ ¬ (wyM z t a r).testBit k = true := by
    apply Classical.byContradiction
    intro q
    apply h
    exact m8_eq (wyM_lt w ha (r + 1)) (wyM_lt w ha r) (fun k hk => ⟨fun g => Classical.byContradiction (fun g2 => q ⟨k, hk, g, g2⟩), fun g => hg.2 k g⟩)
  obtain ⟨k, hk, h1, h2⟩ := hex
  refine sN_lt (i := k) (nN z) (gM_nd w ha hk (wyM_sub w ha (r + 1) k hk h1)) (fun j _ => ?_) ?_
  · by_cases q : (wyM z t a r).testBit j = true
    · rw [if_pos q, if_pos (show (wyM z t a (r + 1)).testBit j = true from hg.2 j q)]; exact Nat.le_refl _
    · rw [if_neg q]; exact Nat.zero_le _
  · rw [if_neg h2, if_pos h1]; decide
theorem wy_fix (w : wf z) (ha : a < nN z) : ∀ r, (∃ q, q ≤ r ∧ wyM z t a (q + 1) = wyM z t a q) ∨ r + 1 < wyC z t a (r + 1)
  | 0 => by
    by_cases h : wyM z t a 1 = wyM z t a 0
    · exact Or.inl ⟨0, Nat.le_refl _, h⟩
    · refine Or.inr ?_
      have h1 := wyC_up w ha h
      have h2 : 1 ≤ wyC z t a 0 := by
        have h3 := sumN_ge (fun j => if (wyM z t a 0).testBit j = true then 1 else 0) (nN z) a ha
        have h4 : (if (wyM z t a 0).testBit a = true then 1 else 0) = 1 := if_pos (wyM_self 0)
        unfold wyC
        omega
      omega
  | r + 1 => by
    rcases wy_fix w ha r with ⟨q, h1, h2⟩ | h1
    · exact Or.inl ⟨q, by omega, h2⟩
    · by_cases h : wyM z t a (r + 1 + 1) = wyM z t a (r + 1)
      · exact Or.inl ⟨r + 1, Nat.le_refl _, h⟩
      · have := wyC_up w ha h
        exact Or.inr (by omega)
theorem wy_stay {q : Nat} (h : wyM z t a (q + 1) = wyM z t a q) : ∀ k, wyM z t a (q + k) = wyM z t a q
  | 0 => rfl
  | k + 1 => by
    have ih := wy_stay h k
    rw [← Nat.add_assoc]
    show clS z t (wyM z t a (q + k)) (nE z) = _
    rw [ih]
    exact h
theorem wyC_le : ∀ r, wyC z t a r ≤ nN z := fun r => by
  have : ∀ n, sumN n (fun j => if (wyM z t a r).testBit j = true then 1 else 0) ≤ n := fun n => by
    induction n with
    | zero => exact Nat.le_refl _
    | succ n ih => rw [sumN]; split <;> omega
  exact this _
theorem wy_end (w : wf z) (ha : a < nN z) {k : Nat} (hk : k < nN z) : wyR z t a (nN z) k = if (gM z t a).testBit k = true then nI 1 else nI 0 := by
  have hN := w.N
  obtain ⟨n, hn⟩ : ∃ n, nN z = n + 1 := ⟨nN z - 1, by omega⟩
  have hfix : wyM z t a (nN z) = gM z t a := by
    rcases wy_fix w ha n (t := t) with ⟨q, h1, h2⟩ | h1
    · have e : wyM z t a (nN z) = wyM z t a q := by
        have := wy_stay h2 (nN z - q)
        rw [show q + (nN z - q) = nN z by omega] at this
        exact this
      rw [e]
      exact cl_end w (by omega) (wyM_lt w ha q) h2 (wyM_self q) (wyM_sub w ha q)
    · have := wyC_le (z := z) (t := t) (a := a) (n + 1)
      omega
  rw [wyR_M, hfix]
  rfl
end WY
