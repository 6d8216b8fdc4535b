/-! the reference's equations at a time -/
def usS (z : xC) (t : Int32) : Nat → (Nat → Int32) × Nat
  | 0 => (fun _ => -1, 0)
  | i + 1 => if aflI z (gM z t i) = 0 ∧ nR z i = 0 then (upd (usS z t i).1 i (nI (usS z t i).2), (usS z t i).2 + 1) else usS z t i
theorem usS_1 {z : xC} {t : Int32} {i : Nat} (h1 : aflI z (gM z t i) = 0) (h2 : nR z i = 0) : usS z t (i + 1) = (upd (usS z t i).1 i (nI (usS z t i).2), (usS z t i).2 + 1) := by rw [usS, if_pos ⟨h1, h2⟩]
theorem usS_0 {z : xC} {t : Int32} {i : Nat} (h : ¬ (aflI z (gM z t i) = 0 ∧ nR z i = 0)) : usS z t (i + 1) = usS z t i := by rw [usS, if_neg h]
theorem us_le (z : xC) (t : Int32) : ∀ i, (usS z t i).2 ≤ i ∧ ((∃ j, j < i ∧ ¬ (aflI z (gM z t j) = 0 ∧ nR z j = 0)) → (usS z t i).2 + 1 ≤ i)
  | 0 => ⟨Nat.le_refl _, fun ⟨j, h, _⟩ => absurd h (Nat.not_lt_zero _)⟩
  | i + 1 => by
    obtain ⟨h1, h2⟩ := us_le z t i
    by_cases c : aflI z (gM z t i) = 0 ∧ nR z i = 0
    · rw [usS_1 c.1 c.2]
      refine ⟨Nat.succ_le_succ h1, fun ⟨j, hj, hn⟩ => Nat.succ_le_succ (h2 ⟨j, ?_, hn⟩)⟩
      rcases Nat.lt_or_ge j i with g | g
      · exact g
      · exact absurd c (by rw [show i = j by omega]; exact hn)
    · rw [usS_0 c]
      exact ⟨by omega, fun _ => by omega⟩
theorem us_pl (z : xC) (t : Int32) : ∀ i, plQ (usS z t i).1 (usS z t i).2
  | 0 => fun _ _ => Or.inl rfl
  | i + 1 => by
    have ih := us_pl z t i
    by_cases c : aflI z (gM z t i) = 0 ∧ nR z i = 0
    · rw [usS_1 c.1 c.2]
      intro j hj
      show upd _ _ _ j = -1 ∨ _
      by_cases e : j = i
      · exact Or.inr ⟨(usS z t i).2, Nat.lt_succ_self _, by simp [upd, e]⟩
      · rcases ih j hj with h | ⟨k, hk, h⟩
        · exact Or.inl (by simp [upd, e]; exact h)
        · exact Or.inr ⟨k, Nat.lt_succ_of_lt hk, by simp [upd, e]; exact h⟩
    · rw [usS_0 c]; exact ih
theorem aflB_ex {z : xC} {M : Nat} : ∀ n, aflB z M n = false → ∃ o, o < n ∧ ¬ nR z o = 0 ∧ ¬ M / 2 ^ o % 2 = 0
  | 0, h => by cases h
  | n + 1, h => by
    have h' : (aflB z M n && (nR z n == 0 || M / 2 ^ n % 2 == 0)) = false := h
    by_cases c : aflB z M n = true
    · rw [c] at h'
      refine ⟨n, Nat.lt_succ_self _, fun e => ?_, fun e => ?_⟩ <;> simp [e] at h'
    · obtain ⟨o, h1, h2⟩ := aflB_ex n (by simpa using c)
      exact ⟨o, by omega, h2⟩
theorem aflI_ex {z : xC} {M : Nat} (h : aflI z M = 0) : ∃ o, o < nN z ∧ ¬ nR z o = 0 ∧ ¬ M / 2 ^ o % 2 = 0 := by
  rw [aflI] at h
  by_cases c : aflB z M (nN z) = true
  · rw [if_pos c] at h; exact absurd h (by decide)
  · exact aflB_ex _ (by simpa using c)
def uP (z : xC) (t : Int32) : Nat → Int32 := (usS z t (nN z)).1
def uN (z : xC) (t : Int32) : Nat := (usS z t (nN z)).2
theorem uP_ok (z : xC) (t : Int32) : plQ (uP z t) (uN z t) := us_pl z t (nN z)
theorem uN_7 {z : xC} (hw : wf z) (t : Int32) : uN z t ≤ 7 := by
  have h := us_le z t (nN z)
  have hN := hw.N
  show (usS z t (nN z)).2 ≤ 7
  by_cases c : ∃ j, j < nN z ∧ ¬ (aflI z (gM z t j) = 0 ∧ nR z j = 0)
  · have := h.2 c; omega
  · rcases Nat.eq_zero_or_pos (nN z) with e | e
    · have := h.1; omega
    · have h0 : aflI z (gM z t 0) = 0 ∧ nR z 0 = 0 := Classical.byContradiction (fun g => c ⟨0, e, g⟩)
      obtain ⟨o, h1, h2, _⟩ := aflI_ex h0.1
      exact absurd (Classical.byContradiction (fun g => c ⟨o, h1, g⟩) : aflI z (gM z t o) = 0 ∧ nR z o = 0) (fun g => h2 g.2)
def frS (r : Nat → Int64) (p : Nat → Int32) (j : Nat) (x : Int64) : Nat → Int64 := if p j = -1 then r else vp_updL r (clN (p j)) (r (clN (p j)) - x)
def frA (r : Nat → Int64) (p : Nat → Int32) (j : Nat) (x : Int64) : Nat → Int64 := if p j = -1 then r else vp_updL r (clN (p j)) (r (clN (p j)) + x)
/-- the rows, and what is brought, after i elements -/
def asS (z w : xC) (t : Int32) : Nat → (Nat → Nat → Int64) × (Nat → Int64)
  | 0 => (fun _ _ => 0, fun _ => 0)
  | i + 1 => if onI z i t = 0 then asS z w t i else if eS z i = 0 then
      (lyM (lyM (asS z w t i).1 (uP z t) (cA z i) (cB z i) (eZ z i).toInt64) (uP z t) (cB z i) (cA z i) (eZ z i).toInt64,
       lyR (lyR (asS z w t i).2 (uP z t) (nP w) (cA z i) (cB z i) (eZ z i).toInt64) (uP z t) (nP w) (cB z i) (cA z i) (eZ z i).toInt64)
      else ((asS z w t i).1, frA (frS (asS z w t i).2 (uP z t) (cA z i) (eZ z i).toInt64) (uP z t) (cB z i) (eZ z i).toInt64)
theorem as_off {z w : xC} {t : Int32} {i : Nat} (h : onI z i t = 0) : asS z w t (i + 1) = asS z w t i := by rw [asS, if_pos h]
theorem as_con {z w : xC} {t : Int32} {i : Nat} (h : ¬ onI z i t = 0) (h2 : eS z i = 0) : asS z w t (i + 1) = 
      (lyM (lyM (asS z w t i).1 (uP z t) (cA z i) (cB z i) (eZ z i).toInt64) (uP z t) (cB z i) (cA z i) (eZ z i).toInt64,
       lyR (lyR (asS z w t i).2 (uP z t) (nP w) (cA z i) (cB z i) (eZ z i).toInt64) (uP z t) (nP w) (cB z i) (cA z i) (eZ z i).toInt64) := by rw [asS, if_neg h, if_pos h2]
theorem as_src {z w : xC} {t : Int32} {i : Nat} (h : ¬ onI z i t = 0) (h2 : ¬ eS z i = 0) : asS z w t (i + 1) = ((asS z w t i).1, frA (frS (asS z w t i).2 (uP z t) (cA z i) (eZ z i).toInt64) (uP z t) (cB z i) (eZ z i).toInt64) := by rw [asS, if_neg h, if_neg h2]
def aM (z w : xC) (t : Int32) : Nat → Nat → Int64 := (asS z w t (nE z)).1
def aR (z w : xC) (t : Int32) : Nat → Int64 := (asS z w t (nE z)).2
def deR (z w : xC) (t : Int32) : Int64 := dm (eQ (aM z w t) (aR z w t) (-1)) (uN z t) (2 ^ uN z t - 1)
def nuR (z w : xC) (t : Int32) (j : Nat) : Int64 := if aflI z (gM z t j) = 0 then (if nR z j = 0 then dm (eQ (aM z w t) (aR z w t) (uP z t j)) (uN z t) (2 ^ uN z t - 1) else (nP w j).toInt64 * deR z w t) else 0
theorem updL_to {f g : Nat → Int64} {i : Nat} {v : Int64} (h : ∀ j, j < i → f j = g j) (hv : v = g i) : ∀ j, j < i + 1 → vp_updL f i v j = g j := fun j hj => by
  by_cases e : j = i
  · subst e; simp [vp_updL, hv]
  · simp [vp_updL, e]; exact h j (by omega)
theorem upd_to {f g : Nat → Int32} {i : Nat} {v : Int32} (h : ∀ j, j < i → f j = g j) (hv : v = g i) : ∀ j, j < i + 1 → upd f i v j = g j := fun j hj => by
  by_cases e : j = i
  · subst e; simp [upd, hv]
  · simp [upd, e]; exact h j (by omega)
