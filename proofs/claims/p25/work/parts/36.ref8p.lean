/-! the reference's writers keep what stands; the least toggle's range -/
def fmP (t : Nat) (f : Int32) : Prop := f = -1 ∨ ∃ k, t < k ∧ k ≤ 999 ∧ f = nI k
theorem fmI_P {z : xC} {t i : Nat} (ht : t ≤ 999) (hi : tmOk z i) {f : Int32} (hf : fmP t f) : ∀ k, k ≤ cT z i → fmP t (fmI z (nI t) i f k)
  | 0, _ => hf
  | k + 1, hk => by
    have ih := fmI_P ht hi hf k (by omega)
    rw [fmI]
    split
    · rename_i h
      have h1 := hi.1 k (by omega)
      have hp : ¬ tT z (6 * i + k) < 0 := fun h => by
        have a := Int32.le_iff_toInt_le.mp h1.1
        have b := Int32.lt_iff_toInt_lt.mp h
        have : (nI 1).toInt = 1 := by decide
        have : (0 : Int32).toInt = 0 := by decide
        omega
      obtain ⟨j, hj, e⟩ := nI_of2 (n := 999) (M := nI 999) (by decide) hp h1.2
      rw [e] at h ⊢
      exact Or.inr ⟨j, (nI_ltI (by omega) (by omega)).mp h.1, hj, rfl⟩
    · exact ih
theorem ft_P {z : xC} (hw : wf z) {t : Nat} (ht : t ≤ 999) : fmP t (ftS z (nI t) (nE z)) := by
  have key : ∀ i, i ≤ nE z → fmP t (fmS z (nI t) i) := by
    intro i
    induction i with
    | zero => intro _; exact Or.inl rfl
    | succ i ih =>
      intro h
      exact fmI_P ht (hw.el (i := i) (by omega)).2.2.2.2.2.2.1 (ih (by omega)) _ (Nat.le_refl _)
  rw [← (fm_ft hw ht _ (Nat.le_refl _)).1]
  exact key _ (Nat.le_refl _)
theorem rq_eO {z w : xC} (h : Rq z w) (j : Nat) (b : Int32) : Rq (s_eO z (upd (eO z) j b)) (s_eO w (upd (eO w) j b)) := by
  refine ⟨h.1, h.2.1, h.2.2.1, fun i hi => ?_⟩
  obtain ⟨h1, h2, h3, h4, h5, h6⟩ := h.2.2.2 i hi
  refine ⟨h1, h2, h3, h4, ?_, h6⟩
  show upd (eO w) j b i = upd (eO z) j b i
  unfold upd
  split
  · rfl
  · exact h5
theorem rq_eZ {z w : xC} (h : Rq z w) (j : Nat) (b : Int32) : Rq (s_eZ z (upd (eZ z) j b)) (s_eZ w (upd (eZ w) j b)) := by
  refine ⟨h.1, h.2.1, h.2.2.1, fun i hi => ?_⟩
  obtain ⟨h1, h2, h3, h4, h6⟩ := h.2.2.2 i hi
  refine ⟨h1, h2, h3, ?_, h6⟩
  show upd (eZ w) j b i = upd (eZ z) j b i
  unfold upd
  split
  · rfl
  · exact h4
theorem rq_rail {z w : xC} (h : Rq z w) (j : Nat) (b p : Int32) : Rq (zRail z j b p) (s_nP (s_nR w (upd (nR w) j b)) (upd (nP w) j p)) := by
  refine ⟨h.1, h.2.1, fun i hi => ?_, h.2.2.2⟩
  obtain ⟨h1, h2⟩ := h.2.2.1 i hi
  show upd (nR w) j b i = upd (nR z) j b i ∧ (¬ upd (nR z) j b i = 0 → upd (nP w) j p i = upd (nP z) j (if b = 0 then nI 0 else p) i)
  unfold upd
  by_cases e : i = j
  · rw [if_pos e, if_pos e, if_pos e, if_pos e]
    exact ⟨rfl, fun g => by rw [if_neg g]⟩
  · rw [if_neg e, if_neg e, if_neg e, if_neg e]
    exact ⟨h1, h2⟩
theorem rq_node {z w : xC} (h : Rq z w) : Rq (zAddNode z) (s_nN (s_nR w (upd (nR w) (nN z) 0)) (nN z + 1)) := by
  refine ⟨rfl, h.2.1, fun i hi => ?_, h.2.2.2⟩
  show upd (nR w) (nN z) 0 i = upd (nR z) (nN z) 0 i ∧ (¬ upd (nR z) (nN z) 0 i = 0 → nP w i = upd (nP z) (nN z) 0 i)
  have hi' : i < nN z + 1 := hi
  unfold upd
  by_cases e : i = nN z
  · rw [if_pos e, if_pos e, if_pos e]
    exact ⟨rfl, fun g => absurd rfl g⟩
  · rw [if_neg e, if_neg e, if_neg e]
    exact h.2.2.1 i (by omega)
