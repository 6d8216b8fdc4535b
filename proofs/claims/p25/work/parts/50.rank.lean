/-! how far a node is from a set, through what conducts -/
def rch (z : xC) (t : Int32) (S : Nat → Prop) : Nat → Nat → Prop
  | 0, v => S v
  | k + 1, v => rch z t S k v ∨ ∃ e, e < nE z ∧ cnd z t e ∧ ((cA z e = v ∧ rch z t S k (cB z e)) ∨ (cB z e = v ∧ rch z t S k (cA z e)))
theorem ex_mask (P : Nat → Prop) : ∀ n : Nat, ∃ S : Nat, ∀ k, k < n → (S.testBit k = true ↔ P k)
  | 0 => ⟨0, fun k h => absurd h (Nat.not_lt_zero _)⟩
  | n + 1 => by
    obtain ⟨S, h⟩ := ex_mask P n
    by_cases c : S.testBit n = true ↔ P n
    · refine ⟨S, fun k hk => ?_⟩
      by_cases e : k = n
      · rw [e]; exact c
      · exact h k (by omega)
    · refine ⟨S ^^^ 2 ^ n, fun k hk => ?_⟩
      rw [Nat.testBit_xor, Nat.testBit_two_pow]
      by_cases e : k = n
      · subst e
        by_cases p : P k
        · have : S.testBit k = false := by
            cases q : S.testBit k
            · rfl
            · exact absurd ⟨fun _ => p, fun _ => q⟩ c
          simp [this, p]
        · have : S.testBit k = true := by
            cases q : S.testBit k
            · exact absurd (Iff.intro (fun g => absurd (q.symm.trans g) (by decide)) (fun g => absurd g p)) c
            · rfl
          simp [this, p]
      · have e' : ¬ n = k := fun g => e g.symm
        simp [e']
        exact h k (by omega)
theorem rch_up {z : xC} {t : Int32} {S : Nat → Prop} {v k : Nat} (h : rch z t S k v) : rch z t S (k + 1) v := Or.inl h
/-- whoever hangs together with one of the set is reached -/
theorem rch_ex {z : xC} (hw : wf z) {t : Int32} {S : Nat → Prop} {j o : Nat} (hj : j < 8) (ho : o < 8) (hS : S o) (h : (gM z t o).testBit j = true) : ∃ k, rch z t S k j := by
  have hN := hw.N
  obtain ⟨B, hB⟩ := ex_mask (fun v => ∃ k, rch z t S k v) 8
  refine (hB j hj).mp (gM_min hw ho (S := B) (fun e he hc => ?_) ((hB o ho).mpr ⟨0, hS⟩) hj h)
  have ha : cA z e < nN z := hw.a8 he
  have hb : cB z e < nN z := hw.b8 he
  rw [hB _ (by omega), hB _ (by omega)]
  constructor
  · rintro ⟨k, hk⟩
    exact ⟨k + 1, Or.inr ⟨e, he, hc, Or.inr ⟨rfl, hk⟩⟩⟩
  · rintro ⟨k, hk⟩
    exact ⟨k + 1, Or.inr ⟨e, he, hc, Or.inl ⟨rfl, hk⟩⟩⟩
theorem least_ex {P : Nat → Prop} : ∀ n, P n → ∃ k, P k ∧ ∀ l, l < k → ¬ P l := by
  intro n
  induction n using Nat.strongRecOn with
  | ind n ih =>
    intro h
    by_cases c : ∃ l, l < n ∧ P l
    · obtain ⟨l, h1, h2⟩ := c
      exact ih l h1 h2
    · exact ⟨n, h, fun l h1 h2 => c ⟨l, h1, h2⟩⟩
/-- a node not in the set that is reached has a neighbour that is nearer -/
theorem rch_nb {z : xC} {t : Int32} {S : Nat → Prop} {v : Nat} (h : ∃ k, rch z t S k v) (hv : ¬ S v) : ∃ k, rch z t S (k + 1) v ∧ ¬ rch z t S k v ∧ ∃ e, e < nE z ∧ cnd z t e ∧ ((cA z e = v ∧ rch z t S k (cB z e)) ∨ (cB z e = v ∧ rch z t S k (cA z e))) := by
  obtain ⟨n, hn⟩ := h
  obtain ⟨k, h1, h2⟩ := least_ex (P := fun k => rch z t S k v) n hn
  cases k with
  | zero => exact absurd h1 hv
  | succ k =>
    have h3 := h2 k (Nat.lt_succ_self _)
    rcases (show rch z t S k v ∨ _ from h1) with g | g
    · exact absurd g h3
    · exact ⟨k, h1, h3, g⟩
