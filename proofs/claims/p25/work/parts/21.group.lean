/-! what hangs together: the bench's merging and the reference's closure say the same -/
theorem bt_1 {M k : Nat} : M / 2 ^ k % 2 = 1 ↔ M.testBit k = true := by rw [Nat.testBit_eq_decide_div_mod_eq, decide_eq_true_iff]
theorem bt_0 {M k : Nat} : M / 2 ^ k % 2 = 0 ↔ M.testBit k = false := by
  rw [Nat.testBit_eq_decide_div_mod_eq, decide_eq_false_iff_not]
  omega
theorem jn_t {m : Nat → Nat} {S j : Nat} (h : S.testBit j = true) : joinF m S j = S := by
  unfold joinF
  rw [if_neg (fun e => by rw [bt_0.mp e] at h; cases h)]
theorem jn_f {m : Nat → Nat} {S j : Nat} (h : S.testBit j = false) : joinF m S j = m j := by
  unfold joinF
  rw [if_pos (bt_0.mpr h)]
def cnd (z : xC) (t : Int32) (e : Nat) : Prop := eS z e = 0 ∧ ¬ onI z e t = 0
theorem gp_y {z : xC} {t : Int32} {i : Nat} (h : cnd z t i) : gpS z t (i + 1) = joinF (gpS z t i) (gpS z t i (cA z i) ||| gpS z t i (cB z i)) := grp_3 h.1 h.2
theorem gp_n {z : xC} {t : Int32} {i : Nat} (h : ¬ cnd z t i) : gpS z t (i + 1) = gpS z t i := by
  show (if eS z i = 0 ∧ ¬ onI z i t = 0 then _ else _) = _
  exact if_neg h
theorem gp_all (z : xC) (hw : wf z) (t : Int32) : ∀ i, i ≤ nE z →
    (∀ j, j < 8 → (gpS z t i j).testBit j = true) ∧
    (∀ j, j < 8 → ∀ k, k < 8 → (gpS z t i j).testBit k = true → gpS z t i k = gpS z t i j) ∧
    (∀ e, e < i → cnd z t e → gpS z t i (cA z e) = gpS z t i (cB z e)) ∧
    ∀ j, j < 8 → ∀ S : Nat, (∀ e, e < i → cnd z t e → (S.testBit (cA z e) = true ↔ S.testBit (cB z e) = true)) → S.testBit j = true → ∀ k, k < 8 → (gpS z t i j).testBit k = true → S.testBit k = true := by
  intro i
  induction i with
  | zero =>
    intro _
    have h0 : ∀ j k : Nat, (2 ^ j).testBit k = true → j = k := fun j k h => by
      rw [Nat.testBit_two_pow] at h
      simpa using h
    refine ⟨fun j _ => ?_, fun j _ k _ h => ?_, fun e h => absurd h (Nat.not_lt_zero _), fun j _ S _ hS k _ h => ?_⟩
    · show (2 ^ j).testBit j = true
      exact Nat.testBit_two_pow_self
    · rw [h0 j k h]
    · rw [← h0 j k h]; exact hS
  | succ i ih =>
    intro hi
    obtain ⟨h1, h2, h3, h4⟩ := ih (by omega)
    have hN := hw.N
    by_cases hc : cnd z t i
    · have ha : cA z i < 8 := by have := hw.a8 (i := i) (by omega); omega
      have hb : cB z i < 8 := by have := hw.b8 (i := i) (by omega); omega
      rw [gp_y hc]
      generalize hSe : gpS z t i (cA z i) ||| gpS z t i (cB z i) = S
      generalize hme : gpS z t i = m at h1 h2 h3 h4 hSe
      have hS : ∀ k, S.testBit k = true ↔ (m (cA z i)).testBit k = true ∨ (m (cB z i)).testBit k = true := fun k => by
        rw [← hSe, Nat.testBit_or, Bool.or_eq_true]
      have hSa : S.testBit (cA z i) = true := (hS _).mpr (Or.inl (h1 _ ha))
      have hSb : S.testBit (cB z i) = true := (hS _).mpr (Or.inr (h1 _ hb))
      -- a node of S has the mask of a or of b
      have hmem : ∀ k, k < 8 → S.testBit k = true → m k = m (cA z i) ∨ m k = m (cB z i) := fun k hk h => by
        rcases (hS k).mp h with g | g
        · exact Or.inl (h2 _ ha k hk g)
        · exact Or.inr (h2 _ hb k hk g)
      have hsat : ∀ j, j < 8 → ∀ k, k < 8 → S.testBit k = true → (m j).testBit k = true → S.testBit j = true := fun j hj k hk hk2 hjk => by
        have e := h2 j hj k hk hjk
        have g := h1 j hj
        rw [← e] at g
        rcases hmem k hk hk2 with r | r
        · rw [r] at g; exact (hS j).mpr (Or.inl g)
        · rw [r] at g; exact (hS j).mpr (Or.inr g)
      refine ⟨fun j hj => ?_, fun j hj k hk h => ?_, fun e he hce => ?_, fun j hj S' hcl hj' k hk h => ?_⟩
      · by_cases c : S.testBit j = true
        · rw [jn_t c]; exact c
        · rw [jn_f (by simpa using c)]; exact h1 j hj
      · by_cases c : S.testBit j = true
        · rw [jn_t c] at h ⊢
          rw [jn_t h]
        · rw [jn_f (j := j) (by simpa using c)] at h ⊢
          by_cases ck : S.testBit k = true
          · exact absurd (hsat j hj k hk ck h) c
          · rw [jn_f (j := k) (by simpa using ck)]; exact h2 j hj k hk h
      · have hae : cA z e < 8 := by have := hw.a8 (i := e) (by omega); omega
        have hbe : cB z e < 8 := by have := hw.b8 (i := e) (by omega); omega
        by_cases ei : e = i
        · subst ei
          rw [jn_t hSa, jn_t hSb]
        · have e3 := h3 e (by omega) hce
          by_cases c : S.testBit (cA z e) = true
          · have c2 : S.testBit (cB z e) = true := by
              refine hsat (cB z e) hbe (cA z e) hae c ?_
              rw [← e3]; exact h1 _ hae
            rw [jn_t c, jn_t c2]
          · by_cases c2 : S.testBit (cB z e) = true
            · exact absurd (hsat (cA z e) hae (cB z e) hbe c2 (by rw [e3]; exact h1 _ hbe)) c
            · rw [jn_f (by simpa using c), jn_f (by simpa using c2), e3]
      · have hcl' : ∀ e, e < i → cnd z t e → (S'.testBit (cA z e) = true ↔ S'.testBit (cB z e) = true) := fun e he hce => hcl e (by omega) hce
        by_cases c : S.testBit j = true
        · rw [jn_t c] at h
          have hab := hcl i (Nat.lt_succ_self i) hc
          have both : S'.testBit (cA z i) = true ∧ S'.testBit (cB z i) = true := by
            rcases hmem j hj c with r | r
            · have g : S'.testBit (cA z i) = true := h4 j hj S' hcl' hj' _ ha (by rw [r]; exact h1 _ ha)
              exact ⟨g, hab.mp g⟩
            · have g : S'.testBit (cB z i) = true := h4 j hj S' hcl' hj' _ hb (by rw [r]; exact h1 _ hb)
              exact ⟨hab.mpr g, g⟩
          rcases (hS k).mp h with g | g
          · exact h4 _ ha S' hcl' both.1 k hk g
          · exact h4 _ hb S' hcl' both.2 k hk g
        · rw [jn_f (by simpa using c)] at h
          exact h4 j hj S' hcl' hj' k hk h
    · rw [gp_n hc]
      refine ⟨h1, h2, fun e he hce => ?_, fun j hj S' hcl hj' k hk h => h4 j hj S' (fun e he => hcl e (by omega)) hj' k hk h⟩
      by_cases ei : e = i
      · subst ei; exact absurd hce hc
      · exact h3 e (by omega) hce
theorem gM_self {z : xC} (hw : wf z) (t : Int32) {j : Nat} (hj : j < 8) : (gM z t j).testBit j = true := (gp_all z hw t (nE z) (Nat.le_refl _)).1 j hj
theorem gM_eq {z : xC} (hw : wf z) {t : Int32} {j k : Nat} (hj : j < 8) (hk : k < 8) (h : (gM z t j).testBit k = true) : gM z t k = gM z t j := (gp_all z hw t (nE z) (Nat.le_refl _)).2.1 j hj k hk h
theorem gM_edge {z : xC} (hw : wf z) {t : Int32} {e : Nat} (he : e < nE z) (hc : cnd z t e) : gM z t (cA z e) = gM z t (cB z e) := (gp_all z hw t (nE z) (Nat.le_refl _)).2.2.1 e he hc
theorem gM_min {z : xC} (hw : wf z) {t : Int32} {j : Nat} (hj : j < 8) {S : Nat} (hc : ∀ e, e < nE z → cnd z t e → (S.testBit (cA z e) = true ↔ S.testBit (cB z e) = true)) (hS : S.testBit j = true) {k : Nat} (hk : k < 8) (h : (gM z t j).testBit k = true) : S.testBit k = true := (gp_all z hw t (nE z) (Nat.le_refl _)).2.2.2 j hj S hc hS k hk h
/-- a mask of eight bits is its bits -/
theorem m8_eq {M S : Nat} (hM : M < 256) (hS : S < 256) (h : ∀ k, k < 8 → (M.testBit k = true ↔ S.testBit k = true)) : M = S := by
  apply Nat.eq_of_testBit_eq
  intro k
  rcases Nat.lt_or_ge k 8 with hk | hk
  · have := h k hk
    cases h1 : M.testBit k <;> cases h2 : S.testBit k <;> simp_all
  · rw [Nat.testBit_lt_two_pow (Nat.lt_of_lt_of_le (show M < 2 ^ 8 from hM) (Nat.pow_le_pow_right (by decide) hk)), Nat.testBit_lt_two_pow (Nat.lt_of_lt_of_le (show S < 2 ^ 8 from hS) (Nat.pow_le_pow_right (by decide) hk))]
theorem or_ge (a b : Nat) : a ≤ a ||| b := Nat.left_le_or
theorem cl_ge (z : xC) (t : Int32) (M : Nat) : ∀ i, M ≤ clS z t M i ∧ ∀ k, M.testBit k = true → (clS z t M i).testBit k = true
  | 0 => ⟨Nat.le_refl _, fun _ h => h⟩
  | i + 1 => by
    obtain ⟨h1, h2⟩ := cl_ge z t M i
    rw [clS]
    split
    · exact ⟨Nat.le_trans h1 (or_ge _ _), fun k h => by rw [Nat.testBit_or, h2 k h]; rfl⟩
    · exact ⟨h1, h2⟩
theorem cl_mono (z : xC) (t : Int32) (M : Nat) {i : Nat} : ∀ j, clS z t M i ≤ clS z t M (i + j)
  | 0 => Nat.le_refl _
  | j + 1 => by
    have h1 := cl_mono z t M (i := i) j
    show _ ≤ clS z t M (i + j + 1)
    rw [clS]
    split
    · exact Nat.le_trans h1 (or_ge _ _)
    · exact h1
theorem cl_lt {z : xC} (hw : wf z) (t : Int32) {M : Nat} (hM : M < 256) : ∀ i, i ≤ nE z → clS z t M i < 256
  | 0, _ => hM
  | i + 1, h => by
    have hN := hw.N
    have ha := hw.a8 (i := i) (by omega)
    have hb := hw.b8 (i := i) (by omega)
    rw [clS]
    split
    · exact m_or8 (cl_lt hw t hM i (by omega)) (m_or8 (m_pw8 (by omega)) (m_pw8 (by omega)))
    · exact cl_lt hw t hM i (by omega)
/-- nothing is added that does not hang together -/
theorem cl_sub {z : xC} (hw : wf z) {t : Int32} {M j : Nat} (hj : j < 8) (hs : ∀ k, k < 8 → M.testBit k = true → (gM z t j).testBit k = true) : ∀ i, i ≤ nE z → ∀ k, k < 8 → (clS z t M i).testBit k = true → (gM z t j).testBit k = true
  | 0, _ => hs
  | i + 1, h => fun k hk hb => by
    have ih := cl_sub hw hj hs i (by omega)
    have hN := hw.N
    have ha8 : cA z i < 8 := by have := hw.a8 (i := i) (by omega); omega
    have hb8 : cB z i < 8 := by have := hw.b8 (i := i) (by omega); omega
    rw [clS] at hb
    split at hb
    · rename_i hc
      have he := gM_edge hw (e := i) (by omega) hc.1
      have both : (gM z t j).testBit (cA z i) = true ∧ (gM z t j).testBit (cB z i) = true := by
        rcases hc.2 with g | g
        · have g2 := ih _ ha8 (bt_1.mp g)
          have e1 := gM_eq hw hj ha8 g2
          exact ⟨g2, by rw [← e1, he]; exact gM_self hw t hb8⟩
        · have g2 := ih _ hb8 (bt_1.mp g)
          have e1 := gM_eq hw hj hb8 g2
          exact ⟨by rw [← e1, ← he]; exact gM_self hw t ha8, g2⟩
      rw [Nat.testBit_or, Nat.testBit_or, Bool.or_eq_true, Bool.or_eq_true, Nat.testBit_two_pow, Nat.testBit_two_pow, decide_eq_true_iff, decide_eq_true_iff] at hb
      rcases hb with g | g | g
      · exact ih k hk g
      · rw [← g]; exact both.1
      · rw [← g]; exact both.2
    · exact ih k hk hb
/-- a round that adds nothing: the mask is closed -/
theorem cl_fix {z : xC} {t : Int32} {M : Nat} (h : clS z t M (nE z) = M) {e : Nat} (he : e < nE z) (hc : cnd z t e) : M.testBit (cA z e) = true ↔ M.testBit (cB z e) = true := by
  have hst : ∀ i, i ≤ nE z → clS z t M i = M := fun i hi => by
    have h1 := (cl_ge z t M i).1
    have h2 := cl_mono z t M (i := i) (nE z - i)
    rw [show i + (nE z - i) = nE z by omega, h] at h2
    omega
  have h1 := hst e (by omega)
  have h2 := hst (e + 1) (by omega)
  by_cases hx : M / 2 ^ cA z e % 2 = 1 ∨ M / 2 ^ cB z e % 2 = 1
  · rw [clS_1 ⟨hc, by rw [h1]; exact hx⟩, h1] at h2
    have hb : ∀ k, (M.testBit k || (decide (cA z e = k) || decide (cB z e = k))) = M.testBit k := fun k => by
      have := congrArg (fun x => x.testBit k) h2
      simpa [Nat.testBit_or, Nat.testBit_two_pow] using this
    have ha := hb (cA z e)
    have hbb := hb (cB z e)
    simp at ha hbb
    rw [ha, hbb]
  · constructor
    · intro g; exact absurd (Or.inl (bt_1.mpr g)) hx
    · intro g; exact absurd (Or.inr (bt_1.mpr g)) hx
theorem cl_end {z : xC} (hw : wf z) {t : Int32} {M j : Nat} (hj : j < 8) (hM : M < 256) (h : clS z t M (nE z) = M) (hjM : M.testBit j = true) (hs : ∀ k, k < 8 → M.testBit k = true → (gM z t j).testBit k = true) : M = gM z t j :=
  m8_eq hM (gM_lt hw t hj) (fun k hk => ⟨hs k hk, gM_min hw hj (fun e he hc => cl_fix h he hc) hjM hk⟩)
theorem bt_pw {j k : Nat} (h : (2 ^ j).testBit k = true) : j = k := by
  rw [Nat.testBit_two_pow] at h
  simpa using h
theorem m_and1 {x : Int32} (h : ¬ x &&& nI 1 = nI 1) : x &&& nI 1 = 0 := by
  obtain ⟨j, hj, e⟩ := pk_andE x (m := nI 1) 1 (by decide)
  have : j = 0 ∨ j = 1 := by omega
  rcases this with r | r
  · rw [e, r]; rfl
  · rw [e, r] at h; exact absurd rfl h
