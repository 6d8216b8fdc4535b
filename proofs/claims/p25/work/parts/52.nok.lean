/-! the rows of a grounded matrix -/
theorem sI_0 {f : Nat → Int} : ∀ n, (∀ i, i < n → f i = 0) → sumI n f = 0
  | 0, _ => rfl
  | n + 1, h => by rw [sumI, sI_0 n (fun i hi => h i (by omega)), h n (by omega)]; rfl
theorem sI_add (f g : Nat → Int) : ∀ n, sumI n (fun i => f i + g i) = sumI n f + sumI n g
  | 0 => rfl
  | n + 1 => by rw [sumI, sumI, sumI, sI_add f g n]; omega
theorem sI_sub (f g : Nat → Int) : ∀ n, sumI n (fun i => f i - g i) = sumI n f - sumI n g
  | 0 => rfl
  | n + 1 => by rw [sumI, sumI, sumI, sI_sub f g n]; omega
theorem sI_eq (x : Nat) (g : Int) : ∀ n, sumI n (fun c => if x = c then g else 0) = if x < n then g else 0
  | 0 => (if_neg (Nat.not_lt_zero _)).symm
  | n + 1 => by
    rw [sumI, sI_eq x g n]
    by_cases e : x = n
    · rw [if_neg (by omega), if_pos e, if_pos (by omega)]; omega
    · rw [if_neg e]
      by_cases h : x < n
      · rw [if_pos h, if_pos (by omega)]; omega
      · rw [if_neg h, if_neg (by omega)]; rfl
theorem sI_one (x : Int32) {g : Int} (hg : 0 ≤ g) : ∀ n, n ≤ 8 → 0 ≤ sumI n (fun c => if x = nI c then g else 0) ∧ sumI n (fun c => if x = nI c then g else 0) ≤ g
  | 0, _ => ⟨Int.le_refl _, hg⟩
  | n + 1, h => by
    have ih := sI_one x hg n (by omega)
    rw [sumI]
    by_cases e : x = nI n
    · rw [sI_0 n (fun r hr => if_neg (fun g => by have := (nI_inj8 (by omega) (by omega)).mp (g.symm.trans e); omega)), if_pos e]
      omega
    · rw [if_neg e]; omega
theorem iC_row {p : Nat → Int32} {n : Nat} (hn : n ≤ 8) (a b : Nat) {g : Int} (hg : 0 < g) {r : Nat} (hr : r < n) : 0 ≤ sumI n (fun c => iC p a b g r c) ∧ (p a = nI r → p b = -1 → 0 < sumI n (fun c => iC p a b g r c)) := by
  by_cases h : p a = nI r
  · have e : sumI n (fun c => iC p a b g r c) = g - sumI n (fun c => if p b = nI c then g else 0) := by
      have e1 : sumI n (fun c => iC p a b g r c) = sumI n (fun c => (if r = c then g else 0) - (if p b = nI c then g else 0)) := sumI_congr n (fun c _ => by rw [iC, if_pos h])
      rw [e1, sI_sub, sI_eq, if_pos hr]
    have h1 := sI_one (p b) (Int.le_of_lt hg) n hn
    rw [e]
    refine ⟨by omega, fun _ h3 => ?_⟩
    rw [sI_0 n (fun c hc => if_neg (by rw [h3]; exact fun e => nI_m1 (by omega) e.symm))]
    omega
  · rw [sI_0 n (fun c _ => by rw [iC, if_neg h])]
    exact ⟨Int.le_refl _, fun q => absurd q h⟩
theorem iC_off {p : Nat → Int32} (a b : Nat) {g : Int} (hg : 0 < g) {r c : Nat} (hrc : c ≠ r) : iC p a b g r c ≤ 0 ∧ (p a = nI r → p b = nI c → iC p a b g r c < 0) := by
  rw [iC]
  by_cases h : p a = nI r
  · rw [if_pos h, if_neg (fun e => hrc e.symm)]
    by_cases h2 : p b = nI c
    · rw [if_pos h2]
      exact ⟨by omega, fun _ _ => by omega⟩
    · rw [if_neg h2]
      exact ⟨by omega, fun _ q => absurd q h2⟩
  · rw [if_neg h]
    exact ⟨Int.le_refl _, fun q => absurd q h⟩
theorem iM_off {z : xC} (hw : wf z) (t : Int32) {p : Nat → Int32} {r c : Nat} (hrc : c ≠ r) : ∀ i, i ≤ nE z → iM z t p i r c ≤ 0 ∧ ∀ e, e < i → cnd z t e → ((p (cA z e) = nI r ∧ p (cB z e) = nI c) ∨ (p (cB z e) = nI r ∧ p (cA z e) = nI c)) → iM z t p i r c < 0
  | 0, _ => ⟨Int.le_refl _, fun e h => absurd h (Nat.not_lt_zero _)⟩
  | i + 1, hi => by
    obtain ⟨h1, h2⟩ := iM_off hw t hrc i (by omega) (p := p)
    rw [iM]
    by_cases h : eS z i = 0 ∧ ¬ onI z i t = 0
    · have hz := el_con hw (i := i) (by omega) h.1
      obtain ⟨a1, a2⟩ := iC_off (p := p) (cA z i) (cB z i) (g := (eZ z i).toInt) (by omega) hrc
      obtain ⟨b1, b2⟩ := iC_off (p := p) (cB z i) (cA z i) (g := (eZ z i).toInt) (by omega) hrc
      rw [if_pos h]
      refine ⟨by omega, fun e he hc q => ?_⟩
      by_cases ei : e = i
      · subst ei
        rcases q with q | q
        · have := a2 q.1 q.2; omega
        · have := b2 q.1 q.2; omega
      · have := h2 e (by omega) hc q; omega
    · rw [if_neg h, Int.add_zero]
      refine ⟨h1, fun e he hc q => ?_⟩
      by_cases ei : e = i
      · subst ei; exact absurd hc h
      · exact h2 e (by omega) hc q
theorem iM_row {z : xC} (hw : wf z) (t : Int32) {p : Nat → Int32} {n : Nat} (hn : n ≤ 8) {r : Nat} (hr : r < n) : ∀ i, i ≤ nE z → 0 ≤ sumI n (fun c => iM z t p i r c) ∧ ∀ e, e < i → cnd z t e → ((p (cA z e) = nI r ∧ p (cB z e) = -1) ∨ (p (cB z e) = nI r ∧ p (cA z e) = -1)) → 0 < sumI n (fun c => iM z t p i r c)
  | 0, _ => by
    have e0 : sumI n (fun c => iM z t p 0 r c) = 0 := sI_0 n (fun c _ => rfl)
    rw [e0]
    exact ⟨Int.le_refl _, fun e h => absurd h (Nat.not_lt_zero _)⟩
  | i + 1, hi => by
    obtain ⟨h1, h2⟩ := iM_row hw t hn hr i (by omega) (p := p)
    by_cases h : eS z i = 0 ∧ ¬ onI z i t = 0
    · have hz := el_con hw (i := i) (by omega) h.1
      obtain ⟨a1, a2⟩ := iC_row (p := p) hn (cA z i) (cB z i) (g := (eZ z i).toInt) (by omega) hr
      obtain ⟨b1, b2⟩ := iC_row (p := p) hn (cB z i) (cA z i) (g := (eZ z i).toInt) (by omega) hr
      have e : sumI n (fun c => iM z t p (i + 1) r c) = sumI n (fun c => iM z t p i r c) + (sumI n (fun c => iC p (cA z i) (cB z i) (eZ z i).toInt r c) + sumI n (fun c => iC p (cB z i) (cA z i) (eZ z i).toInt r c)) := by
        rw [← sI_add, ← sI_add]
        exact sumI_congr n (fun c _ => by rw [iM, if_pos h])
      rw [e]
      refine ⟨by omega, fun e he hc q => ?_⟩
      by_cases ei : e = i
      · subst ei
        rcases q with q | q
        · have := a2 q.1 q.2; omega
        · have := b2 q.1 q.2; omega
      · have := h2 e (by omega) hc q; omega
    · have e : sumI n (fun c => iM z t p (i + 1) r c) = sumI n (fun c => iM z t p i r c) := sumI_congr n (fun c _ => by rw [iM, if_neg h, Int.add_zero])
      rw [e]
      refine ⟨h1, fun e he hc q => ?_⟩
      by_cases ei : e = i
      · subst ei; exact absurd hc h
      · exact h2 e (by omega) hc q
/-- each place's node is reached from a set without places: the determinant is greater than 0 -/
theorem iM_pos {z : xC} (hw : wf z) (t : Int32) {p : Nat → Int32} {n : Nat} (hn : n ≤ 7) (hp : plQ p n) (S : Nat → Prop) (hS : ∀ v, S v → p v = -1) (hr : ∀ r, r < n → ∃ v, p v = nI r ∧ ∃ k, rch z t S k v) : 0 < DD n (fun c r => iM z t p (nE z) r c) := by
  have hN := hw.N
  have hL : ∀ r, ∃ k, r < n → (∃ v, p v = nI r ∧ rch z t S k v) ∧ ∀ l, l < k → ¬ ∃ v, p v = nI r ∧ rch z t S l v := fun r => by
    by_cases h : r < n
    · obtain ⟨v, h1, k, h2⟩ := hr r h
      obtain ⟨k, a, b⟩ := least_ex (P := fun k => ∃ v, p v = nI r ∧ rch z t S k v) k ⟨v, h1, h2⟩
      exact ⟨k, fun _ => ⟨a, b⟩⟩
    · exact ⟨0, fun q => absurd q h⟩
  obtain ⟨ρ, hρ⟩ := Classical.axiomOfChoice hL
  refine DD_pos n _ ρ (fun r h => ?_)
  obtain ⟨⟨v, h1, h2⟩, h3⟩ := hρ r h
  refine ⟨fun c _ hne => (iM_off hw t hne (nE z) (Nat.le_refl _)).1, (iM_row hw t (by omega) h (nE z) (Nat.le_refl _)).1, ?_⟩
  cases hk : ρ r with
  | zero =>
    rw [hk] at h2
    have := hS v h2
    rw [h1] at this
    exact absurd this (nI_m1 (by omega))
  | succ k =>
    rw [hk] at h2 h3
    rcases (show rch z t S k v ∨ _ from h2) with g | ⟨e, he, hc, g⟩
    · exact absurd ⟨v, h1, g⟩ (h3 k (Nat.lt_succ_self _))
    · have nbr : ∀ x, x < 8 → rch z t S k x → ((p (cA z e) = nI r ∧ p (cB z e) = p x) ∨ (p (cB z e) = nI r ∧ p (cA z e) = p x)) → 0 < sumI n (fun c => iM z t p (nE z) r c) ∨ ∃ c, c < n ∧ c ≠ r ∧ iM z t p (nE z) r c < 0 ∧ ρ c < k + 1 := fun x hx hrx q => by
        rcases hp x hx with px | ⟨c, hcn, px⟩
        · rw [px] at q
          exact Or.inl ((iM_row hw t (by omega) h (nE z) (Nat.le_refl _)).2 e he hc q)
        · rw [px] at q
          have hcl : ρ c < k + 1 := by
            apply Classical.byContradiction
            intro hc2
            exact (hρ c hcn).2 k (by omega) ⟨x, px, hrx⟩
          have hne : c ≠ r := fun e2 => by rw [e2, hk] at hcl; omega
          exact Or.inr ⟨c, hcn, hne, (iM_off hw t hne (nE z) (Nat.le_refl _)).2 e he hc q, hcl⟩
      have ha : cA z e < nN z := hw.a8 he
      have hb : cB z e < nN z := hw.b8 he
      rcases g with ⟨ev, gx⟩ | ⟨ev, gx⟩
      · exact nbr _ (by omega) gx (Or.inl ⟨by rw [ev]; exact h1, rfl⟩)
      · exact nbr _ (by omega) gx (Or.inr ⟨by rw [ev]; exact h1, rfl⟩)
/-- every place has its node -/
theorem us_sur (z : xC) (t : Int32) : ∀ i, i ≤ 8 → ∀ k, k < (usS z t i).2 → ∃ j, j < i ∧ (usS z t i).1 j = nI k
  | 0, _, k, h => absurd h (Nat.not_lt_zero _)
  | i + 1, hi, k, h => by
    by_cases c : aflI z (gM z t i) = 0 ∧ nR z i = 0
    · rw [usS_1 c.1 c.2] at h ⊢
      show ∃ j, j < i + 1 ∧ upd _ _ _ j = nI k
      have h : k < (usS z t i).2 + 1 := h
      by_cases e : k = (usS z t i).2
      · exact ⟨i, Nat.lt_succ_self _, by simp [upd, e]⟩
      · obtain ⟨j, h1, h2⟩ := us_sur z t i (by omega) k (by omega)
        exact ⟨j, by omega, by rw [← h2]; have : j ≠ i := by omega
                               simp [upd, this]⟩
    · rw [usS_0 c] at h ⊢
      obtain ⟨j, h1, h2⟩ := us_sur z t i (by omega) k h
      exact ⟨j, by omega, h2⟩
theorem rs_sur (M b : Nat) : ∀ i, i ≤ 8 → ∀ k, k < (rsS M b i).2 → ∃ j, j < i ∧ (rsS M b i).1 j = nI k
  | 0, _, k, h => absurd h (Nat.not_lt_zero _)
  | i + 1, hi, k, h => by
    by_cases c : M / 2 ^ i % 2 = 0 ∨ i = b
    · rw [rs_0 c] at h ⊢
      obtain ⟨j, h1, h2⟩ := rs_sur M b i (by omega) k h
      exact ⟨j, by omega, h2⟩
    · rw [rs_1 c] at h ⊢
      show ∃ j, j < i + 1 ∧ upd _ _ _ j = nI k
      have h : k < (rsS M b i).2 + 1 := h
      by_cases e : k = (rsS M b i).2
      · exact ⟨i, Nat.lt_succ_self _, by simp [upd, e]⟩
      · obtain ⟨j, h1, h2⟩ := rs_sur M b i (by omega) k (by omega)
        exact ⟨j, by omega, by rw [← h2]; have : j ≠ i := by omega
                               simp [upd, this]⟩
theorem afl9_ex {z : xC} {M : Nat} : ∀ n, ¬ aflB z M n = true → ∃ o, o < n ∧ ¬ nR z o = 0 ∧ ¬ M / 2 ^ o % 2 = 0
  | 0, h => absurd rfl h
  | n + 1, h => by
    by_cases c : aflB z M n = true
    · by_cases d : nR z n = 0 ∨ M / 2 ^ n % 2 = 0
      · exact absurd (aflB_s1 c d) h
      · exact ⟨n, Nat.lt_succ_self _, fun q => d (Or.inl q), fun q => d (Or.inr q)⟩
    · obtain ⟨o, h1, h2⟩ := afl9_ex n c
      exact ⟨o, by omega, h2⟩
theorem afl_ex {z : xC} {M : Nat} (h : aflI z M = 0) : ∃ o, o < nN z ∧ ¬ nR z o = 0 ∧ ¬ M / 2 ^ o % 2 = 0 :=
  afl9_ex (nN z) (fun q => by rw [aflI, if_pos q] at h; exact absurd h (by decide))
/-- a node that does not float is reached from the rails -/
theorem rail_rch {z : xC} (hw : wf z) {t : Int32} {v : Nat} (hv : v < nN z) (h : aflI z (gM z t v) = 0) : ∃ k, rch z t (fun o => o < nN z ∧ ¬ nR z o = 0) k v := by
  have hN := hw.N
  obtain ⟨o, h1, h2, h3⟩ := afl_ex h
  have e := gM_eq hw (t := t) (j := v) (k := o) (by omega) (by omega) (bt_1.mp (by omega))
  exact rch_ex hw (by omega) (by omega) ⟨h1, h2⟩ (by rw [e]; exact gM_self hw t (by omega))
theorem u_pos {z : xC} (hw : wf z) (t : Int32) : 0 < DD (uN z t) (fun c r => iM z t (uP z t) (nE z) r c) := by
  have hN := hw.N
  refine iM_pos hw t (uN_7 hw t) (uP_ok z t) (fun o => o < nN z ∧ ¬ nR z o = 0) (fun v hv => (uP_at hw t v).mpr (fun q => hv.2 q.2.2)) (fun r hr => ?_)
  obtain ⟨v, h1, h2⟩ := us_sur z t (nN z) hN r hr
  have h3 : ¬ uP z t v = -1 := fun q => by
    have h2 : uP z t v = nI r := h2
    have := uN_7 hw t
    rw [h2] at q
    exact nI_m1 (by omega) q
  have h4 : v < nN z ∧ aflI z (gM z t v) = 0 ∧ nR z v = 0 := Classical.byContradiction (fun q => h3 ((uP_at hw t v).mpr q))
  exact ⟨v, h2, rail_rch hw h4.1 h4.2.1⟩
theorem r_pos {z : xC} (hw : wf z) (t : Int32) {b : Nat} (hb : b < nN z) : 0 < DD (rN z (gM z t b) b) (fun c r => iM z t (rP z (gM z t b) b) (nE z) r c) := by
  have hN := hw.N
  have h7 := rN_7 hw (gM z t b) hb
  refine iM_pos hw t h7 (rs_pl _ _ _) (fun o => o = b) (fun v hv => (rs_at _ _ _ _ hN).mpr (fun q => q.2 (Or.inr hv))) (fun r hr => ?_)
  obtain ⟨v, h1, h2⟩ := rs_sur (gM z t b) b (nN z) hN r hr
  have h3 : ¬ rP z (gM z t b) b v = -1 := fun q => by
    have h2 : rP z (gM z t b) b v = nI r := h2
    rw [h2] at q
    exact nI_m1 (by omega) q
  have h4 : v < nN z ∧ ¬ (gM z t b / 2 ^ v % 2 = 0 ∨ v = b) := Classical.byContradiction (fun q => h3 ((rs_at (gM z t b) b v (nN z) hN).mpr q))
  exact ⟨v, h2, rch_ex hw (by omega) (by omega) rfl (bt_1.mp (by have := h4.2; omega))⟩
/-! the numbers -/
def kI (z : xC) (j : Nat) : Int := if j < nN z ∧ ¬ nR z j = 0 then (nP z j).toInt else 0
theorem kI_bd {z : xC} (hw : wf z) (j : Nat) : (kI z j).natAbs ≤ 99 := by
  rw [kI]
  by_cases h : j < nN z ∧ ¬ nR z j = 0
  · rw [if_pos h]
    have h1 := (hw.2.2.1 j h.1).2 (by rcases hw.r h.1 with g | g; exact absurd g h.2; exact g)
    omega
  · rw [if_neg h]; decide
theorem sK_I {z : xC} (hw : wf z) (t : Int32) (j : Nat) : sK z t j = Int64.ofInt (kI z j) := by
  rw [sK_at hw, kI]
  by_cases h : j < nN z ∧ ¬ nR z j = 0
  · rw [if_pos h, if_pos h, tl_I]
  · rw [if_neg h, if_neg h]; exact ofI_0
theorem sR_M {z : xC} (hw : wf z) (t : Int32) {r c : Nat} (hr : r < uN z t) (hc : c < uN z t) : sR z t r c = Int64.ofInt (iM z t (uP z t) (nE z) r c) := by
  have h7 := uN_7 hw t
  rw [sR, sP_uP hw, sN_uN hw, cdS_at hw t h7 (uP_ok z t) _ _ _ (Nat.le_refl _) r c hr (by omega), brS_at hw t h7 (uP_ok z t) _ (Nat.le_refl _) r c hr (by omega), if_neg (by omega), if_neg (by omega), Int64.zero_add, sM_I]
theorem sR_R {z : xC} (hw : wf z) (t : Int32) {r : Nat} (hr : r < uN z t) : sR z t r (uN z t) = Int64.ofInt (iS z t (uP z t) (kI z) (nE z) r) := by
  have h7 := uN_7 hw t
  rw [sR, sP_uP hw, sN_uN hw, cdS_at hw t h7 (uP_ok z t) _ _ _ (Nat.le_refl _) r _ hr (Nat.le_refl _), brS_at hw t h7 (uP_ok z t) _ (Nat.le_refl _) r _ hr (Nat.le_refl _), if_pos rfl, if_pos rfl, sS_I z t (uP z t) (sK z t) (kI z) (sK_I hw t)]
theorem i64_I {x : Int} (h : x.natAbs < 2 ^ 63) : (Int64.ofInt x).toInt = x := Int64.toInt_ofInt_of_le (by omega) (by omega)
section NB
variable {z : xC} {t : Int32} {p : Nat → Int32} {n : Nat}
theorem q_le (hw : wf z) (hn : n ≤ 8) {r : Nat} (hr : r < n) : sQ z t p (nE z) r ≤ 720 := by
  have h1 := sumN_ge (sQ z t p (nE z)) n r hr
  have h2 := sQ_sum z t p hn (nE z)
  have := hw.E
  omega
theorem m_le (hw : wf z) (hn : n ≤ 8) {ki : Nat → Int} (hk : ∀ j, (ki j).natAbs ≤ 99) {r : Nat} (hr : r < n) : (∀ c, c < n → (iM z t p (nE z) r c).natAbs ≤ 720) ∧ (iS z t p ki (nE z) r).natAbs ≤ 71280 := by
  have h1 := iM_bd hw t hn hk r (nE z) (Nat.le_refl _) (p := p)
  have h2 := q_le hw hn hr (t := t) (p := p)
  refine ⟨fun c hc => ?_, by omega⟩
  have := sumN_ge (fun c => (iM z t p (nE z) r c).natAbs) n c hc
  omega
theorem d_le (hw : wf z) (hn : n ≤ 7) : (DD n (fun c r => iM z t p (nE z) r c)).natAbs < mxK := by
  have h := DD_bd n (fun c r => iM z t p (nE z) r c) (sQ z t p (nE z)) (fun r hr => by
    have h1 := iM_bd hw t (show n ≤ 8 by omega) (ki := fun _ => 0) (fun _ => by decide) r (nE z) (Nat.le_refl _) (p := p)
    omega)
  have h2 := sQ_sum z t p (show n ≤ 8 by omega) (nE z)
  have := hw.E
  have h3 := pr_K hn (B := sQ z t p (nE z)) (by omega)
  omega
theorem n_le (hw : wf z) (hn : n ≤ 7) {ki : Nat → Int} (hk : ∀ j, (ki j).natAbs ≤ 99) {k : Nat} (hkn : k < n) : (DD n (fun c r => if c = k then iS z t p ki (nE z) r else iM z t p (nE z) r c)).natAbs ≤ 99 * mxK := by
  have h := DD_col hkn (fun c r => if c = k then iS z t p ki (nE z) r else iM z t p (nE z) r c) (sQ z t p (nE z)) (fun r hr => by
    have h1 := iM_bd hw t (show n ≤ 8 by omega) hk r (nE z) (Nat.le_refl _) (p := p)
    have h2 : sumN n (fun j => (if j = k then 1 else 99) * (if j = k then iS z t p ki (nE z) r else iM z t p (nE z) r j).natAbs) ≤ sumN n (fun j => 99 * (iM z t p (nE z) r j).natAbs + (if k = j then (iS z t p ki (nE z) r).natAbs else 0)) := sumN_le n (fun j _ => by
      by_cases e : j = k
      · rw [if_pos e, if_pos e, if_pos e.symm]; omega
      · rw [if_neg e, if_neg e, if_neg (fun q => e q.symm)]; omega)
    rw [sumN_add, sumN_ml] at h2
    have h3 := sN_eq k (iS z t p ki (nE z) r).natAbs n
    exact Nat.le_trans h2 (by omega))
  have h2 := sQ_sum z t p (show n ≤ 8 by omega) (nE z)
  have := hw.E
  have h3 := pr_K hn (B := sQ z t p (nE z)) (by omega)
  omega
theorem c_le (hw : wf z) (hn : n ≤ 7) {a k : Nat} : (DD n (fun c r => if c = k then iF p a 1 r else iM z t p (nE z) r c)).natAbs < mxK := by
  have h := DD_bd n (fun c r => if c = k then iF p a 1 r else iM z t p (nE z) r c) (fun r => sQ z t p (nE z) r + (if p a = nI r then 1 else 0)) (fun r hr => by
    have h1 := iM_bd hw t (show n ≤ 8 by omega) (ki := fun _ => 0) (fun _ => by decide) r (nE z) (Nat.le_refl _) (p := p)
    have h4 : (iF p a 1 r).natAbs = if p a = nI r then 1 else 0 := by
      rw [iF]; split <;> rfl
    have h2 : sumN n (fun j => (if j = k then iF p a 1 r else iM z t p (nE z) r j).natAbs) ≤ sumN n (fun j => (iM z t p (nE z) r j).natAbs + (if k = j then (iF p a 1 r).natAbs else 0)) := sumN_le n (fun j _ => by
      by_cases e : j = k
      · rw [if_pos e, if_pos e.symm]; omega
      · rw [if_neg e, if_neg (fun q => e q.symm)]; omega)
    rw [sumN_add] at h2
    have h3 := sN_eq k (iF p a 1 r).natAbs n
    rw [← h4]
    exact Nat.le_trans h2 (by omega))
  have h2 := sQ_sum z t p (show n ≤ 8 by omega) (nE z)
  have h5 := sN_one (p a) 1 n (by omega)
  have := hw.E
  have h3 := pr_K hn (B := fun r => sQ z t p (nE z) r + (if p a = nI r then 1 else 0)) (by rw [sumN_add]; omega)
  omega
end NB
theorem de_I {z : xC} (hw : wf z) (t : Int32) : 0 < (den z t).toInt ∧ (den z t).toInt < mxK := by
  have h7 := uN_7 hw t
  have e : den z t = Int64.ofInt (DD (uN z t) (fun c r => iM z t (uP z t) (nE z) r c)) := by
    rw [den, sN_uN hw, dm_full _ h7]
    refine congrArg _ (DD_congr _ _ _ (fun c hc r hr => ?_))
    show (sR z t r c).toInt = _
    have hm := (m_le hw (t := t) (p := uP z t) (show uN z t ≤ 8 by omega) (ki := fun _ => 0) (fun _ => by decide) hr).1 c hc
    rw [sR_M hw t hr hc, i64_I (by omega)]
  have hp := u_pos hw t
  have hb := d_le hw h7 (t := t) (p := uP z t)
  have hK : mxK = 124500000000000 := rfl
  rw [e, i64_I (by omega)]
  omega
theorem nu_I {z : xC} (hw : wf z) (t : Int32) {j : Nat} (hj : j < nN z) : (num z t j).toInt.natAbs ≤ 99 * mxK := by
  have h7 := uN_7 hw t
  have hN := hw.N
  have hp := uP_ok z t
  have hK : mxK = 124500000000000 := rfl
  rw [num, upV, sP_uP hw, sN_uN hw]
  by_cases h1 : uP z t j = -1
  · rw [if_pos (by rw [h1]; decide)]
    have hd := de_I hw t
    have e : dm (sR z t) (uN z t) (2 ^ uN z t - 1) = den z t := by rw [den, sN_uN hw]
    have hk := kI_bd hw j
    rw [e, sK_I hw, Int64.toInt_mul, i64_I (by omega)]
    have h3 : (kI z j * (den z t).toInt).natAbs ≤ 99 * mxK := by
      rw [Int.natAbs_mul]
      exact Nat.mul_le_mul hk (by omega)
    rw [Int.bmod_eq_of_le (by omega) (by omega)]
    exact h3
  · obtain ⟨k, hk, ek, ck⟩ := hp.at (by omega) h1 (by omega)
    rw [if_neg (fun q => h1 ((neg1_lt hp (by omega) (by omega)).mp q)), ck, ← dm_cr (sR z t) (fun r c => if c = k then sR z t r (uN z t) else sR z t r c) h7 hk (fun r _ => if_pos rfl) (fun r c _ _ hne => if_neg hne), dm_full _ h7]
    have e : DD (uN z t) (fun c r => (if c = k then sR z t r (uN z t) else sR z t r c).toInt) = DD (uN z t) (fun c r => if c = k then iS z t (uP z t) (kI z) (nE z) r else iM z t (uP z t) (nE z) r c) := DD_congr _ _ _ (fun c hc r hr => by
      have hm := m_le hw (t := t) (p := uP z t) (show uN z t ≤ 8 by omega) (kI_bd hw) hr
      by_cases q : c = k
      · rw [if_pos q, if_pos q, sR_R hw t hr, i64_I (by have := hm.2; omega)]
      · rw [if_neg q, if_neg q, sR_M hw t hr hc, i64_I (by have := hm.1 c hc; omega)])
    have hb := n_le hw h7 (t := t) (p := uP z t) (kI_bd hw) hk
    rw [e, i64_I (by omega)]
    exact hb
theorem fl_I {z : xC} (hw : wf z) (t : Int32) {i : Nat} (hi : i < nE z) (j : Nat) : (flw z (num z t) (den z t) i j).toInt.natAbs ≤ 1782 * mxK := by
  have hK : mxK = 124500000000000 := rfl
  have ha := nu_I hw t (hw.a8 hi)
  have hb := nu_I hw t (hw.b8 hi)
  have hd := de_I hw t
  have hx : ∀ x : Int64, x.toInt.natAbs ≤ 1782 * mxK → (-x).toInt.natAbs ≤ 1782 * mxK := fun x h => by
    rw [Int64.toInt_neg, Int.bmod_eq_of_le (by omega) (by omega)]
    omega
  have hc : ((if eS z i = 0 then (eZ z i).toInt64 * (num z t (cA z i) - num z t (cB z i)) else (eZ z i).toInt64 * den z t).toInt).natAbs ≤ 1782 * mxK := by
    by_cases s : eS z i = 0
    · have hz := el_con hw hi s
      rw [if_pos s, Int64.toInt_mul, Int64.toInt_sub, Int32.toInt_toInt64, Int.bmod_eq_of_le (n := (num z t (cA z i)).toInt - (num z t (cB z i)).toInt) (by omega) (by omega)]
      have h3 : ((eZ z i).toInt * ((num z t (cA z i)).toInt - (num z t (cB z i)).toInt)).natAbs ≤ 9 * (198 * mxK) := by
        rw [Int.natAbs_mul]
        exact Nat.mul_le_mul (by omega) (by omega)
      rw [Int.bmod_eq_of_le (by omega) (by omega)]
      omega
    · have hz := el_src hw hi s
      rw [if_neg s, Int64.toInt_mul, Int32.toInt_toInt64]
      have h3 : ((eZ z i).toInt * (den z t).toInt).natAbs ≤ 99 * mxK := by
        rw [Int.natAbs_mul]
        exact Nat.mul_le_mul (by omega) (by omega)
      rw [Int.bmod_eq_of_le (by omega) (by omega)]
      omega
  rw [flw]
  split
  · rw [i64_0]; omega
  · split
    · exact hc
    · exact hx _ hc
theorem fd_I {z : xC} (hw : wf z) (t : Int32) (j : Nat) : ∀ i, i ≤ nE z → (fdS z t (num z t) (den z t) j i).toInt.natAbs ≤ 221859000000000000 * i
  | 0, _ => by show ((0 : Int64).toInt).natAbs ≤ _; rw [i64_0]; omega
  | i + 1, hi => by
    have ih := fd_I hw t j i (by omega)
    have hE := hw.E
    have hK : mxK = 124500000000000 := rfl
    by_cases c : onI z i t = 0
    · rw [fdS_0 c]; omega
    · have hf := fl_I hw t (i := i) (by omega) j
      rw [fdS_1 c, Int64.toInt_add, Int.bmod_eq_of_le (by omega) (by omega)]
      omega
theorem not_min {x : Int64} {n : Nat} (h : x.toInt.natAbs ≤ n) (hn : n < 9223372036854775808) : x ≠ Int64.minValue := fun e => by
  have e2 : (Int64.minValue).toInt = -9223372036854775808 := by decide
  rw [e, e2] at h
  omega
theorem nOk_wf {z : xC} (hw : wf z) : nOk z := fun t => by
  have hK : mxK = 124500000000000 := rfl
  have hE := hw.E
  refine ⟨i64_pos.mpr (de_I hw t).1, fun j hj _ => not_min (nu_I hw t hj) (by omega), fun i hi _ => not_min (fl_I hw t hi _) (by omega), fun j _ _ => not_min (fd_I hw t j (nE z) (Nat.le_refl _)) (by omega)⟩
theorem rOk_wf {z : xC} (hw : wf z) : rOk z := fun t a b ha hb hg => by
  have hK : mxK = 124500000000000 := rfl
  have hN := hw.N
  obtain ⟨e1, e2⟩ := dP_rP hw t hb
  have h7 : dN z t b ≤ 7 := by rw [e2]; exact rN_7 hw _ hb
  have hp : plQ (dP z t b) (dN z t b) := by rw [e1, e2]; exact rs_pl _ _ _
  have hm : ∀ r, r < dN z t b → ∀ c, c < dN z t b → (dR z t a b r c).toInt = iM z t (dP z t b) (nE z) r c := fun r hr c hc => by
    have h := (m_le hw (t := t) (p := dP z t b) (show dN z t b ≤ 8 by omega) (ki := fun _ => 0) (fun _ => by decide) hr).1 c hc
    rw [dR_M hw t ha hb hr hc, sM_I, i64_I (by omega)]
  have hf : ∀ r, r < dN z t b → (dR z t a b r (dN z t b)).toInt = iF (dP z t b) a 1 r := fun r hr => by
    rw [dR_R hw t ha hb hr, show (1 : Int64) = Int64.ofInt 1 by decide, fC_I, i64_I (by rw [iF]; split <;> decide)]
  constructor
  · rw [dm_full _ h7]
    have e : DD (dN z t b) (fun c r => (dR z t a b r c).toInt) = DD (dN z t b) (fun c r => iM z t (dP z t b) (nE z) r c) := DD_congr _ _ _ (fun c hc r hr => hm r hr c hc)
    have h1 := r_pos hw t hb
    rw [← e1, ← e2] at h1
    have h2 := d_le hw h7 (t := t) (p := dP z t b)
    rw [e, i64_pos, i64_I (by omega)]
    exact h1
  · rw [upV]
    by_cases h1 : dP z t b a = -1
    · rw [if_pos (by rw [h1]; decide), Int64.zero_mul]; decide
    · obtain ⟨k, hk, ek, ck⟩ := hp.at (by omega) h1 (by omega)
      rw [if_neg (fun q => h1 ((neg1_lt hp (by omega) (by omega)).mp q)), ck, ← dm_cr (dR z t a b) (fun r c => if c = k then dR z t a b r (dN z t b) else dR z t a b r c) h7 hk (fun r _ => if_pos rfl) (fun r c _ _ hne => if_neg hne), dm_full _ h7]
      have e : DD (dN z t b) (fun c r => (if c = k then dR z t a b r (dN z t b) else dR z t a b r c).toInt) = DD (dN z t b) (fun c r => if c = k then iF (dP z t b) a 1 r else iM z t (dP z t b) (nE z) r c) := DD_congr _ _ _ (fun c hc r hr => by
        by_cases q : c = k
        · rw [if_pos q, if_pos q, hf r hr]
        · rw [if_neg q, if_neg q, hm r hr c hc])
      have hb := c_le hw h7 (t := t) (p := dP z t b) (a := a) (k := k)
      rw [e]
      exact not_min (n := mxK) (by rw [i64_I (by omega)]; omega) (by omega)
