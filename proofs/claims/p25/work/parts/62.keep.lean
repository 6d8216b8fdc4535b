/-! the circuit stays well formed under every change -/
theorem wf_rail {z : xC} (h : wf z) {x b k : Int32} (hb : b = 0 ∨ b = 1) (ht : tRail z x b k = 0) : wf (zRail z (clN x) b k) := by
  have hk : b = 1 → -99 ≤ k.toInt ∧ k.toInt ≤ 99 := by
    intro e
    unfold tRail at ht
    by_cases h1 : ¬ nodeP z x
    · rw [if_pos h1] at ht
      exact absurd ht (by decide)
    · rw [if_neg h1] at ht
      by_cases h2 : ¬ b = 0 ∧ ¬ (-99 ≤ k ∧ k ≤ nI 99)
      · rw [if_pos h2] at ht
        exact absurd ht (by decide)
      · have h3 : -99 ≤ k ∧ k ≤ nI 99 := Decidable.not_not.mp fun q => h2 ⟨fun g => absurd (e.symm.trans g) (by decide), q⟩
        exact ⟨Int32.le_iff_toInt_le.mp h3.1, Int32.le_iff_toInt_le.mp h3.2⟩
  refine ⟨h.1, h.2.1, fun i hi => ?_, h.2.2.2⟩
  show (upd (nR z) (clN x) b i = 0 ∨ upd (nR z) (clN x) b i = 1) ∧ (upd (nR z) (clN x) b i = 1 → -99 ≤ (upd (nP z) (clN x) (if b = 0 then nI 0 else k) i).toInt ∧ (upd (nP z) (clN x) (if b = 0 then nI 0 else k) i).toInt ≤ 99)
  unfold upd
  by_cases e : i = clN x
  · rw [if_pos e, if_pos e]
    refine ⟨hb, fun q => ?_⟩
    rw [if_neg (fun g => absurd (q.symm.trans g) (by decide))]
    exact hk q
  · rw [if_neg e, if_neg e]
    exact h.2.2.1 i hi
theorem wf_eZ {z : xC} (h : wf z) {x k : Int32} (ht : tRes z x k = 0) : wf (s_eZ z (upd (eZ z) (clN x) k)) := by
  have hk : sizeP (eS z (clN x)) k ∧ elP z x := by
    unfold tRes at ht
    by_cases h1 : ¬ elP z x
    · rw [if_pos h1] at ht
      exact absurd ht (by decide)
    · rw [if_neg h1] at ht
      by_cases h2 : ¬ sizeP (eS z (clN x)) k
      · rw [if_pos h2] at ht
        exact absurd ht (by decide)
      · exact ⟨Decidable.not_not.mp h2, Decidable.not_not.mp h1⟩
  refine ⟨h.1, h.2.1, h.2.2.1, fun i hi => ?_⟩
  obtain ⟨a1, a2, a3, a4, a5, a6, a7, a8, a9⟩ := h.2.2.2 i hi
  refine ⟨a1, a2, a3, a4, a5, a6, a7, ?_, ?_⟩
  · show eS z i = 0 → 1 ≤ (upd (eZ z) (clN x) k i).toInt ∧ (upd (eZ z) (clN x) k i).toInt ≤ 9
    unfold upd
    by_cases e : i = clN x
    · rw [if_pos e]
      subst e
      exact (sizeP_int a1 hk.1).1
    · rw [if_neg e]
      exact a8
  · show eS z i = 1 → -99 ≤ (upd (eZ z) (clN x) k i).toInt ∧ (upd (eZ z) (clN x) k i).toInt ≤ 99
    unfold upd
    by_cases e : i = clN x
    · rw [if_pos e]
      subst e
      exact (sizeP_int a1 hk.1).2
    · rw [if_neg e]
      exact a9
theorem wf_eO {z : xC} (h : wf z) {j : Nat} {b : Int32} (hb : b = 0 ∨ b = 1) : wf (s_eO z (upd (eO z) j b)) := by
  refine ⟨h.1, h.2.1, h.2.2.1, fun i hi => ?_⟩
  obtain ⟨a1, a2, a3⟩ := h.2.2.2 i hi
  refine ⟨a1, ?_, a3⟩
  show upd (eO z) j b i = 0 ∨ upd (eO z) j b i = 1
  unfold upd
  by_cases e : i = j
  · rw [if_pos e]
    exact hb
  · rw [if_neg e]
    exact a2
theorem tb_cut {z : xC} {i n : Nat} {t : Int32} (hs : ∀ k l, k < l → l < n → tT z (6 * i + k) < tT z (6 * i + l)) : ∀ m, m ≤ n → ∀ k, k < m → (¬ t ≤ tT z (6 * i + k) ↔ k < tb z i t m)
  | 0, _, k, hk => absurd hk (Nat.not_lt_zero _)
  | m + 1, hm, k, hk => by
    have ih := tb_cut (t := t) hs m (by omega)
    have hle := tb_le z i t m
    by_cases c : t ≤ tT z (6 * i + m)
    · rw [tb_s0 c]
      rcases Nat.lt_or_eq_of_le (Nat.lt_succ_iff.mp hk) with h | h
      · exact ih k h
      · subst h
        exact ⟨fun q => absurd c q, fun q => absurd q (by omega)⟩
    · rw [tb_s1 c]
      have hall : ∀ q, q < m + 1 → ¬ t ≤ tT z (6 * i + q) := fun q hq g => by
        rcases Nat.lt_or_eq_of_le (Nat.lt_succ_iff.mp hq) with h | h
        · exact c (Int32.le_of_lt (Int32.lt_of_le_of_lt g (hs q m h (by omega))))
        · exact c (h ▸ g)
      have hp : m ≤ tb z i t m := Nat.le_of_not_lt fun g => by
        rcases Nat.eq_zero_or_pos m with h0 | h0
        · omega
        · have := (ih (m - 1) (by omega)).mp (hall _ (by omega))
          omega
      exact ⟨fun _ => by omega, fun _ => hall k hk⟩
theorem wf_tm {z : xC} (h : wf z) {i n' : Nat} {f : Nat → Int32} (h6 : n' ≤ 6) (hf : ∀ j, j < nE z → j ≠ i → ∀ k, k < 6 → f (6 * j + k) = tT z (6 * j + k)) (h1 : ∀ k, k < n' → nI 1 ≤ f (6 * i + k) ∧ f (6 * i + k) ≤ nI 999) (h2 : ∀ k l, k < l → l < n' → f (6 * i + k) < f (6 * i + l)) : wf (s_eT (s_tT z f) (upd (eT z) i (nI n'))) := by
  refine ⟨h.1, h.2.1, h.2.2.1, fun j hj => ?_⟩
  obtain ⟨a1, a2, a3, a4, a5, a6, a7, a8, a9⟩ := h.2.2.2 j hj
  have hcT : cT (s_eT (s_tT z f) (upd (eT z) i (nI n'))) j = (upd (eT z) i (nI n') j).toNatClampNeg := rfl
  refine ⟨a1, a2, a3, a4, a5, ?_, ?_, a8, a9⟩
  · rw [hcT]
    show upd (eT z) i (nI n') j = _ ∧ _
    unfold upd
    by_cases e : j = i
    · rw [if_pos e, nI_clamp (by omega)]
      exact ⟨rfl, h6⟩
    · rw [if_neg e]
      exact a6
  · unfold tmOk
    rw [hcT]
    show (∀ k, k < _ → nI 1 ≤ f (6 * j + k) ∧ f (6 * j + k) ≤ nI 999) ∧ ∀ k l, k < l → l < _ → f (6 * j + k) < f (6 * j + l)
    unfold upd
    by_cases e : j = i
    · rw [if_pos e, nI_clamp (by omega)]
      subst e
      exact ⟨h1, h2⟩
    · rw [if_neg e]
      have hc : ∀ k, k < (eT z j).toNatClampNeg → k < 6 := fun k hk => Nat.lt_of_lt_of_le hk a6.2
      refine ⟨fun k hk => ?_, fun k l hk hl => ?_⟩
      · rw [hf j hj e k (hc k hk)]
        exact a7.1 k hk
      · rw [hf j hj e k (hc k (Nat.lt_trans hk hl)), hf j hj e l (hc l hl)]
        exact a7.2 k l hk hl
theorem i_nle {a b : Int32} (h : ¬ a ≤ b) : b < a := Int32.not_le.mp h
theorem wf_put {z : xC} (h : wf z) {i t : Nat} (hi : i < nE z) (ht1 : 1 ≤ t) (ht : t ≤ 999) (hn : ¬ hasP z i (nI t)) (h6 : cT z i ≠ 6) : wf (zPut z i (nI t)) := by
  have hc6 := h.t6 hi
  have htm := (h.el hi).2.2.2.2.2.2.1
  have hple := tb_le z i (nI t) (cT z i)
  have cut := tb_cut (t := nI t) htm.2 (cT z i) (Nat.le_refl _)
  have cut1 := tb_cut (t := nI t + nI 1) htm.2 (cT z i) (Nat.le_refl _)
  have hnp : tb z i (nI t + nI 1) (cT z i) ≤ tb z i (nI t) (cT z i) := Nat.le_of_not_lt hn
  generalize hp : tb z i (nI t) (cT z i) = p at hple cut hnp
  have lo : ∀ k, k < p → tT z (6 * i + k) < nI t := fun k hk => i_nle ((cut k (by omega)).mpr hk)
  have hi2 : ∀ k, p ≤ k → k < cT z i → nI t < tT z (6 * i + k) := fun k hk hk2 => by
    have h1 : nI t + nI 1 ≤ tT z (6 * i + k) := Decidable.not_not.mp fun q => by
      have := (cut1 k hk2).mp q
      omega
    rw [nI_add] at h1
    exact Int32.lt_of_lt_of_le (nI_lt (by omega) (by omega)) h1
  unfold zPut
  rw [hp]
  have f1 : ∀ k, k < p → putT (tT z) (6 * i) p (cT z i) (nI t) (6 * i + k) = tT z (6 * i + k) := fun k hk => if_pos (by omega)
  have f2 : putT (tT z) (6 * i) p (cT z i) (nI t) (6 * i + p) = nI t := by
    unfold putT
    rw [if_neg (by omega), if_pos rfl]
  have f3 : ∀ k, p < k → k ≤ cT z i → putT (tT z) (6 * i) p (cT z i) (nI t) (6 * i + k) = tT z (6 * i + (k - 1)) := fun k hk hk2 => by
    unfold putT
    rw [if_neg (by omega), if_neg (by omega), if_pos (by omega)]
    congr 1
    omega
  refine wf_tm h (by omega) (fun j hj hji k hk => ?_) (fun k hk => ?_) (fun k l hk hl => ?_)
  · unfold putT
    by_cases c : j < i
    · rw [if_pos (by omega)]
    · rw [if_neg (by omega), if_neg (by omega), if_neg (by omega)]
  · rcases Nat.lt_trichotomy k p with c | c | c
    · rw [f1 k c]
      exact htm.1 k (by omega)
    · subst c
      rw [f2]
      exact ⟨nI_le ht1 (by omega), nI_le ht (by decide)⟩
    · rw [f3 k c (by omega)]
      exact htm.1 (k - 1) (by omega)
  · rcases Nat.lt_trichotomy l p with c | c | c
    · rw [f1 l c, f1 k (by omega)]
      exact htm.2 k l hk (by omega)
    · subst c
      rw [f2, f1 k hk]
      exact lo k hk
    · rw [f3 l c (by omega)]
      rcases Nat.lt_trichotomy k p with d | d | d
      · rw [f1 k d]
        exact Int32.lt_trans (lo k d) (hi2 (l - 1) (by omega) (by omega))
      · subst d
        rw [f2]
        exact hi2 (l - 1) (by omega) (by omega)
      · rw [f3 k d (by omega)]
        exact htm.2 (k - 1) (l - 1) (by omega) (by omega)
theorem wf_drp {z : xC} (h : wf z) {i t : Nat} (hi : i < nE z) (hn : hasP z i (nI t)) : wf (zDrp z i (nI t)) := by
  have hc6 := h.t6 hi
  have htm := (h.el hi).2.2.2.2.2.2.1
  have hple := tb_le z i (nI t + nI 1) (cT z i)
  have hlt : tb z i (nI t) (cT z i) < tb z i (nI t + nI 1) (cT z i) := hn
  unfold zDrp
  generalize hp : tb z i (nI t) (cT z i) = p at hlt ⊢
  have f1 : ∀ k, k < p → drpT (tT z) (6 * i) p (cT z i) (6 * i + k) = tT z (6 * i + k) := fun k hk => if_pos (by omega)
  have f3 : ∀ k, p ≤ k → k + 1 < cT z i → drpT (tT z) (6 * i) p (cT z i) (6 * i + k) = tT z (6 * i + (k + 1)) := fun k hk hk2 => by
    unfold drpT
    rw [if_neg (by omega), if_pos (by omega)]
    rfl
  refine wf_tm h (by omega) (fun j hj hji k hk => ?_) (fun k hk => ?_) (fun k l hk hl => ?_)
  · unfold drpT
    by_cases c : j < i
    · rw [if_pos (by omega)]
    · rw [if_neg (by omega), if_neg (by omega)]
  · by_cases c : k < p
    · rw [f1 k c]
      exact htm.1 k (by omega)
    · rw [f3 k (by omega) (by omega)]
      exact htm.1 (k + 1) (by omega)
  · by_cases c : l < p
    · rw [f1 l c, f1 k (by omega)]
      exact htm.2 k l hk (by omega)
    · rw [f3 l (by omega) (by omega)]
      by_cases d : k < p
      · rw [f1 k d]
        exact htm.2 k (l + 1) (by omega) (by omega)
      · rw [f3 k (by omega) (by omega)]
        exact htm.2 (k + 1) (l + 1) (by omega) (by omega)
theorem wf_tog {z : xC} (h : wf z) {x t : Int32} (ht : tTog z x t = 0) : wf (zTog z (clN x) t) := by
  unfold tTog at ht
  by_cases h1 : ¬ elP z x
  · rw [if_pos h1] at ht
    exact absurd ht (by decide)
  rw [if_neg h1] at ht
  by_cases h2 : ¬ (nI 1 ≤ t ∧ t ≤ nI 999)
  · rw [if_pos h2] at ht
    exact absurd ht (by decide)
  rw [if_neg h2] at ht
  by_cases h3 : ¬ hasP z (clN x) t ∧ cT z (clN x) = 6
  · rw [if_pos h3] at ht
    exact absurd ht (by decide)
  obtain ⟨i, hi, ex⟩ := elP_i h (Decidable.not_not.mp h1)
  have h2' := Decidable.not_not.mp h2
  have hE := h.E
  obtain ⟨j, hj, et⟩ := nI_of (Int32.not_lt.mpr (Int32.le_of_lt (Int32.lt_of_lt_of_le (show (0 : Int32) < nI 1 by decide) h2'.1)))
  subst ex
  subst et
  rw [cl_nI (by omega)] at h3 ⊢
  have j1 : 1 ≤ j := (nI_leI (by decide) hj).mp h2'.1
  have j2 : j ≤ 999 := (nI_leI hj (by decide)).mp h2'.2
  unfold zTog
  by_cases c : hasP z i (nI j)
  · rw [if_pos c]
    exact wf_drp h hi c
  · rw [if_neg c]
    exact wf_put h hi j1 j2 c (fun q => h3 ⟨c, q⟩)
theorem wf_zE : wf zE := ⟨by decide, by decide, fun i hi => absurd hi (Nat.not_lt_zero _), fun i hi => absurd hi (Nat.not_lt_zero _)⟩