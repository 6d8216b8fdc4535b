theorem tb_same {z : xC} {i p : Nat} {t : Int32} : ∀ k, (∀ l, p ≤ l → l < p + k → t ≤ tT z (6 * i + l)) → tb z i t (p + k) = tb z i t p
  | 0, _ => rfl
  | k + 1, h => by
    rw [← Nat.add_assoc, tb_s0 (h (p + k) (by omega) (by omega))]
    exact tb_same k (fun l h1 h2 => h l h1 (by omega))
theorem le_tr {a b d : Int32} (h1 : a ≤ b) (h2 : b < d) : a ≤ d := Int32.le_of_lt (Int32.lt_of_le_of_lt h1 h2)
theorem tb_stop {z : xC} {i p : Nat} {t : Int32} (hs : tmOk z i) (hp : p ≤ cT z i) (h1 : tb z i t p = p) (h2 : p < cT z i → t ≤ tT z (6 * i + p)) : tb z i t (cT z i) = p := by
  have h := tb_same (z := z) (i := i) (p := p) (t := t) (cT z i - p) (fun l a b => by
    by_cases e : l = p
    · rw [e]; exact h2 (by omega)
    · exact le_tr (h2 (by omega)) (hs.2 p l (by omega) (by omega)))
  rw [show p + (cT z i - p) = cT z i by omega] at h
  rw [h, h1]
theorem tb_up {z : xC} {i : Nat} {t u : Int32} (h : ∀ x : Int32, u ≤ x → t ≤ x) : ∀ k, tb z i t k ≤ tb z i u k
  | 0 => Nat.le_refl _
  | k + 1 => by
    have ih := tb_up (z := z) (i := i) h k
    by_cases a : u ≤ tT z (6 * i + k)
    · rw [tb_s0 a, tb_s0 (h _ a)]; exact ih
    · rw [tb_s1 a]
      by_cases b : t ≤ tT z (6 * i + k)
      · rw [tb_s0 b]; omega
      · rw [tb_s1 b]; omega
theorem tb_mono (z : xC) (i : Nat) (t : Int32) (p : Nat) : ∀ k, tb z i t p ≤ tb z i t (p + k)
  | 0 => Nat.le_refl _
  | k + 1 => by
    have ih := tb_mono z i t p k
    rw [← Nat.add_assoc]
    by_cases a : t ≤ tT z (6 * i + (p + k))
    · rw [tb_s0 a]; exact ih
    · rw [tb_s1 a]; omega
/-- there is a toggle at t just if the first one that is not before t is at t -/
theorem has_iff {z : xC} {i p t : Nat} (ht : t ≤ 999) (hs : tmOk z i) (hp : tb z i (nI t) (cT z i) = p) (hq : tb z i (nI t) p = p) (h2 : p < cT z i → nI t ≤ tT z (6 * i + p)) (hc : p ≤ cT z i) : hasP z i (nI t) ↔ p < cT z i ∧ tT z (6 * i + p) = nI t := by
  have hup : ∀ x : Int32, nI t + nI 1 ≤ x → nI t ≤ x := fun x h => Int32.le_of_lt ((t1_le ht).mp h)
  have h1p : tb z i (nI t + nI 1) p = p := by
    have a := tb_up (z := z) (i := i) hup p
    have b := tb_le z i (nI t + nI 1) p
    omega
  show tb z i (nI t) (cT z i) < tb z i (nI t + nI 1) (cT z i) ↔ _
  rw [hp]
  constructor
  · intro h
    have hlt : p < cT z i := by
      have := tb_le z i (nI t + nI 1) (cT z i)
      omega
    refine ⟨hlt, ?_⟩
    apply Classical.byContradiction
    intro hne
    have hgt : nI t < tT z (6 * i + p) := by
      have a := Int32.le_iff_toInt_le.mp (h2 hlt)
      rw [Int32.lt_iff_toInt_lt]
      have : ¬ (tT z (6 * i + p)).toInt = (nI t).toInt := fun e => hne (Int32.toInt_inj.mp e)
      omega
    have := tb_stop (t := nI t + nI 1) hs hc h1p (fun _ => (t1_le ht).mpr hgt)
    omega
  · rintro ⟨hlt, e⟩
    have h3 : tb z i (nI t + nI 1) (p + 1) = p + 1 := by
      rw [tb_s1 (fun g => by
        have := (t1_le ht).mp g
        rw [e] at this
        exact Int32.lt_irrefl this), h1p]
    have := tb_mono z i (nI t + nI 1) (p + 1) (cT z i - (p + 1))
    rw [show p + 1 + (cT z i - (p + 1)) = cT z i by omega] at this
    omega
theorem rq_drp {z w : xC} (h : Rq z w) (hw : wf z) {j p t : Nat} (hj : j < nE z) (hp : tb z j (nI t) (cT z j) = p) (hlt : p < cT z j) :
    Rq (zDrp z j (nI t)) (s_eT (s_tT w (va_cpy (tT w) (tT w) (6 * j + p + 1) (6 * j + p) (cT z j - 1 - p))) (upd (eT w) j (nI (cT z j - 1)))) := by
  have h6 := hw.t6 hj
  refine ⟨h.1, h.2.1, h.2.2.1, fun i hi => ?_⟩
  obtain ⟨h1, h2, h3, h4, h5, h7, h8⟩ := h.2.2.2 i hi
  refine ⟨h1, h2, h3, h4, h5, ?_, fun k hk => ?_⟩
  · show upd (eT w) j (nI (cT z j - 1)) i = upd (eT z) j (nI (cT z j - 1)) i
    unfold upd
    split
    · rfl
    · exact h7
  · have hi6 := hw.t6 (i := i) hi
    have hk' : k < (upd (eT z) j (nI (cT z j - 1)) i).toNatClampNeg := hk
    show va_cpy (tT w) (tT w) (6 * j + p + 1) (6 * j + p) (cT z j - 1 - p) (6 * i + k) = drpT (tT z) (6 * j) (tb z j (nI t) (cT z j)) (cT z j) (6 * i + k)
    rw [hp]
    unfold va_cpy drpT
    unfold upd at hk'
    by_cases e : i = j
    · subst e
      rw [if_pos rfl, nI_clamp (by omega)] at hk'
      by_cases g : k < p
      · rw [if_neg (by omega), if_pos (by omega)]; exact h8 k (by omega)
      · rw [if_pos (by omega), if_neg (by omega), if_pos (by omega), show 6 * i + p + 1 + (6 * i + k - (6 * i + p)) = 6 * i + (k + 1) by omega]
        exact h8 (k + 1) (by omega)
    · rw [if_neg e] at hk'
      have hk2 : k < cT z i := hk'
      rw [if_neg (by omega)]
      by_cases g : 6 * i + k < 6 * j + p
      · rw [if_pos g]; exact h8 k hk2
      · rw [if_neg g, if_neg (by omega)]; exact h8 k hk2
theorem rq_put {z w : xC} (h : Rq z w) (hw : wf z) {j p t : Nat} (hj : j < nE z) (hp : tb z j (nI t) (cT z j) = p) (hc : p ≤ cT z j) (h5 : cT z j ≤ 5) :
    Rq (zPut z j (nI t)) (s_eT (s_tT w (upd (va_cpy (tT w) (tT w) (6 * j + p) (6 * j + p + 1) (cT z j - p)) (6 * j + p) (nI t))) (upd (eT w) j (nI (cT z j + 1)))) := by
  refine ⟨h.1, h.2.1, h.2.2.1, fun i hi => ?_⟩
  obtain ⟨h1, h2, h3, h4, h5', h7, h8⟩ := h.2.2.2 i hi
  refine ⟨h1, h2, h3, h4, h5', ?_, fun k hk => ?_⟩
  · show upd (eT w) j (nI (cT z j + 1)) i = upd (eT z) j (nI (cT z j + 1)) i
    unfold upd
    split
    · rfl
    · exact h7
  · have hi6 := hw.t6 (i := i) hi
    have hk' : k < (upd (eT z) j (nI (cT z j + 1)) i).toNatClampNeg := hk
    show upd (va_cpy (tT w) (tT w) (6 * j + p) (6 * j + p + 1) (cT z j - p)) (6 * j + p) (nI t) (6 * i + k) = putT (tT z) (6 * j) (tb z j (nI t) (cT z j)) (cT z j) (nI t) (6 * i + k)
    rw [hp]
    unfold upd at hk'
    by_cases e : i = j
    · subst e
      rw [if_pos rfl, nI_clamp (by omega)] at hk'
      simp only [upd, va_cpy, putT]
      (repeat' split) <;> first | rfl | (exfalso; omega) | exact h8 k (by omega) | exact (congrArg (tT w) (by omega)).trans ((h8 (k - 1) (by omega)).trans (congrArg (tT z) (by omega)))
    · rw [if_neg e] at hk'
      have hk2 : k < cT z i := hk'
      have h9 := h8 k hk2
      simp only [upd, va_cpy, putT]
      (repeat' split) <;> first | (exfalso; omega) | exact h9
