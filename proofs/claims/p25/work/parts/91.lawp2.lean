/-! what the law's walk asks -/
theorem cv_ng {o : Ordering} (h : o ≠ .gt) (op : CmpOp) : ¬ 0 < Op.cmpValue (some o) op := by
  cases o <;> cases op <;> first | exact absurd rfl h | decide
theorem cv_nl {o : Ordering} (h : o ≠ .lt) (op : CmpOp) : ¬ Op.cmpValue (some o) op < 0 := by
  cases o <;> cases op <;> first | exact absurd rfl h | decide
theorem wO_lab {D : va_G} {A : Nat → Prop} {y : Nat → ClassId} {ad : xL → Nat} {bl : xM} {z : xC} {g pl : Nat → Int32} {kn mi : Nat → Int64} {rw : Nat → Nat → Int64} {un : Int32} {H : Heap} {q n e : Nat} {fr : Nat → Int32} {fk : Nat → Nat} {fw : Nat → Nat → Int32} {f : Nat → Int32}
    (h : xW D A (ad_up ad (40, 0) q) (aw_up (wU (wB y ad bl z g pl kn rw mi un) (wH y ad n fr e fk fw) wN) (40, 0) (.inl (y 0, 3, .inl f))) H) :
    xW D A (ad_up ad (40, 0) q) (wU (wB y (ad_up ad (40, 0) q) bl z g pl kn rw mi un) (wH y (ad_up ad (40, 0) q) n fr e fk fw) (wO y f)) H := by
  rw [wB_ad (up_lt (by decide)), up_wH (by decide)]
  refine h.ct (wU_O (k := 0) (fun a b hab => ?_) rfl)
  match a, b with
  | 0, 0 => exact absurd ⟨rfl, rfl⟩ hab
  | 0, b + 1 => rfl
  | a + 1, b => rfl
theorem wO_up {fB fR : Nat → Nat → Option va_E} {y : Nat → ClassId} {f : Nat → Int32} (f' : Nat → Int32) : aw_up (wU fB fR (wO y f)) (40, 0) (.inl (y 0, 3, .inl f')) = wU fB fR (wO y f') := by
  refine wU_O (k := 0) (fun a b hab => ?_) rfl
  match a, b with
  | 0, 0 => exact absurd ⟨rfl, rfl⟩ hab
  | 0, b + 1 => rfl
  | a + 1, b => rfl
theorem tm_3 : ∀ i, i < 3 → ∃ τ, τ ≤ 999 ∧ upd (upd (upd (fun _ => nI 0) 0 (nI 0)) 1 (nI 11)) 2 (nI 23) i = nI τ
  | 0, _ => ⟨0, by decide, rfl⟩
  | 1, _ => ⟨11, by decide, rfl⟩
  | 2, _ => ⟨23, by decide, rfl⟩
  | i + 3, h => absurd h (by omega)
section LQ
variable {n e : Nat} {z : xC} {fr : Nat → Int32} {fk : Nat → Nat} {fw : Nat → Nat → Int32}
theorem bEq.r100 (h : bEq n e z fr fk fw) (w : wf z) {k : Nat} (hk : k < n) : fr k = nI 100 ↔ nR z k = 0 := by
  have h1 := h.2.1 k hk
  by_cases c : nR z k = 0
  · rw [h1, if_pos c]; exact ⟨fun _ => c, fun _ => rfl⟩
  · have hb := rail_bd w (j := k) (by rw [h.1]; exact hk) c
    rw [h1, if_neg c]
    refine ⟨fun q => ?_, fun q => absurd q c⟩
    have : (nI 100).toInt = 100 := by decide
    rw [q] at hb
    omega
theorem bEq.rP (h : bEq n e z fr fk fw) {k : Nat} (hk : k < n) (hr : ¬ nR z k = 0) : fr k = nP z k := by rw [h.2.1 k hk, if_neg hr]
theorem feed_0 (w : wf z) {k τ : Nat} (hk : k < nN z) (ht : τ ≤ 999) (hr : ¬ nR z k = 0) : tFeed z (nI k) (nI τ) = 0 := by
  have hN := w.N
  rw [tFeed, if_neg (not_not_intro (nodeP_o w hk)), if_neg (not_not_intro (timeP_o ht)), cl_nI (by omega), if_neg hr]
theorem nd_0 (w : wf z) {k τ : Nat} (hk : k < nN z) (ht : τ ≤ 999) : tNd z (nI k) (nI τ) = 0 := by
  rw [tNd, if_neg (not_not_intro (nodeP_o w hk)), if_neg (not_not_intro (timeP_o ht))]
theorem prb_0 (w : wf z) {k τ : Nat} (hk : k < nN z) (ht : τ ≤ 999) : tPrb z (nI k) (nI τ) (nI τ) = 0 := by
  rw [tPrb, if_neg (not_not_intro (nodeP_o w hk)), if_neg (not_not_intro (timeP_o ht)), if_neg (not_not_intro (timeP_o ht)), if_neg Int32.lt_irrefl]
theorem res_0 (w : wf z) {k : Nat} (hk : k < nE z) (hs : eS z k = nI 1) : tRes z (nI k) (nI 0) = 0 := by
  have hE := w.E
  rw [tRes, if_neg (not_not_intro (elP_o w hk)), cl_nI (by omega), hs, if_neg (not_not_intro (Or.inr ⟨by decide, by decide, by decide⟩))]
theorem le_500 (w : wf z) : (-500 ≤ (leS z (nN z)).1 ∧ (leS z (nN z)).1 ≤ nI 500) ∧ (-500 ≤ (leS z (nN z)).2 ∧ (leS z (nN z)).2 ≤ nI 500) := by
  obtain ⟨⟨h1, h2, h3, h4⟩, -⟩ := le_S w (nN z) (Nat.le_refl _)
  have a : (-500 : Int32).toInt = -500 := by decide
  have b : (nI 500).toInt = 500 := by decide
  refine ⟨⟨?_, ?_⟩, ⟨?_, ?_⟩⟩ <;> rw [Int32.le_iff_toInt_le] <;> omega
theorem cmp_k0 (w : wf z) {k τ : Nat} (hk : k < nN z) (ht : τ ≤ 999) {u : Int32} (hu : -500 ≤ u ∧ u ≤ nI 500) (ha : aflI z (gM z (nI τ) k) = 0) : tCmp z (nI k) (nI τ) u (nI 1) = 0 := by
  have hN := w.N
  rw [tCmp, if_neg (not_not_intro (nodeP_o w hk)), if_neg (not_not_intro (timeP_o ht)), if_neg (not_not_intro ⟨hu.1, hu.2, by decide, by decide⟩), cl_nI (by omega), if_neg (not_not_intro ha)]
theorem rst_0 (w : wf z) {a b : Nat} (ha : a < nN z) (hb : b < nN z) (h : (gM z (nI 0) a).testBit b = true) : tRst z (nI a) (nI b) (nI 0) = 0 := by
  have hN := w.N
  rw [tRst, if_neg (not_not_intro (nodeP_o w ha)), if_neg (not_not_intro (nodeP_o w hb)), if_neg (not_not_intro (timeP_o (j := 0) (by decide))), cl_nI (by omega), cl_nI (by omega), if_neg (nb1 h)]
theorem pow_0 : tTm (nI 0) = 0 := by rw [tTm, if_neg (not_not_intro (timeP_o (j := 0) (by decide)))]
/-- sizes told otherwise leave what hangs together and what is on -/
theorem Rh_eZ {nr : Nat} (h : Rh z nr fr e fk fw) (f : Nat → Int32) : Rh (s_eZ z f) nr fr e fk fw := by
  refine ⟨h.1, h.2.1, h.2.2.1, fun i hi => ?_⟩
  obtain ⟨h0, h1, h2, h4, h5, h6⟩ := h.2.2.2 i hi
  refine ⟨h0, h1, h2, h4, h5, fun τ hτ => ?_⟩
  have e2 : tb (s_eZ z f) i (nI τ + nI 1) (cT z i) = tb z i (nI τ + nI 1) (cT z i) := tb_congr _ (fun _ _ => rfl)
  exact (h6 τ hτ).trans e2.symm
theorem tI_0 {x : Int32} (h : x = nI 0) : x.toInt = 0 := by rw [h]; decide
/-- numbers of doubles -/
theorem fd_q (u : Int64) {w : Int64} (h : 0 < w.toInt) : fdB (FP.ddiv (FP.l2d u) (FP.l2d w)) 65 := f_div (f_l2d _) (i64_pos.mpr h) (by decide) (by decide)
theorem fd_nano : fdB 4472406533629990549 68 := ⟨false, 4835703278458517, -82, by decide, by decide, by decide⟩
end LQ
