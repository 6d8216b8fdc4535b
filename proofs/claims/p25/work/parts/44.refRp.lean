/-! resistance: the reference's equations against the bench's -/
def rsS (M b : Nat) : Nat → (Nat → Int32) × Nat
  | 0 => (fun _ => -1, 0)
  | i + 1 => if M / 2 ^ i % 2 = 0 ∨ i = b then rsS M b i else (upd (rsS M b i).1 i (nI (rsS M b i).2), (rsS M b i).2 + 1)
theorem rs_0 {M b i : Nat} (h : M / 2 ^ i % 2 = 0 ∨ i = b) : rsS M b (i + 1) = rsS M b i := by rw [rsS, if_pos h]
theorem rs_1 {M b i : Nat} (h : ¬ (M / 2 ^ i % 2 = 0 ∨ i = b)) : rsS M b (i + 1) = (upd (rsS M b i).1 i (nI (rsS M b i).2), (rsS M b i).2 + 1) := by rw [rsS, if_neg h]
theorem rs_le (M b : Nat) : ∀ i, (rsS M b i).2 ≤ i ∧ (b < i → (rsS M b i).2 + 1 ≤ i)
  | 0 => ⟨Nat.le_refl _, fun h => absurd h (Nat.not_lt_zero _)⟩
  | i + 1 => by
    obtain ⟨h1, h2⟩ := rs_le M b i
    by_cases c : M / 2 ^ i % 2 = 0 ∨ i = b
    · rw [rs_0 c]
      exact ⟨by omega, fun _ => by omega⟩
    · rw [rs_1 c]
      refine ⟨Nat.succ_le_succ h1, fun h => Nat.succ_le_succ (h2 ?_)⟩
      have : i ≠ b := fun e => c (Or.inr e)
      omega
theorem rs_pl (M b : Nat) : ∀ i, plQ (rsS M b i).1 (rsS M b i).2
  | 0 => fun _ _ => Or.inl rfl
  | i + 1 => by
    have ih := rs_pl M b i
    by_cases c : M / 2 ^ i % 2 = 0 ∨ i = b
    · rw [rs_0 c]; exact ih
    · rw [rs_1 c]
      intro j hj
      show upd _ _ _ j = -1 ∨ _
      by_cases e : j = i
      · exact Or.inr ⟨(rsS M b i).2, Nat.lt_succ_self _, by simp [upd, e]⟩
      · rcases ih j hj with h | ⟨k, hk, h⟩
        · exact Or.inl (by simp [upd, e]; exact h)
        · exact Or.inr ⟨k, Nat.lt_succ_of_lt hk, by simp [upd, e]; exact h⟩
theorem rs_mono (M b i : Nat) : ∀ k, (rsS M b i).2 ≤ (rsS M b (i + k)).2
  | 0 => Nat.le_refl _
  | k + 1 => by
    have h := rs_mono M b i k
    rw [show i + (k + 1) = (i + k) + 1 by omega]
    by_cases c : M / 2 ^ (i + k) % 2 = 0 ∨ i + k = b
    · rw [rs_0 c]; exact h
    · rw [rs_1 c]; exact Nat.le_succ_of_le h
theorem rs_at (M b j : Nat) : ∀ i, i ≤ 8 → ((rsS M b i).1 j = -1 ↔ ¬ (j < i ∧ ¬ (M / 2 ^ j % 2 = 0 ∨ j = b)))
  | 0, _ => ⟨fun _ h => absurd h.1 (Nat.not_lt_zero _), fun _ => rfl⟩
  | i + 1, hi => by
    have ih := rs_at M b j i (by omega)
    have hle := (rs_le M b i).1
    by_cases c : M / 2 ^ i % 2 = 0 ∨ i = b
    · rw [rs_0 c, ih]
      refine ⟨fun h g => h ⟨?_, g.2⟩, fun h g => h ⟨by omega, g.2⟩⟩
      rcases Nat.lt_or_ge j i with q | q
      · exact q
      · exact absurd c (by rw [show i = j by omega]; exact g.2)
    · rw [rs_1 c]
      show upd _ _ _ j = -1 ↔ _
      by_cases e : j = i
      · have e1 : upd (rsS M b i).1 i (nI (rsS M b i).2) j = nI (rsS M b i).2 := by simp [upd, e]
        rw [e1]
        exact ⟨fun h => absurd h (nI_m1 (by omega)), fun h => absurd ⟨by omega, by rw [e]; exact c⟩ h⟩
      · have e1 : upd (rsS M b i).1 i (nI (rsS M b i).2) j = (rsS M b i).1 j := by simp [upd, e]
        rw [e1, ih]
        exact ⟨fun h g => h ⟨by omega, g.2⟩, fun h g => h ⟨by omega, g.2⟩⟩
theorem dr_rs {M b N : Nat} (hN : N ≤ 8) (hb : b < N) : ∀ i, i ≤ N → drS M b i = rsS M b i
  | 0, _ => rfl
  | i + 1, hi => by
    have ih := dr_rs (M := M) hN hb i (by omega)
    by_cases c : M / 2 ^ i % 2 = 0 ∨ i = b
    · rw [rs_0 c, ← ih, drS]
      by_cases e : i = b
      · rw [if_pos e]
      · rw [if_neg e, if_pos (by rcases c with g | g; exact g; exact absurd g e)]
    · have hm : (rsS M b i).2 + 1 ≤ 7 := by
        have h1 := rs_mono M b (i + 1) (N - (i + 1))
        rw [show i + 1 + (N - (i + 1)) = N by omega, rs_1 c] at h1
        have h2 := (rs_le M b N).2 hb
        have h3 : (rsS M b i).2 + 1 ≤ (rsS M b N).2 := h1
        omega
      rw [rs_1 c, drS, if_neg (fun e => c (Or.inr e)), if_neg (fun e => c (Or.inl e)), ih, skS, if_pos (by omega)]
def rP (z : xC) (M b : Nat) : Nat → Int32 := (rsS M b (nN z)).1
def rN (z : xC) (M b : Nat) : Nat := (rsS M b (nN z)).2
/-- the matrix, and what is laid to the right, over the set M -/
def rsM (z w : xC) (t : Int32) (M b : Nat) : Nat → (Nat → Nat → Int64) × (Nat → Int64)
  | 0 => (fun _ _ => 0, fun _ => 0)
  | i + 1 => if (eS z i = 0 ∧ ¬ onI z i t = 0) ∧ ¬ M / 2 ^ cA z i % 2 = 0 then
      (lyM (lyM (rsM z w t M b i).1 (rP z M b) (cA z i) (cB z i) (eZ z i).toInt64) (rP z M b) (cB z i) (cA z i) (eZ z i).toInt64,
       lyR (lyR (rsM z w t M b i).2 (rP z M b) (nP w) (cA z i) (cB z i) (eZ z i).toInt64) (rP z M b) (nP w) (cB z i) (cA z i) (eZ z i).toInt64)
      else rsM z w t M b i
theorem rsM_1 {z w : xC} {t : Int32} {M b i : Nat} (h : eS z i = 0 ∧ ¬ onI z i t = 0) (h2 : ¬ M / 2 ^ cA z i % 2 = 0) : rsM z w t M b (i + 1) =
      (lyM (lyM (rsM z w t M b i).1 (rP z M b) (cA z i) (cB z i) (eZ z i).toInt64) (rP z M b) (cB z i) (cA z i) (eZ z i).toInt64,
       lyR (lyR (rsM z w t M b i).2 (rP z M b) (nP w) (cA z i) (cB z i) (eZ z i).toInt64) (rP z M b) (nP w) (cB z i) (cA z i) (eZ z i).toInt64) := by rw [rsM, if_pos ⟨h, h2⟩]
theorem rsM_0 {z w : xC} {t : Int32} {M b i : Nat} (h : ¬ ((eS z i = 0 ∧ ¬ onI z i t = 0) ∧ ¬ M / 2 ^ cA z i % 2 = 0)) : rsM z w t M b (i + 1) = rsM z w t M b i := by rw [rsM, if_neg h]
theorem mC_0 {p : Nat → Int32} {a b : Nat} {g : Int64} {r c : Nat} (hr : r < 8) (h : p a = -1) : mC p a b g r c = 0 := by
  rw [mC, if_neg (by rw [h]; exact fun e => nI_m1 (by omega) e.symm)]
theorem rsM_at {z : xC} (hw : wf z) (w : xC) (t : Int32) {a b : Nat} (ha : a < nN z) : ∀ i, i ≤ nE z → ∀ r c, r < 8 → c < 8 → (rsM z w t (gM z t a) b i).1 r c = sM z t (rP z (gM z t a) b) i r c
  | 0, _, _, _, _, _ => rfl
  | i + 1, hi, r, c, hr, hc => by
    have ih := rsM_at hw w t ha (b := b) i (by omega) r c hr hc
    have hN := hw.N
    have hp : plQ (rP z (gM z t a) b) (rsS (gM z t a) b (nN z)).2 := rs_pl (gM z t a) b (nN z)
    have hn : (rsS (gM z t a) b (nN z)).2 ≤ 8 := by have := (rs_le (gM z t a) b (nN z)).1; omega
    have hA : cA z i < nN z := hw.a8 (i := i) (by omega)
    have hB : cB z i < nN z := hw.b8 (i := i) (by omega)
    by_cases h : eS z i = 0 ∧ ¬ onI z i t = 0
    · by_cases h2 : gM z t a / 2 ^ cA z i % 2 = 0
      · have hg := gM_edge hw (e := i) (by omega) h
        have h3 : gM z t a / 2 ^ cB z i % 2 = 0 := by
          apply Classical.byContradiction
          intro q
          have e1 := gM_eq hw (t := t) (j := a) (k := cB z i) (by omega) (by omega) (bt_1.mp (by omega))
          have e2 := gM_self hw t (j := cA z i) (by omega)
          rw [hg, e1] at e2
          have := bt_1.mpr e2
          omega
        have pa : rP z (gM z t a) b (cA z i) = -1 := (rs_at _ _ _ _ hN).mpr (fun q => q.2 (Or.inl h2))
        have pb : rP z (gM z t a) b (cB z i) = -1 := (rs_at _ _ _ _ hN).mpr (fun q => q.2 (Or.inl h3))
        rw [rsM_0 (fun q => q.2 h2), sM, if_pos h, mC_0 hr pa, mC_0 hr pb, ih, Int64.add_zero, Int64.add_zero]
      · rw [rsM_1 h h2, sM, if_pos h]
        show lyM _ _ _ _ _ r c = _
        rw [lyM_at hn hp (by omega) (by omega) _ _ hr hc, lyM_at hn hp (by omega) (by omega) _ _ hr hc, ih, Int64.add_assoc]
    · rw [rsM_0 (fun q => h q.1), sM, if_neg h, ih, Int64.add_zero]
theorem sC_0 (z : xC) (t : Int32) (p : Nat → Int32) : ∀ i r, sC z t p (fun _ => 0) i r = 0
  | 0, _ => rfl
  | i + 1, r => by
    have e : ∀ a b g, rC p (fun _ => 0) a b g r = 0 := fun a b g => by
      rw [rC]
      split
      · exact Int64.mul_zero
      · rfl
    rw [sC, sC_0 z t p i r, e, e]
    split <;> rfl
def deQ (z w : xC) (t : Int32) (M a b : Nat) (x : Int32) : Int64 := dm (eQ (rsM z w t M b (nE z)).1 (fun r => if nI r = rP z M b a then 1 else 0) x) (rN z M b) (2 ^ rN z M b - 1)
theorem rN_7 {z : xC} (hw : wf z) (M : Nat) {b : Nat} (hb : b < nN z) : rN z M b ≤ 7 := by
  have := (rs_le M b (nN z)).2 hb
  have := hw.N
  show (rsS M b (nN z)).2 ≤ 7
  omega
theorem dP_rP {z : xC} (hw : wf z) (t : Int32) {b : Nat} (hb : b < nN z) : dP z t b = rP z (gM z t b) b ∧ dN z t b = rN z (gM z t b) b := by
  have h := dr_rs (M := gM z t b) hw.N hb (nN z) (Nat.le_refl _)
  exact ⟨congrArg Prod.fst h, congrArg Prod.snd h⟩
theorem dR_M {z : xC} (hw : wf z) (t : Int32) {a b r c : Nat} (ha : a < nN z) (hb : b < nN z) (hr : r < dN z t b) (hc : c < dN z t b) : dR z t a b r c = sM z t (dP z t b) (nE z) r c := by
  obtain ⟨e1, e2⟩ := dP_rP hw t hb
  have h7 : dN z t b ≤ 7 := by rw [e2]; exact rN_7 hw _ hb
  have hp : plQ (dP z t b) (dN z t b) := by rw [e1, e2]; exact rs_pl _ _ _
  have hN := hw.N
  rw [dR, cdS_at hw t h7 hp _ _ _ (Nat.le_refl _) r c hr (by omega), if_neg (by omega), brR_at h7 hp (by omega) _ _ hr (by omega), if_neg (by omega), Int64.add_zero]
  exact Int64.zero_add _
theorem dR_R {z : xC} (hw : wf z) (t : Int32) {a b r : Nat} (ha : a < nN z) (hb : b < nN z) (hr : r < dN z t b) : dR z t a b r (dN z t b) = fC (dP z t b) a 1 r := by
  obtain ⟨e1, e2⟩ := dP_rP hw t hb
  have h7 : dN z t b ≤ 7 := by rw [e2]; exact rN_7 hw _ hb
  have hp : plQ (dP z t b) (dN z t b) := by rw [e1, e2]; exact rs_pl _ _ _
  have hN := hw.N
  rw [dR, cdS_at hw t h7 hp _ _ _ (Nat.le_refl _) r _ hr (Nat.le_refl _), if_pos rfl, brR_at h7 hp (by omega) _ _ hr (Nat.le_refl _), if_pos rfl, sC_0, Int64.add_zero]
  exact Int64.zero_add _
theorem br_rd {z w : xC} (hw : wf z) (t : Int32) {a b : Nat} (ha : a < nN z) (hb : b < nN z) (hg : gM z t a = gM z t b) : deQ z w t (gM z t a) a b (-1) = dm (dR z t a b) (dN z t b) (2 ^ dN z t b - 1) := by
  obtain ⟨e1, e2⟩ := dP_rP hw t hb
  have h7 : dN z t b ≤ 7 := by rw [e2]; exact rN_7 hw _ hb
  rw [deQ, hg, ← e2, dm_full _ h7, dm_full _ h7]
  refine congrArg _ (DD_congr _ _ _ (fun j hj r hr => ?_))
  show (eQ _ _ _ r j).toInt = _
  rw [eQ, if_neg (nI_m1 (by omega)), dR_M hw t ha hb hr hj, e1, ← hg, rsM_at hw w t ha _ (Nat.le_refl _) r j (by omega) (by omega)]
theorem br_rn {z w : xC} (hw : wf z) (t : Int32) {a b : Nat} (ha : a < nN z) (hb : b < nN z) (hab : ¬ a = b) (hg : gM z t a = gM z t b) : deQ z w t (gM z t a) a b (rP z (gM z t a) b a) = upV (dP z t b) (fun _ => 0) (dm (dR z t a b) (dN z t b)) (dN z t b) a := by
  obtain ⟨e1, e2⟩ := dP_rP hw t hb
  have hN := hw.N
  have h7 : dN z t b ≤ 7 := by rw [e2]; exact rN_7 hw _ hb
  have hp : plQ (dP z t b) (dN z t b) := by rw [e1, e2]; exact rs_pl _ _ _
  have hs := bt_1.mpr (gM_self hw t (j := a) (by omega))
  have h1 : ¬ dP z t b a = -1 := fun e => (rs_at (gM z t b) b a (nN z) hN).mp (by rw [e1] at e; exact e) ⟨ha, fun q => by rcases q with q | q; rw [← hg] at q; omega; exact hab q⟩
  obtain ⟨k, hk, ek, ck⟩ := hp.at (by omega) h1 (by omega)
  rw [upV, if_neg (fun q => h1 ((neg1_lt hp (by omega) (by omega)).mp q)), ck, deQ, hg, ← e2, ← e1, ek]
  refine dm_cr (dR z t a b) _ h7 hk (fun r hr => ?_) (fun r c hr hc hne => ?_)
  · rw [eQ, if_pos rfl, dR_R hw t ha hb hr, fC, ek]
    by_cases q : r = k
    · rw [if_pos (by rw [q]), if_pos (by rw [q])]
    · rw [if_neg (fun g => q ((nI_inj8 (by omega) (by omega)).mp g)), if_neg (fun g => q ((nI_inj8 (by omega) (by omega)).mp g).symm)]
  · rw [eQ, if_neg (fun q => hne ((nI_inj8 (by omega) (by omega)).mp q)), dR_M hw t ha hb hr hc, e1, ← hg, rsM_at hw w t ha _ (Nat.le_refl _) r c (by omega) (by omega)]
/-- what is to be known for a resistance -/
def rOk (z : xC) : Prop := ∀ t a b, a < nN z → b < nN z → gM z t a = gM z t b → 0 < dm (dR z t a b) (dN z t b) (2 ^ dN z t b - 1) ∧ upV (dP z t b) (fun _ => 0) (dm (dR z t a b) (dN z t b)) (dN z t b) a ≠ Int64.minValue
theorem gcd_0 {w : Int64} (hw : 0 < w) : gcdS 200 (absL 0) w = w := by
  have hw0 : ¬ w = 0 := fun e => by rw [e] at hw; exact absurd hw (by decide)
  rw [show absL 0 = 0 by decide, gcdS, if_neg hw0]
  have e : (0 : Int64) - 0 / w * w = 0 := by
    apply Int64.toInt_inj.mp
    rw [rm_t, i64_0, Int.zero_tmod]
  rw [e, gcdS_z]
theorem pt_0 {w : Int64} (hw : 0 < w) (f : Int32) : ptF 0 w f = if f = 0 then 1 else 0 := by
  have hw0 : ¬ w = 0 := fun e => by rw [e] at hw; exact absurd hw (by decide)
  have hp := i64_pos.mp hw
  rw [ptF, gcd_0 hw]
  by_cases c : 1 < w
  · rw [if_pos c]
    by_cases g : f = 0
    · rw [if_pos g, if_pos g]
      apply Int64.toInt_inj.mp
      have hm : w ≠ -1 := fun e => by rw [e] at hw; exact absurd hw (by decide)
      rw [Int64.toInt_div_of_ne_right _ _ hm, Int.tdiv_self (by omega), i64_1]
    · rw [if_neg g, if_neg g]
      exact Int64.zero_div
  · rw [if_neg c]
    have e1 : w = 1 := by
      apply Int64.toInt_inj.mp
      rw [Int64.lt_iff_toInt_lt, i64_1] at c
      rw [i64_1]
      omega
    rw [e1]
theorem m_bit1 : ∀ M, M < 256 → ∀ k, k < 8 → ((nI M >>> (nI k &&& 31)) &&& nI 1 = nI 1 ↔ M / 2 ^ k % 2 = 1) := by decide +kernel
theorem dm_rr {rw : Nat → Nat → Int64} {rr rs : Nat → Int64} {n : Nat} (hn : n ≤ 7) (h : ∀ r, r < n → rr r = rs r) (x : Int32) : dm (eQ rw rr x) n (2 ^ n - 1) = dm (eQ rw rs x) n (2 ^ n - 1) := by
  rw [dm_full _ hn, dm_full _ hn]
  refine congrArg _ (DD_congr _ _ _ (fun j hj r hr => ?_))
  show (eQ _ _ _ r j).toInt = (eQ _ _ _ r j).toInt
  rw [eQ, eQ, h r hr]
theorem rst_same {z : xC} (hw : wf z) (hk : rOk z) {t : Int32} {j : Nat} (hj : j < nN z) (f : Int32) : rRst z (nI j) (nI j) t f = if f = 0 then 1 else 0 := by
  have hN := hw.N
  have h1 : dP z t j j = -1 := by
    rw [(dP_rP hw t hj).1]
    exact (rs_at _ _ _ _ hN).mpr (fun q => q.2 (Or.inr rfl))
  rw [rRst, cl_nI (by omega), upV, h1, if_pos (by decide), Int64.zero_mul, pt_0 (hk t j j hj hj rfl).1]
