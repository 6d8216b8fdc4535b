/-! the bench's equations are the reference's -/
theorem nI_m1 {n : Nat} (h : n < 2 ^ 31) : ¬ nI n = -1 := fun e => nI_pos h (by rw [e]; decide)
theorem us_mono (z : xC) (t : Int32) (i : Nat) : ∀ k, (usS z t i).2 ≤ (usS z t (i + k)).2
  | 0 => Nat.le_refl _
  | k + 1 => by
    have h := us_mono z t i k
    rw [show i + (k + 1) = (i + k) + 1 by omega]
    by_cases c : aflI z (gM z t (i + k)) = 0 ∧ nR z (i + k) = 0
    · rw [usS_1 c.1 c.2]; exact Nat.le_succ_of_le h
    · rw [usS_0 c]; exact h
theorem us_at (z : xC) (t : Int32) (j : Nat) : ∀ i, i ≤ 8 → ((usS z t i).1 j = -1 ↔ ¬ (j < i ∧ aflI z (gM z t j) = 0 ∧ nR z j = 0))
  | 0, _ => ⟨fun _ h => absurd h.1 (Nat.not_lt_zero _), fun _ => rfl⟩
  | i + 1, hi => by
    have ih := us_at z t j i (by omega)
    have hle := (us_le z t i).1
    by_cases c : aflI z (gM z t i) = 0 ∧ nR z i = 0
    · rw [usS_1 c.1 c.2]
      by_cases e : j = i
      · have e1 : upd (usS z t i).1 i (nI (usS z t i).2) j = nI (usS z t i).2 := by simp [upd, e]
        show upd _ _ _ j = -1 ↔ _
        rw [e1]
        exact ⟨fun h => absurd h (nI_m1 (by omega)), fun h => absurd ⟨by omega, by rw [e]; exact c⟩ h⟩
      · have e1 : upd (usS z t i).1 i (nI (usS z t i).2) j = (usS z t i).1 j := by simp [upd, e]
        show upd _ _ _ j = -1 ↔ _
        rw [e1, ih]
        exact ⟨fun h g => h ⟨by omega, g.2⟩, fun h g => h ⟨by omega, g.2⟩⟩
    · rw [usS_0 c, ih]
      refine ⟨fun h g => h ⟨?_, g.2⟩, fun h g => h ⟨by omega, g.2⟩⟩
      rcases Nat.lt_or_ge j i with q | q
      · exact q
      · exact absurd g.2 (by rw [show j = i by omega]; exact c)
theorem st_us {z : xC} (hw : wf z) (t : Int32) : ∀ i, i ≤ nN z → (stS z (gM z t) i).1 = (usS z t i).1 ∧ (stS z (gM z t) i).2.2 = (usS z t i).2 ∧ ∀ j, (stS z (gM z t) i).2.1 j = if j < i ∧ ¬ nR z j = 0 then (nP z j).toInt64 else 0
  | 0, _ => ⟨rfl, rfl, fun j => (if_neg (fun h => absurd h.1 (Nat.not_lt_zero _))).symm⟩
  | i + 1, hi => by
    obtain ⟨h1, h2, h3⟩ := st_us hw t i (by omega)
    have h7 := uN_7 hw t
    by_cases cr : nR z i = 0
    · have h3' : ∀ j, (stS z (gM z t) i).2.1 j = if j < i + 1 ∧ ¬ nR z j = 0 then (nP z j).toInt64 else 0 := fun j => by
        rw [h3 j]
        by_cases q : j < i ∧ ¬ nR z j = 0
        · rw [if_pos q, if_pos ⟨by omega, q.2⟩]
        · rw [if_neg q, if_neg (fun g => q ⟨by
            rcases Nat.lt_or_ge j i with a | a
            · exact a
            · exact absurd cr (by rw [show i = j by omega]; exact g.2), g.2⟩)]
      by_cases ca : aflI z (gM z t i) = 0
      · have hm : (usS z t i).2 + 1 ≤ 7 := by
          have := us_mono z t (i + 1) (nN z - (i + 1))
          rw [show i + 1 + (nN z - (i + 1)) = nN z by omega, usS_1 ca cr] at this
          exact Nat.le_trans this h7
        have e : stS z (gM z t) (i + 1) = ((skS (stS z (gM z t) i).1 (stS z (gM z t) i).2.2 i).1, (stS z (gM z t) i).2.1, (skS (stS z (gM z t) i).1 (stS z (gM z t) i).2.2 i).2) := by
          rw [stS, if_pos cr, if_pos ca]
        rw [e, usS_1 ca cr, skS, if_pos (by rw [h2]; omega), h1, h2]
        exact ⟨rfl, rfl, h3'⟩
      · have e : stS z (gM z t) (i + 1) = stS z (gM z t) i := by rw [stS, if_pos cr, if_neg ca]
        rw [e, usS_0 (fun g => ca g.1)]
        exact ⟨h1, h2, h3'⟩
    · have e : stS z (gM z t) (i + 1) = ((stS z (gM z t) i).1, vp_updL (stS z (gM z t) i).2.1 i (nP z i).toInt64, (stS z (gM z t) i).2.2) := by
        rw [stS, if_neg cr]
      rw [e, usS_0 (fun g => cr g.2)]
      refine ⟨h1, h2, fun j => ?_⟩
      show vp_updL _ _ _ j = _
      by_cases q : j = i
      · rw [if_pos ⟨by omega, by rw [q]; exact cr⟩]
        simp [vp_updL, q]
      · have e2 : vp_updL (stS z (gM z t) i).2.1 i (nP z i).toInt64 j = (stS z (gM z t) i).2.1 j := by simp [vp_updL, q]
        rw [e2, h3 j]
        by_cases g : j < i ∧ ¬ nR z j = 0
        · rw [if_pos g, if_pos ⟨by omega, g.2⟩]
        · rw [if_neg g, if_neg (fun k => g ⟨by omega, k.2⟩)]
theorem sP_uP {z : xC} (hw : wf z) (t : Int32) : sP z t = uP z t := (st_us hw t (nN z) (Nat.le_refl _)).1
theorem sN_uN {z : xC} (hw : wf z) (t : Int32) : sN z t = uN z t := (st_us hw t (nN z) (Nat.le_refl _)).2.1
theorem sK_at {z : xC} (hw : wf z) (t : Int32) (j : Nat) : sK z t j = if j < nN z ∧ ¬ nR z j = 0 then (nP z j).toInt64 else 0 := (st_us hw t (nN z) (Nat.le_refl _)).2.2 j
theorem uP_at {z : xC} (hw : wf z) (t : Int32) (j : Nat) : uP z t j = -1 ↔ ¬ (j < nN z ∧ aflI z (gM z t j) = 0 ∧ nR z j = 0) := us_at z t j (nN z) hw.N
/-- what one conductor brings into the rows -/
def mC (p : Nat → Int32) (a b : Nat) (g : Int64) (r c : Nat) : Int64 := if p a = nI r then (if r = c then g else 0) - (if p b = nI c then g else 0) else 0
def rC (p : Nat → Int32) (kn : Nat → Int64) (a b : Nat) (g : Int64) (r : Nat) : Int64 := if p a = nI r ∧ p b = -1 then g * kn b else 0
def fC (p : Nat → Int32) (a : Nat) (g : Int64) (r : Nat) : Int64 := if p a = nI r then g else 0
theorem u2_at (rw : Nat → Nat → Int64) (i j : Nat) (v : Int64) (r c : Nat) : u2 rw i j v r c = if r = i ∧ c = j then v else rw r c := by
  unfold u2 vp_updL
  by_cases h : r = i
  · rw [if_pos h]
    by_cases g : c = j
    · rw [if_pos g, if_pos ⟨h, g⟩]
    · rw [if_neg g, if_neg (fun k => g k.2), h]
  · rw [if_neg h, if_neg (fun k => h k.1)]
theorem updL_at (f : Nat → Int64) (i : Nat) (v : Int64) (r : Nat) : vp_updL f i v r = if r = i then v else f r := rfl
theorem nI_inj8 {a b : Nat} (ha : a ≤ 8) (hb : b ≤ 8) : nI a = nI b ↔ a = b := nI_eq (by omega) (by omega)
theorem lyM_at {p : Nat → Int32} {n : Nat} (hn : n ≤ 8) (hp : plQ p n) {a b : Nat} (ha : a < 8) (hb : b < 8) (rw : Nat → Nat → Int64) (g : Int64) {r c : Nat} (hr : r < 8) (hc : c < 8) : lyM rw p a b g r c = rw r c + mC p a b g r c := by
  rw [lyM, mC]
  by_cases h : p a = -1
  · rw [if_pos h, if_neg (by rw [h]; exact fun e => nI_m1 (by omega) e.symm)]
    exact (Int64.add_zero _).symm
  · obtain ⟨k, hk, ek, ck⟩ := hp.at ha h hn
    rw [if_neg h, ck, ek]
    by_cases h2 : p b = -1
    · rw [if_pos h2, h2, u2_at, if_neg (fun e => nI_m1 (by omega) e.symm : ¬ (-1 : Int32) = nI c)]
      by_cases e : r = k
      · rw [if_pos (show nI k = nI r by rw [e])]
        by_cases e2 : c = k
        · rw [if_pos ⟨e, e2⟩, if_pos (show r = c by omega), e, e2, Int64.sub_zero]
        · rw [if_neg (fun q => e2 q.2), if_neg (show ¬ r = c by omega)]; grind
      · rw [if_neg (fun q => e q.1), if_neg (fun q => e ((nI_inj8 (by omega) (by omega)).mp q).symm)]; exact (Int64.add_zero _).symm
    · obtain ⟨k2, hk2, ek2, ck2⟩ := hp.at hb h2 hn
      rw [if_neg h2, ck2, ek2, u2_at, u2_at, u2_at]
      by_cases e : r = k
      · rw [if_pos (show nI k = nI r by rw [e])]
        by_cases e2 : c = k2
        · rw [if_pos ⟨e, e2⟩, if_pos (show nI k2 = nI c by rw [e2])]
          by_cases e3 : c = k
          · rw [if_pos ⟨rfl, by omega⟩, if_pos (show r = c by omega), e, e3]; grind
          · rw [if_neg (fun q => e3 (by omega)), if_neg (show ¬ r = c by omega), e, e2]; grind
        · rw [if_neg (fun q => e2 q.2), if_neg (fun q => e2 ((nI_inj8 (by omega) (by omega)).mp q).symm)]
          by_cases e3 : c = k
          · rw [if_pos ⟨e, e3⟩, if_pos (show r = c by omega), e, e3]; grind
          · rw [if_neg (fun q => e3 q.2), if_neg (show ¬ r = c by omega)]; grind
      · rw [if_neg (fun q => e q.1), if_neg (fun q => e q.1), if_neg (fun q => e ((nI_inj8 (by omega) (by omega)).mp q).symm)]; exact (Int64.add_zero _).symm
theorem lyR_at {p rp : Nat → Int32} {n : Nat} (hn : n ≤ 8) (hp : plQ p n) {a b : Nat} (ha : a < 8) (rr : Nat → Int64) (g : Int64) {r : Nat} (hr : r < 8) : lyR rr p rp a b g r = rr r + rC p (fun j => (rp j).toInt64) a b g r := by
  rw [lyR, rC]
  by_cases h : p a = -1
  · rw [if_pos h, if_neg (by rw [h]; exact fun e => nI_m1 (by omega) e.1.symm)]
    exact (Int64.add_zero _).symm
  · obtain ⟨k, hk, ek, ck⟩ := hp.at ha h hn
    rw [if_neg h, ck, ek]
    by_cases h2 : p b = -1
    · rw [if_pos h2, updL_at]
      by_cases e : r = k
      · rw [if_pos e, if_pos ⟨by rw [e], h2⟩, e]
      · rw [if_neg e, if_neg (fun q => e ((nI_inj8 (by omega) (by omega)).mp q.1).symm)]; exact (Int64.add_zero _).symm
    · rw [if_neg h2, if_neg (fun q => h2 q.2)]; exact (Int64.add_zero _).symm
theorem frA_at {p : Nat → Int32} {n : Nat} (hn : n ≤ 8) (hp : plQ p n) {a : Nat} (ha : a < 8) (rr : Nat → Int64) (g : Int64) {r : Nat} (hr : r < 8) : frA rr p a g r = rr r + fC p a g r := by
  rw [frA, fC]
  by_cases h : p a = -1
  · rw [if_pos h, if_neg (by rw [h]; exact fun e => nI_m1 (by omega) e.symm)]
    exact (Int64.add_zero _).symm
  · obtain ⟨k, hk, ek, ck⟩ := hp.at ha h hn
    rw [if_neg h, ck, ek, updL_at]
    by_cases e : r = k
    · rw [if_pos e, if_pos (by rw [e]), e]
    · rw [if_neg e, if_neg (fun q => e ((nI_inj8 (by omega) (by omega)).mp q).symm)]; exact (Int64.add_zero _).symm
theorem frS_at {p : Nat → Int32} {n : Nat} (hn : n ≤ 8) (hp : plQ p n) {a : Nat} (ha : a < 8) (rr : Nat → Int64) (g : Int64) {r : Nat} (hr : r < 8) : frS rr p a g r = rr r + fC p a (-g) r := by
  have e : frS rr p a g r = frA rr p a (-g) r := by
    rw [frS, frA]
    by_cases h : p a = -1
    · rw [if_pos h, if_pos h]
    · rw [if_neg h, if_neg h, updL_at, updL_at]
      split
      · grind
      · rfl
  rw [e]
  exact frA_at hn hp ha rr (-g) hr
theorem neg1_lt {p : Nat → Int32} {n a : Nat} (hp : plQ p n) (ha : a < 8) (hn : n ≤ 8) : p a < 0 ↔ p a = -1 := by
  constructor
  · intro h
    rcases hp a ha with e | ⟨k, hk, e⟩
    · exact e
    · rw [e] at h; exact absurd h (nI_pos (by omega))
  · intro h; rw [h]; decide
theorem brR_at {p : Nat → Int32} {n : Nat} (hn : n ≤ 7) (hp : plQ p n) {a : Nat} (ha : a < 8) (rw : Nat → Nat → Int64) (g : Int64) {r c : Nat} (hr : r < n) (hc : c ≤ n) : brR rw p n a g r c = rw r c + if c = n then fC p a g r else 0 := by
  rw [brR, fC]
  by_cases h : p a = -1
  · have h9 : ¬ p a = nI r := by rw [h]; exact fun e => nI_m1 (by omega) e.symm
    rw [if_pos (by rw [h]; decide), if_neg h9]
    split <;> exact (Int64.add_zero _).symm
  · obtain ⟨k, hk, ek, ck⟩ := hp.at ha h (by omega)
    rw [if_neg (fun q => h ((neg1_lt hp ha (by omega)).mp q)), ck, ek, u2_at]
    by_cases e : r = k
    · by_cases e2 : c = n
      · rw [if_pos ⟨e, e2⟩, if_pos e2, if_pos (by rw [e]), e, e2]
      · rw [if_neg (fun q => e2 q.2), if_neg e2]; exact (Int64.add_zero _).symm
    · rw [if_neg (fun q => e q.1), if_neg (fun q => e ((nI_inj8 (by omega) (by omega)).mp q).symm)]
      split <;> exact (Int64.add_zero _).symm
theorem lkR_at {p : Nat → Int32} {n : Nat} (hn : n ≤ 7) (hp : plQ p n) {a b : Nat} (ha : a < 8) (hb : b < 8) (rw : Nat → Nat → Int64) (kn : Nat → Int64) (g : Int64) {r c : Nat} (hr : r < n) (hc : c ≤ n) : lkR rw p kn n a b g r c = rw r c + if c = n then rC p kn a b g r else mC p a b g r c := by
  rw [lkR, rC, mC]
  by_cases h : p a = -1
  · have h9 : ¬ p a = nI r := by rw [h]; exact fun e => nI_m1 (by omega) e.symm
    have h8 : ¬ (p a = nI r ∧ p b = -1) := fun q => h9 q.1
    rw [if_pos (by rw [h]; decide), if_neg h8, if_neg h9]
    split <;> exact (Int64.add_zero _).symm
  · obtain ⟨k, hk, ek, ck⟩ := hp.at ha h (by omega)
    rw [if_neg (fun q => h ((neg1_lt hp ha (by omega)).mp q)), ck, ek]
    by_cases h2 : p b = -1
    · rw [if_pos (by rw [h2]; decide), h2, u2_at, u2_at, u2_at, if_neg (fun e => nI_m1 (by omega) e.symm : ¬ (-1 : Int32) = nI c)]
      by_cases e : r = k
      · rw [if_pos (show nI k = nI r ∧ (-1 : Int32) = -1 from ⟨by rw [e], rfl⟩), if_pos (show nI k = nI r by rw [e])]
        by_cases e2 : c = n
        · rw [if_pos ⟨e, e2⟩, if_pos e2, if_neg (fun q => absurd q.2 (by omega)), e, e2]
        · rw [if_neg (fun q => e2 q.2), if_neg e2]
          by_cases e3 : c = k
          · rw [if_pos ⟨e, e3⟩, if_pos (show r = c by omega), e, e3]; grind
          · rw [if_neg (fun q => e3 q.2), if_neg (show ¬ r = c by omega)]; grind
      · have e' : ¬ nI k = nI r := fun q => e ((nI_inj8 (by omega) (by omega)).mp q).symm
        have e7 : ¬ (nI k = nI r ∧ (-1 : Int32) = -1) := fun q => e' q.1
        rw [if_neg (fun q => e q.1), if_neg (fun q => e q.1), if_neg e7, if_neg e']
        split <;> exact (Int64.add_zero _).symm
    · obtain ⟨k2, hk2, ek2, ck2⟩ := hp.at hb h2 (by omega)
      rw [if_neg (fun q => h2 ((neg1_lt hp hb (by omega)).mp q)), ck2, ek2, u2_at, u2_at, u2_at, if_neg (fun q : nI k = nI r ∧ nI k2 = -1 => nI_m1 (by omega) q.2)]
      by_cases e : r = k
      · rw [if_pos (show nI k = nI r by rw [e])]
        by_cases e4 : c = n
        · rw [if_neg (fun q => absurd q.2 (by omega)), if_neg (fun q => absurd q.2 (by omega)), if_pos e4]; exact (Int64.add_zero _).symm
        · rw [if_neg e4]
          by_cases e2 : c = k2
          · rw [if_pos ⟨e, e2⟩, if_pos (show nI k2 = nI c by rw [e2])]
            by_cases e3 : c = k
            · rw [if_pos ⟨rfl, by omega⟩, if_pos (show r = c by omega), e, e3]; grind
            · rw [if_neg (fun q => e3 (by omega)), if_neg (show ¬ r = c by omega), e, e2]; grind
          · rw [if_neg (fun q => e2 q.2), if_neg (fun q => e2 ((nI_inj8 (by omega) (by omega)).mp q).symm)]
            by_cases e3 : c = k
            · rw [if_pos ⟨e, e3⟩, if_pos (show r = c by omega), e, e3]; grind
            · rw [if_neg (fun q => e3 q.2), if_neg (show ¬ r = c by omega)]; grind
      · have e' : ¬ nI k = nI r := fun q => e ((nI_inj8 (by omega) (by omega)).mp q).symm
        rw [if_neg (fun q => e q.1), if_neg (fun q => e q.1), if_neg e']
        split <;> exact (Int64.add_zero _).symm

/-- the sums over the first i elements -/
def sM (z : xC) (t : Int32) (p : Nat → Int32) : Nat → Nat → Nat → Int64
  | 0, _, _ => 0
  | i + 1, r, c => sM z t p i r c + (if eS z i = 0 ∧ ¬ onI z i t = 0 then mC p (cA z i) (cB z i) (eZ z i).toInt64 r c + mC p (cB z i) (cA z i) (eZ z i).toInt64 r c else 0)
def sC (z : xC) (t : Int32) (p : Nat → Int32) (kn : Nat → Int64) : Nat → Nat → Int64
  | 0, _ => 0
  | i + 1, r => sC z t p kn i r + (if eS z i = 0 ∧ ¬ onI z i t = 0 then rC p kn (cA z i) (cB z i) (eZ z i).toInt64 r + rC p kn (cB z i) (cA z i) (eZ z i).toInt64 r else 0)
def sB (z : xC) (t : Int32) (p : Nat → Int32) : Nat → Nat → Int64
  | 0, _ => 0
  | i + 1, r => sB z t p i r + (if ¬ eS z i = 0 ∧ ¬ onI z i t = 0 then fC p (cA z i) (-(eZ z i).toInt64) r + fC p (cB z i) (eZ z i).toInt64 r else 0)
theorem sz_neg {z : xC} (hw : wf z) {i : Nat} (hi : i < nE z) (hs : ¬ eS z i = 0) : (-(eZ z i)).toInt64 = -(eZ z i).toInt64 := by
  have h := (hw.el hi).2.2.2.2.2.2.2.2 (by rcases hw.s hi with g | g; exact absurd g hs; exact g)
  apply Int64.toInt_inj.mp
  rw [Int32.toInt_toInt64, Int32.toInt_neg, Int64.toInt_neg, Int32.toInt_toInt64]
  rw [Int.bmod_eq_of_le (by omega) (by omega), Int.bmod_eq_of_le (by omega) (by omega)]
theorem brS_at {z : xC} (hw : wf z) (t : Int32) {p : Nat → Int32} {n : Nat} (hn : n ≤ 7) (hp : plQ p n) : ∀ i, i ≤ nE z → ∀ r c, r < n → c ≤ n → brS z t p n i r c = if c = n then sB z t p i r else 0
  | 0, _, r, c, _, _ => by
    show (0 : Int64) = if c = n then 0 else 0
    split <;> rfl
  | i + 1, hi, r, c, hr, hc => by
    have ih := brS_at hw t hn hp i (by omega) r c hr hc
    have hN := hw.N
    have ha : cA z i < nN z := hw.a8 (i := i) (by omega)
    have hb : cB z i < nN z := hw.b8 (i := i) (by omega)
    rw [brS, sB]
    by_cases h : eS z i = 0
    · have h3 : ¬ (¬ eS z i = 0 ∧ ¬ onI z i t = 0) := fun q => q.1 h
      rw [if_pos h, ih, if_neg h3, Int64.add_zero]
    · by_cases h2 : onI z i t = 0
      · have h3 : ¬ (¬ eS z i = 0 ∧ ¬ onI z i t = 0) := fun q => q.2 h2
        rw [if_neg h, if_pos h2, ih, if_neg h3, Int64.add_zero]
      · have h3 : ¬ eS z i = 0 ∧ ¬ onI z i t = 0 := ⟨h, h2⟩
        rw [if_neg h, if_neg h2, brR_at hn hp (by omega) _ _ hr hc, brR_at hn hp (by omega) _ _ hr hc, ih, if_pos h3, sz_neg hw (by omega) h]
        split
        · exact Int64.add_assoc _ _ _
        · rw [Int64.add_zero, Int64.add_zero]
theorem cdS_at {z : xC} (hw : wf z) (t : Int32) {p : Nat → Int32} {n : Nat} (hn : n ≤ 7) (hp : plQ p n) (kn : Nat → Int64) (rw : Nat → Nat → Int64) : ∀ i, i ≤ nE z → ∀ r c, r < n → c ≤ n → cdS z t p kn n rw i r c = rw r c + if c = n then sC z t p kn i r else sM z t p i r c
  | 0, _, r, c, _, _ => by
    show rw r c = rw r c + if c = n then 0 else 0
    split <;> exact (Int64.add_zero _).symm
  | i + 1, hi, r, c, hr, hc => by
    have ih := cdS_at hw t hn hp kn rw i (by omega) r c hr hc
    have hN := hw.N
    have ha : cA z i < nN z := hw.a8 (i := i) (by omega)
    have hb : cB z i < nN z := hw.b8 (i := i) (by omega)
    rw [cdS, sC, sM]
    by_cases h : eS z i = 0
    · by_cases h2 : onI z i t = 0
      · have h3 : ¬ (eS z i = 0 ∧ ¬ onI z i t = 0) := fun q => q.2 h2
        rw [if_pos h, if_pos h2, ih, if_neg h3, if_neg h3]
        split <;> rw [Int64.add_zero]
      · have h3 : eS z i = 0 ∧ ¬ onI z i t = 0 := ⟨h, h2⟩
        rw [if_pos h, if_neg h2, lkR_at hn hp (by omega) (by omega) _ _ _ hr hc, lkR_at hn hp (by omega) (by omega) _ _ _ hr hc, ih, if_pos h3, if_pos h3]
        split <;> grind
    · have h3 : ¬ (eS z i = 0 ∧ ¬ onI z i t = 0) := fun q => h q.1
      rw [if_neg h, ih, if_neg h3, if_neg h3]
      split <;> rw [Int64.add_zero]
theorem asS_at {z : xC} (hw : wf z) (w : xC) (t : Int32) : ∀ i, i ≤ nE z → (∀ r c, r < 8 → c < 8 → (asS z w t i).1 r c = sM z t (uP z t) i r c) ∧ ∀ r, r < 8 → (asS z w t i).2 r = sB z t (uP z t) i r + sC z t (uP z t) (fun j => (nP w j).toInt64) i r
  | 0, _ => ⟨fun _ _ _ _ => rfl, fun _ _ => rfl⟩
  | i + 1, hi => by
    obtain ⟨h1, h2⟩ := asS_at hw w t i (by omega)
    have hN := hw.N
    have h7 := uN_7 hw t
    have hp := uP_ok z t
    have ha : cA z i < nN z := hw.a8 (i := i) (by omega)
    have hb : cB z i < nN z := hw.b8 (i := i) (by omega)
    by_cases c : onI z i t = 0
    · have g1 : ¬ (eS z i = 0 ∧ ¬ onI z i t = 0) := fun q => q.2 c
      have g2 : ¬ (¬ eS z i = 0 ∧ ¬ onI z i t = 0) := fun q => q.2 c
      rw [as_off c]
      exact ⟨fun r c hr hc => by rw [sM, if_neg g1, h1 r c hr hc, Int64.add_zero], fun r hr => by rw [sB, sC, if_neg g1, if_neg g2, h2 r hr, Int64.add_zero, Int64.add_zero]⟩
    · by_cases s : eS z i = 0
      · have g1 : eS z i = 0 ∧ ¬ onI z i t = 0 := ⟨s, c⟩
        have g2 : ¬ (¬ eS z i = 0 ∧ ¬ onI z i t = 0) := fun q => q.1 s
        rw [as_con c s]
        refine ⟨fun r c hr hc => ?_, fun r hr => ?_⟩
        · show lyM _ _ _ _ _ r c = _
          rw [lyM_at (n := uN z t) (by omega) hp (by omega) (by omega) _ _ hr hc, lyM_at (n := uN z t) (by omega) hp (by omega) (by omega) _ _ hr hc, h1 r c hr hc, sM, if_pos g1, Int64.add_assoc]
        · show lyR _ _ _ _ _ _ r = _
          rw [lyR_at (n := uN z t) (by omega) hp (by omega) _ _ hr, lyR_at (n := uN z t) (by omega) hp (by omega) _ _ hr, h2 r hr, sB, sC, if_pos g1, if_neg g2]
          grind
      · have g1 : ¬ (eS z i = 0 ∧ ¬ onI z i t = 0) := fun q => s q.1
        have g2 : ¬ eS z i = 0 ∧ ¬ onI z i t = 0 := ⟨s, c⟩
        rw [as_src c s]
        refine ⟨fun r c hr hc => by rw [sM, if_neg g1]; show (asS z w t i).1 r c = _; rw [h1 r c hr hc, Int64.add_zero], fun r hr => ?_⟩
        show frA _ _ _ _ r = _
        rw [frA_at (n := uN z t) (by omega) hp (by omega) _ _ hr, frS_at (n := uN z t) (by omega) hp (by omega) _ _ hr, h2 r hr, sB, sC, if_neg g1, if_pos g2]
        grind
/-- where a sought node hangs on a node that is not sought, that is a rail -/
theorem rC_eq {z w : xC} (hq : Rq z w) (hw : wf z) {t : Int32} {a b : Nat} (ha : a < nN z) (hb : b < nN z) (hg : gM z t a = gM z t b) (g : Int64) {r : Nat} (hr : r < 8) : rC (uP z t) (fun j => (nP w j).toInt64) a b g r = rC (uP z t) (sK z t) a b g r := by
  rw [rC, rC]
  by_cases h : uP z t a = nI r ∧ uP z t b = -1
  · rw [if_pos h, if_pos h, sK_at hw]
    have h1 : ¬ uP z t a = -1 := fun e => nI_m1 (n := r) (by omega) (h.1.symm.trans e)
    have h2 : a < nN z ∧ aflI z (gM z t a) = 0 ∧ nR z a = 0 := Classical.byContradiction (fun q => h1 ((uP_at hw t a).mpr q))
    have h3 := (uP_at hw t b).mp h.2
    have h4 : ¬ nR z b = 0 := fun e => h3 ⟨hb, by rw [← hg]; exact h2.2.1, e⟩
    rw [if_pos ⟨hb, h4⟩, hq.p hb h4]
  · rw [if_neg h, if_neg h]
theorem sC_eq {z w : xC} (hq : Rq z w) (hw : wf z) (t : Int32) : ∀ i, i ≤ nE z → ∀ r, r < 8 → sC z t (uP z t) (fun j => (nP w j).toInt64) i r = sC z t (uP z t) (sK z t) i r
  | 0, _, _, _ => rfl
  | i + 1, hi, r, hr => by
    have ih := sC_eq hq hw t i (by omega) r hr
    have ha : cA z i < nN z := hw.a8 (i := i) (by omega)
    have hb : cB z i < nN z := hw.b8 (i := i) (by omega)
    rw [sC, sC, ih]
    by_cases c : eS z i = 0 ∧ ¬ onI z i t = 0
    · have hg : gM z t (cA z i) = gM z t (cB z i) := gM_edge hw (by omega) c
      rw [if_pos c, if_pos c, rC_eq hq hw ha hb hg _ hr, rC_eq hq hw hb ha hg.symm _ hr]
    · rw [if_neg c, if_neg c]
theorem br_M {z w : xC} (hw : wf z) (t : Int32) {r c : Nat} (hr : r < uN z t) (hc : c < uN z t) : aM z w t r c = sR z t r c := by
  have h7 := uN_7 hw t
  rw [aM, (asS_at hw w t (nE z) (Nat.le_refl _)).1 r c (by omega) (by omega), sR, sP_uP hw, sN_uN hw, cdS_at hw t h7 (uP_ok z t) _ _ _ (Nat.le_refl _) r c hr (by omega), brS_at hw t h7 (uP_ok z t) _ (Nat.le_refl _) r c hr (by omega), if_neg (by omega), if_neg (by omega), Int64.zero_add]
theorem br_R {z w : xC} (hq : Rq z w) (hw : wf z) (t : Int32) {r : Nat} (hr : r < uN z t) : aR z w t r = sR z t r (uN z t) := by
  have h7 := uN_7 hw t
  rw [aR, (asS_at hw w t (nE z) (Nat.le_refl _)).2 r (by omega), sR, sP_uP hw, sN_uN hw, cdS_at hw t h7 (uP_ok z t) _ _ _ (Nat.le_refl _) r _ hr (Nat.le_refl _), brS_at hw t h7 (uP_ok z t) _ (Nat.le_refl _) r _ hr (Nat.le_refl _), if_pos rfl, if_pos rfl, sC_eq hq hw t _ (Nat.le_refl _) r (by omega)]
