/-! steps of the loops that reckon masks -/
theorem join_a {g g2 : Nat → Int32} {S k : Nat} (hg : ∀ j, g2 j = if j < k ∧ ¬ S / 2 ^ j % 2 = 0 then nI S else g j) (c : S / 2 ^ k % 2 = 0) (j : Nat) : g2 j = if j < k + 1 ∧ ¬ S / 2 ^ j % 2 = 0 then nI S else g j := by
  rw [hg j]
  by_cases e : j = k
  · subst e; simp [c]
  · by_cases h : j < k
    · have : j < k + 1 := by omega
      simp [h, this]
    · have : ¬ j < k + 1 := by omega
      simp [h, this]
theorem join_b {g g2 : Nat → Int32} {S k : Nat} (hg : ∀ j, g2 j = if j < k ∧ ¬ S / 2 ^ j % 2 = 0 then nI S else g j) (c : ¬ S / 2 ^ k % 2 = 0) (j : Nat) : upd g2 k (nI S) j = if j < k + 1 ∧ ¬ S / 2 ^ j % 2 = 0 then nI S else g j := by
  by_cases e : j = k
  · subst e; simp [upd, c]
  · simp only [upd, if_neg e, hg j]
    by_cases h : j < k
    · have : j < k + 1 := by omega
      simp [h, this]
    · have : ¬ j < k + 1 := by omega
      simp [h, this]
theorem join_c {g : Nat → Int32} {S k j : Nat} (h : j < k) : (if j < k ∧ ¬ S / 2 ^ j % 2 = 0 then nI S else g j) = if S / 2 ^ j % 2 = 0 then g j else nI S := by
  by_cases e : S / 2 ^ j % 2 = 0 <;> simp [h, e]
theorem grp_a {g2 : Nat → Int32} {k : Nat} (hg : ∀ j, j < k → g2 j = nI (2 ^ j)) : ∀ j, j < k + 1 → upd g2 k (nI (2 ^ k)) j = nI (2 ^ j) := fun j hj => by
  by_cases e : j = k
  · subst e; simp [upd]
  · simp [upd, e]; exact hg j (by omega)
theorem grp_0 {z : xC} {t : Int32} {i : Nat} (c : ¬ eS z i = 0) : gpS z t (i + 1) = gpS z t i := by
  show (if _ then _ else _) = _
  rw [if_neg (fun h => c h.1)]
theorem grp_1 {z : xC} {t : Int32} {i : Nat} (c : eS z i = 0) (d : onI z i t = 0) : gpS z t (i + 1) = gpS z t i := by
  show (if _ then _ else _) = _
  rw [if_neg (fun h => h.2 d)]
theorem grp_3 {z : xC} {t : Int32} {i : Nat} (c : eS z i = 0) (d : ¬ onI z i t = 0) : gpS z t (i + 1) = joinF (gpS z t i) (gpS z t i (cA z i) ||| gpS z t i (cB z i)) := by
  show (if _ then _ else _) = _
  rw [if_pos ⟨c, d⟩]
theorem grp_2 {z : xC} {t : Int32} {i : Nat} (c : eS z i = 0) (d : ¬ onI z i t = 0) : (fun j => nI (gpS z t (i + 1) j)) = fun j => if (gpS z t i (cA z i) ||| gpS z t i (cB z i)) / 2 ^ j % 2 = 0 then (fun j => nI (gpS z t i j)) j else nI (gpS z t i (cA z i) ||| gpS z t i (cB z i)) := by
  rw [grp_3 c d]
  funext j
  unfold joinF
  by_cases h : (gpS z t i (cA z i) ||| gpS z t i (cB z i)) / 2 ^ j % 2 = 0 <;> simp [h]
theorem cfS_z {k : Nat} {a u b v : Int64} {sg : Int32} (h : u = 0 ∨ v = 0) : cfS k a u b v sg = if u = v then nI 0 else if u = 0 then sg else -sg := by
  cases k with
  | zero => rfl
  | succ k =>
    unfold cfS
    rcases h with h | h
    · rw [if_pos h]
    · by_cases e : u = 0
      · rw [if_pos e]
      · rw [if_neg e, if_pos h]
theorem cfS_s {k : Nat} {a u b v : Int64} {sg : Int32} (hu : ¬ u = 0) (hv : ¬ v = 0) (h : cmpL (fdL a u) (fdL b v) = 0) : cfS (k + 1) a u b v sg = cfS k u (fmL a u) v (fmL b v) (-sg) := by
  rw [cfS, if_neg hu, if_neg hv, if_pos h]
theorem cfS_t {k : Nat} {a u b v : Int64} {sg : Int32} (hu : ¬ u = 0) (hv : ¬ v = 0) (h : ¬ cmpL (fdL a u) (fdL b v) = 0) : cfS (k + 1) a u b v sg = sg * cmpL (fdL a u) (fdL b v) := by
  rw [cfS, if_neg hu, if_neg hv, if_neg h]
theorem cfS_eq {k : Nat} {a u b v : Int64} {sg : Int32} (hu : ¬ u = 0) (hv : ¬ v = 0) (h : fdL a u = fdL b v) : cfS (k + 1) a u b v sg = cfS k u (fmL a u) v (fmL b v) (-sg) :=
  cfS_s hu hv (by rw [cmpL, if_pos (by rw [h]; exact Int64.le_refl _), if_pos h]; rfl)
theorem cfS_gt {k : Nat} {a u b v : Int64} {sg : Int32} (hu : ¬ u = 0) (hv : ¬ v = 0) (h : ¬ fdL a u ≤ fdL b v) : cfS (k + 1) a u b v sg = sg := by
  have c : cmpL (fdL a u) (fdL b v) = 1 := by
    rw [cmpL, if_pos (Int64.le_of_lt (Int64.not_le.mp h)), if_neg (fun e => h (by rw [e]; exact Int64.le_refl _))]; rfl
  rw [cfS_t hu hv (by rw [c]; decide), c]; exact Int32.mul_one sg
theorem cfS_lt {k : Nat} {a u b v : Int64} {sg : Int32} (hu : ¬ u = 0) (hv : ¬ v = 0) (g : ¬ fdL a u = fdL b v) (h : fdL a u ≤ fdL b v) : cfS (k + 1) a u b v sg = -sg := by
  have c : cmpL (fdL a u) (fdL b v) = -1 := by
    rw [cmpL, if_neg (fun e => g (Int64.le_antisymm h e))]
  rw [cfS_t hu hv (by rw [c]; decide), c]; exact (Int32.mul_neg sg 1).trans (congrArg _ (Int32.mul_one sg))
theorem m_bitF {M k : Nat} (hM : M < 256) (hk : k < 8) (h : ¬ (if nI M >>> (nI k &&& 31) &&& nI 1 = 0 then nI 0 else nI 1) = 0) : ¬ M / 2 ^ k % 2 = 0 := fun h0 => h (by rw [if_pos ((m_bit M hM k hk).mpr h0)]; rfl)
theorem m_bitT {M k : Nat} (hM : M < 256) (hk : k < 8) (h : (if nI M >>> (nI k &&& 31) &&& nI 1 = 0 then nI 0 else nI 1) = 0) : M / 2 ^ k % 2 = 0 := (m_bit M hM k hk).mp (by
  by_cases hh : nI M >>> (nI k &&& 31) &&& nI 1 = 0
  · exact hh
  · rw [if_neg hh] at h; exact absurd h (by decide))
theorem stS_r {z : xC} {M : Nat → Nat} {i : Nat} (h : ¬ nR z i = 0) : stS z M (i + 1) = ((stS z M i).1, vp_updL (stS z M i).2.1 i (nP z i).toInt64, (stS z M i).2.2) := by rw [stS, if_neg h]
theorem stS_f {z : xC} {M : Nat → Nat} {i : Nat} (h : nR z i = 0) (h2 : ¬ aflI z (M i) = 0) : stS z M (i + 1) = stS z M i := by rw [stS, if_pos h, if_neg h2]
theorem stS_s {z : xC} {M : Nat → Nat} {i : Nat} (h : nR z i = 0) (h2 : aflI z (M i) = 0) : stS z M (i + 1) = ((skS (stS z M i).1 (stS z M i).2.2 i).1, (stS z M i).2.1, (skS (stS z M i).1 (stS z M i).2.2 i).2) := by rw [stS, if_pos h, if_pos h2]
theorem drS_b {M b i : Nat} (h : i = b) : drS M b (i + 1) = drS M b i := by rw [drS, if_pos h]
theorem drS_o {M b i : Nat} (h : i ≠ b) (h2 : M / 2 ^ i % 2 = 0) : drS M b (i + 1) = drS M b i := by rw [drS, if_neg h, if_pos h2]
theorem drS_s {M b i : Nat} (h : i ≠ b) (h2 : ¬ M / 2 ^ i % 2 = 0) : drS M b (i + 1) = skS (drS M b i).1 (drS M b i).2 i := by rw [drS, if_neg h, if_neg h2]
theorem brS_0 {z : xC} {t : Int32} {pl : Nat → Int32} {n i : Nat} (h : eS z i = 0) : brS z t pl n (i + 1) = brS z t pl n i := by rw [brS, if_pos h]
theorem brS_1 {z : xC} {t : Int32} {pl : Nat → Int32} {n i : Nat} (h : ¬ eS z i = 0) (h2 : onI z i t = 0) : brS z t pl n (i + 1) = brS z t pl n i := by rw [brS, if_neg h, if_pos h2]
theorem brS_2 {z : xC} {t : Int32} {pl : Nat → Int32} {n i : Nat} (h : ¬ eS z i = 0) (h2 : ¬ onI z i t = 0) : brS z t pl n (i + 1) = brR (brR (brS z t pl n i) pl n (cA z i) (-(eZ z i)).toInt64) pl n (cB z i) (eZ z i).toInt64 := by rw [brS, if_neg h, if_neg h2]
theorem cdS_0 {z : xC} {t : Int32} {pl : Nat → Int32} {kn : Nat → Int64} {n i : Nat} {rw : Nat → Nat → Int64} (h : ¬ eS z i = 0) : cdS z t pl kn n rw (i + 1) = cdS z t pl kn n rw i := by rw [cdS, if_neg h]
theorem cdS_1 {z : xC} {t : Int32} {pl : Nat → Int32} {kn : Nat → Int64} {n i : Nat} {rw : Nat → Nat → Int64} (h : eS z i = 0) (h2 : onI z i t = 0) : cdS z t pl kn n rw (i + 1) = cdS z t pl kn n rw i := by rw [cdS, if_pos h, if_pos h2]
theorem cdS_2 {z : xC} {t : Int32} {pl : Nat → Int32} {kn : Nat → Int64} {n i : Nat} {rw : Nat → Nat → Int64} (h : eS z i = 0) (h2 : ¬ onI z i t = 0) : cdS z t pl kn n rw (i + 1) = lkR (lkR (cdS z t pl kn n rw i) pl kn n (cA z i) (cB z i) (eZ z i).toInt64) pl kn n (cB z i) (cA z i) (eZ z i).toInt64 := by rw [cdS, if_pos h, if_neg h2]
theorem ftS_0 {z : xC} {t : Int32} {i : Nat} (h : tgb z i t < 0) : ftS z t (i + 1) = ftS z t i := by rw [ftS, if_pos h]
theorem ftS_1 {z : xC} {t : Int32} {i : Nat} (h : ¬ tgb z i t < 0) (h2 : ftS z t i < 0) : ftS z t (i + 1) = tgb z i t := by rw [ftS, if_neg h, if_pos h2]
theorem ftS_2 {z : xC} {t : Int32} {i : Nat} (h : ¬ tgb z i t < 0) (h2 : ¬ ftS z t i < 0) (h3 : ftS z t i ≤ tgb z i t) : ftS z t (i + 1) = ftS z t i := by rw [ftS, if_neg h, if_neg h2, if_pos h3]
theorem ftS_3 {z : xC} {t : Int32} {i : Nat} (h : ¬ tgb z i t < 0) (h2 : ¬ ftS z t i < 0) (h3 : ¬ ftS z t i ≤ tgb z i t) : ftS z t (i + 1) = tgb z i t := by rw [ftS, if_neg h, if_neg h2, if_neg h3]
theorem crS_0 {z : xC} {i : Nat} (h : nR z i = 0) : crS z (i + 1) = crS z i := by rw [crS, if_pos h]; rfl
theorem crS_1 {z : xC} {i : Nat} (h : ¬ nR z i = 0) : crS z (i + 1) = crS z i + 1 := by rw [crS, if_neg h]
theorem dgN_0 {z : xC} {d : Int64} {i : Nat} (h : nR z i = 0) : dgN z d (i + 1) = dg (dgN z d i) 0 := by rw [dgN, if_pos h]
theorem dgN_1 {z : xC} {d : Int64} {i : Nat} (h : ¬ nR z i = 0) : dgN z d (i + 1) = dg (dgN z d i) 1 := by rw [dgN, if_neg h]
theorem dgP_0 {z : xC} {t : Int32} {d : Int64} {i : Nat} (h : aflI z (gM z t i) = 0) : dgP z t d (i + 1) = dg (dg (dgP z t d i) (ptF (num z t i) (den z t) 1)) (ptF (num z t i) (den z t) 0) := by rw [dgP, if_pos h]
theorem dgP_1 {z : xC} {t : Int32} {d : Int64} {i : Nat} (h : ¬ aflI z (gM z t i) = 0) : dgP z t d (i + 1) = dg (dgP z t d i) (-1) := by rw [dgP, if_neg h]
/-- what an element that is on takes out of a node, over the common denominator -/
def flw (z : xC) (N : Nat → Int64) (d : Int64) (i j : Nat) : Int64 := if ¬ j = cA z i ∧ ¬ j = cB z i then 0 else
  if j = cA z i then (if eS z i = 0 then (eZ z i).toInt64 * (N (cA z i) - N (cB z i)) else (eZ z i).toInt64 * d)
  else -(if eS z i = 0 then (eZ z i).toInt64 * (N (cA z i) - N (cB z i)) else (eZ z i).toInt64 * d)
/-- no earlier node that does not float has the same numerator -/
def lvF (z : xC) (M : Nat → Nat) (N : Nat → Int64) (j : Nat) : Nat → Bool
  | 0 => true
  | o + 1 => lvF z M N j o && (!(aflI z (M o) == 0) || !(N o == N j))
theorem lvF_1 {z : xC} {M : Nat → Nat} {N : Nat → Int64} {j o : Nat} (h : lvF z M N j o = true) (h2 : ¬ aflI z (M o) = 0 ∨ ¬ N o = N j) : lvF z M N j (o + 1) = true := by
  rw [lvF, h]
  rcases h2 with e | e <;> simp [e]
theorem lvF_0 {z : xC} {M : Nat → Nat} {N : Nat → Int64} {j o : Nat} (h1 : aflI z (M o) = 0) (h2 : N o = N j) : ∀ n, o < n → lvF z M N j n = false
  | 0, h => absurd h (Nat.not_lt_zero _)
  | n + 1, h => by
    rw [lvF]
    by_cases e : o = n
    · subst e; simp [h1, h2]
    · rw [lvF_0 h1 h2 n (by omega)]; rfl
/-- the bench stands over the circuit z, its rows hold something -/
def xB (D : va_G) (A : Nat → Prop) (y : Nat → ClassId) (ad : xL → Nat) (bl : xM) (z : xC) (fR fO : Nat → Nat → Option va_E) (H : Heap) : Prop := ∃ (g pl : Nat → Int32) (kn : Nat → Int64) (rw : Nat → Nat → Int64) (mi : Nat → Int64) (un : Int32), xW D A ad (wU (wB y ad bl z g pl kn rw mi un) fR fO) H
theorem xW.B {D : va_G} {A : Nat → Prop} {y : Nat → ClassId} {ad : xL → Nat} {bl : xM} {z : xC} {g pl : Nat → Int32} {kn mi : Nat → Int64} {rw : Nat → Nat → Int64} {un : Int32} {fR fO : Nat → Nat → Option va_E} {H : Heap} (h : xW D A ad (wU (wB y ad bl z g pl kn rw mi un) fR fO) H) : xB D A y ad bl z fR fO H := ⟨g, pl, kn, rw, mi, un, h⟩
theorem flw_0 {z : xC} {N : Nat → Int64} {d : Int64} {i j : Nat} (h : ¬ j = cA z i ∧ ¬ j = cB z i) : flw z N d i j = 0 := by rw [flw, if_pos h]
theorem flw_1 {z : xC} {N : Nat → Int64} {d : Int64} {i j : Nat} (h : ¬ (¬ j = cA z i ∧ ¬ j = cB z i)) (h2 : j = cA z i) : flw z N d i j = if eS z i = 0 then (eZ z i).toInt64 * (N (cA z i) - N (cB z i)) else (eZ z i).toInt64 * d := by rw [flw, if_neg h, if_pos h2]
theorem flw_2 {z : xC} {N : Nat → Int64} {d : Int64} {i j : Nat} (h : ¬ (¬ j = cA z i ∧ ¬ j = cB z i)) (h2 : ¬ j = cA z i) : flw z N d i j = -(if eS z i = 0 then (eZ z i).toInt64 * (N (cA z i) - N (cB z i)) else (eZ z i).toInt64 * d) := by rw [flw, if_neg h, if_neg h2]
/-- the feed: what all elements that are on take out of the node -/
def fdS (z : xC) (t : Int32) (N : Nat → Int64) (d : Int64) (j : Nat) : Nat → Int64
  | 0 => 0
  | i + 1 => if onI z i t = 0 then fdS z t N d j i else fdS z t N d j i + flw z N d i j
theorem fdS_0 {z : xC} {t : Int32} {N : Nat → Int64} {d : Int64} {j i : Nat} (h : onI z i t = 0) : fdS z t N d j (i + 1) = fdS z t N d j i := by rw [fdS, if_pos h]
theorem fdS_1 {z : xC} {t : Int32} {N : Nat → Int64} {d : Int64} {j i : Nat} (h : ¬ onI z i t = 0) : fdS z t N d j (i + 1) = fdS z t N d j i + flw z N d i j := by rw [fdS, if_neg h]
def dgAll (z : xC) : Int64 := if ftS z (nI 0) (nE z) < 0 then dgP z (nI 0) (dgA z 409) (nN z) else dgP z (ftS z (nI 0) (nE z)) (dgP z (nI 0) (dgA z 409) (nN z)) (nN z)
