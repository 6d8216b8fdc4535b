/-! steps of the loops that reckon masks -/
theorem join_a {g g2 : Nat → Int32} {S k : Nat} (hg : ∀ j, g2 j = if j < k ∧ ¬ S / 2 ^ j % 2 = 0 then nI S else g j) (c : S / 2 ^ k % 2 = 0) (j : Nat) : g2 j = if j < k + 1 ∧ ¬ S / 2 ^ j % 2 = 0 then nI S else g j := by
  rw [hg j]
  by_cases e : j = k
  · subst e; simp [c]
  · by_cases h : j < k
    · have : j < k + 1 := by omega
      simp [h, this]
    · have : ¬ j < k + 1 := by omega
      simp [h, this]
theorem join_b {g g2 : Nat → Int32} {S k : Nat} (hg : ∀ j, g2 j = if j < k ∧ ¬ S / 2 ^ j % 2 = 0 then nI S else g j) (c : ¬ S / 2 ^ k % 2 = 0) (j : Nat) : upd g2 k (nI S) j = if j < k + 1 ∧ ¬ S / 2 ^ j % 2 = 0 then nI S else g j := by
  by_cases e : j = k
  · subst e; simp [upd, c]
  · simp only [upd, if_neg e, hg j]
    by_cases h : j < k
    · have : j < k + 1 := by omega
      simp [h, this]
    · have : ¬ j < k + 1 := by omega
      simp [h, this]
theorem join_c {g : Nat → Int32} {S k j : Nat} (h : j < k) : (if j < k ∧ ¬ S / 2 ^ j % 2 = 0 then nI S else g j) = if S / 2 ^ j % 2 = 0 then g j else nI S := by
  by_cases e : S / 2 ^ j % 2 = 0 <;> simp [h, e]
theorem grp_a {g2 : Nat → Int32} {k : Nat} (hg : ∀ j, j < k → g2 j = nI (2 ^ j)) : ∀ j, j < k + 1 → upd g2 k (nI (2 ^ k)) j = nI (2 ^ j) := fun j hj => by
  by_cases e : j = k
  · subst e; simp [upd]
  · simp [upd, e]; exact hg j (by omega)
theorem grp_0 {z : xC} {t : Int32} {i : Nat} (c : ¬ eS z i = 0) : gpS z t (i + 1) = gpS z t i := by
  show (if _ then _ else _) = _
  rw [if_neg (fun h => c h.1)]
theorem grp_1 {z : xC} {t : Int32} {i : Nat} (c : eS z i = 0) (d : onI z i t = 0) : gpS z t (i + 1) = gpS z t i := by
  show (if _ then _ else _) = _
  rw [if_neg (fun h => h.2 d)]
theorem grp_3 {z : xC} {t : Int32} {i : Nat} (c : eS z i = 0) (d : ¬ onI z i t = 0) : gpS z t (i + 1) = joinF (gpS z t i) (gpS z t i (cA z i) ||| gpS z t i (cB z i)) := by
  show (if _ then _ else _) = _
  rw [if_pos ⟨c, d⟩]
theorem grp_2 {z : xC} {t : Int32} {i : Nat} (c : eS z i = 0) (d : ¬ onI z i t = 0) : (fun j => nI (gpS z t (i + 1) j)) = fun j => if (gpS z t i (cA z i) ||| gpS z t i (cB z i)) / 2 ^ j % 2 = 0 then (fun j => nI (gpS z t i j)) j else nI (gpS z t i (cA z i) ||| gpS z t i (cB z i)) := by
  rw [grp_3 c d]
  funext j
  unfold joinF
  by_cases h : (gpS z t i (cA z i) ||| gpS z t i (cB z i)) / 2 ^ j % 2 = 0 <;> simp [h]
theorem cfS_z {k : Nat} {a u b v : Int64} {sg : Int32} (h : u = 0 ∨ v = 0) : cfS k a u b v sg = if u = v then nI 0 else if u = 0 then sg else -sg := by
  cases k with
  | zero => rfl
  | succ k =>
    unfold cfS
    rcases h with h | h
    · rw [if_pos h]
    · by_cases e : u = 0
      · rw [if_pos e]
      · rw [if_neg e, if_pos h]
theorem cfS_s {k : Nat} {a u b v : Int64} {sg : Int32} (hu : ¬ u = 0) (hv : ¬ v = 0) (h : cmpL (fdL a u) (fdL b v) = 0) : cfS (k + 1) a u b v sg = cfS k u (fmL a u) v (fmL b v) (-sg) := by
  rw [cfS, if_neg hu, if_neg hv, if_pos h]
theorem cfS_t {k : Nat} {a u b v : Int64} {sg : Int32} (hu : ¬ u = 0) (hv : ¬ v = 0) (h : ¬ cmpL (fdL a u) (fdL b v) = 0) : cfS (k + 1) a u b v sg = sg * cmpL (fdL a u) (fdL b v) := by
  rw [cfS, if_neg hu, if_neg hv, if_neg h]
