/-! a new node and a new element on the bench -/
theorem ne1 {a b c d : Nat} (h : a ≠ c) : ((a, b) : xL) ≠ (c, d) := fun e => h (congrArg Prod.fst e)
theorem ne2 {a b c d : Nat} (h : b ≠ d) : ((a, b) : xL) ≠ (c, d) := fun e => h (congrArg Prod.snd e)
section NB
variable {y : Nat → ClassId} {ad ad' : xL → Nat} {bl : xM} {z : xC} {g pl : Nat → Int32} {kn mi : Nat → Int64} {rw : Nat → Nat → Int64} {un m' : Int32} {cap' : Nat}
theorem wB_nd (hA : ∀ k : xL, k ≠ (2, 0) → k ≠ (12, nN z) → ad' k = ad k) : ∀ k i : Nat, ¬ (k = 1 ∧ i = 0) → ¬ (k = 2 ∧ i = 0) → ¬ (k = 12 ∧ i = nN z) → wB y ad' (m', bl.2.1, cap', bl.2.2.2) (zAddNode z) g pl kn rw mi un k i = wB y ad bl z g pl kn rw mi un k i
  | 0, 0, _, _, _ => by
    show (some (.inr (4, [.ref (ad' (1, 0)), .ref (ad' (3, 0)), .ref (ad' (5, 0)), .ref (ad' (6, 0))])) : Option va_E) = _
    rw [hA (1, 0) (by decide) (ne1 (by decide)), hA (3, 0) (by decide) (ne1 (by decide)), hA (5, 0) (by decide) (ne1 (by decide)), hA (6, 0) (by decide) (ne1 (by decide))]
    rfl
  | 0, i + 1, _, _, _ => rfl
  | 1, 0, h, _, _ => absurd ⟨rfl, rfl⟩ h
  | 1, i + 1, _, _, _ => rfl
  | 2, 0, _, h, _ => absurd ⟨rfl, rfl⟩ h
  | 2, i + 1, _, _, _ => rfl
  | 3, 0, _, _, _ => by
    show (some (.inr (0, [.int bl.2.1, .ref (ad' (4, 0)), .int (nI (nE z))])) : Option va_E) = _
    rw [hA (4, 0) (by decide) (ne1 (by decide))]
    rfl
  | 3, i + 1, _, _, _ => rfl
  | 4, 0, _, _, _ => by
    show (if nE z = 0 then none else some (.inl (y 4, bl.2.2.2, xr (fun i => if i < nE z then some (ad' (13, i)) else none))) : Option va_E) = _
    rw [show (fun i => if i < nE z then some (ad' (13, i)) else none) = (fun i => if i < nE z then some (ad (13, i)) else none) from funext fun i => by rw [hA (13, i) (ne1 (by decide)) (ne1 (by decide))]]
    rfl
  | 4, i + 1, _, _, _ => rfl
  | 5, 0, _, _, _ => rfl
  | 5, i + 1, _, _, _ => rfl
  | 6, 0, _, _, _ => by
    show (some (.inr (2, [.ref (ad' (7, 0)), .ref (ad' (8, 0)), .ref (ad' (9, 0)), .ref (ad' (11, 0)), .int un])) : Option va_E) = _
    rw [hA (7, 0) (by decide) (ne1 (by decide)), hA (8, 0) (by decide) (ne1 (by decide)), hA (9, 0) (by decide) (ne1 (by decide)), hA (11, 0) (by decide) (ne1 (by decide))]
    rfl
  | 6, i + 1, _, _, _ => rfl
  | 7, 0, _, _, _ => rfl
  | 7, i + 1, _, _, _ => rfl
  | 8, 0, _, _, _ => rfl
  | 8, i + 1, _, _, _ => rfl
  | 9, 0, _, _, _ => by
    show (some (.inl (y 5, 7, xr (fun i => if i < 7 then some (ad' (10, i)) else none))) : Option va_E) = _
    rw [show (fun i => if i < 7 then some (ad' (10, i)) else none) = (fun i => if i < 7 then some (ad (10, i)) else none) from funext fun i => by rw [hA (10, i) (ne1 (by decide)) (ne1 (by decide))]]
    rfl
  | 9, i + 1, _, _, _ => rfl
  | 10, i, _, _, _ => rfl
  | 11, 0, _, _, _ => rfl
  | 11, i + 1, _, _, _ => rfl
  | 12, i, _, _, h => by
    have hi : i ≠ nN z := fun e => h ⟨rfl, e⟩
    show (if i < nN z + 1 then some (.inr (3, [.int (upd (nR z) (nN z) 0 i), .int (upd (nP z) (nN z) 0 i)])) else none : Option va_E) = (if i < nN z then some (.inr (3, [.int (nR z i), .int (nP z i)])) else none : Option va_E)
    unfold upd
    rw [if_neg hi, if_neg hi]
    by_cases h2 : i < nN z
    · rw [if_pos h2, if_pos (by omega)]
    · rw [if_neg h2, if_neg (by omega)]
  | 13, i, _, _, _ => by
    show (if i < nE z then some (.inr (1, [.int (eS z i), .int (eA z i), .int (eB z i), .int (eZ z i), .int (eO z i), .int (eT z i), .ref (ad' (14, i))])) else none : Option va_E) = _
    rw [hA (14, i) (ne1 (by decide)) (ne1 (by decide))]
    rfl
  | 14, i, _, _, _ => rfl
  | k + 15, i, _, _, _ => rfl
theorem wB_el {sr a b x : Int32} (hA : ∀ k : xL, k ≠ (4, 0) → k ≠ (13, nE z) → k ≠ (14, nE z) → ad' k = ad k) : ∀ k i : Nat, ¬ (k = 3 ∧ i = 0) → ¬ (k = 4 ∧ i = 0) → ¬ (k = 13 ∧ i = nE z) → k ≠ 14 → wB y ad' (bl.1, m', bl.2.2.1, cap') (zAddEl z sr a b x) g pl kn rw mi un k i = wB y ad bl z g pl kn rw mi un k i
  | 0, 0, _, _, _, _ => by
    show (some (.inr (4, [.ref (ad' (1, 0)), .ref (ad' (3, 0)), .ref (ad' (5, 0)), .ref (ad' (6, 0))])) : Option va_E) = _
    rw [hA (1, 0) (by decide) (ne1 (by decide)) (ne1 (by decide)), hA (3, 0) (by decide) (ne1 (by decide)) (ne1 (by decide)), hA (5, 0) (by decide) (ne1 (by decide)) (ne1 (by decide)), hA (6, 0) (by decide) (ne1 (by decide)) (ne1 (by decide))]
    rfl
  | 0, i + 1, _, _, _, _ => rfl
  | 1, 0, _, _, _, _ => by
    show (some (.inr (0, [.int bl.1, .ref (ad' (2, 0)), .int (nI (nN z))])) : Option va_E) = _
    rw [hA (2, 0) (by decide) (ne1 (by decide)) (ne1 (by decide))]
    rfl
  | 1, i + 1, _, _, _, _ => rfl
  | 2, 0, _, _, _, _ => by
    show (if nN z = 0 then none else some (.inl (y 4, bl.2.2.1, xr (fun i => if i < nN z then some (ad' (12, i)) else none))) : Option va_E) = _
    rw [show (fun i => if i < nN z then some (ad' (12, i)) else none) = (fun i => if i < nN z then some (ad (12, i)) else none) from funext fun i => by rw [hA (12, i) (ne1 (by decide)) (ne1 (by decide)) (ne1 (by decide))]]
    rfl
  | 2, i + 1, _, _, _, _ => rfl
  | 3, 0, h, _, _, _ => absurd ⟨rfl, rfl⟩ h
  | 3, i + 1, _, _, _, _ => rfl
  | 4, 0, _, h, _, _ => absurd ⟨rfl, rfl⟩ h
  | 4, i + 1, _, _, _, _ => rfl
  | 5, 0, _, _, _, _ => rfl
  | 5, i + 1, _, _, _, _ => rfl
  | 6, 0, _, _, _, _ => by
    show (some (.inr (2, [.ref (ad' (7, 0)), .ref (ad' (8, 0)), .ref (ad' (9, 0)), .ref (ad' (11, 0)), .int un])) : Option va_E) = _
    rw [hA (7, 0) (by decide) (ne1 (by decide)) (ne1 (by decide)), hA (8, 0) (by decide) (ne1 (by decide)) (ne1 (by decide)), hA (9, 0) (by decide) (ne1 (by decide)) (ne1 (by decide)), hA (11, 0) (by decide) (ne1 (by decide)) (ne1 (by decide))]
    rfl
  | 6, i + 1, _, _, _, _ => rfl
  | 7, 0, _, _, _, _ => rfl
  | 7, i + 1, _, _, _, _ => rfl
  | 8, 0, _, _, _, _ => rfl
  | 8, i + 1, _, _, _, _ => rfl
  | 9, 0, _, _, _, _ => by
    show (some (.inl (y 5, 7, xr (fun i => if i < 7 then some (ad' (10, i)) else none))) : Option va_E) = _
    rw [show (fun i => if i < 7 then some (ad' (10, i)) else none) = (fun i => if i < 7 then some (ad (10, i)) else none) from funext fun i => by rw [hA (10, i) (ne1 (by decide)) (ne1 (by decide)) (ne1 (by decide))]]
    rfl
  | 9, i + 1, _, _, _, _ => rfl
  | 10, i, _, _, _, _ => rfl
  | 11, 0, _, _, _, _ => rfl
  | 11, i + 1, _, _, _, _ => rfl
  | 12, i, _, _, _, _ => rfl
  | 13, i, _, _, h, _ => by
    have hi : i ≠ nE z := fun e => h ⟨rfl, e⟩
    show (if i < nE z + 1 then some (.inr (1, [.int (upd (eS z) (nE z) sr i), .int (upd (eA z) (nE z) a i), .int (upd (eB z) (nE z) b i), .int (upd (eZ z) (nE z) x i), .int (upd (eO z) (nE z) (nI 1) i), .int (upd (eT z) (nE z) (nI 0) i), .ref (ad' (14, i))])) else none : Option va_E) = (if i < nE z then some (.inr (1, [.int (eS z i), .int (eA z i), .int (eB z i), .int (eZ z i), .int (eO z i), .int (eT z i), .ref (ad (14, i))])) else none : Option va_E)
    unfold upd
    rw [if_neg hi, if_neg hi, if_neg hi, if_neg hi, if_neg hi, if_neg hi, hA (14, i) (ne1 (by decide)) (ne1 (by decide)) (ne2 hi)]
    by_cases h2 : i < nE z
    · rw [if_pos h2, if_pos (by omega)]
    · rw [if_neg h2, if_neg (by omega)]
  | 14, i, _, _, _, h => absurd rfl h
  | k + 15, i, _, _, _, _ => rfl
theorem xW_node {D : va_G} {A : Nat → Prop} {fR fO : Nat → Nat → Option va_E} {H : Heap} {g' : Nat → Nat} {q2 : Nat} (hA : ∀ k : xL, k ≠ (2, 0) → k ≠ (12, nN z) → ad' k = ad k) (hq : ad' (2, 0) = q2) (hg : ∀ i, i < nN z + 1 → g' i = ad' (12, i))
    (h : xW D A ad' (aw_up (aw_up (aw_up (wU (wB y ad bl z g pl kn rw mi un) fR fO) (12, nN z) (.inr (3, [.int 0, .int 0]))) (2, 0) (.inl (y 4, cap', xr (fG g' (nN z + 1))))) (1, 0) (.inr (0, [.int m', .ref q2, .int (nI (nN z + 1))]))) H) : xW D A ad' (wU (wB y ad' (m', bl.2.1, cap', bl.2.2.2) (zAddNode z) g pl kn rw mi un) fR fO) H := by
  refine h.ct (funext fun j => ?_)
  obtain ⟨k, i⟩ := j
  by_cases h1 : ((k, i) : xL) = (1, 0)
  · cases h1
    rw [aw_up_self, ← hq]
    rfl
  rw [aw_up_ne h1]
  by_cases h2 : ((k, i) : xL) = (2, 0)
  · cases h2
    rw [aw_up_self]
    show _ = (if nN z + 1 = 0 then none else some (.inl (y 4, cap', xr (fun i => if i < nN z + 1 then some (ad' (12, i)) else none))) : Option va_E)
    rw [if_neg (Nat.succ_ne_zero _), show (fun i => if i < nN z + 1 then some (ad' (12, i)) else none) = fG g' (nN z + 1) from funext fun i => by
      show (if i < nN z + 1 then some (ad' (12, i)) else none) = (if i < nN z + 1 then some (g' i) else none)
      by_cases hi : i < nN z + 1
      · rw [if_pos hi, if_pos hi, hg i hi]
      · rw [if_neg hi, if_neg hi]]
  rw [aw_up_ne h2]
  by_cases h3 : ((k, i) : xL) = (12, nN z)
  · cases h3
    rw [aw_up_self]
    show _ = (if nN z < nN z + 1 then some (.inr (3, [.int (upd (nR z) (nN z) 0 (nN z)), .int (upd (nP z) (nN z) 0 (nN z))])) else none : Option va_E)
    unfold upd
    rw [if_pos (Nat.lt_succ_self _), if_pos rfl, if_pos rfl]
  rw [aw_up_ne h3]
  by_cases hk : k < 20
  · show (if k < 20 then wB y ad bl z g pl kn rw mi un k i else _) = (if k < 20 then wB y ad' (m', bl.2.1, cap', bl.2.2.2) (zAddNode z) g pl kn rw mi un k i else _)
    rw [if_pos hk, if_pos hk, wB_nd hA k i (fun e => h1 (by rw [e.1, e.2])) (fun e => h2 (by rw [e.1, e.2])) (fun e => h3 (by rw [e.1, e.2]))]
  · show (if k < 20 then _ else _) = (if k < 20 then _ else _)
    rw [if_neg hk, if_neg hk]
theorem xW_elem {D : va_G} {A : Nat → Prop} {fR fO : Nat → Nat → Option va_E} {H : Heap} {g' : Nat → Nat} {q2 qt : Nat} {sr a b x : Int32} (hA : ∀ k : xL, k ≠ (4, 0) → k ≠ (13, nE z) → k ≠ (14, nE z) → ad' k = ad k) (hq : ad' (4, 0) = q2) (hqt : ad' (14, nE z) = qt) (hg : ∀ i, i < nE z + 1 → g' i = ad' (13, i))
    (h : xW D A ad' (aw_up (aw_up (aw_up (aw_up (wU (wB y ad bl z g pl kn rw mi un) fR fO) (14, nE z) (.inl (y 0, 6, .inl (fun _ => 0)))) (13, nE z) (.inr (1, [.int sr, .int a, .int b, .int x, .int 1, .int 0, .ref qt]))) (4, 0) (.inl (y 4, cap', xr (fG g' (nE z + 1))))) (3, 0) (.inr (0, [.int m', .ref q2, .int (nI (nE z + 1))]))) H) : xW D A ad' (wU (wB y ad' (bl.1, m', bl.2.2.1, cap') (zAddEl z sr a b x) g pl kn rw mi un) fR fO) H := by
  refine h.alike (fun j e he => ?_)
  obtain ⟨k, i⟩ := j
  by_cases h1 : ((k, i) : xL) = (3, 0)
  · cases h1
    rw [aw_up_self, ← hq]
    exact ⟨e, he, fun t => t⟩
  rw [aw_up_ne h1]
  by_cases h2 : ((k, i) : xL) = (4, 0)
  · cases h2
    rw [aw_up_self]
    refine ⟨e, ?_, fun t => t⟩
    rw [← he]
    show _ = (if nE z + 1 = 0 then none else some (.inl (y 4, cap', xr (fun i => if i < nE z + 1 then some (ad' (13, i)) else none))) : Option va_E)
    rw [if_neg (Nat.succ_ne_zero _), show (fun i => if i < nE z + 1 then some (ad' (13, i)) else none) = fG g' (nE z + 1) from funext fun i => by
      show (if i < nE z + 1 then some (ad' (13, i)) else none) = (if i < nE z + 1 then some (g' i) else none)
      by_cases hi : i < nE z + 1
      · rw [if_pos hi, if_pos hi, hg i hi]
      · rw [if_neg hi, if_neg hi]]
  rw [aw_up_ne h2]
  by_cases h3 : ((k, i) : xL) = (13, nE z)
  · cases h3
    rw [aw_up_self]
    refine ⟨e, ?_, fun t => t⟩
    rw [← he]
    show _ = (if nE z < nE z + 1 then some (.inr (1, [.int (upd (eS z) (nE z) sr (nE z)), .int (upd (eA z) (nE z) a (nE z)), .int (upd (eB z) (nE z) b (nE z)), .int (upd (eZ z) (nE z) x (nE z)), .int (upd (eO z) (nE z) (nI 1) (nE z)), .int (upd (eT z) (nE z) (nI 0) (nE z)), .ref (ad' (14, nE z))])) else none : Option va_E)
    unfold upd
    rw [if_pos (Nat.lt_succ_self _), if_pos rfl, if_pos rfl, if_pos rfl, if_pos rfl, if_pos rfl, if_pos rfl, hqt]
    rfl
  rw [aw_up_ne h3]
  by_cases h4 : ((k, i) : xL) = (14, nE z)
  · cases h4
    rw [aw_up_self]
    refine ⟨_, rfl, ?_⟩
    have he2 : (if nE z < nE z + 1 then some (.inl (y 0, 6, .inl (fun j => if 6 * nE z ≤ 6 * nE z + j ∧ 6 * nE z + j < 6 * nE z + 6 then (0 : Int32) else tT z (6 * nE z + j)))) else none : Option va_E) = some e := he
    rw [if_pos (Nat.lt_succ_self _)] at he2
    cases he2
    exact xW_i (fun j hj => (if_pos ⟨by omega, by omega⟩).symm)
  rw [aw_up_ne h4]
  by_cases hk : k < 20
  · by_cases h5 : k = 14
    · subst h5
      have he2 : (if i < nE z + 1 then some (.inl (y 0, 6, .inl (fun j => if 6 * nE z ≤ 6 * i + j ∧ 6 * i + j < 6 * nE z + 6 then (0 : Int32) else tT z (6 * i + j)))) else none : Option va_E) = some e := he
      have hi : i ≠ nE z := fun q => h4 (by rw [q])
      by_cases hl : i < nE z
      · rw [if_pos (by omega)] at he2
        cases he2
        exact ⟨.inl (y 0, 6, .inl (fun j => tT z (6 * i + j))), show (if i < nE z then some (.inl (y 0, 6, .inl (fun j => tT z (6 * i + j)))) else none : Option va_E) = _ from if_pos hl, xW_i (fun j hj => (if_neg (by omega)).symm)⟩
      · rw [if_neg (by omega)] at he2
        cases he2
    · refine ⟨e, ?_, fun t => t⟩
      rw [← he]
      show (if k < 20 then wB y ad bl z g pl kn rw mi un k i else _) = (if k < 20 then wB y ad' (bl.1, m', bl.2.2.1, cap') (zAddEl z sr a b x) g pl kn rw mi un k i else _)
      rw [if_pos hk, if_pos hk, wB_el hA k i (fun e => h1 (by rw [e.1, e.2])) (fun e => h2 (by rw [e.1, e.2])) (fun e => h3 (by rw [e.1, e.2])) h5]
  · refine ⟨e, ?_, fun t => t⟩
    rw [← he]
    show (if k < 20 then _ else _) = (if k < 20 then _ else _)
    rw [if_neg hk, if_neg hk]
end NB
/-! they keep the circuit well formed -/
theorem wf_node {z : xC} (h : wf z) (h8 : nN z < 8) : wf (zAddNode z) := by
  refine ⟨by show nN z + 1 ≤ 8; omega, h.2.1, fun i hi => ?_, fun i hi => ?_⟩
  · have hi : i < nN z + 1 := hi
    show (upd (nR z) (nN z) 0 i = 0 ∨ upd (nR z) (nN z) 0 i = 1) ∧ (upd (nR z) (nN z) 0 i = 1 → -99 ≤ (upd (nP z) (nN z) 0 i).toInt ∧ (upd (nP z) (nN z) 0 i).toInt ≤ 99)
    unfold upd
    by_cases e : i = nN z
    · rw [if_pos e, if_pos e]
      exact ⟨Or.inl rfl, fun q => absurd q (by decide)⟩
    · rw [if_neg e, if_neg e]
      exact h.2.2.1 i (by omega)
  · obtain ⟨a1, a2, a3, a4, a5⟩ := h.2.2.2 i hi
    exact ⟨a1, a2, ⟨a3.1, Nat.lt_succ_of_lt a3.2⟩, ⟨a4.1, Nat.lt_succ_of_lt a4.2⟩, a5⟩
theorem sizeP_int {s x : Int32} (hs : s = 0 ∨ s = 1) (h : sizeP s x) : (s = 0 → 1 ≤ x.toInt ∧ x.toInt ≤ 9) ∧ (s = 1 → -99 ≤ x.toInt ∧ x.toInt ≤ 99) := by
  rcases h with h | h
  · exact ⟨fun _ => ⟨Int32.le_iff_toInt_le.mp h.2.1, Int32.le_iff_toInt_le.mp h.2.2⟩, fun q => absurd (h.1.symm.trans q) (by decide)⟩
  · exact ⟨fun q => absurd q h.1, fun _ => ⟨Int32.le_iff_toInt_le.mp h.2.1, Int32.le_iff_toInt_le.mp h.2.2⟩⟩
theorem wf_elem {z : xC} (h : wf z) (h8 : nE z < 20) {s : Int32} {a b : Nat} {x : Int32} (hs : s = 0 ∨ s = 1) (ha : a < nN z) (hb : b < nN z) (hab : a ≠ b) (hx : sizeP s x) : wf (zAddEl z s (nI a) (nI b) x) := by
  have hN := h.1
  refine ⟨h.1, by show nE z + 1 ≤ 20; omega, h.2.2.1, fun i hi => ?_⟩
  have hi : i < nE z + 1 := hi
  have hz1 : ∀ k, tT (zAddEl z s (nI a) (nI b) x) k = (if 6 * nE z ≤ k ∧ k < 6 * nE z + 6 then 0 else tT z k) := fun _ => rfl
  have hcA : cA (zAddEl z s (nI a) (nI b) x) i = (upd (eA z) (nE z) (nI a) i).toNatClampNeg := rfl
  have hcB : cB (zAddEl z s (nI a) (nI b) x) i = (upd (eB z) (nE z) (nI b) i).toNatClampNeg := rfl
  have hcT : cT (zAddEl z s (nI a) (nI b) x) i = (upd (eT z) (nE z) (nI 0) i).toNatClampNeg := rfl
  unfold elOk tmOk
  rw [hcA, hcB, hcT]
  show (upd (eS z) (nE z) s i = 0 ∨ upd (eS z) (nE z) s i = 1) ∧ (upd (eO z) (nE z) (nI 1) i = 0 ∨ upd (eO z) (nE z) (nI 1) i = 1) ∧ (upd (eA z) (nE z) (nI a) i = _ ∧ _ < nN z) ∧ (upd (eB z) (nE z) (nI b) i = _ ∧ _ < nN z) ∧ _ ∧ (upd (eT z) (nE z) (nI 0) i = _ ∧ _) ∧ _ ∧ (upd (eS z) (nE z) s i = 0 → 1 ≤ (upd (eZ z) (nE z) x i).toInt ∧ (upd (eZ z) (nE z) x i).toInt ≤ 9) ∧ (upd (eS z) (nE z) s i = 1 → -99 ≤ (upd (eZ z) (nE z) x i).toInt ∧ (upd (eZ z) (nE z) x i).toInt ≤ 99)
  unfold upd
  by_cases e : i = nE z
  · simp only [if_pos e]
    rw [nI_clamp (by omega), nI_clamp (by omega), nI_clamp (by decide)]
    obtain ⟨s1, s2⟩ := sizeP_int hs hx
    exact ⟨hs, Or.inr rfl, ⟨rfl, ha⟩, ⟨rfl, hb⟩, hab, ⟨rfl, by decide⟩, ⟨fun k hk => absurd hk (Nat.not_lt_zero _), fun k l _ hl => absurd hl (Nat.not_lt_zero _)⟩, s1, s2⟩
  · simp only [if_neg e]
    obtain ⟨a1, a2, a3, a4, a5, a6, a7, a8, a9⟩ := h.2.2.2 i (by omega)
    have h6 : ∀ k, k < cT z i → ¬ (6 * nE z ≤ 6 * i + k ∧ 6 * i + k < 6 * nE z + 6) := fun k hk => by have := a6.2; omega
    refine ⟨a1, a2, a3, a4, a5, a6, ⟨fun k hk => ?_, fun k l hk hl => ?_⟩, a8, a9⟩
    · rw [hz1, if_neg (h6 k hk)]
      exact a7.1 k hk
    · rw [hz1, hz1, if_neg (h6 k (Nat.lt_trans hk hl)), if_neg (h6 l hl)]
      exact a7.2 k l hk hl
section XT2
variable {p : Program} {l : Launch} {e : Env} {R : Room} {s : State} {m : MethodId} {args : Array Value} {below : List Frame} {meth : Method} {c : Code} {H : Heap} {locs : List Loc} {cells slots : Nat} {Q : State → Prop} {pc : Nat} {ls : Array Slot} {rest : List Value}
theorem xt_v2 {u v w : Value} (h : v = w) (k : W p l e R s m args below meth c H locs cells slots Q (F0 m pc ls (u :: w :: rest))) : W p l e R s m args below meth c H locs cells slots Q (F0 m pc ls (u :: v :: rest)) := by rw [h]; exact k
end XT2
set_option maxHeartbeats 4000000 in
set_option maxRecDepth 100000 in
theorem c_X3_addNode (l : Launch) (hls : l.stackTraces = false) {D : va_G} {y : Nat → ClassId} {A : Nat → Prop} {e0 : Nat} {ad : xL → Nat} {Hs : Heap} {bl : xM} {z : xC} {g : Nat → Int32} {pl : Nat → Int32} {kn : Nat → Int64} {rw : Nat → Nat → Int64} {mi : Nat → Int64} {un : Int32} {fR fO : Nat → Nat → Option va_E} (hP : xW D A ad (wU (wB y ad bl z g pl kn rw mi un) fR fO) Hs) (hz : bOk bl z) (h0n : nN z = 0 → ad (2, 0) = e0) (h0e : nE z = 0 → ad (4, 0) = e0) : vx_Met l yX3_addNode (.code yX3_addNode cX3_addNode 2 (some .int) :: WG) { frames := 7, cells := 2, slots := 42, locals := 240 } (xPc2 [.ref (ad (0, 0))] D y A e0 Hs) (xQ (fun v H1 => v = some (.int (nI (nN z))) ∧ tAddNode z = 0 ∧ ∃ (ad' : xL → Nat) (bl' : xM), (∀ k : xL, 20 ≤ k.1 → ad' k = ad k) ∧ ad' (0, 0) = ad (0, 0) ∧ (nN (zAddNode z) = 0 → ad' (2, 0) = e0) ∧ (nE (zAddNode z) = 0 → ad' (4, 0) = e0) ∧ bOk bl' (zAddNode z) ∧ xB D A y ad' bl' (zAddNode z) fR fO H1) A) (xX (fun E H1 => exS (tAddNode z) E ∧ xB D A y ad bl z fR fO H1) A) 2 42 A := by
  refine xM_goX2 (by decide) (Nat.le_of_ble_eq_true rfl) (fun p e s m args below meth c ls R Q hx hb hr hlocks hml hown hts hH hE hnm hRf hRl hRc hRs hQ hS hl hF hG htab => ?_)
  have hRf : R.frames = 7 := hRf
  have hRl : R.locals = 240 := hRl
  have hRc : R.cells = 2 := hRc
  have hRs : R.slots = 42 := hRs
  have hl : lv_has ls 2 [(0, .ref (ad (0, 0)))] := hl
  have hw := hz.w
  have hN := hw.N
  refine lv_aload_n hx hb dX3_addNode_0 rfl (lv_at hl 0 rfl) ?_
  refine fg_X3_nodes hx hb hts hown hE hP q_102 dX3_addNode_1 ?_
  refine xw_callV (C := "java/util/ArrayList") (n := 0) [] (c_size_nodes l hP) hx hb hml hown hts hE hS (xw_recv hE hP (1, 0) rfl rfl) rfl rfl q_24 q_123 q_126 q_124 q_125 (by decide) rfl ⟨by rw [hRf]; decide, by rw [hRl]; decide⟩ hl.1 rfl (Nat.le_of_ble_eq_true rfl) dX3_addNode_4 ⟨by rw [hRc]; decide, by rw [hRs]; decide⟩ (fun v H1 locs hp hS => ?_)
  obtain ⟨hv, hh⟩ := hp; subst hv; subst hh
  refine lv_istore_n (lv' := [(1, .int (nI (nN z))), (0, .ref (ad (0, 0)))]) hx hb dX3_addNode_7 rfl hl (by decide) rfl (fun ls hl => ?_)
  refine lv_iload_n hx hb dX3_addNode_8 rfl (lv_at hl 0 rfl) ?_
  refine lv_bipush (v := nI 8) hx hb dX3_addNode_9 (by decide) ?_
  refine lv_icmp_lt (tgt := 24) hx hb dX3_addNode_11 (by decide) (fun c11 => ?_) (fun c11 => ?_)
  · have h8 : nN z < 8 := ni_lt (by omega) (by decide) c11
    refine lv_aload_n hx hb dX3_addNode_24 rfl (lv_at hl 1 rfl) ?_
    refine fg_X3_nodes hx hb hts hown hE hP q_102 dX3_addNode_25 ?_
    refine xw_new hx hb hts iw_X2 tyX2 tyX2_ok hown q_266 q_465 q_31 hE hP hS (ci := 3) rfl (fs := [.int 0, .int 0]) (fun j hj => match j, hj with | 0, _ => rfl | 1, _ => rfl | n + 2, h => absurd h (by omega)) (by rw [hRc]; decide) (by rw [hRs]; decide) dX3_addNode_28 (12, nN z) (fun q H hP hS => ?_)
    refine lv_dup hx hb dX3_addNode_31 rfl ?_
    refine x2_callIN (host := "NetlistBench") (n := 0) [] (c_X2_init l (lab := (12, nN z)) (h0 := q) hP aw_up_self ad_up_self) hx hb hml hown hts hE hF hG hS rfl rfl q_31 (hG.2.2.2.2.2.2 _ (List.mem_of_elem_eq_true rfl)) q_468 q_467 rfl (by decide) rfl ⟨by rw [hRf]; decide, by rw [hRl]; decide⟩ hl.1 rfl (Nat.le_of_ble_eq_true rfl) dX3_addNode_32 ⟨by rw [hRc]; decide, by rw [hRs]; decide⟩ (fun v H1 locs hp hS => ?_)
    obtain ⟨hv, hP⟩ := hp; subst hv; generalize H1 = H at hP hS ⊢
    have h19 : (wU (wB y ad bl z g pl kn rw mi un) fR fO) (19, 0) = none := rfl
    have eA : ∀ k : xL, k ≠ (12, nN z) → ad_up ad (12, nN z) q k = ad k := fun k hk => ad_up_ne hk
    generalize hg1 : ad_up ad (12, nN z) q = ad1 at hP eA
    have e12 : ad1 (12, nN z) = q := by rw [← hg1]; exact ad_up_self
    have hN20 : nN z ≤ 20 := by omega
    have hA1 : (aw_up (wU (wB y ad bl z g pl kn rw mi un) fR fO) (12, nN z) (.inr (3, [.int 0, .int 0]))) (1, 0) = some (.inr (0, [.int bl.1, .ref (ad1 (2, 0)), .int (nI (nN z))])) := by rw [aw_up_ne (ne1 (by decide)), eA (2, 0) (ne1 (by decide))]; rfl
    have hA2 : (aw_up (wU (wB y ad bl z g pl kn rw mi un) fR fO) (12, nN z) (.inr (3, [.int 0, .int 0]))) (19, 0) = none := (aw_up_ne (ne1 (by decide))).trans h19
    have hA3 : nN z = 0 → ad1 (2, 0) = e0 := fun h => (eA (2, 0) (ne1 (by decide))).trans (h0n h)
    have hA4 : elH ad1 (aw_up (wU (wB y ad bl z g pl kn rw mi un) fR fO) (12, nN z) (.inr (3, [.int 0, .int 0]))) (fun i => ad (12, i)) (nN z) (1, 0) (2, 0) := fun i hi => ⟨(12, i), 3, _, _, _, _, (eA (12, i) (ne2 (by omega))).symm, ne1 (by decide), ne1 (by decide), ne1 (by decide), (aw_up_ne (ne2 (by omega))).trans (show wU (wB y ad bl z g pl kn rw mi un) fR fO (12, i) = _ from if_pos hi), rfl, List.mem_of_elem_eq_true rfl⟩
    have hA5 : 0 < nN z → (aw_up (wU (wB y ad bl z g pl kn rw mi un) fR fO) (12, nN z) (.inr (3, [.int 0, .int 0]))) (2, 0) = some (.inl (y 4, bl.2.2.1, xr (fG (fun i => ad (12, i)) (nN z)))) := fun h => (aw_up_ne (ne1 (by decide))).trans (by show (if nN z = 0 then none else some (.inl (y 4, bl.2.2.1, xr (fun i => if i < nN z then some (ad (12, i)) else none))) : Option va_E) = _; rw [if_neg (by omega)]; rfl)
    have hA6 : nN z ≤ bl.2.2.1 ∧ bl.2.2.1 ≤ 1000 := ⟨hz.2.1, hz.2.2.2.1⟩
    refine xt_v (w := .ref (ad1 (12, nN z))) (by rw [e12]) ?_
    refine xt_v2 (w := .ref (ad1 (1, 0))) (by rw [eA (1, 0) (ne1 (by decide))]) ?_
    refine x2_callV (C := "java/util/ArrayList") (n := 1) [.ref (ad1 (12, nN z))] (c_add l (lb := (1, 0)) (dt := (2, 0)) (n := nN z) (g := fun i => ad (12, i)) (el := (12, nN z)) (ci := 3) hP hA1 (by decide) (by decide) (by decide) hA2 hN20 hA3 hA4 hA5 hA6 aw_up_self rfl (List.mem_of_elem_eq_true rfl) (ne1 (by decide)) (ne1 (by decide))) hx hb hml hown hts hE hF hG hS (xw_recv hE hP (1, 0) hA1 rfl) rfl rfl q_24 q_479 q_482 q_480 q_481 (by decide) rfl ⟨by rw [hRf]; decide, by rw [hRl]; decide⟩ hl.1 rfl (Nat.le_of_ble_eq_true rfl) dX3_addNode_35 ⟨by rw [hRc]; decide, by rw [hRs]; decide⟩ (fun v H1 locs hp hS => ?_)
    obtain ⟨hv, q2, cap', h1, h2, hP⟩ := hp; subst hv; generalize H1 = H at hP hS ⊢
    refine lv_pop hx hb dX3_addNode_38 rfl ?_
    refine lv_iload_n hx hb dX3_addNode_39 rfl (lv_at hl 0 rfl) ?_
    have hA : ∀ k : xL, k ≠ (2, 0) → k ≠ (12, nN z) → ad_up ad1 (2, 0) q2 k = ad k := fun k h3 h4 => (ad_up_ne h3).trans (eA k h4)
    refine xx_iret hQ hx hb hr hlocks hH hS (by decide) (by decide) ⟨rfl, by rw [tAddNode, if_neg (by omega)], ad_up ad1 (2, 0) q2, (bl.1 + nI 1, bl.2.1, cap', bl.2.2.2), fun k hk => hA k (fun e => absurd (show 20 ≤ 2 by rw [e] at hk; exact hk) (by decide)) (fun e => absurd (show 20 ≤ 12 by rw [e] at hk; exact hk) (by decide)), hA (0, 0) (by decide) (ne1 (by decide)), fun h => absurd (show nN z + 1 = 0 from h) (Nat.succ_ne_zero _), fun h => (hA (4, 0) (by decide) (ne1 (by decide))).trans (h0e h), ⟨wf_node hw h8, h1, hz.2.2.1, h2, hz.2.2.2.2⟩, (xW_node hA ad_up_self (fun i hi => ?_) hP).B⟩ dX3_addNode_40
    show gX (fun i => ad (12, i)) (nN z) (ad1 (12, nN z)) i = ad_up ad1 (2, 0) q2 (12, i)
    rw [ad_up_ne (ne1 (by decide))]
    unfold gX
    by_cases hi2 : i = nN z
    · rw [if_pos hi2, hi2]
    · rw [if_neg hi2, eA (12, i) (ne2 hi2)]
  · have h8 := ni_nlt (by omega) (by decide) c11
    exact xw_throw (text := "there are 8 nodes") xt_ISE hQ hx hb hls hown hts hlocks hH hF hS htab (by rw [hml]; exact hl.1) (by decide) dX3_addNode_14 dX3_addNode_17 dX3_addNode_18 dX3_addNode_20 dX3_addNode_23 (by rw [hRf]; decide) (by rw [hRl]; decide) (by rw [hRc]; omega) (by rw [hRs]; omega) (by omega) (by omega) (fun H1 hz1 hk1 => ⟨⟨by rw [tAddNode, if_pos (by omega)], rfl⟩, (hP.kept hz1 hk1).B⟩)

set_option maxHeartbeats 4000000 in
set_option maxRecDepth 100000 in
theorem c_X3_addElement (l : Launch) (hls : l.stackTraces = false) {D : va_G} {y : Nat → ClassId} {A : Nat → Prop} {e0 : Nat} {ad : xL → Nat} {Hs : Heap} {bl : xM} {z : xC} {g : Nat → Int32} {pl : Nat → Int32} {kn : Nat → Int64} {rw : Nat → Nat → Int64} {mi : Nat → Int64} {un : Int32} {fR fO : Nat → Nat → Option va_E} (hP : xW D A ad (wU (wB y ad bl z g pl kn rw mi un) fR fO) Hs) (hz : bOk bl z) (h0n : nN z = 0 → ad (2, 0) = e0) (h0e : nE z = 0 → ad (4, 0) = e0) {sr a b x : Int32} (hsr : sr = 0 ∨ sr = 1) : vx_Met l yX3_addElement (.code yX3_addElement cX3_addElement 6 (some .int) :: WG) { frames := 7, cells := 6, slots := 80, locals := 240 } (xPc2 [.ref (ad (0, 0)), .int sr, .int a, .int b, .int x] D y A e0 Hs) (xQ (fun v H1 => v = some (.int (nI (nE z))) ∧ tAddEl z sr a b x = 0 ∧ ∃ (ad' : xL → Nat) (bl' : xM), (∀ k : xL, 20 ≤ k.1 → ad' k = ad k) ∧ ad' (0, 0) = ad (0, 0) ∧ (nN (zAddEl z sr a b x) = 0 → ad' (2, 0) = e0) ∧ (nE (zAddEl z sr a b x) = 0 → ad' (4, 0) = e0) ∧ bOk bl' (zAddEl z sr a b x) ∧ xB D A y ad' bl' (zAddEl z sr a b x) fR fO H1) A) (xX (fun E H1 => ex3 (tAddEl z sr a b x) E ∧ xB D A y ad bl z fR fO H1) A) 6 80 A := by
  refine xM_goX2 (by decide) (Nat.le_of_ble_eq_true rfl) (fun p e s m args below meth c ls R Q hx hb hr hlocks hml hown hts hH hE hnm hRf hRl hRc hRs hQ hS hl hF hG htab => ?_)
  have hRf : R.frames = 7 := hRf
  have hRl : R.locals = 240 := hRl
  have hRc : R.cells = 6 := hRc
  have hRs : R.slots = 80 := hRs
  have hl : lv_has ls 6 [(0, .ref (ad (0, 0))), (1, .int sr), (2, .int a), (3, .int b), (4, .int x)] := hl
  have hw := hz.w
  have hN := hw.N
  have hE20 := hw.E
  refine lv_aload_n hx hb dX3_addElement_0 rfl (lv_at hl 0 rfl) ?_
  refine lv_iload_n hx hb dX3_addElement_1 rfl (lv_at hl 2 rfl) ?_
  refine xx_callV (C := "NetlistBench") (n := 1) [.int a] (c_X3_checkNode l hls hP hz a) hx hb hml hown hts hE hF hS (xw_recv hE hP (0, 0) rfl rfl) rfl rfl q_21 q_233 q_236 q_235 q_2 (by decide) rfl ⟨by rw [hRf]; decide, by rw [hRl]; decide⟩ hl.1 rfl (Nat.le_of_ble_eq_true rfl) dX3_addElement_2 ⟨by rw [hRc]; omega, by rw [hRs]; omega⟩ (fun E ce q9 H1 locs hp hS hce hcv hcl => ?_) (fun v H1 locs hp hS => ?_)
  · skip
    exact xx_out hQ htab hlocks hH hS hce hcv hcl (by omega) (by omega) (⟨Or.inl ⟨by rw [tAddEl, if_pos (Or.inl hp.2.1)], hp.1⟩, (hP.kept hp.2.2.1 hp.2.2.2).B⟩)
  obtain ⟨hv, hh, hn_2⟩ := hp; subst hv; subst hh
  refine lv_aload_n hx hb dX3_addElement_5 rfl (lv_at hl 0 rfl) ?_
  refine lv_iload_n hx hb dX3_addElement_6 rfl (lv_at hl 3 rfl) ?_
  refine xx_callV (C := "NetlistBench") (n := 1) [.int b] (c_X3_checkNode l hls hP hz b) hx hb hml hown hts hE hF hS (xw_recv hE hP (0, 0) rfl rfl) rfl rfl q_21 q_233 q_236 q_235 q_2 (by decide) rfl ⟨by rw [hRf]; decide, by rw [hRl]; decide⟩ hl.1 rfl (Nat.le_of_ble_eq_true rfl) dX3_addElement_7 ⟨by rw [hRc]; omega, by rw [hRs]; omega⟩ (fun E ce q9 H1 locs hp hS hce hcv hcl => ?_) (fun v H1 locs hp hS => ?_)
  · skip
    exact xx_out hQ htab hlocks hH hS hce hcv hcl (by omega) (by omega) (⟨Or.inl ⟨by rw [tAddEl, if_pos (Or.inr hp.2.1)], hp.1⟩, (hP.kept hp.2.2.1 hp.2.2.2).B⟩)
  obtain ⟨hv, hh, hn_7⟩ := hp; subst hv; subst hh
  obtain ⟨ia, hia, ea⟩ := nodeP_i hw hn_2; obtain ⟨ib, hib, eb⟩ := nodeP_i hw hn_7; subst ea; subst eb
  refine lv_iload_n hx hb dX3_addElement_10 rfl (lv_at hl 2 rfl) ?_
  refine lv_iload_n hx hb dX3_addElement_11 rfl (lv_at hl 3 rfl) ?_
  refine lv_icmp_ne (tgt := 25) hx hb dX3_addElement_12 (by decide) (fun c12 => ?_) (fun c12 => ?_)
  · skip
    refine lv_iload_n hx hb dX3_addElement_25 rfl (lv_at hl 1 rfl) ?_
    refine lv_iload hx hb dX3_addElement_26 (lv_at hl 4 rfl) ?_
    refine xx_callS (n := 2) [.int sr, .int x] (c_X3_checkSize l hls sr x) hx hb hml hown hts hE hF hS rfl rfl q_21 q_210 q_212 q_211 (by decide) rfl ⟨by rw [hRf]; decide, by rw [hRl]; decide⟩ hl.1 rfl (Nat.le_of_ble_eq_true rfl) dX3_addElement_28 ⟨by rw [hRc]; omega, by rw [hRs]; omega⟩ (fun E ce q9 H1 locs hp hS hce hcv hcl => ?_) (fun v H1 locs hp hS => ?_)
    · skip
      exact xx_out hQ htab hlocks hH hS hce hcv hcl (by omega) (by omega) (⟨Or.inr (Or.inl ⟨by rw [tAddEl, if_neg (fun h => h.elim (fun k => k hn_2) (fun k => k hn_7)), if_pos (Or.inr hp.2.1)], hp.1⟩), (hP.kept hp.2.2.1 hp.2.2.2).B⟩)
    obtain ⟨hv, hh, hsz⟩ := hp; subst hv; subst hh
    refine lv_aload_n hx hb dX3_addElement_31 rfl (lv_at hl 0 rfl) ?_
    refine fg_X3_elements hx hb hts hown hE hP q_103 dX3_addElement_32 ?_
    refine xw_callV (C := "java/util/ArrayList") (n := 0) [] (c_size_elements l hP) hx hb hml hown hts hE hS (xw_recv hE hP (3, 0) rfl rfl) rfl rfl q_24 q_123 q_126 q_124 q_125 (by decide) rfl ⟨by rw [hRf]; decide, by rw [hRl]; decide⟩ hl.1 rfl (Nat.le_of_ble_eq_true rfl) dX3_addElement_35 ⟨by rw [hRc]; decide, by rw [hRs]; decide⟩ (fun v H1 locs hp hS => ?_)
    obtain ⟨hv, hh⟩ := hp; subst hv; subst hh
    refine lv_istore (lv' := [(5, .int (nI (nE z))), (0, .ref (ad (0, 0))), (1, .int sr), (2, .int (nI ia)), (3, .int (nI ib)), (4, .int x)]) hx hb dX3_addElement_38 hl (by decide) rfl (fun ls hl => ?_)
    refine lv_iload hx hb dX3_addElement_40 (lv_at hl 0 rfl) ?_
    refine lv_bipush (v := nI 20) hx hb dX3_addElement_42 (by decide) ?_
    refine lv_icmp_lt (tgt := 57) hx hb dX3_addElement_44 (by decide) (fun c44 => ?_) (fun c44 => ?_)
    · skip
      have h8 : nE z < 20 := ni_lt (by omega) (by decide) c44
      refine lv_aload_n hx hb dX3_addElement_57 rfl (lv_at hl 1 rfl) ?_
      refine fg_X3_elements hx hb hts hown hE hP q_103 dX3_addElement_58 ?_
      refine xw_new hx hb hts iw_X0 tyX0 tyX0_ok hown q_209 q_253 q_40 hE hP hS (ci := 1) rfl (fs := [.int 0, .int 0, .int 0, .int 0, .int 0, .int 0, .null]) (fun j hj => match j, hj with | 0, _ => rfl | 1, _ => rfl | 2, _ => rfl | 3, _ => rfl | 4, _ => rfl | 5, _ => rfl | 6, _ => rfl | n + 7, h => absurd h (by omega)) (by rw [hRc]; decide) (by rw [hRs]; decide) dX3_addElement_61 (13, nE z) (fun q H hP hS => ?_)
      refine lv_dup hx hb dX3_addElement_64 rfl ?_
      refine lv_iload_n hx hb dX3_addElement_65 rfl (lv_at hl 2 rfl) ?_
      refine lv_iload_n hx hb dX3_addElement_66 rfl (lv_at hl 3 rfl) ?_
      refine lv_iload_n hx hb dX3_addElement_67 rfl (lv_at hl 4 rfl) ?_
      refine lv_iload hx hb dX3_addElement_68 (lv_at hl 5 rfl) ?_
      refine x2_callI (n := 4) [.int sr, .int (nI ia), .int (nI ib), .int x] (c_X0_init l (lab := (13, nE z)) (lat := (14, nE z)) (h0 := q) hP aw_up_self ad_up_self (ne1 (by decide)) hsr) hx hb hml hown hts hE hF hG hS rfl rfl q_40 q_549 q_551 q_550 rfl (by decide) rfl ⟨by rw [hRf]; decide, by rw [hRl]; decide⟩ hl.1 rfl (Nat.le_of_ble_eq_true rfl) dX3_addElement_70 ⟨by rw [hRc]; decide, by rw [hRs]; decide⟩ (fun v H1 locs hp hS => ?_)
      obtain ⟨hv, q2, hP⟩ := hp; subst hv; generalize H1 = H at hP hS ⊢
      have hP := hP.ct (show _ = (aw_up (aw_up (wU (wB y ad bl z g pl kn rw mi un) fR fO) (14, nE z) (.inl (y 0, 6, .inl (fun _ => 0)))) (13, nE z) (.inr (1, [.int sr, .int (nI ia), .int (nI ib), .int x, .int 1, .int 0, .ref q2]))) by rw [aw_comm (ne1 (by decide) : ((13, nE z) : xL) ≠ (14, nE z)), aw_up_up]; exact aw_comm (ne1 (by decide)))
      have eA : ∀ k : xL, k ≠ (13, nE z) → k ≠ (14, nE z) → ad_up (ad_up ad (13, nE z) q) (14, nE z) q2 k = ad k := fun k h1 h2 => (ad_up_ne h2).trans (ad_up_ne h1)
      have e14 : ad_up (ad_up ad (13, nE z) q) (14, nE z) q2 (14, nE z) = q2 := ad_up_self
      have e13 : ad_up (ad_up ad (13, nE z) q) (14, nE z) q2 (13, nE z) = q := (ad_up_ne (ne1 (by decide))).trans ad_up_self
      generalize hg1 : ad_up (ad_up ad (13, nE z) q) (14, nE z) q2 = ad1 at hP eA e13 e14
      have eC : ∀ k : xL, k ≠ (13, nE z) → k ≠ (14, nE z) → (aw_up (aw_up (wU (wB y ad bl z g pl kn rw mi un) fR fO) (14, nE z) (.inl (y 0, 6, .inl (fun _ => 0)))) (13, nE z) (.inr (1, [.int sr, .int (nI ia), .int (nI ib), .int x, .int 1, .int 0, .ref q2]))) k = (wU (wB y ad bl z g pl kn rw mi un) fR fO) k := fun k h1 h2 => (aw_up_ne h1).trans (aw_up_ne h2)
      have hN20 : nE z ≤ 20 := by omega
      have hA1 : (aw_up (aw_up (wU (wB y ad bl z g pl kn rw mi un) fR fO) (14, nE z) (.inl (y 0, 6, .inl (fun _ => 0)))) (13, nE z) (.inr (1, [.int sr, .int (nI ia), .int (nI ib), .int x, .int 1, .int 0, .ref q2]))) (3, 0) = some (.inr (0, [.int bl.2.1, .ref (ad1 (4, 0)), .int (nI (nE z))])) := by rw [eC (3, 0) (ne1 (by decide)) (ne1 (by decide)), eA (4, 0) (ne1 (by decide)) (ne1 (by decide))]; rfl
      have hA2 : (aw_up (aw_up (wU (wB y ad bl z g pl kn rw mi un) fR fO) (14, nE z) (.inl (y 0, 6, .inl (fun _ => 0)))) (13, nE z) (.inr (1, [.int sr, .int (nI ia), .int (nI ib), .int x, .int 1, .int 0, .ref q2]))) (19, 0) = none := (eC (19, 0) (ne1 (by decide)) (ne1 (by decide))).trans rfl
      have hA3 : nE z = 0 → ad1 (4, 0) = e0 := fun h => (eA (4, 0) (ne1 (by decide)) (ne1 (by decide))).trans (h0e h)
      have hA4 : elH ad1 (aw_up (aw_up (wU (wB y ad bl z g pl kn rw mi un) fR fO) (14, nE z) (.inl (y 0, 6, .inl (fun _ => 0)))) (13, nE z) (.inr (1, [.int sr, .int (nI ia), .int (nI ib), .int x, .int 1, .int 0, .ref q2]))) (fun i => ad (13, i)) (nE z) (3, 0) (4, 0) := fun i hi => ⟨(13, i), 1, _, _, _, _, (eA (13, i) (ne2 (by omega)) (ne1 (by decide))).symm, ne1 (by decide), ne1 (by decide), ne1 (by decide), (eC (13, i) (ne2 (by omega)) (ne1 (by decide))).trans (show wU (wB y ad bl z g pl kn rw mi un) fR fO (13, i) = _ from if_pos hi), rfl, List.mem_of_elem_eq_true rfl⟩
      have hA5 : 0 < nE z → (aw_up (aw_up (wU (wB y ad bl z g pl kn rw mi un) fR fO) (14, nE z) (.inl (y 0, 6, .inl (fun _ => 0)))) (13, nE z) (.inr (1, [.int sr, .int (nI ia), .int (nI ib), .int x, .int 1, .int 0, .ref q2]))) (4, 0) = some (.inl (y 4, bl.2.2.2, xr (fG (fun i => ad (13, i)) (nE z)))) := fun h => (eC (4, 0) (ne1 (by decide)) (ne1 (by decide))).trans (by show (if nE z = 0 then none else some (.inl (y 4, bl.2.2.2, xr (fun i => if i < nE z then some (ad (13, i)) else none))) : Option va_E) = _; rw [if_neg (by omega)]; rfl)
      have hA6 : nE z ≤ bl.2.2.2 ∧ bl.2.2.2 ≤ 1000 := ⟨hz.2.2.1, hz.2.2.2.2⟩
      refine xt_v (w := .ref (ad1 (13, nE z))) (by rw [e13]) ?_
      refine xt_v2 (w := .ref (ad1 (3, 0))) (by rw [eA (3, 0) (ne1 (by decide)) (ne1 (by decide))]) ?_
      refine x2_callV (C := "java/util/ArrayList") (n := 1) [.ref (ad1 (13, nE z))] (c_add l (lb := (3, 0)) (dt := (4, 0)) (n := nE z) (g := fun i => ad (13, i)) (el := (13, nE z)) (ci := 1) hP hA1 (by decide) (by decide) (by decide) hA2 hN20 hA3 hA4 hA5 hA6 aw_up_self rfl (List.mem_of_elem_eq_true rfl) (ne1 (by decide)) (ne1 (by decide))) hx hb hml hown hts hE hF hG hS (xw_recv hE hP (3, 0) hA1 rfl) rfl rfl q_24 q_479 q_482 q_480 q_481 (by decide) rfl ⟨by rw [hRf]; decide, by rw [hRl]; decide⟩ hl.1 rfl (Nat.le_of_ble_eq_true rfl) dX3_addElement_73 ⟨by rw [hRc]; decide, by rw [hRs]; decide⟩ (fun v H1 locs hp hS => ?_)
      obtain ⟨hv, q3, cap', h1, h2, hP⟩ := hp; subst hv; generalize H1 = H at hP hS ⊢
      refine lv_pop hx hb dX3_addElement_76 rfl ?_
      refine lv_iload hx hb dX3_addElement_77 (lv_at hl 0 rfl) ?_
      have hA : ∀ k : xL, k ≠ (4, 0) → k ≠ (13, nE z) → k ≠ (14, nE z) → ad_up ad1 (4, 0) q3 k = ad k := fun k h3 h4 h5 => (ad_up_ne h3).trans (eA k h4 h5)
      refine xx_iret hQ hx hb hr hlocks hH hS (by decide) (by decide) ⟨rfl, by rw [tAddEl, if_neg (fun h => h.elim (fun k => k hn_2) (fun k => k hn_7)), if_neg (fun h => h.elim c12 (fun k => k hsz)), if_neg (by omega)], ad_up ad1 (4, 0) q3, (bl.1, bl.2.1 + nI 1, bl.2.2.1, cap'), fun k hk => hA k (fun e => absurd (show 20 ≤ 4 by rw [e] at hk; exact hk) (by decide)) (fun e => absurd (show 20 ≤ 13 by rw [e] at hk; exact hk) (by decide)) (fun e => absurd (show 20 ≤ 14 by rw [e] at hk; exact hk) (by decide)), hA (0, 0) (by decide) (ne1 (by decide)) (ne1 (by decide)), fun h => (hA (2, 0) (by decide) (ne1 (by decide)) (ne1 (by decide))).trans (h0n h), fun h => absurd (show nE z + 1 = 0 from h) (Nat.succ_ne_zero _), ⟨wf_elem hw h8 hsr hia hib (fun e => c12 (congrArg nI e)) hsz, hz.2.1, h1, hz.2.2.2.1, h2⟩, (xW_elem hA ad_up_self ((ad_up_ne (ne1 (by decide))).trans e14) (fun i hi => ?_) hP).B⟩ dX3_addElement_79
      show gX (fun i => ad (13, i)) (nE z) (ad1 (13, nE z)) i = ad_up ad1 (4, 0) q3 (13, i)
      rw [ad_up_ne (ne1 (by decide))]
      unfold gX
      by_cases hi2 : i = nE z
      · rw [if_pos hi2, hi2]
      · rw [if_neg hi2, eA (13, i) (ne2 hi2) (ne1 (by decide))]
    · have h8 := ni_nlt (by omega) (by decide) c44
      exact xw_throw (text := "there are 20 elements") xt_ISE hQ hx hb hls hown hts hlocks hH hF hS htab (by rw [hml]; exact hl.1) (by decide) dX3_addElement_47 dX3_addElement_50 dX3_addElement_51 dX3_addElement_53 dX3_addElement_56 (by rw [hRf]; decide) (by rw [hRl]; decide) (by rw [hRc]; omega) (by rw [hRs]; omega) (by omega) (by omega) (fun H1 hz1 hk1 => ⟨Or.inr (Or.inr ⟨by rw [tAddEl, if_neg (fun h => h.elim (fun k => k hn_2) (fun k => k hn_7)), if_neg (fun h => h.elim c12 (fun k => k hsz)), if_pos (by omega)], rfl⟩), (hP.kept hz1 hk1).B⟩)
  · skip
    exact xw_throw (text := "an element goes to another node") xt_IAE hQ hx hb hls hown hts hlocks hH hF hS htab (by rw [hml]; exact hl.1) (by decide) dX3_addElement_15 dX3_addElement_18 dX3_addElement_19 dX3_addElement_21 dX3_addElement_24 (by rw [hRf]; decide) (by rw [hRl]; decide) (by rw [hRc]; omega) (by rw [hRs]; omega) (by omega) (by omega) (fun H1 hz1 hk1 => ⟨Or.inr (Or.inl ⟨by rw [tAddEl, if_neg (fun h => h.elim (fun k => k hn_2) (fun k => k hn_7)), if_pos (Or.inl c12)], rfl⟩), (hP.kept hz1 hk1).B⟩)
