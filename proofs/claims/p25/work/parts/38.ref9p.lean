/-! a new element on both sides -/
def zAddEl (z : xC) (s a b x : Int32) : xC := s_nE (s_tT (s_eT (s_eO (s_eZ (s_eB (s_eA (s_eS z (upd (eS z) (nE z) s)) (upd (eA z) (nE z) a)) (upd (eB z) (nE z) b)) (upd (eZ z) (nE z) x)) (upd (eO z) (nE z) (nI 1))) (upd (eT z) (nE z) (nI 0))) (fun q => if 6 * nE z ≤ q ∧ q < 6 * nE z + 6 then 0 else tT z q)) (nE z + 1)
theorem rq_el {z w : xC} (h : Rq z w) (hw : wf z) (s a b x : Int32) : Rq (zAddEl z s a b x) (s_nE (s_eT (s_eO (s_eZ (s_eB (s_eA (s_eS w (upd (eS w) (nE z) s)) (upd (eA w) (nE z) a)) (upd (eB w) (nE z) b)) (upd (eZ w) (nE z) x)) (upd (eO w) (nE z) (nI 1))) (upd (eT w) (nE z) (nI 0))) (nE z + 1)) := by
  refine ⟨h.1, rfl, h.2.2.1, fun i hi => ?_⟩
  have hi' : i < nE z + 1 := hi
  show upd (eS w) (nE z) s i = upd (eS z) (nE z) s i ∧ upd (eA w) (nE z) a i = upd (eA z) (nE z) a i ∧ upd (eB w) (nE z) b i = upd (eB z) (nE z) b i ∧ upd (eZ w) (nE z) x i = upd (eZ z) (nE z) x i ∧ upd (eO w) (nE z) (nI 1) i = upd (eO z) (nE z) (nI 1) i ∧ upd (eT w) (nE z) (nI 0) i = upd (eT z) (nE z) (nI 0) i ∧ ∀ k, k < cT (zAddEl z s a b x) i → tT w (6 * i + k) = (if 6 * nE z ≤ 6 * i + k ∧ 6 * i + k < 6 * nE z + 6 then 0 else tT z (6 * i + k))
  have hc : cT (zAddEl z s a b x) i = (upd (eT z) (nE z) (nI 0) i).toNatClampNeg := rfl
  rw [hc]
  unfold upd
  by_cases e : i = nE z
  · simp only [if_pos e]
    exact ⟨trivial, trivial, trivial, trivial, trivial, trivial, fun k hk => absurd hk (by rw [nI_clamp (by decide)]; exact Nat.not_lt_zero _)⟩
  · simp only [if_neg e]
    obtain ⟨h1, h2, h3, h4, h5, h6, h7⟩ := h.2.2.2 i (by omega)
    refine ⟨h1, h2, h3, h4, h5, h6, fun k hk => ?_⟩
    have h8 := hw.t6 (i := i) (by omega)
    have hk' : k < cT z i := hk
    rw [if_neg (by omega)]
    exact h7 k hk'
