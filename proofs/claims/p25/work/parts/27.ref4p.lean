/-! the reference's determinants -/
def mQ (rw : Nat → Nat → Int64) : Nat → Int64 := fun x => rw (x / 8) (x % 8)
theorem mQ_at (rw : Nat → Nat → Int64) {r k : Nat} (hk : k < 8) : mQ rw (8 * r + k) = rw r k := by
  unfold mQ
  rw [show (8 * r + k) / 8 = r by omega, show (8 * r + k) % 8 = k by omega]
theorem mQ_up (rw : Nat → Nat → Int64) {r k : Nat} (hk : k < 8) (v : Int64) : vp_updL (mQ rw) (8 * r + k) v = mQ (u2 rw r k v) := by
  funext x
  unfold mQ u2 vp_updL
  by_cases h : x = 8 * r + k
  · rw [if_pos h, if_pos (show x / 8 = r by omega), if_pos (show x % 8 = k by omega)]
  · rw [if_neg h]
    by_cases h1 : x / 8 = r
    · rw [if_pos h1, if_neg (show ¬ x % 8 = k by omega)]
      show rw (x / 8) (x % 8) = _
      rw [h1]
    · rw [if_neg h1]
def eQ (rw : Nat → Nat → Int64) (rr : Nat → Int64) (x : Int32) : Nat → Nat → Int64 := fun r k => if nI k = x then rr r else rw r k
/-- what determinant() adds up over the columns below k -/
def aQ (e : Nat → Nat → Int64) (mi : Nat → Int64) (M : Nat) : Nat → Int64
  | 0 => 0
  | k + 1 => aQ e mi M k + (if M / 2 ^ k % 2 = 0 then 0 else if pop (M / 2 ^ (k + 1)) % 2 = 0 then e (pop M - 1) k * mi (M - 2 ^ k) else -(e (pop M - 1) k * mi (M - 2 ^ k)))
theorem aQ_0 {e : Nat → Nat → Int64} {mi : Nat → Int64} {M k : Nat} (h : M / 2 ^ k % 2 = 0) : aQ e mi M (k + 1) = aQ e mi M k := by
  rw [aQ, if_pos h]; exact Int64.add_zero _
theorem aQ_1 {e : Nat → Nat → Int64} {mi : Nat → Int64} {M k : Nat} (h : ¬ M / 2 ^ k % 2 = 0) (h2 : pop (M / 2 ^ (k + 1)) % 2 = 0) : aQ e mi M (k + 1) = aQ e mi M k + e (pop M - 1) k * mi (M - 2 ^ k) := by
  rw [aQ, if_neg h, if_pos h2]
theorem aQ_2 {e : Nat → Nat → Int64} {mi : Nat → Int64} {M k : Nat} (h : ¬ M / 2 ^ k % 2 = 0) (h2 : ¬ pop (M / 2 ^ (k + 1)) % 2 = 0) : aQ e mi M (k + 1) = aQ e mi M k + -(e (pop M - 1) k * mi (M - 2 ^ k)) := by
  rw [aQ, if_neg h, if_neg h2]
theorem m_shr : ∀ M, M < 256 → ∀ k, k < 9 → nI M >>> (nI k &&& 31) = nI (M / 2 ^ k) := by decide +kernel
theorem m_clr : ∀ M, M < 256 → ∀ k, k < 8 → M / 2 ^ k % 2 = 1 → nI M &&& ((nI 1 <<< (nI k &&& 31)) ^^^ (-1)) = nI (M - 2 ^ k) ∧ 2 ^ k ≤ M := by decide +kernel
theorem m_pw : ∀ n, n < 8 → nI 1 <<< (nI n &&& 31) = nI (2 ^ n) := by decide +kernel
theorem pop_up : ∀ M, M < 256 → ∀ k, k < 8 → pop (M / 2 ^ k) = M / 2 ^ k % 2 + pop (M / 2 ^ (k + 1)) := by decide +kernel
def sgQ (M k : Nat) : Int32 := if pop (M / 2 ^ k) % 2 = 0 then 1 else -1
theorem sgQ_m (s p : Int64) (M k : Nat) : s + (sgQ M k).toInt64 * p = s + (if pop (M / 2 ^ k) % 2 = 0 then p else -p) := by
  rw [sgQ]
  split
  · rw [show (1 : Int32).toInt64 = 1 by decide, Int64.one_mul]
  · rw [show (-1 : Int32).toInt64 = -1 by decide]; grind
theorem ex_aQ {e : Nat → Nat → Int64} {mi : Nat → Int64} {M : Nat} (hM : M < 256) : ∀ (k : Nat) (s : Int64), k ≤ 8 → ex e mi (pop M - 1) M k s (sgQ M k) = s + aQ e mi M k
  | 0, s, _ => (Int64.add_zero s).symm
  | k + 1, s, hk => by
    have hp := pop_up M hM k (by omega)
    by_cases h : M / 2 ^ k % 2 = 0
    · have eg : sgQ M (k + 1) = sgQ M k := by rw [sgQ, sgQ, hp, h, Nat.zero_add]
      rw [ex_0 h, aQ_0 h, eg]
      exact ex_aQ hM k s (by omega)
    · have h1 : M / 2 ^ k % 2 = 1 := by omega
      have eg : -sgQ M (k + 1) = sgQ M k := by
        rw [sgQ, sgQ, hp, h1]
        by_cases g : pop (M / 2 ^ (k + 1)) % 2 = 0
        · rw [if_pos g, if_neg (by omega)]
        · rw [if_neg g, if_pos (by omega)]; decide
      rw [ex_1 h, eg, ex_aQ hM k _ (by omega), aQ, if_neg h, Int64.mul_assoc, sgQ_m]
      grind
/-- the columns of M lie below n -/
theorem dm_aQ {e : Nat → Nat → Int64} {mi : Nat → Int64} {n M : Nat} (hn : n ≤ 7) (h0 : 0 < M) (hM : M < 2 ^ n) (h : ∀ j, j < M → mi j = dm e n j) : aQ e mi M n = dm e n M := by
  have h8 : 2 ^ n ≤ 2 ^ 7 := Nat.pow_le_pow_right (by decide) hn
  have hs := ex_aQ (e := e) (mi := mi) (M := M) (by omega) (n + 1) 0 (by omega)
  have hz : M / 2 ^ (n + 1) = 0 := Nat.div_eq_of_lt (by rw [Nat.pow_succ]; omega)
  have e1 : sgQ M (n + 1) = 1 := by rw [sgQ, hz]; rfl
  rw [e1, dm_s e n h0 h, aQ_0 (by rw [Nat.div_eq_of_lt hM]), Int64.zero_add] at hs
  exact hs.symm
theorem dm_tabQ {e : Nat → Nat → Int64} {n c : Nat} {mi : Nat → Int64} (hn : n ≤ 7) (h0 : 0 < c) (hc : c < 2 ^ n) (h : ∀ j, j < c → mi j = dm e n j) : ∀ j, j < c + 1 → vp_updL mi c (aQ e mi c n) j = dm e n j := fun j hj => by
  by_cases q : j = c
  · subst q; simp [vp_updL]; exact dm_aQ hn h0 hc h
  · simp [vp_updL, q]; exact h j (by omega)
/-- places, kept as -1 or one below n -/
def plQ (p : Nat → Int32) (n : Nat) : Prop := ∀ j, j < 8 → p j = -1 ∨ ∃ k, k < n ∧ p j = nI k
theorem plQ.ok {p : Nat → Int32} {n : Nat} (h : plQ p n) : plOk p n := fun j hj => by
  rcases h j hj with e | e
  · exact Or.inl (by rw [e]; decide)
  · exact Or.inr e
theorem plQ.at {p : Nat → Int32} {n j : Nat} (h : plQ p n) (hj : j < 8) (h0 : ¬ p j = -1) (hn : n ≤ 8) : ∃ k, k < n ∧ p j = nI k ∧ clN (p j) = k := by
  rcases h j hj with e | ⟨k, hk, e⟩
  · exact absurd e h0
  · exact ⟨k, hk, e, by rw [e]; exact nI_clamp (by omega)⟩
def lyM (rw : Nat → Nat → Int64) (p : Nat → Int32) (a b : Nat) (g : Int64) : Nat → Nat → Int64 :=
  if p a = -1 then rw else if p b = -1 then u2 rw (clN (p a)) (clN (p a)) (rw (clN (p a)) (clN (p a)) + g)
  else u2 (u2 rw (clN (p a)) (clN (p a)) (rw (clN (p a)) (clN (p a)) + g)) (clN (p a)) (clN (p b)) (u2 rw (clN (p a)) (clN (p a)) (rw (clN (p a)) (clN (p a)) + g) (clN (p a)) (clN (p b)) - g)
def lyR (rr : Nat → Int64) (p : Nat → Int32) (rp : Nat → Int32) (a b : Nat) (g : Int64) : Nat → Int64 :=
  if p a = -1 then rr else if p b = -1 then vp_updL rr (clN (p a)) (rr (clN (p a)) + g * (rp b).toInt64) else rr
section WQ
variable {D : va_G} {y : Nat → ClassId} {A : Nat → Prop} {ad : xL → Nat} {th qu : Int32} {w : xC} {qp qp' qf : Nat → Int32} {qm qm' qr qr' qi qn : Nat → Int64} {qd : Int64} {fB fO : Nat → Nat → Option va_E} {H : Heap}
theorem xW.cR {fR fR' : Nat → Nat → Option va_E} (h : xW D A ad (wU fB fR fO) H) (e : ∀ (a b : Nat) (f : va_E), fR' a b = some f → ∃ g, fR a b = some g ∧ (va_at D vwCl (ad (a + 20, b), g) H → va_at D vwCl (ad (a + 20, b), f) H)) : xW D A ad (wU fB fR' fO) H := by
  refine h.alike (fun q f hf => ?_)
  obtain ⟨a, b⟩ := q
  unfold wU at hf ⊢
  by_cases ha : a < 20
  · rw [if_pos ha] at hf ⊢; exact ⟨f, hf, fun k => k⟩
  · rw [if_neg ha] at hf ⊢
    by_cases hb : a < 40
    · rw [if_pos hb] at hf ⊢
      obtain ⟨g, h1, h2⟩ := e _ _ _ hf
      rw [show a - 20 + 20 = a by omega] at h2
      exact ⟨g, h1, h2⟩
    · rw [if_neg hb] at hf ⊢; exact ⟨f, hf, fun k => k⟩
end WQ
theorem mQ_0 {f : Nat → Int64} (h : ∀ j, j < 64 → f j = 0) : ∀ j, j < 64 → f j = mQ (fun _ _ => 0) j := fun j hj => h j hj
section WL
variable {p : Program} {l : Launch} {e : Env} {R : Room} {s : State} {m : MethodId} {args : Array Value} {below : List Frame} {meth : Method} {c : Code} {H : Heap} {locs : List Loc} {cells slots : Nat} {Q : State → Prop}
variable {cc : ByteArray} {pc : Nat} {ls : Array Slot} {rest : List Value} {D : va_G} {y : Nat → ClassId} {A : Nat → Prop} {ad : xL → Nat} {ct : xL → Option va_E}
theorem xw_lalen (hexec : p.tables.exec = Jvm.exec) (hb : c.code = cc) (hE : xE D y s) (hP : xW D A ad ct H) (lab : xL) {n : Nat} {f : Nat → Int64} (he : ct lab = some (.inl (y 1, n, .inr (.inl f)))) (hdg : decode cc pc = .ok (.arraylength, 1))
    (kk : W p l e R s m args below meth c H locs cells slots Q (F0 m (pc + 1) ls (.int (nI n) :: rest))) : W p l e R s m args below meth c H locs cells slots Q (F0 m pc ls (.ref (ad lab) :: rest)) :=
  va_alen hexec hb hE.1 (hP.one he) 0 1 rfl rfl rfl hdg kk
end WL
