/-! the equations: masks, minors -/
def pop (M : Nat) : Nat := M % 2 + M / 2 % 2 + M / 4 % 2 + M / 8 % 2 + M / 16 % 2 + M / 32 % 2 + M / 64 % 2 + M / 128 % 2
theorem m_all : ∀ n, n < 8 → nI 1 <<< ((nI (n + 1)) &&& 31) - nI 1 = nI (2 ^ (n + 1) - 1) := by decide +kernel
theorem m_x : ∀ n, n < 8 → ∀ k, k < 8 → k ≤ n → nI (2 ^ (n + 1) - 1) ^^^ (nI 1 <<< (nI k &&& 31)) = nI (2 ^ (n + 1) - 1 - 2 ^ k) := by decide +kernel
theorem m_bit : ∀ M, M < 256 → ∀ k, k < 8 → ((nI M >>> (nI k &&& 31)) &&& nI 1 = 0 ↔ M / 2 ^ k % 2 = 0) := by decide +kernel
theorem m_xor : ∀ M, M < 256 → ∀ k, k < 8 → M / 2 ^ k % 2 = 1 → nI M ^^^ (nI 1 <<< (nI k &&& 31)) = nI (M - 2 ^ k) ∧ 2 ^ k ≤ M := by decide +kernel
/-- Integer.bitCount, as its code reckons -/
def bc1 (x : Int32) : Int32 := x - (((x.toUInt32 >>> ((nI 1).toUInt32 &&& Int32.toUInt32 31)).toInt32) &&& nI 1431655765)
def bc2 (x : Int32) : Int32 := (x &&& nI 858993459) + (((x.toUInt32 >>> ((nI 2).toUInt32 &&& Int32.toUInt32 31)).toInt32) &&& nI 858993459)
def bc4 (x : Int32) : Int32 := (x + (x.toUInt32 >>> ((nI 4).toUInt32 &&& Int32.toUInt32 31)).toInt32) &&& nI 252645135
def bc8 (x : Int32) : Int32 := x + (x.toUInt32 >>> ((nI 8).toUInt32 &&& Int32.toUInt32 31)).toInt32
def bc16 (x : Int32) : Int32 := x + (x.toUInt32 >>> ((nI 16).toUInt32 &&& Int32.toUInt32 31)).toInt32
def bcF (x : Int32) : Int32 := bc16 (bc8 (bc4 (bc2 (bc1 x)))) &&& nI 63
theorem bc_pop : ∀ M, M < 256 → bcF (nI M) = nI (pop M) := by decide +kernel
theorem pop_le : ∀ M, M < 256 → pop M ≤ 8 ∧ (0 < M → 0 < pop M) := by decide +kernel
theorem pop_n : ∀ n, n < 8 → ∀ M, M < 2 ^ (n + 1) - 1 → pop M ≤ n := by decide +kernel
/-- what expand() adds up over the columns below k -/
def ex (rw : Nat → Nat → Int64) (mi : Nat → Int64) (r M : Nat) : Nat → Int64 → Int32 → Int64
  | 0, s, _ => s
  | k + 1, s, g => if M / 2 ^ k % 2 = 0 then ex rw mi r M k s g else ex rw mi r M k (s + g.toInt64 * rw r k * mi (M - 2 ^ k)) (-g)
theorem ex_0 {rw : Nat → Nat → Int64} {mi : Nat → Int64} {r M k : Nat} {s : Int64} {g : Int32} (h : M / 2 ^ k % 2 = 0) : ex rw mi r M (k + 1) s g = ex rw mi r M k s g := by show (if _ then _ else _) = _; rw [if_pos h]
theorem ex_1 {rw : Nat → Nat → Int64} {mi : Nat → Int64} {r M k : Nat} {s : Int64} {g : Int32} (h : ¬ M / 2 ^ k % 2 = 0) : ex rw mi r M (k + 1) s g = ex rw mi r M k (s + g.toInt64 * rw r k * mi (M - 2 ^ k)) (-g) := by show (if _ then _ else _) = _; rw [if_neg h]
theorem ex_congr {rw : Nat → Nat → Int64} {mi mj : Nat → Int64} {r M : Nat} (h : ∀ j, j < M → mi j = mj j) : ∀ (k : Nat) (s : Int64) (g : Int32), ex rw mi r M k s g = ex rw mj r M k s g
  | 0, _, _ => rfl
  | k + 1, s, g => by
    by_cases hb : M / 2 ^ k % 2 = 0
    · rw [ex_0 hb, ex_0 hb]; exact ex_congr h k s g
    · rw [ex_1 hb, ex_1 hb]
      have hM : 0 < M := by
        rcases Nat.eq_zero_or_pos M with e | e
        · subst e; simp at hb
        · exact e
      have hp : 0 < 2 ^ k := Nat.pow_pos (by decide)
      rw [h (M - 2 ^ k) (by omega)]
      exact ex_congr h k _ _
def dmF (rw : Nat → Nat → Int64) (n : Nat) : Nat → Nat → Int64
  | 0, _ => 1
  | f + 1, M => if M = 0 then 1 else ex rw (dmF rw n f) (pop M - 1) M (n + 1) 0 1
/-- the determinant of the first rows in the columns M -/
def dm (rw : Nat → Nat → Int64) (n M : Nat) : Int64 := dmF rw n M M
theorem dmF_0 (rw : Nat → Nat → Int64) (n f : Nat) : dmF rw n f 0 = 1 := by cases f <;> rfl
theorem dmF_s (rw : Nat → Nat → Int64) (n f K : Nat) : dmF rw n (f + 1) (K + 1) = ex rw (dmF rw n f) (pop (K + 1) - 1) (K + 1) (n + 1) 0 1 := rfl
theorem dmF_st (rw : Nat → Nat → Int64) (n : Nat) : ∀ f f' M, M ≤ f → M ≤ f' → dmF rw n f M = dmF rw n f' M := by
  intro f
  induction f with
  | zero => intro f' M h h'
            have : M = 0 := by omega
            subst this; rw [dmF_0, dmF_0]
  | succ f ih =>
    intro f' M h h'
    rcases Nat.eq_zero_or_pos M with e | e
    · subst e; rw [dmF_0, dmF_0]
    · obtain ⟨K, rfl⟩ : ∃ K, M = K + 1 := ⟨M - 1, by omega⟩
      obtain ⟨f2, rfl⟩ : ∃ K, f' = K + 1 := ⟨f' - 1, by omega⟩
      rw [dmF_s, dmF_s]
      exact ex_congr (fun j hj => ih f2 j (by omega) (by omega)) _ _ _
theorem dm_0 (rw : Nat → Nat → Int64) (n : Nat) : dm rw n 0 = 1 := rfl
theorem dm_s (rw : Nat → Nat → Int64) (n : Nat) {mi : Nat → Int64} {M : Nat} (h0 : 0 < M) (h : ∀ j, j < M → mi j = dm rw n j) : ex rw mi (pop M - 1) M (n + 1) 0 1 = dm rw n M := by
  obtain ⟨K, rfl⟩ : ∃ K, M = K + 1 := ⟨M - 1, by omega⟩
  unfold dm
  rw [dmF_s]
  exact ex_congr (fun j hj => by rw [h j hj]; exact dmF_st rw n j K j (by omega) (by omega)) _ _ _
def skS (pl : Nat → Int32) (n i : Nat) : (Nat → Int32) × Nat := if n < 7 then (upd pl i (nI n), n + 1) else (pl, n)
def clN (x : Int32) : Nat := x.toNatClampNeg
def upV (pl : Nat → Int32) (kn mi : Nat → Int64) (n j : Nat) : Int64 := if pl j < 0 then kn j * mi (2 ^ n - 1) else if (n - 1 - clN (pl j)) % 2 = 0 then mi (2 ^ (n + 1) - 1 - 2 ^ clN (pl j)) else -mi (2 ^ (n + 1) - 1 - 2 ^ clN (pl j))
def brR (rw : Nat → Nat → Int64) (pl : Nat → Int32) (n j : Nat) (x : Int64) : Nat → Nat → Int64 := if pl j < 0 then rw else u2 rw (clN (pl j)) n (rw (clN (pl j)) n + x)
def lkR (rw : Nat → Nat → Int64) (pl : Nat → Int32) (kn : Nat → Int64) (n f t : Nat) (x : Int64) : Nat → Nat → Int64 :=
  if pl f < 0 then rw else
  if pl t < 0 then u2 (u2 rw (clN (pl f)) (clN (pl f)) (rw (clN (pl f)) (clN (pl f)) + x)) (clN (pl f)) n (u2 rw (clN (pl f)) (clN (pl f)) (rw (clN (pl f)) (clN (pl f)) + x) (clN (pl f)) n + x * kn t)
  else u2 (u2 rw (clN (pl f)) (clN (pl f)) (rw (clN (pl f)) (clN (pl f)) + x)) (clN (pl f)) (clN (pl t)) (u2 rw (clN (pl f)) (clN (pl f)) (rw (clN (pl f)) (clN (pl f)) + x) (clN (pl f)) (clN (pl t)) - x)
/-- places: none, or one below n -/
def plOk (pl : Nat → Int32) (n : Nat) : Prop := ∀ j, j < 8 → pl j < 0 ∨ ∃ k, k < n ∧ pl j = nI k
theorem plOk.at {pl : Nat → Int32} {n j : Nat} (h : plOk pl n) (hj : j < 8) (h0 : ¬ pl j < 0) (hn : n ≤ 8) : ∃ k, k < n ∧ pl j = nI k ∧ clN (pl j) = k := by
  rcases h j hj with e | ⟨k, hk, e⟩
  · exact absurd e h0
  · exact ⟨k, hk, e, by rw [e]; exact nI_clamp (by omega)⟩
theorem upd_all {f : Nat → Int32} {i : Nat} {v : Int32} (h : ∀ j, j < i → f j = v) : ∀ j, j < i + 1 → upd f i v j = v := fun j hj => by
  by_cases e : j = i
  · simp [upd, e]
  · simp [upd, e]; exact h j (by omega)
theorem updL_all {f : Nat → Int64} {i : Nat} {v : Int64} (h : ∀ j, j < i → f j = v) : ∀ j, j < i + 1 → vp_updL f i v j = v := fun j hj => by
  by_cases e : j = i
  · simp [vp_updL, e]
  · simp [vp_updL, e]; exact h j (by omega)
theorem no_lt {P : Nat → Prop} : ∀ j, j < 0 → P j := fun j h => absurd h (Nat.not_lt_zero _)
theorem u2_rows {rw : Nat → Nat → Int64} {r k : Nat} {v : Int64} (h : ∀ i, i < r → ∀ j, j < 8 → rw i j = 0) : ∀ i, i < r → ∀ j, j < 8 → u2 rw r k v i j = 0 := fun i hi j hj => by
  have e : i ≠ r := by omega
  simp [u2, e]; exact h i hi j hj
theorem u2_row {rw : Nat → Nat → Int64} {r k : Nat} {v : Int64} (h : ∀ j, j < k → rw r j = v) : ∀ j, j < k + 1 → u2 rw r k v r j = v := fun j hj => by
  by_cases e : j = k
  · simp [u2, vp_updL, e]
  · simp [u2, vp_updL, e]; exact h j (by omega)
theorem rows_s {rw : Nat → Nat → Int64} {r : Nat} (h : ∀ i, i < r → ∀ j, j < 8 → rw i j = 0) (h2 : ∀ j, j < 8 → rw r j = 0) : ∀ i, i < r + 1 → ∀ j, j < 8 → rw i j = 0 := fun i hi j hj => by
  by_cases e : i = r
  · rw [e]; exact h2 j hj
  · exact h i (by omega) j hj
theorem dm_init {rw : Nat → Nat → Int64} {n : Nat} {mi : Nat → Int64} : ∀ j, j < 1 → vp_updL mi 0 1 j = dm rw n j := fun j h => by
  have e : j = 0 := by omega
  subst e; rfl
theorem dm_tab {rw : Nat → Nat → Int64} {n c : Nat} {mi : Nat → Int64} (h0 : 0 < c) (h : ∀ j, j < c → mi j = dm rw n j) : ∀ j, j < c + 1 → vp_updL mi c (ex rw mi (pop c - 1) c (n + 1) 0 1) j = dm rw n j := fun j hj => by
  by_cases e : j = c
  · subst e; simp [vp_updL]; exact dm_s rw n h0 h
  · simp [vp_updL, e]; exact h j (by omega)
section WV
variable {D : va_G} {y : Nat → ClassId} {A : Nat → Prop} {ad : xL → Nat} {bl : xM} {z : xC} {g g' pl pl' : Nat → Int32} {kn kn' mi mi' : Nat → Int64} {rw rw' : Nat → Nat → Int64} {un : Int32} {fR fO : Nat → Nat → Option va_E} {H : Heap}
/-- arrays of the world, by what they hold within their lengths -/
theorem xW.cB {fB fB' : Nat → Nat → Option va_E} (h : xW D A ad (wU fB fR fO) H) (e : ∀ (a b : Nat) (f : va_E), fB' a b = some f → ∃ g, fB a b = some g ∧ (va_at D vwCl (ad (a, b), g) H → va_at D vwCl (ad (a, b), f) H)) : xW D A ad (wU fB' fR fO) H := by
  refine h.alike (fun q f hf => ?_)
  obtain ⟨a, b⟩ := q
  unfold wU at hf ⊢
  by_cases ha : a < 20
  · rw [if_pos ha] at hf ⊢; exact e a b f hf
  · rw [if_neg ha] at hf ⊢; exact ⟨f, hf, fun k => k⟩
theorem xW_gg (h : xW D A ad (wU (wB y ad bl z g pl kn rw mi un) fR fO) H) (e : ∀ j, j < 8 → g j = g' j) : xW D A ad (wU (wB y ad bl z g' pl kn rw mi un) fR fO) H := by
  refine h.cB (fun a b f hf => ?_)
  by_cases hq : a = 5 ∧ b = 0
  · obtain ⟨rfl, rfl⟩ := hq; cases hf; exact ⟨_, rfl, xW_i e⟩
  · refine ⟨f, ?_, fun k => k⟩
    rw [← hf]
    rcases a with _ | _ | _ | _ | _ | _ | _ | _ | _ | _ | _ | _ | _ | _ | _ | a <;> first | rfl | (rcases b with _ | b <;> first | rfl | exact absurd ⟨rfl, rfl⟩ hq)
theorem xW_pl (h : xW D A ad (wU (wB y ad bl z g pl kn rw mi un) fR fO) H) (e : ∀ j, j < 8 → pl j = pl' j) : xW D A ad (wU (wB y ad bl z g pl' kn rw mi un) fR fO) H := by
  refine h.cB (fun a b f hf => ?_)
  by_cases hq : a = 7 ∧ b = 0
  · obtain ⟨rfl, rfl⟩ := hq; cases hf; exact ⟨_, rfl, xW_i e⟩
  · refine ⟨f, ?_, fun k => k⟩
    rw [← hf]
    rcases a with _ | _ | _ | _ | _ | _ | _ | _ | _ | _ | _ | _ | _ | _ | _ | a <;> first | rfl | (rcases b with _ | b <;> first | rfl | exact absurd ⟨rfl, rfl⟩ hq)
theorem xW_kn (h : xW D A ad (wU (wB y ad bl z g pl kn rw mi un) fR fO) H) (e : ∀ j, j < 8 → kn j = kn' j) : xW D A ad (wU (wB y ad bl z g pl kn' rw mi un) fR fO) H := by
  refine h.cB (fun a b f hf => ?_)
  by_cases hq : a = 8 ∧ b = 0
  · obtain ⟨rfl, rfl⟩ := hq; cases hf; exact ⟨_, rfl, xW_l e⟩
  · refine ⟨f, ?_, fun k => k⟩
    rw [← hf]
    rcases a with _ | _ | _ | _ | _ | _ | _ | _ | _ | _ | _ | _ | _ | _ | _ | a <;> first | rfl | (rcases b with _ | b <;> first | rfl | exact absurd ⟨rfl, rfl⟩ hq)
theorem xW_rw (h : xW D A ad (wU (wB y ad bl z g pl kn rw mi un) fR fO) H) (e : ∀ i, i < 7 → ∀ j, j < 8 → rw i j = rw' i j) : xW D A ad (wU (wB y ad bl z g pl kn rw' mi un) fR fO) H := by
  refine h.cB (fun a b f hf => ?_)
  by_cases hq : a = 10
  · subst hq
    have hf' : (if b < 7 then some (Sum.inl (y 1, 8, .inr (.inl (rw' b)))) else none : Option va_E) = some f := hf
    by_cases hb : b < 7
    · rw [if_pos hb] at hf'; cases hf'; exact ⟨_, if_pos hb, xW_l (e b hb)⟩
    · rw [if_neg hb] at hf'; cases hf'
  · refine ⟨f, ?_, fun k => k⟩
    rw [← hf]
    rcases a with _ | _ | _ | _ | _ | _ | _ | _ | _ | _ | _ | _ | _ | _ | _ | a <;> first | rfl | (rcases b with _ | b <;> rfl) | exact absurd rfl hq
end WV
