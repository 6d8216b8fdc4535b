/-! WHAT THE CALLS SAY: t..: the number of the exception (0: none); r..: the answer; z..: the circuit behind it -/
abbrev nodeP (z : xC) (x : Int32) : Prop := 0 ≤ x ∧ x < nI (nN z)
abbrev elP (z : xC) (x : Int32) : Prop := 0 ≤ x ∧ x < nI (nE z)
abbrev timeP (t : Int32) : Prop := 0 ≤ t ∧ t ≤ nI 999
abbrev sizeP (s x : Int32) : Prop := (s = 0 ∧ 1 ≤ x ∧ x ≤ nI 9) ∨ (¬ s = 0 ∧ -99 ≤ x ∧ x ≤ nI 99)
def eIOB : String := "java/lang/IndexOutOfBoundsException"
def eIAE : String := "java/lang/IllegalArgumentException"
def eISE : String := "java/lang/IllegalStateException"
/-- which exception the number means: the three in their order; for calls of one exception that one -/
def ex3 (k : Int32) (E : String) : Prop := (k = 1 ∧ E = eIOB) ∨ (k = 2 ∧ E = eIAE) ∨ (k = 3 ∧ E = eISE)
def exA (k : Int32) (E : String) : Prop := k = 1 ∧ E = eIAE
def exS (k : Int32) (E : String) : Prop := k = 1 ∧ E = eISE
theorem nodeP.j {z : xC} {x : Int32} (h : nodeP z x) : ∃ j, x = nI j ∧ j < 2 ^ 31 := by
  obtain ⟨j, hj, e⟩ := nI_of (Int32.not_lt.mpr h.1)
  exact ⟨j, e, hj⟩
theorem nodeP_i {z : xC} (hw : wf z) {x : Int32} (h : nodeP z x) : ∃ j, j < nN z ∧ x = nI j := by
  obtain ⟨j, e, hj⟩ := h.j
  have h2 := h.2
  rw [e] at h2
  have := hw.N
  exact ⟨j, (nI_ltI hj (by omega)).mp h2, e⟩
theorem nodeP_o {z : xC} (hw : wf z) {j : Nat} (h : j < nN z) : nodeP z (nI j) := by
  have := hw.N
  exact ⟨nI_pos' (by omega), nI_lt h (by omega)⟩
theorem elP_i {z : xC} (hw : wf z) {x : Int32} (h : elP z x) : ∃ j, j < nE z ∧ x = nI j := by
  obtain ⟨j, hj, e⟩ := nI_of (Int32.not_lt.mpr h.1)
  have h2 := h.2
  rw [e] at h2
  have := hw.E
  exact ⟨j, (nI_ltI hj (by omega)).mp h2, e⟩
theorem elP_o {z : xC} (hw : wf z) {j : Nat} (h : j < nE z) : elP z (nI j) := by
  have := hw.E
  exact ⟨nI_pos' (by omega), nI_lt h (by omega)⟩
theorem timeP_i {t : Int32} (h : timeP t) : ∃ j, j ≤ 999 ∧ t = nI j := by
  obtain ⟨j, hj, e⟩ := nI_of (Int32.not_lt.mpr h.1)
  have h2 := h.2
  rw [e] at h2
  exact ⟨j, (nI_leI hj (by decide)).mp h2, e⟩
theorem timeP_o {j : Nat} (h : j ≤ 999) : timeP (nI j) := ⟨nI_pos' (by omega), nI_le h (by decide)⟩
theorem cl_nI {j : Nat} (h : j < 2 ^ 31) : clN (nI j) = j := nI_clamp h
def tAddNode (z : xC) : Int32 := if nN z = 8 then 1 else 0
def zAddNode (z : xC) : xC := s_nN (s_nP (s_nR z (upd (nR z) (nN z) 0)) (upd (nP z) (nN z) 0)) (nN z + 1)
def tRail (z : xC) (x b p : Int32) : Int32 := if ¬ nodeP z x then 1 else if ¬ b = 0 ∧ ¬ (-99 ≤ p ∧ p ≤ nI 99) then 2 else 0
def zRail (z : xC) (j : Nat) (b p : Int32) : xC := s_nP (s_nR z (upd (nR z) j b)) (upd (nP z) j (if b = 0 then nI 0 else p))
def tAddEl (z : xC) (s a b x : Int32) : Int32 := if ¬ nodeP z a ∨ ¬ nodeP z b then 1 else if a = b ∨ ¬ sizeP s x then 2 else if nE z = 20 then 3 else 0
def tRes (z : xC) (e x : Int32) : Int32 := if ¬ elP z e then 1 else if ¬ sizeP (eS z (clN e)) x then 2 else 0
def tBeg (z : xC) (e : Int32) : Int32 := if ¬ elP z e then 1 else 0
def hasT (z : xC) (i : Nat) (t : Int32) : Prop := tb z i t (cT z i) < tb z i (t + nI 1) (cT z i)
def tCount (k : Int32) : Int32 := if ¬ (0 ≤ k ∧ k < nI 4) then 1 else 0
def tElem (z : xC) (e k : Int32) : Int32 := if ¬ elP z e then 1 else if ¬ (0 ≤ k ∧ k < nI 6) then 1 else 0
def tTgAt (z : xC) (e k : Int32) : Int32 := if ¬ elP z e then 1 else if ¬ (0 ≤ k ∧ k < eT z (clN e)) then 1 else 0
def tOn (z : xC) (e t : Int32) : Int32 := if ¬ elP z e then 1 else if ¬ timeP t then 2 else 0
def tNd (z : xC) (x t : Int32) : Int32 := if ¬ nodeP z x then 1 else if ¬ timeP t then 2 else 0
def tPot (z : xC) (x t : Int32) : Int32 := if ¬ nodeP z x then 1 else if ¬ timeP t then 2 else if ¬ aflI z (gM z t (clN x)) = 0 then 3 else 0
def rPot (z : xC) (x t b : Int32) : Int64 := ptF (num z t (clN x)) (den z t) b
def tCur (z : xC) (e t : Int32) : Int32 := if ¬ elP z e then 1 else if ¬ timeP t then 2 else if (eS z (clN e) = 0 ∧ ¬ onI z (clN e) t = 0) ∧ ¬ aflI z (gM z t (cA z (clN e))) = 0 then 3 else 0
def rCur (z : xC) (e t b : Int32) : Int64 := if onI z (clN e) t = 0 then ptF 0 1 b else if ¬ eS z (clN e) = 0 then ptF (eZ z (clN e)).toInt64 1 b else ptF (flw z (num z t) (den z t) (clN e) (cA z (clN e))) (den z t) b
def tFeed (z : xC) (x t : Int32) : Int32 := if ¬ nodeP z x then 1 else if ¬ timeP t then 2 else if nR z (clN x) = 0 then 3 else 0
def rFeed (z : xC) (x t b : Int32) : Int64 := ptF (fdS z t (num z t) (den z t) (clN x) (nE z)) (den z t) b
def tRst (z : xC) (a b t : Int32) : Int32 := if ¬ nodeP z a then 1 else if ¬ nodeP z b then 1 else if ¬ timeP t then 2 else if gM z t (clN a) / 2 ^ clN b % 2 = 0 then 3 else 0
def rRst (z : xC) (a b t f : Int32) : Int64 := ptF (upV (dP z t (clN b)) (fun _ => 0) (dm (dR z t (clN a) (clN b)) (dN z t (clN b))) (dN z t (clN b)) (clN a)) (dm (dR z t (clN a) (clN b)) (dN z t (clN b)) (2 ^ dN z t (clN b) - 1)) f
def tTm (t : Int32) : Int32 := if ¬ timeP t then 1 else 0
def tCmp (z : xC) (x t u w : Int32) : Int32 := if ¬ nodeP z x then 1 else if ¬ timeP t then 2 else if ¬ (-500 ≤ u ∧ u ≤ nI 500 ∧ 1 ≤ w ∧ w ≤ nI 500) then 2 else if ¬ aflI z (gM z t (clN x)) = 0 then 3 else 0
def rCmp (z : xC) (x t u w : Int32) : Int32 := cfS 200 (num z t (clN x)) (den z t) u.toInt64 w.toInt64 1
/-- how many levels among the first k nodes -/
def lvS (z : xC) (t : Int32) : Nat → Nat
  | 0 => 0
  | j + 1 => lvS z t j + (if aflI z (gM z t j) = 0 ∧ lvF z (gM z t) (num z t) j j = true then 1 else 0)
theorem lvS_le (z : xC) (t : Int32) : ∀ j, lvS z t j ≤ j
  | 0 => Nat.le_refl _
  | j + 1 => by
    have := lvS_le z t j
    rw [lvS]
    split <;> omega
/-- probe: k steps at most; the time looked at, the best so far, its fraction -/
def prS (z : xC) (j : Nat) (to m : Int32) : Nat → Int32 → Int32 → Int64 → Int64 → Int32
  | 0, _, best, _, _ => best
  | k + 1, t, best, u, w => if t < 0 ∨ to < t then best else
    if aflI z (gM z t j) = 0 ∧ (best < 0 ∨ (if m = 0 then cfS 200 (num z t j) (den z t) u w 1 < 0 else 0 < cfS 200 (num z t j) (den z t) u w 1)) then prS z j to m k (ftS z t (nE z)) t (num z t j) (den z t)
    else prS z j to m k (ftS z t (nE z)) best u w
def tPrb (z : xC) (x f g : Int32) : Int32 := if ¬ nodeP z x then 1 else if ¬ timeP f then 2 else if ¬ timeP g then 2 else if g < f then 2 else 0
def rPrb (z : xC) (x f g m : Int32) : Int32 := prS z (clN x) g m 1000 f (-1) 0 1
def xExt (H H1 : Heap) : Prop := H.size ≤ H1.size ∧ ∀ q : Nat, q < H.size → H1[q]? = H[q]?
theorem lvS_1 {z : xC} {t : Int32} {j : Nat} (h : aflI z (gM z t j) = 0) (h2 : lvF z (gM z t) (num z t) j j = true) : lvS z t (j + 1) = lvS z t j + 1 := by rw [lvS, if_pos ⟨h, h2⟩]
theorem lvS_0 {z : xC} {t : Int32} {j : Nat} (h : ¬ (aflI z (gM z t j) = 0 ∧ lvF z (gM z t) (num z t) j j = true)) : lvS z t (j + 1) = lvS z t j := by rw [lvS, if_neg h]; rfl
theorem lvF_congr {z : xC} {M : Nat → Nat} {N N' : Nat → Int64} {j : Nat} : ∀ o, (∀ i, i < o → N i = N' i) → N j = N' j → lvF z M N j o = lvF z M N' j o
  | 0, _, _ => rfl
  | o + 1, h, hj => by
    rw [lvF, lvF, lvF_congr o (fun i hi => h i (by omega)) hj, h o (by omega), hj]
theorem flw_congr {z : xC} {N N' : Nat → Int64} {d d' : Int64} {i j : Nat} (ha : N (cA z i) = N' (cA z i)) (hb : N (cB z i) = N' (cB z i)) (hd : d = d') : flw z N d i j = flw z N' d' i j := by
  rw [flw, flw, ha, hb, hd]
theorem prS_e {z : xC} {j k : Nat} {to m t best : Int32} {u w : Int64} (h : t < 0 ∨ to < t) : prS z j to m k t best u w = best := by
  cases k with
  | zero => rfl
  | succ k => rw [prS, if_pos h]
theorem prS_t {z : xC} {j k : Nat} {to m t best : Int32} {u w : Int64} (h : ¬ (t < 0 ∨ to < t)) (h2 : aflI z (gM z t j) = 0 ∧ (best < 0 ∨ (if m = 0 then cfS 200 (num z t j) (den z t) u w 1 < 0 else 0 < cfS 200 (num z t j) (den z t) u w 1))) : prS z j to m (k + 1) t best u w = prS z j to m k (ftS z t (nE z)) t (num z t j) (den z t) := by rw [prS, if_neg h, if_pos h2]
theorem prS_k {z : xC} {j k : Nat} {to m t best : Int32} {u w : Int64} (h : ¬ (t < 0 ∨ to < t)) (h2 : ¬ (aflI z (gM z t j) = 0 ∧ (best < 0 ∨ (if m = 0 then cfS 200 (num z t j) (den z t) u w 1 < 0 else 0 < cfS 200 (num z t j) (den z t) u w 1)))) : prS z j to m (k + 1) t best u w = prS z j to m k (ftS z t (nE z)) best u w := by rw [prS, if_neg h, if_neg h2]
def putT (f : Nat → Int32) (b p n : Nat) (t : Int32) : Nat → Int32 := fun q => if q < b + p then f q else if q = b + p then t else if q ≤ b + n then f (q - 1) else f q
def drpT (f : Nat → Int32) (b p n : Nat) : Nat → Int32 := fun q => if q < b + p then f q else if q + 1 < b + n then f (q + 1) else f q
def zPut (z : xC) (i : Nat) (t : Int32) : xC := s_eT (s_tT z (putT (tT z) (6 * i) (tb z i t (cT z i)) (cT z i) t)) (upd (eT z) i (nI (cT z i + 1)))
def zDrp (z : xC) (i : Nat) (t : Int32) : xC := s_eT (s_tT z (drpT (tT z) (6 * i) (tb z i t (cT z i)) (cT z i))) (upd (eT z) i (nI (cT z i - 1)))
theorem put_s {f f2 : Nat → Int32} {b k n : Nat} (hk : 0 < k) (hf : ∀ q, f2 q = if b + k < q ∧ q ≤ b + n then f (q - 1) else f q) (hkn : k ≤ n) : ∀ q, upd f2 (b + k) (f2 (b + (k - 1))) q = if b + (k - 1) < q ∧ q ≤ b + n then f (q - 1) else f q := fun q => by
  by_cases e : q = b + k
  · subst e
    rw [show upd f2 (b + k) (f2 (b + (k - 1))) (b + k) = f2 (b + (k - 1)) by simp [upd], hf, if_neg (by omega), if_pos (by omega)]
    congr 1
    omega
  · rw [show upd f2 (b + k) (f2 (b + (k - 1))) q = f2 q by simp [upd, e], hf]
    by_cases h : b + k < q ∧ q ≤ b + n
    · rw [if_pos h, if_pos (by omega)]
    · rw [if_neg h, if_neg (by omega)]
theorem put_e {f f2 : Nat → Int32} {b p n : Nat} {t : Int32} (hf : ∀ q, f2 q = if b + p < q ∧ q ≤ b + n then f (q - 1) else f q) : upd f2 (b + p) t = putT f b p n t := by
  funext q
  unfold putT
  by_cases e : q = b + p
  · subst e; simp [upd]
  · rw [show upd f2 (b + p) t q = f2 q by simp [upd, e], hf]
    by_cases h : q < b + p
    · rw [if_pos h, if_neg (by omega)]
    · rw [if_neg h, if_neg e]
      by_cases h2 : q ≤ b + n
      · rw [if_pos h2, if_pos (by omega)]
      · rw [if_neg h2, if_neg (by omega)]
theorem drp_s {f f2 : Nat → Int32} {b p k : Nat} (hf : ∀ q, f2 q = if b + p ≤ q ∧ q + 1 < b + k then f (q + 1) else f q) (hk : p < k) : ∀ q, upd f2 (b + (k - 1)) (f2 (b + k)) q = if b + p ≤ q ∧ q + 1 < b + (k + 1) then f (q + 1) else f q := fun q => by
  by_cases e : q = b + (k - 1)
  · subst e
    rw [show upd f2 (b + (k - 1)) (f2 (b + k)) (b + (k - 1)) = f2 (b + k) by simp [upd], hf, if_neg (by omega), if_pos (by omega)]
    congr 1
    omega
  · rw [show upd f2 (b + (k - 1)) (f2 (b + k)) q = f2 q by simp [upd, e], hf]
    by_cases h : b + p ≤ q ∧ q + 1 < b + k
    · rw [if_pos h, if_pos (by omega)]
    · rw [if_neg h, if_neg (by omega)]
theorem drp_e {f f2 : Nat → Int32} {b p n k : Nat} (hf : ∀ q, f2 q = if b + p ≤ q ∧ q + 1 < b + k then f (q + 1) else f q) (hk : k = n ∨ (n ≤ k ∧ k = p + 1)) : f2 = drpT f b p n := by
  funext q
  unfold drpT
  rw [hf]
  by_cases h : q < b + p
  · rw [if_pos h, if_neg (by omega)]
  · rw [if_neg h]
    by_cases h2 : q + 1 < b + n
    · rw [if_pos h2, if_pos (by omega)]
    · rw [if_neg h2, if_neg (by omega)]
theorem pk_dec {k : Nat} (h : 0 < k) : nI k + Int32.ofInt (-1) = nI (k - 1) := by
  obtain ⟨j, rfl⟩ : ∃ j, k = j + 1 := ⟨k - 1, by omega⟩
  exact pk_m1 j
abbrev hasP (z : xC) (i : Nat) (t : Int32) : Prop := tb z i t (cT z i) < tb z i (t + nI 1) (cT z i)
def tTog (z : xC) (e t : Int32) : Int32 := if ¬ elP z e then 1 else if ¬ (nI 1 ≤ t ∧ t ≤ nI 999) then 2 else if ¬ hasP z (clN e) t ∧ cT z (clN e) = 6 then 3 else 0
def zTog (z : xC) (i : Nat) (t : Int32) : xC := if hasP z i t then zDrp z i t else zPut z i t
