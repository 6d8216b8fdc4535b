/-! the bench's own reckoning, as its loops go -/
def bOk (bl : xM) (z : xC) : Prop := wf z ∧ nN z ≤ bl.2.2.1 ∧ nE z ≤ bl.2.2.2 ∧ bl.2.2.1 ≤ 1000 ∧ bl.2.2.2 ≤ 1000
theorem bOk.w {bl : xM} {z : xC} (h : bOk bl z) : wf z := h.1
/-- Euclid, k steps at most -/
def gcdS : Nat → Int64 → Int64 → Int64
  | 0, a, _ => a
  | k + 1, a, b => if b = 0 then a else gcdS k b (a - a / b * b)
def absL (x : Int64) : Int64 := if 0 ≤ x then x else -x
def ptF (u w : Int64) (b : Int32) : Int64 := if 1 < gcdS 200 (absL u) w then (if b = 0 then w else u) / gcdS 200 (absL u) w else (if b = 0 then w else u)
def cmpL (x y : Int64) : Int32 := if y ≤ x then (if x = y then nI 0 else nI 1) else -1
def fdL (x y : Int64) : Int64 := if 0 ≤ x ^^^ y then x / y else if x / y * y = x then x / y else x / y - 1
def fmL (x y : Int64) : Int64 := if 0 ≤ x ^^^ y then x - x / y * y else if x - x / y * y = 0 then x - x / y * y else x - x / y * y + y
/-- compareFractions, k steps at most -/
def cfS : Nat → Int64 → Int64 → Int64 → Int64 → Int32 → Int32
  | 0, _, u, _, v, sg => if u = v then nI 0 else if u = 0 then sg else -sg
  | k + 1, a, u, b, v, sg => if u = 0 then (if u = v then nI 0 else if u = 0 then sg else -sg) else if v = 0 then (if u = v then nI 0 else if u = 0 then sg else -sg) else
    if cmpL (fdL a u) (fdL b v) = 0 then cfS k u (fmL a u) v (fmL b v) (-sg) else sg * cmpL (fdL a u) (fdL b v)
def dg (d x : Int64) : Int64 := d * 31 + x
/-- what hangs together: masks by node, after i elements -/
def joinF (m : Nat → Nat) (S : Nat) : Nat → Nat := fun j => if S / 2 ^ j % 2 = 0 then m j else S
def gpS (z : xC) (t : Int32) : Nat → Nat → Nat
  | 0 => fun j => 2 ^ j
  | i + 1 => if eS z i = 0 ∧ ¬ onI z i t = 0 then joinF (gpS z t i) (gpS z t i (cA z i) ||| gpS z t i (cB z i)) else gpS z t i
theorem gp_lt (z : xC) (hw : wf z) (t : Int32) : ∀ i, i ≤ nE z → ∀ j, j < 8 → gpS z t i j < 256
  | 0, _, j, hj => by
    show 2 ^ j < 2 ^ 8
    exact Nat.pow_lt_pow_right (by decide) hj
  | i + 1, h, j, hj => by
    have ha := gp_lt z hw t i (by omega) (cA z i) (by have := hw.a8 (i := i) (by omega); have := hw.N; omega)
    have hb := gp_lt z hw t i (by omega) (cB z i) (by have := hw.b8 (i := i) (by omega); have := hw.N; omega)
    have hor : gpS z t i (cA z i) ||| gpS z t i (cB z i) < 2 ^ 8 := Nat.or_lt_two_pow ha hb
    unfold gpS
    split
    · unfold joinF
      split
      · exact gp_lt z hw t i (by omega) j hj
      · exact hor
    · exact gp_lt z hw t i (by omega) j hj
def gM (z : xC) (t : Int32) : Nat → Nat := gpS z t (nE z)
theorem gM_lt {z : xC} (hw : wf z) (t : Int32) {j : Nat} (hj : j < 8) : gM z t j < 256 := gp_lt z hw t (nE z) (Nat.le_refl _) j hj
theorem m_or : ∀ a, a < 256 → ∀ b, b < 256 → nI a ||| nI b = nI (a ||| b) := by
  intro a ha b hb
  apply Int32.toBitVec_inj.mp
  show BitVec.ofNat 32 a ||| BitVec.ofNat 32 b = BitVec.ofNat 32 (a ||| b)
  rw [BitVec.ofNat_or]
theorem m_pow : ∀ j, j < 8 → nI 1 <<< (nI j &&& 31) = nI (2 ^ j) := by decide +kernel
/-- no rail among the first o nodes is in the mask -/
def aflB (z : xC) (M : Nat) : Nat → Bool
  | 0 => true
  | o + 1 => aflB z M o && (nR z o == 0 || M / 2 ^ o % 2 == 0)
theorem aflB_s1 {z : xC} {M o : Nat} (h : aflB z M o = true) (h2 : nR z o = 0 ∨ M / 2 ^ o % 2 = 0) : aflB z M (o + 1) = true := by
  show (aflB z M o && _) = true
  rw [h]
  rcases h2 with e | e <;> simp [e]
theorem aflB_s0 {z : xC} {M o : Nat} (h1 : ¬ nR z o = 0) (h2 : ¬ M / 2 ^ o % 2 = 0) : ∀ n, o < n → aflB z M n = false
  | 0, h => absurd h (Nat.not_lt_zero _)
  | n + 1, h => by
    show (aflB z M n && _) = false
    by_cases e : o = n
    · subst e; simp [h1, h2]
    · rw [aflB_s0 h1 h2 n (by omega)]; rfl
def aflI (z : xC) (M : Nat) : Int32 := if aflB z M (nN z) = true then nI 1 else nI 0
theorem aflI_01 (z : xC) (M : Nat) : aflI z M = 0 ∨ aflI z M = 1 := by
  unfold aflI
  by_cases h : aflB z M (nN z) = true
  · rw [if_pos h]; exact Or.inr rfl
  · rw [if_neg h]; exact Or.inl rfl
/-- places, known potentials, how many are sought, after i nodes -/
def stS (z : xC) (M : Nat → Nat) : Nat → (Nat → Int32) × (Nat → Int64) × Nat
  | 0 => (fun _ => -1, fun _ => 0, 0)
  | i + 1 => if nR z i = 0 then (if aflI z (M i) = 0 then ((skS (stS z M i).1 (stS z M i).2.2 i).1, (stS z M i).2.1, (skS (stS z M i).1 (stS z M i).2.2 i).2) else stS z M i)
      else ((stS z M i).1, vp_updL (stS z M i).2.1 i (nP z i).toInt64, (stS z M i).2.2)
theorem skS_le {pl : Nat → Int32} {n i : Nat} (h : n ≤ 7) : (skS pl n i).2 ≤ 7 := by unfold skS; split <;> simp <;> omega
theorem skS_ok {pl : Nat → Int32} {n i : Nat} (h : plOk pl n) : plOk (skS pl n i).1 (skS pl n i).2 := by
  unfold skS
  split
  · intro j hj
    by_cases e : j = i
    · exact Or.inr ⟨n, Nat.lt_succ_self _, by simp [upd, e]⟩
    · rcases h j hj with a | ⟨k, hk, a⟩
      · exact Or.inl (by simp [upd, e]; exact a)
      · exact Or.inr ⟨k, Nat.lt_succ_of_lt hk, by simp [upd, e]; exact a⟩
  · exact h
theorem plOk_0 {n : Nat} : plOk (fun _ => -1) n := fun _ _ => Or.inl (by show (-1 : Int32) < 0; decide)
theorem stS_le (z : xC) (M : Nat → Nat) : ∀ i, (stS z M i).2.2 ≤ 7 ∧ plOk (stS z M i).1 (stS z M i).2.2
  | 0 => ⟨by show 0 ≤ 7; omega, plOk_0⟩
  | i + 1 => by
    have h := stS_le z M i
    unfold stS
    split
    · split
      · exact ⟨skS_le h.1, skS_ok h.2⟩
      · exact h
    · exact h
/-- the rows: what sources bring, what conductors link -/
def brS (z : xC) (t : Int32) (pl : Nat → Int32) (n : Nat) : Nat → Nat → Nat → Int64
  | 0 => fun _ _ => 0
  | i + 1 => if eS z i = 0 then brS z t pl n i else if onI z i t = 0 then brS z t pl n i else brR (brR (brS z t pl n i) pl n (cA z i) (-(eZ z i)).toInt64) pl n (cB z i) (eZ z i).toInt64
def cdS (z : xC) (t : Int32) (pl : Nat → Int32) (kn : Nat → Int64) (n : Nat) (rw : Nat → Nat → Int64) : Nat → Nat → Nat → Int64
  | 0 => rw
  | i + 1 => if eS z i = 0 then (if onI z i t = 0 then cdS z t pl kn n rw i else lkR (lkR (cdS z t pl kn n rw i) pl kn n (cA z i) (cB z i) (eZ z i).toInt64) pl kn n (cB z i) (cA z i) (eZ z i).toInt64) else cdS z t pl kn n rw i
def sP (z : xC) (t : Int32) : Nat → Int32 := (stS z (gM z t) (nN z)).1
def sK (z : xC) (t : Int32) : Nat → Int64 := (stS z (gM z t) (nN z)).2.1
def sN (z : xC) (t : Int32) : Nat := (stS z (gM z t) (nN z)).2.2
def sR (z : xC) (t : Int32) : Nat → Nat → Int64 := cdS z t (sP z t) (sK z t) (sN z t) (brS z t (sP z t) (sN z t) (nE z)) (nE z)
def sG (z : xC) (t : Int32) : Nat → Int32 := fun j => nI (gM z t j)
theorem sN_le (z : xC) (t : Int32) : sN z t ≤ 7 := (stS_le z (gM z t) (nN z)).1
theorem sP_ok (z : xC) (t : Int32) : plOk (sP z t) (sN z t) := (stS_le z (gM z t) (nN z)).2
def miOk (mi : Nat → Int64) (rw : Nat → Nat → Int64) (n : Nat) : Prop := ∀ M, M < 2 ^ (n + 1) - 1 → mi M = dm rw n M
/-- for a resistance: the nodes that hang together with b, but b -/
def drS (M b : Nat) : Nat → (Nat → Int32) × Nat
  | 0 => (fun _ => -1, 0)
  | i + 1 => if i = b then drS M b i else if M / 2 ^ i % 2 = 0 then drS M b i else skS (drS M b i).1 (drS M b i).2 i
theorem drS_le (M b : Nat) : ∀ i, (drS M b i).2 ≤ 7 ∧ plOk (drS M b i).1 (drS M b i).2
  | 0 => ⟨by show 0 ≤ 7; omega, plOk_0⟩
  | i + 1 => by
    have h := drS_le M b i
    unfold drS
    split
    · exact h
    · split
      · exact h
      · exact ⟨skS_le h.1, skS_ok h.2⟩
def dP (z : xC) (t : Int32) (b : Nat) : Nat → Int32 := (drS (gM z t b) b (nN z)).1
def dN (z : xC) (t : Int32) (b : Nat) : Nat := (drS (gM z t b) b (nN z)).2
def dR (z : xC) (t : Int32) (a b : Nat) : Nat → Nat → Int64 := cdS z t (dP z t b) (fun _ => 0) (dN z t b) (brR (fun _ _ => 0) (dP z t b) (dN z t b) a 1) (nE z)
/-- the first toggle behind t -/
def ftS (z : xC) (t : Int32) : Nat → Int32
  | 0 => -1
  | i + 1 => if tgb z i t < 0 then ftS z t i else if ftS z t i < 0 then tgb z i t else if ftS z t i ≤ tgb z i t then ftS z t i else tgb z i t
def crS (z : xC) : Nat → Nat
  | 0 => 0
  | i + 1 => crS z i + (if nR z i = 0 then 0 else 1)
theorem crS_le (z : xC) : ∀ i, crS z i ≤ i
  | 0 => Nat.le_refl _
  | i + 1 => by
    have := crS_le z i
    unfold crS
    split <;> omega
def ctS (z : xC) : Nat → Nat
  | 0 => 0
  | i + 1 => ctS z i + cT z i
theorem ctS_le (z : xC) (hw : wf z) : ∀ i, i ≤ nE z → ctS z i ≤ 6 * i
  | 0, _ => Nat.le_refl _
  | i + 1, h => by
    have h1 := ctS_le z hw i (by omega)
    have h2 := hw.t6 (i := i) (by omega)
    unfold ctS
    omega
def cnt (z : xC) (k : Nat) : Nat := match k with
  | 0 => nN z
  | 1 => nE z
  | 2 => crS z (nN z)
  | _ => ctS z (nE z)
/-- the checksum -/
def dgT (z : xC) (i : Nat) (d : Int64) : Nat → Int64
  | 0 => d
  | k + 1 => dg (dgT z i d k) (trt z i k).toInt64
def dgM (z : xC) (i : Nat) (d : Int64) : Nat → Int64
  | 0 => d
  | k + 1 => dg (dgM z i d k) (tT z (6 * i + k)).toInt64
def dgE (z : xC) (d : Int64) : Nat → Int64
  | 0 => d
  | i + 1 => dgM z i (dgT z i (dgE z d i) 6) (cT z i)
def dgC (z : xC) (d : Int64) : Nat → Int64
  | 0 => d
  | k + 1 => dg (dgC z d k) (nI (cnt z k)).toInt64
def dgN (z : xC) (d : Int64) : Nat → Int64
  | 0 => d
  | i + 1 => dg (dgN z d i) (if nR z i = 0 then 0 else 1)
def dgA (z : xC) (d : Int64) : Int64 := dgE z (dgN z (dgC z d 4) (nN z)) (nE z)
def den (z : xC) (t : Int32) : Int64 := dm (sR z t) (sN z t) (2 ^ sN z t - 1)
def num (z : xC) (t : Int32) (j : Nat) : Int64 := upV (sP z t) (sK z t) (dm (sR z t) (sN z t)) (sN z t) j
def dgP (z : xC) (t : Int32) (d : Int64) : Nat → Int64
  | 0 => d
  | i + 1 => if aflI z (gM z t i) = 0 then dg (dg (dgP z t d i) (ptF (num z t i) (den z t) 1)) (ptF (num z t i) (den z t) 0) else dg (dgP z t d i) (-1)
theorem upV_dm {pl : Nat → Int32} {kn mi : Nat → Int64} {rw : Nat → Nat → Int64} {n j : Nat} (hm : miOk mi rw n) (hpl : plOk pl n) (hj : j < 8) (hn : n ≤ 7) : upV pl kn mi n j = upV pl kn (dm rw n) n j := by
  have e0 : mi (2 ^ n - 1) = dm rw n (2 ^ n - 1) := hm _ (by
    have : 0 < 2 ^ n := Nat.pow_pos (by decide)
    rw [Nat.pow_succ]; omega)
  unfold upV
  by_cases h : pl j < 0
  · rw [if_pos h, if_pos h, e0]
  · obtain ⟨k, hk, ek, ck⟩ := hpl.at hj h (by omega)
    have e1 : mi (2 ^ (n + 1) - 1 - 2 ^ clN (pl j)) = dm rw n (2 ^ (n + 1) - 1 - 2 ^ clN (pl j)) := hm _ (by
      have h1 : 0 < 2 ^ clN (pl j) := Nat.pow_pos (by decide)
      have h2 : 2 ^ clN (pl j) ≤ 2 ^ n := Nat.pow_le_pow_right (by decide) (by omega)
      have h3 : 2 ^ (n + 1) = 2 ^ n * 2 := Nat.pow_succ ..
      omega)
    rw [if_neg h, if_neg h, e1]
theorem den_dm {mi : Nat → Int64} {rw : Nat → Nat → Int64} {n : Nat} (hm : miOk mi rw n) : mi (2 ^ n - 1) = dm rw n (2 ^ n - 1) := hm _ (by
  have : 0 < 2 ^ n := Nat.pow_pos (by decide)
  rw [Nat.pow_succ]; omega)
section RX
variable {p : Program} {l : Launch} {e : Env} {R : Room} {s : State} {m : MethodId} {args : Array Value} {below : List Frame} {meth : Method} {c : Code} {H H0 : Heap} {locs : List Loc} {cells slots : Nat} {Q : State → Prop}
variable {cc : ByteArray} {pc : Nat} {ls : Array Slot} {rest : List Value} {D : va_G} {y : Nat → ClassId} {A : Nat → Prop} {ad : xL → Nat} {bl : xM} {z : xC} {g pl : Nat → Int32} {kn mi : Nat → Int64} {rw : Nat → Nat → Int64} {un : Int32} {fR fO : Nat → Nat → Option va_E}
theorem al_nodes (hexec : p.tables.exec = Jvm.exec) (hb : c.code = cc) (hE : xE D y s) (hP : xW D A ad (wU (wB y ad bl z g pl kn rw mi un) fR fO) H) {i : Nat} (hi : i < nN z) (hc : nN z ≤ bl.2.2.1 ∧ bl.2.2.1 ≤ 1000) (hdg : decode cc pc = .ok (.aaload, 1))
    (kk : W p l e R s m args below meth c H locs cells slots Q (F0 m (pc + 1) ls (.ref (ad (12, i)) :: rest))) : W p l e R s m args below meth c H locs cells slots Q (F0 m pc ls (.int (nI i) :: .ref (ad (2, 0)) :: rest)) := by
  have he : wU (wB y ad bl z g pl kn rw mi un) fR fO (2, 0) = some (.inl (y 4, bl.2.2.1, xr (fun i => if i < nN z then some (ad (12, i)) else none))) := by
    show (if nN z = 0 then _ else _) = _
    exact if_neg (by omega)
  exact xw_aald4 hexec hb hE hP (2, 0) he (if_pos hi) (by omega) (by omega) hdg kk
theorem al_elements (hexec : p.tables.exec = Jvm.exec) (hb : c.code = cc) (hE : xE D y s) (hP : xW D A ad (wU (wB y ad bl z g pl kn rw mi un) fR fO) H) {i : Nat} (hi : i < nE z) (hc : nE z ≤ bl.2.2.2 ∧ bl.2.2.2 ≤ 1000) (hdg : decode cc pc = .ok (.aaload, 1))
    (kk : W p l e R s m args below meth c H locs cells slots Q (F0 m (pc + 1) ls (.ref (ad (13, i)) :: rest))) : W p l e R s m args below meth c H locs cells slots Q (F0 m pc ls (.int (nI i) :: .ref (ad (4, 0)) :: rest)) := by
  have he : wU (wB y ad bl z g pl kn rw mi un) fR fO (4, 0) = some (.inl (y 4, bl.2.2.2, xr (fun i => if i < nE z then some (ad (13, i)) else none))) := by
    show (if nE z = 0 then _ else _) = _
    exact if_neg (by omega)
  exact xw_aald4 hexec hb hE hP (4, 0) he (if_pos hi) (by omega) (by omega) hdg kk
end RX
