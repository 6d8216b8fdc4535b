/-! what the law's checks rest on: signs of doubles, a probe over one time, sums of feeds, bounds -/
/-- a double with its sign -/
def fdG (x : UInt64) (s : Bool) (b : Int) : Prop := ∃ (c : Nat) (q : Int), FP.Core.decode FP.Core.b64 x.toNat = FP.Core.Datum.fin s c q ∧ c < 9007199254740992 ∧ q ≤ b
theorem fdG_of {s : Bool} {c : Nat} {q : Int} (hc : c < 9007199254740992) (h1 : -1074 ≤ q) (h2 : q ≤ 971) {b : Int} (hb : q ≤ b) : fdG (UInt64.ofNat (FP.Core.encode FP.Core.b64 (.fin s c q))) s b := by
  have h := f_dec (s := s) hc h1 h2
  by_cases k : c < 4503599627370496
  · rw [if_pos k] at h; exact ⟨_, _, h, hc, by omega⟩
  · rw [if_neg k] at h; exact ⟨_, _, h, hc, hb⟩
theorem fdG.le {x : UInt64} {s : Bool} {a b : Int} (h : fdG x s a) (hb : a ≤ b) : fdG x s b := by
  obtain ⟨c, q, h1, h2, h3⟩ := h
  exact ⟨c, q, h1, h2, by omega⟩
theorem f_ratioG {s : Bool} {num den : Nat} {e b : Int} (hL : num ≠ 0 → FP.Core.leading num den + e - 52 ≤ b) (h1 : -1074 ≤ b) (h2 : b < 971) : fdG (UInt64.ofNat (FP.Core.encode FP.Core.b64 (FP.Core.roundRatio FP.Core.b64 s num den e))) s (b + 1) := by
  obtain ⟨c, q, e1, e2, e3, e4⟩ := f_rr (s := s) hL h1 h2
  rw [e1]
  exact fdG_of e2 e3 (by omega) e4
theorem f_mulG {x y : UInt64} {s t : Bool} {a b : Int} (hx : fdG x s a) (hy : fdG y t b) (h1 : -1074 ≤ a + b + 53) (h2 : a + b + 53 < 971) : fdG (FP.dmul x y) (s != t) (a + b + 54) := by
  obtain ⟨c, q, e1, c1, q1⟩ := hx
  obtain ⟨d, r, e2, c2, q2⟩ := hy
  show fdG (UInt64.ofNat (FP.Core.encode FP.Core.b64 (FP.Core.round FP.Core.b64 (FP.Core.exactProduct (FP.Core.decode FP.Core.b64 x.toNat) (FP.Core.decode FP.Core.b64 y.toNat))))) _ _
  rw [e1, e2]
  show fdG (UInt64.ofNat (FP.Core.encode FP.Core.b64 (FP.Core.roundRatio FP.Core.b64 (s != t) (c * d) 1 (q + r)))) _ _
  have hm : c * d < 2 ^ 106 := Nat.lt_of_lt_of_le (Nat.mul_lt_mul'' c1 c2) (by decide)
  rw [show a + b + 54 = (a + b + 53) + 1 by omega]
  exact f_ratioG (fun h0 => by have := f_lead (den := 1) h0 hm; omega) h1 h2
theorem f_addG {x y : UInt64} {b : Int} (hx : fdG x false b) (hy : fdG y false b) (h1 : -1074 ≤ b + 2) (h2 : b + 2 < 971) : fdG (FP.dadd x y) false (b + 3) := by
  obtain ⟨c, q, e1, c1, q1⟩ := hx
  obtain ⟨d, r, e2, d1, r1⟩ := hy
  show fdG (UInt64.ofNat (FP.Core.encode FP.Core.b64 (FP.Core.round FP.Core.b64 (FP.Core.exactSum (FP.Core.decode FP.Core.b64 x.toNat) (FP.Core.decode FP.Core.b64 y.toNat))))) _ _
  rw [e1, e2]
  obtain ⟨S, hS⟩ : ∃ S, S = FP.Core.inUnits c q (min q r) + FP.Core.inUnits d r (min q r) := ⟨_, rfl⟩
  have hsu : FP.Core.sumUnits false c q false d r (min q r) = (S : Int) := by
    rw [hS]
    unfold FP.Core.sumUnits FP.Core.signed
    rw [if_neg (by decide), if_neg (by decide)]
    omega
  have hsg : FP.Core.sumSign false false (S : Int) = false := by
    unfold FP.Core.sumSign
    split
    · rfl
    · exact decide_eq_false (by omega)
  have hex : FP.Core.round FP.Core.b64 (FP.Core.exactSum (.fin false c q) (.fin false d r)) = FP.Core.roundRatio FP.Core.b64 (FP.Core.sumSign false false (FP.Core.sumUnits false c q false d r (min q r))) (FP.Core.sumUnits false c q false d r (min q r)).natAbs 1 (min q r) := rfl
  rw [hex, hsu, hsg, Int.natAbs_natCast]
  have u1 := f_units (b := b) c1 (Int.min_le_left q r) q1
  have u2 := f_units (b := b) d1 (Int.min_le_right q r) r1
  have hm : S < 2 ^ (55 + (b - min q r).toNat) := by
    have h3 : 0 < 2 ^ (b - min q r).toNat := Nat.pow_pos (by decide)
    rw [Nat.pow_add, show (2 : Nat) ^ 55 = 36028797018963968 by decide]
    omega
  rw [show b + 3 = (b + 2) + 1 by omega]
  exact f_ratioG (fun h0 => by have := f_lead (den := 1) h0 hm; omega) h1 h2
theorem f_i2dG {x : Int32} (h : 0 ≤ x.toInt) : fdG (FP.i2d x) false 12 := by
  have e : FP.i2d x = UInt64.ofNat (FP.Core.encode FP.Core.b64 (FP.Core.roundRatio FP.Core.b64 (decide (x.toInt < 0)) x.toInt.natAbs 1 0)) := rfl
  have hx := x.toInt_lt
  rw [e, decide_eq_false (by omega)]
  obtain ⟨c, q, h1, h2, h3, h4, -⟩ := f_exact false (y := x.toInt.natAbs) (by omega)
  exact ⟨c, q, h1, h2, by omega⟩
theorem fdB.G {x : UInt64} {b : Int} (h : fdB x b) : ∃ s, fdG x s b := by
  obtain ⟨s, c, q, h1, h2, h3⟩ := h
  exact ⟨s, c, q, h1, h2, h3⟩
theorem pt_G {z : xC} (hw : wf z) (t : Int32) {i : Nat} (hi : i < nE z) (hs : eS z i = 0) : fdG (pwT z t i) false 256 := by
  obtain ⟨s, hu⟩ := (df_f hw t hi).G
  have hz := el_con hw hi hs
  have h1 := f_mulG (f_i2dG (x := eZ z i) (by omega)) hu (by decide) (by decide)
  have h2 := f_mulG h1 hu (by decide) (by decide)
  have e : ((false != s) != s) = false := by cases s <;> rfl
  rw [e] at h2
  exact h2.le (by decide)
theorem pw_G {z : xC} (hw : wf z) (t : Int32) : ∀ i, i ≤ nE z → fdG (pwS z t i) false (256 + 3 * (i : Int))
  | 0, _ => ⟨0, -1074, by show FP.Core.decode FP.Core.b64 FP.dconst0.toNat = _; decide, by decide, by decide⟩
  | i + 1, hi => by
    have hE := hw.E
    have ih := pw_G hw t i (by omega)
    by_cases h : (eS z i = 0 ∧ ¬ onI z i t = 0) ∧ aflI z (gM z t (cA z i)) = 0
    · rw [pwS_1 h]
      refine (f_addG ih ((pt_G hw t (by omega) h.1.1).le (by omega)) (by omega) (by omega)).le (by omega)
    · rw [pwS_0 h]
      exact ih.le (by omega)
theorem f_nlt {x : UInt64} {b : Int} (h : fdG x false b) : ∃ o, FP.dcmp x FP.dconst0 = some o ∧ o ≠ .lt := by
  obtain ⟨c, q, e1, c1, q1⟩ := h
  have hexp : FP.dcmp x FP.dconst0 = FP.Core.order (FP.Core.decode FP.Core.b64 x.toNat) (FP.Core.decode FP.Core.b64 FP.dconst0.toNat) := rfl
  have e2 : FP.Core.decode FP.Core.b64 FP.dconst0.toNat = .fin false 0 (-1074) := by decide
  rw [e1, e2] at hexp
  refine ⟨_, hexp, ?_⟩
  intro g
  rw [Int.compare_eq_lt] at g
  have s1 : FP.Core.signed false (FP.Core.inUnits c q (min q (-1074))) = ((FP.Core.inUnits c q (min q (-1074)) : Nat) : Int) := rfl
  have s2 : FP.Core.signed false (FP.Core.inUnits 0 (-1074) (min q (-1074))) = ((FP.Core.inUnits 0 (-1074) (min q (-1074)) : Nat) : Int) := rfl
  have s3 : FP.Core.inUnits 0 (-1074) (min q (-1074)) = 0 := Nat.zero_mul _
  rw [s1, s2, s3] at g
  omega
/-- the power is no less than 0, and no NaN -/
theorem pw_nn {z : xC} (hw : wf z) (t : Int32) : ∃ o, FP.dcmp (pwS z t (nE z)) FP.dconst0 = some o ∧ o ≠ .lt := f_nlt (pw_G hw t (nE z) (Nat.le_refl _))
/-! a probe over one time -/
theorem prb_1 {z : xC} (hw : wf z) {j τ : Nat} (hj : j < nN z) (ht : τ ≤ 999) : rPrb z (nI j) (nI τ) (nI τ) (nI 1) = if aflI z (gM z (nI τ) j) = 0 then nI τ else -1 := by
  have hN := hw.N
  have h0 : ¬ (nI τ < 0 ∨ nI τ < nI τ) := fun h => by
    rcases h with h | h
    · exact nI_pos (by omega) h
    · exact absurd h Int32.lt_irrefl
  have h1 : ftS z (nI τ) (nE z) < 0 ∨ nI τ < ftS z (nI τ) (nE z) := by
    rcases ft_P hw ht with h | ⟨k, k1, k2, k3⟩
    · rw [h]; exact Or.inl (by decide)
    · rw [k3]; exact Or.inr ((nI_ltI (by omega) (by omega)).mpr k1)
  rw [rPrb, cl_nI (by omega), show (1000 : Nat) = 999 + 1 from rfl]
  by_cases h : aflI z (gM z (nI τ) j) = 0
  · rw [prS_t h0 ⟨h, Or.inl (by decide)⟩, prS_e h1, if_pos h]
  · rw [prS_k h0 (fun g => h g.1), prS_e h1, if_neg h]
/-! sums of feeds -/
def lsS (z : xC) (t : Int32) : Nat → Int64 × Int64
  | 0 => (0, 1)
  | n + 1 => if nR z n = 0 then lsS z t n else ((lsS z t n).1 * rFeed z (nI n) t (nI 0) + rFeed z (nI n) t (nI 1) * (lsS z t n).2, (lsS z t n).2 * rFeed z (nI n) t (nI 0))
theorem lsS_0 {z : xC} {t : Int32} {n : Nat} (h : nR z n = 0) : lsS z t (n + 1) = lsS z t n := by rw [lsS, if_pos h]
theorem lsS_1 {z : xC} {t : Int32} {n : Nat} (h : ¬ nR z n = 0) : lsS z t (n + 1) = ((lsS z t n).1 * rFeed z (nI n) t (nI 0) + rFeed z (nI n) t (nI 1) * (lsS z t n).2, (lsS z t n).2 * rFeed z (nI n) t (nI 0)) := by rw [lsS, if_neg h]
/-- what sources take from what floats -/
def loS (z : xC) (t : Int32) : Nat → Int32
  | 0 => nI 0
  | e + 1 => if eS z e = 0 ∨ onI z e t = 0 then loS z t e else loS z t e + (if aflI z (gM z t (cA z e)) = 0 then nI 0 else eZ z e) - (if aflI z (gM z t (cB z e)) = 0 then nI 0 else eZ z e)
theorem loS_0 {z : xC} {t : Int32} {e : Nat} (h : eS z e = 0 ∨ onI z e t = 0) : loS z t (e + 1) = loS z t e := by rw [loS, if_pos h]
theorem loS_1 {z : xC} {t : Int32} {e : Nat} (h1 : ¬ eS z e = 0) (h2 : ¬ onI z e t = 0) : loS z t (e + 1) = loS z t e + (if aflI z (gM z t (cA z e)) = 0 then nI 0 else eZ z e) - (if aflI z (gM z t (cB z e)) = 0 then nI 0 else eZ z e) := by rw [loS, if_neg (fun h => by rcases h with h | h; exact h1 h; exact h2 h)]
theorem i_posr {g d : Int} (h : 0 < g * d) (hg : 0 < g) : 0 < d := by
  rcases Int.lt_or_le 0 d with q | q
  · exact q
  · have := Int.mul_nonpos_of_nonneg_of_nonpos (Int.le_of_lt hg) q
    omega
section LS
variable {z : xC} {τ : Nat}
/-- the parts of a feed -/
theorem feed_rat (hw : wf z) (t : Int32) {n : Nat} (hn : n < nN z) : ∃ g : Int, 0 < g ∧ outF z t n = g * (rFeed z (nI n) t (nI 1)).toInt ∧ uD z t = g * (rFeed z (nI n) t (nI 0)).toInt := by
  have hN := hw.N
  have hE := hw.E
  have hd := de_I hw t
  have hf := fd_I hw t n (nE z) (Nat.le_refl _)
  have hu : fdS z t (num z t) (den z t) n (nE z) ≠ Int64.minValue := not_min hf (by omega)
  obtain ⟨g, h1, h2, h3⟩ := pt_rat (i64_pos.mpr hd.1) hu
  refine ⟨g, h1, ?_, ?_⟩
  · rw [rFeed, cl_nI (by omega), ← fd_V hw]; exact h2
  · rw [rFeed, cl_nI (by omega), ← de_V hw]; exact h3
theorem feed_pos (hw : wf z) (t : Int32) {n : Nat} (hn : n < nN z) : 0 < (rFeed z (nI n) t (nI 0)).toInt := by
  obtain ⟨g, h1, -, h3⟩ := feed_rat hw t hn
  have hd := uD_pos hw t
  generalize (rFeed z (nI n) t (nI 0)).toInt = d at h3 ⊢
  rw [h3] at hd
  exact i_posr hd h1
theorem ls_I (hw : wf z) (t : Int32) : ∀ n, n ≤ nN z → ∃ S B : Int, lsS z t n = (Int64.ofInt S, Int64.ofInt B) ∧ S * uD z t = B * sumI n (fun j => if nR z j = 0 then 0 else outF z t j)
  | 0, _ => ⟨0, 1, by rw [lsS]; rfl, by rw [Int.zero_mul]; rfl⟩
  | n + 1, h => by
    obtain ⟨S, B, h1, h2⟩ := ls_I hw t n (by omega)
    rw [sumI]
    by_cases c : nR z n = 0
    · refine ⟨S, B, by rw [lsS_0 c, h1], ?_⟩
      rw [if_pos c, h2, Int.add_zero]
    · obtain ⟨g, g1, g2, g3⟩ := feed_rat hw t (n := n) (by omega)
      generalize rFeed z (nI n) t (nI 0) = q at g3 ⊢
      have hq : ∀ x : Int64, x = Int64.ofInt x.toInt := fun x => (Int64.ofInt_toInt x).symm
      refine ⟨S * (rFeed z (nI n) t (nI 0)).toInt + (rFeed z (nI n) t (nI 1)).toInt * B, B * (rFeed z (nI n) t (nI 0)).toInt, ?_, ?_⟩
      · rw [lsS_1 c, h1]
        have e0 := hq (rFeed z (nI n) t (nI 0))
        have e1 := hq (rFeed z (nI n) t (nI 1))
        generalize (rFeed z (nI n) t (nI 0)).toInt = a at e0 ⊢
        generalize (rFeed z (nI n) t (nI 1)).toInt = b at e1 ⊢
        rw [e0, e1, ofI_mul, ofI_mul, ofI_add, ofI_mul]
      · obtain ⟨g, g1, g2, g3⟩ := feed_rat hw t (n := n) (by omega)
        rw [if_neg c, g2]
        generalize (rFeed z (nI n) t (nI 0)).toInt = a at g3 ⊢
        generalize (rFeed z (nI n) t (nI 1)).toInt = b at g3 ⊢
        generalize sumI n _ = X at h2 ⊢
        rw [g3] at h2 ⊢
        grind
theorem lo_I (hw : wf z) (t : Int32) : ∀ e, e ≤ nE z → (loS z t e).toInt = -sumI e (fun i => dV z (chF z t) i * iZ z t i) ∧ (loS z t e).toInt.natAbs ≤ 200 * e
  | 0, _ => by
    have h : (loS z t 0).toInt = 0 := by rw [loS]; decide
    rw [h]
    exact ⟨rfl, Nat.le_refl _⟩
  | e + 1, h => by
    obtain ⟨h1, h2⟩ := lo_I hw t e (by omega)
    have hE := hw.E
    rw [sumI]
    by_cases c : eS z e = 0 ∨ onI z e t = 0
    · have hz : iZ z t e = 0 := by
        rw [iZ, if_neg (fun g => by rcases c with c | c; exact g.1 c; exact g.2 c)]
      rw [loS_0 c, hz, Int.mul_zero, Int.add_zero]
      exact ⟨h1, by omega⟩
    · have c1 : ¬ eS z e = 0 := fun g => c (Or.inl g)
      have c2 : ¬ onI z e t = 0 := fun g => c (Or.inr g)
      have hz : iZ z t e = (eZ z e).toInt := by rw [iZ, if_pos ⟨c1, c2⟩]
      have hs := el_src hw (i := e) (by omega) c1
      rw [loS_1 c1 c2, hz, dV, chF, chF]
      have n0 : (nI 0).toInt = 0 := by decide
      have key : ∀ (P Q : Prop) [Decidable P] [Decidable Q], (loS z t e + (if P then nI 0 else eZ z e) - (if Q then nI 0 else eZ z e)).toInt = (loS z t e).toInt + (if P then 0 else (eZ z e).toInt) - (if Q then 0 else (eZ z e).toInt) := fun P Q _ _ => by
        have e1 : ∀ (P : Prop) [Decidable P], (if P then nI 0 else eZ z e).toInt = if P then 0 else (eZ z e).toInt := fun P _ => by
          split
          · exact n0
          · rfl
        rw [Int32.toInt_sub, Int32.toInt_add, e1 P, e1 Q, Int.bmod_eq_of_le (n := (loS z t e).toInt + _) (by split <;> omega) (by split <;> omega), Int.bmod_eq_of_le (by split <;> split <;> omega) (by split <;> split <;> omega)]
      rw [key]
      by_cases p : aflI z (gM z t (cA z e)) = 0 <;> by_cases q : aflI z (gM z t (cB z e)) = 0
      · rw [if_pos p, if_pos q, if_pos p, if_pos q]; constructor <;> omega
      · rw [if_pos p, if_neg q, if_pos p, if_neg q]; constructor <;> omega
      · rw [if_neg p, if_pos q, if_neg p, if_pos q]; constructor <;> omega
      · rw [if_neg p, if_neg q, if_neg p, if_neg q]; constructor <;> omega
/-- what rails are fed, and what is lost, adds up to 0 -/
theorem ls_end (hw : wf z) (t : Int32) : (lsS z t (nN z)).1 + (loS z t (nE z)).toInt64 * (lsS z t (nN z)).2 = 0 := by
  obtain ⟨S, B, h1, h2⟩ := ls_I hw t (nN z) (Nat.le_refl _)
  obtain ⟨h3, -⟩ := lo_I hw t (nE z) (Nat.le_refl _)
  have hd := uD_pos hw t
  rw [feed_sum hw t] at h2
  have h4 : S = B * sumI (nE z) (fun e => dV z (chF z t) e * iZ z t e) := by
    apply Int.eq_of_mul_eq_mul_right (a := uD z t) (by omega)
    rw [h2]
    grind
  rw [h1, tl_I, h3]
  show Int64.ofInt S + Int64.ofInt _ * Int64.ofInt B = 0
  rw [ofI_mul, ofI_add, h4]
  generalize sumI (nE z) _ = X
  rw [show B * X + -X * B = 0 by grind]
  rfl
end LS
/-! the least and the greatest rail -/
def leS (z : xC) : Nat → Int32 × Int32
  | 0 => (nI 100, -100)
  | n + 1 => if nR z n = 0 then leS z n else (if nP z n < (leS z n).1 then nP z n else (leS z n).1, if (leS z n).2 < nP z n then nP z n else (leS z n).2)
theorem leS_0 {z : xC} {n : Nat} (h : nR z n = 0) : leS z (n + 1) = leS z n := by rw [leS, if_pos h]
theorem leS_1 {z : xC} {n : Nat} (h : ¬ nR z n = 0) : leS z (n + 1) = (if nP z n < (leS z n).1 then nP z n else (leS z n).1, if (leS z n).2 < nP z n then nP z n else (leS z n).2) := by rw [leS, if_neg h]
theorem rail_bd {z : xC} (hw : wf z) {j : Nat} (hj : j < nN z) (h : ¬ nR z j = 0) : -99 ≤ (nP z j).toInt ∧ (nP z j).toInt ≤ 99 := (hw.2.2.1 j hj).2 (by rcases (hw.2.2.1 j hj).1 with g | g; exact absurd g h; exact g)
theorem le_S {z : xC} (hw : wf z) : ∀ n, n ≤ nN z → (-100 ≤ (leS z n).1.toInt ∧ (leS z n).1.toInt ≤ 100 ∧ -100 ≤ (leS z n).2.toInt ∧ (leS z n).2.toInt ≤ 100) ∧ ∀ j, j < n → ¬ nR z j = 0 → (leS z n).1.toInt ≤ (nP z j).toInt ∧ (nP z j).toInt ≤ (leS z n).2.toInt
  | 0, _ => by
    have h1 : (leS z 0).1.toInt = 100 := by rw [leS]; decide
    have h2 : (leS z 0).2.toInt = -100 := by rw [leS]; decide
    rw [h1, h2]
    exact ⟨by decide, fun j hj => absurd hj (Nat.not_lt_zero _)⟩
  | n + 1, h => by
    obtain ⟨h1, h2⟩ := le_S hw n (by omega)
    by_cases c : nR z n = 0
    · rw [leS_0 c]
      refine ⟨h1, fun j hj hr => ?_⟩
      by_cases e : j = n
      · rw [e] at hr; exact absurd c hr
      · exact h2 j (by omega) hr
    · have hb := rail_bd hw (j := n) (by omega) c
      rw [leS_1 c]
      have e1 : (if nP z n < (leS z n).1 then nP z n else (leS z n).1).toInt ≤ (nP z n).toInt ∧ (if nP z n < (leS z n).1 then nP z n else (leS z n).1).toInt ≤ (leS z n).1.toInt ∧ -100 ≤ (if nP z n < (leS z n).1 then nP z n else (leS z n).1).toInt := by
        by_cases q : nP z n < (leS z n).1
        · rw [if_pos q]
          rw [Int32.lt_iff_toInt_lt] at q
          omega
        · rw [if_neg q]
          rw [Int32.lt_iff_toInt_lt] at q
          omega
      have e2 : (nP z n).toInt ≤ (if (leS z n).2 < nP z n then nP z n else (leS z n).2).toInt ∧ (leS z n).2.toInt ≤ (if (leS z n).2 < nP z n then nP z n else (leS z n).2).toInt ∧ (if (leS z n).2 < nP z n then nP z n else (leS z n).2).toInt ≤ 100 := by
        by_cases q : (leS z n).2 < nP z n
        · rw [if_pos q]
          rw [Int32.lt_iff_toInt_lt] at q
          omega
        · rw [if_neg q]
          rw [Int32.lt_iff_toInt_lt] at q
          omega
      dsimp only
      refine ⟨⟨e1.2.2, by omega, by omega, e2.2.2⟩, fun j hj hr => ?_⟩
      by_cases e : j = n
      · rw [e]; exact ⟨e1.1, e2.1⟩
      · have := h2 j (by omega) hr
        exact ⟨by omega, by omega⟩
/-- without sources no potential is less than the least rail or greater than the greatest one -/
theorem cmp_in {z : xC} (hw : wf z) (t : Int32) (h : ∀ e, e < nE z → ¬ eS z e = 0 → (eZ z e).toInt = 0) {j : Nat} (hj : j < nN z) (ha : aflI z (gM z t j) = 0) : ¬ rCmp z (nI j) t (leS z (nN z)).1 (nI 1) < 0 ∧ ¬ 0 < rCmp z (nI j) t (leS z (nN z)).2 (nI 1) := by
  have hN := hw.N
  obtain ⟨-, hb⟩ := le_S hw (nN z) (Nat.le_refl _)
  have hd := de_I hw t
  obtain ⟨h1, h2⟩ := pot_in hw t h (lo := (leS z (nN z)).1.toInt) (hi := (leS z (nN z)).2.toInt) (fun o h1 h2 => hb o h1 h2) hj ha
  have e1 : (nI 1).toInt64 = 1 := by decide
  rw [rCmp, rCmp, cl_nI (by omega), e1]
  refine ⟨(cf_int (i64_pos.mpr hd.1)).1 ?_, (cf_int (i64_pos.mpr hd.1)).2 ?_⟩
  · rw [Int32.toInt_toInt64]; exact h1
  · rw [Int32.toInt_toInt64]; exact h2
/-! resistances -/
theorem rst_rat {z : xC} (hw : wf z) (t : Int32) {a b : Nat} (ha : a < nN z) (hb : b < nN z) (hab : (gM z t a).testBit b = true) : ∃ g : Int, 0 < g ∧ rV z t a b a = g * (rRst z (nI a) (nI b) t (nI 1)).toInt ∧ rD z t b = g * (rRst z (nI a) (nI b) t (nI 0)).toInt := by
  have hN := hw.N
  have hK : mxK = 124500000000000 := rfl
  obtain ⟨d1, d2⟩ := rD_I hw t ha hb
  obtain ⟨v1, v2⟩ := rV_I hw t ha hb
  have hp := rD_pos hw t hb
  have hba : (gM z t b).testBit a = true := by rw [gM_eq hw (by omega) (by omega) hab]; exact gM_self hw t (by omega)
  have h0 := rV_min hw ha hb hba a
  obtain ⟨g, h1, h2, h3⟩ := pt_rat (w := dm (dR z t a b) (dN z t b) (2 ^ dN z t b - 1)) (u := upV (dP z t b) (fun _ => 0) (dm (dR z t a b) (dN z t b)) (dN z t b) a) (i64_pos.mpr (by omega)) (not_min (n := mxK) (by omega) (by decide))
  refine ⟨g, h1, ?_, ?_⟩
  · rw [rRst, cl_nI (by omega), cl_nI (by omega), ← v1]; exact h2
  · rw [rRst, cl_nI (by omega), cl_nI (by omega), ← d1]; exact h3
theorem rst_bd {z : xC} (hw : wf z) (t : Int32) {a b : Nat} (ha : a < nN z) (hb : b < nN z) (hab : (gM z t a).testBit b = true) : (0 ≤ (rRst z (nI a) (nI b) t (nI 1)).toInt ∧ (rRst z (nI a) (nI b) t (nI 1)).toInt < 9007199254740992) ∧ (0 < (rRst z (nI a) (nI b) t (nI 0)).toInt ∧ (rRst z (nI a) (nI b) t (nI 0)).toInt < 9007199254740992) ∧ (rRst z (nI a) (nI b) t (nI 1)).toInt ≤ 8 * (rRst z (nI a) (nI b) t (nI 0)).toInt := by
  have hN := hw.N
  have hK : mxK = 124500000000000 := rfl
  obtain ⟨d1, d2⟩ := rD_I hw t ha hb
  obtain ⟨v1, v2⟩ := rV_I hw t ha hb
  have hp := rD_pos hw t hb
  have hba : (gM z t b).testBit a = true := by rw [gM_eq hw (by omega) (by omega) hab]; exact gM_self hw t (by omega)
  have h0 := rV_min hw ha hb hba a
  have h8 := rV_8 hw ha hb hba
  obtain ⟨g, g1, g2, g3⟩ := rst_rat hw t ha hb hab
  generalize (rRst z (nI a) (nI b) t (nI 1)).toInt = n at g2 ⊢
  generalize (rRst z (nI a) (nI b) t (nI 0)).toInt = d at g3 ⊢
  generalize rV z t a b a = X at h0 h8 g2 v2
  generalize rD z t b = Y at hp h8 g3 d2
  have hd0 : 0 < d := by rw [g3] at hp; exact i_posr hp g1
  have hn0 : 0 ≤ n := by
    apply Classical.byContradiction
    intro q
    have := Int.mul_lt_mul_of_pos_left (show n < 0 by omega) g1
    rw [Int.mul_zero] at this
    omega
  have hn1 : n ≤ X := by
    have := Int.mul_le_mul_of_nonneg_right (show 1 ≤ g by omega) hn0
    omega
  have hd1 : d ≤ Y := by
    have := Int.mul_le_mul_of_nonneg_right (show 1 ≤ g by omega) (Int.le_of_lt hd0)
    omega
  refine ⟨⟨hn0, by omega⟩, ⟨hd0, by omega⟩, ?_⟩
  rw [g2, g3] at h8
  apply Classical.byContradiction
  intro q
  have := Int.mul_lt_mul_of_pos_left (show 8 * d < n by omega) g1
  have e : g * (8 * d) = 8 * (g * d) := by grind
  omega
/-- the law's comparisons of resistances -/
theorem rst_tri {z : xC} (hw : wf z) (t : Int32) {a c d : Nat} (ha : a < nN z) (hc : c < nN z) (hd : d < nN z) (hac : (gM z t a).testBit c = true) (had : (gM z t a).testBit d = true) :
    (∃ o, FP.dcmp (FP.ddiv (FP.l2d (rRst z (nI a) (nI c) t (nI 1))) (FP.l2d (rRst z (nI a) (nI c) t (nI 0)))) (FP.dadd (FP.dadd (FP.ddiv (FP.l2d (rRst z (nI a) (nI d) t (nI 1))) (FP.l2d (rRst z (nI a) (nI d) t (nI 0)))) (FP.ddiv (FP.l2d (rRst z (nI d) (nI c) t (nI 1))) (FP.l2d (rRst z (nI d) (nI c) t (nI 0))))) 4472406533629990549) = some o ∧ o ≠ .gt) ∧
    ∃ o, FP.dcmp (FP.ddiv (FP.l2d (rRst z (nI a) (nI c) t (nI 1))) (FP.l2d (rRst z (nI a) (nI c) t (nI 0)))) FP.dconst0 = some o ∧ o ≠ .lt := by
  have hN := hw.N
  have ed := gM_eq hw (t := t) (j := a) (k := d) (by omega) (by omega) had
  have hdc : (gM z t d).testBit c = true := by rw [ed]; exact hac
  obtain ⟨p1, q1, b1⟩ := rst_bd hw t ha hc hac
  obtain ⟨p2, q2, b2⟩ := rst_bd hw t ha hd had
  obtain ⟨p3, q3, b3⟩ := rst_bd hw t hd hc hdc
  refine f_tri p1 p2 p3 q1 q2 q3 b1 b2 b3 ?_
  have ht := rV_tri hw ha hc hd hac had
  obtain ⟨x, x1, x2, x3⟩ := rst_rat hw t ha hc hac
  obtain ⟨y, y1, y2, y3⟩ := rst_rat hw t ha hd had
  obtain ⟨w, w1, w2, w3⟩ := rst_rat hw t hd hc hdc
  have hDc := rD_pos hw t hc
  generalize (rRst z (nI a) (nI c) t (nI 1)).toInt = n1 at x2 ⊢
  generalize (rRst z (nI a) (nI c) t (nI 0)).toInt = d1 at x3 ⊢
  generalize (rRst z (nI a) (nI d) t (nI 1)).toInt = n2 at y2 ⊢
  generalize (rRst z (nI a) (nI d) t (nI 0)).toInt = d2 at y3 ⊢
  generalize (rRst z (nI d) (nI c) t (nI 1)).toInt = n3 at w2 ⊢
  generalize (rRst z (nI d) (nI c) t (nI 0)).toInt = d3 at w3 ⊢
  generalize rV z t a c a = X1 at ht x2
  generalize rV z t a d a = X2 at ht y2
  generalize rV z t d c d = X3 at ht w2
  generalize rD z t c = C at ht hDc x3 w3
  generalize rD z t d = E at ht y3
  have h1 := Int.mul_le_mul_of_nonneg_right ht (Int.le_of_lt hDc)
  have hp : 0 < x * (y * w) := Int.mul_pos x1 (Int.mul_pos y1 w1)
  apply Int.le_of_mul_le_mul_left _ hp
  have e1 : x * (y * w) * (n1 * (d2 * d3)) = X1 * E * C := by rw [x2, y3, w3]; grind
  have e2 : x * (y * w) * ((n2 * d3 + n3 * d2) * d1) = (X2 * C + X3 * E) * C := by
    have k1 : x * (y * w) * ((n2 * d3 + n3 * d2) * d1) = (y * n2 * (w * d3) + w * n3 * (y * d2)) * (x * d1) := by grind
    rw [k1, ← x3, ← y2, ← w3, ← w2, ← y3]
  rw [e1, e2]
  exact h1
