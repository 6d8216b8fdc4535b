/-! the law's circuit and the bench's, while both are built -/
theorem wB_ad {y : Nat → ClassId} {ad ad' : xL → Nat} {bl : xM} {z : xC} {g pl : Nat → Int32} {kn mi : Nat → Int64} {rw : Nat → Nat → Int64} {un : Int32} (hA : ∀ k : xL, k.1 < 20 → ad' k = ad k) : wB y ad' bl z g pl kn rw mi un = wB y ad bl z g pl kn rw mi un := by
  funext k i
  unfold wB
  split
  · rw [hA (1, 0) (by decide), hA (3, 0) (by decide), hA (5, 0) (by decide), hA (6, 0) (by decide)]
  · rw [hA (2, 0) (by decide)]
  · rw [show (fun i => if i < nN z then some (ad' (12, i)) else none) = (fun i => if i < nN z then some (ad (12, i)) else none) from funext fun i => by rw [hA (12, i) (by show 12 < 20; decide)]]
  · rw [hA (4, 0) (by decide)]
  · rw [show (fun i => if i < nE z then some (ad' (13, i)) else none) = (fun i => if i < nE z then some (ad (13, i)) else none) from funext fun i => by rw [hA (13, i) (by show 13 < 20; decide)]]
  · rfl
  · rw [hA (7, 0) (by decide), hA (8, 0) (by decide), hA (9, 0) (by decide), hA (11, 0) (by decide)]
  · rfl
  · rfl
  · rw [show (fun i => if i < 7 then some (ad' (10, i)) else none) = (fun i => if i < 7 then some (ad (10, i)) else none) from funext fun i => by rw [hA (10, i) (by show 10 < 20; decide)]]
  · rfl
  · rfl
  · rfl
  · rw [hA (14, _) (by show 14 < 20; decide)]
  · rfl
  · rfl
theorem wH_ad {y : Nat → ClassId} {ad ad' : xL → Nat} {nr : Nat} {hr : Nat → Int32} {ne : Nat} {hk : Nat → Nat} {hw : Nat → Nat → Int32} (h1 : ad' (21, 0) = ad (21, 0)) (h2 : ad' (22, 0) = ad (22, 0)) (h3 : ∀ i, i < ne → ad' (23, i) = ad (23, i)) : wH y ad' nr hr ne hk hw = wH y ad nr hr ne hk hw := by
  funext k i
  unfold wH
  split
  · rw [h1, h2]
  · rfl
  · rw [show (fun i => if i < ne then some (ad' (23, i)) else none) = (fun i => if i < ne then some (ad (23, i)) else none) from funext fun i => by
      by_cases hi : i < ne
      · rw [if_pos hi, if_pos hi, h3 i hi]
      · rw [if_neg hi, if_neg hi]]
  · rfl
  · rfl
/-- nothing in a place -/
def wN : Nat → Nat → Option va_E := fun _ _ => none
/-- one place held otherwise -/
def fu (fR : Nat → Nat → Option va_E) (k i : Nat) (e : va_E) : Nat → Nat → Option va_E := fun a b => if a = k ∧ b = i then some e else fR a b
theorem fu_s {fR : Nat → Nat → Option va_E} {k i : Nat} {e : va_E} : fu fR k i e k i = some e := if_pos ⟨rfl, rfl⟩
theorem fu_n {fR : Nat → Nat → Option va_E} {k i a b : Nat} {e : va_E} (h : ¬ (a = k ∧ b = i)) : fu fR k i e a b = fR a b := if_neg h
theorem wU_fu {fB fR fO : Nat → Nat → Option va_E} {k i : Nat} {e : va_E} (hk : k < 20) : aw_up (wU fB fR fO) (k + 20, i) e = wU fB (fu fR k i e) fO := wU_R hk (fun a b h => (fu_n h).symm) fu_s
theorem fu_fu {fR : Nat → Nat → Option va_E} {k i : Nat} {e f : va_E} : fu (fu fR k i e) k i f = fu fR k i f := by
  funext a b
  unfold fu
  by_cases h : a = k ∧ b = i
  · rw [if_pos h, if_pos h]
  · rw [if_neg h, if_neg h, if_neg h]
section XL
variable {D : va_G} {A : Nat → Prop} {y : Nat → ClassId} {ad : xL → Nat} {bl : xM} {z : xC} {g pl : Nat → Int32} {kn mi : Nat → Int64} {rw : Nat → Nat → Int64} {un : Int32} {H : Heap} {q n e : Nat} {fr : Nat → Int32} {fk : Nat → Nat} {fw : Nat → Nat → Int32} {x x' : va_E}
theorem up_lt {k : xL} {q : Nat} (h : 20 ≤ k.1) : ∀ j : xL, j.1 < 20 → ad_up ad k q j = ad j := fun j hj => ad_up_ne (fun e => by rw [e] at hj; omega)
theorem up_wH {k : xL} {q : Nat} (h : 24 ≤ k.1) : wH y (ad_up ad k q) n fr e fk fw = wH y ad n fr e fk fw :=
  wH_ad (ad_up_ne (fun g => by rw [← g] at h; exact absurd h (by decide))) (ad_up_ne (fun g => by rw [← g] at h; exact absurd h (by decide))) (fun i _ => ad_up_ne (fun g => by rw [← g] at h; exact absurd (show 24 ≤ 23 from h) (by decide)))
/-- a row of ints that is made -/
theorem xW.lab24 (h : xW D A (ad_up ad (24, 0) q) (aw_up (wU (wB y ad bl z g pl kn rw mi un) (wH y ad n fr e fk fw) wN) (24, 0) x) H) :
    xW D A (ad_up ad (24, 0) q) (wU (wB y (ad_up ad (24, 0) q) bl z g pl kn rw mi un) (fu (wH y (ad_up ad (24, 0) q) n fr e fk fw) 4 0 x) wN) H := by
  rw [wB_ad (up_lt (by decide)), up_wH (by decide)]
  exact h.ct (wU_fu (k := 4) (by decide))
theorem xW.row39 (h : xW D A (ad_up ad (39, 0) q) (aw_up (wU (wB y ad bl z g pl kn rw mi un) (fu (wH y ad n fr e fk fw) 4 0 x) wN) (39, 0) x') H) :
    xW D A (ad_up ad (24, 0) q) (wU (wB y (ad_up ad (24, 0) q) bl z g pl kn rw mi un) (fu (wH y (ad_up ad (24, 0) q) n fr e fk fw) 4 0 x') wN) H := by
  rw [wB_ad (up_lt (by decide)), up_wH (by decide)]
  have h1 := h.mv (k := (24, 0)) rfl
  exact h1.ct ((wU_fu (k := 4) (by decide)).trans (by rw [fu_fu]))
/-- a row of rows that is made -/
theorem xW.lab25 (h : xW D A (ad_up ad (25, 0) q) (aw_up (wU (wB y ad bl z g pl kn rw mi un) (fu (wH y ad n fr e fk fw) 4 0 x) wN) (25, 0) x') H) :
    xW D A (ad_up ad (25, 0) q) (wU (wB y (ad_up ad (25, 0) q) bl z g pl kn rw mi un) (fu (fu (wH y (ad_up ad (25, 0) q) n fr e fk fw) 4 0 x) 5 0 x') wN) H := by
  rw [wB_ad (up_lt (by decide)), up_wH (by decide)]
  exact h.ct (wU_fu (k := 5) (by decide))
/-- rails with one more -/
theorem xW.rails {fr' : Nat → Int32} (h : xW D A (ad_up ad (39, 0) q) (aw_up (aw_up (wU (wB y ad bl z g pl kn rw mi un) (wH y ad n fr e fk fw) wN) (39, 0) (.inl (y 0, n + 1, .inl fr'))) (20, 0) (.inr (5, [.ref q, .ref (ad (22, 0))]))) H) :
    xW D A (ad_up ad (21, 0) q) (wU (wB y (ad_up ad (21, 0) q) bl z g pl kn rw mi un) (wH y (ad_up ad (21, 0) q) (n + 1) fr' e fk fw) wN) H := by
  rw [wB_ad (up_lt (by decide))]
  have h1 := h.ct (aw_comm (by decide))
  have h2 := h1.mv (k := (21, 0)) ((aw_up_ne (by decide)).trans rfl)
  refine h2.ct ?_
  rw [wU_fu (k := 0) (by decide)]
  refine wU_R (k := 1) (by decide) (fun a b hab => ?_) rfl
  have h21 : ad_up ad (21, 0) q (21, 0) = q := ad_up_self
  have h22 : ad_up ad (21, 0) q (22, 0) = ad (22, 0) := ad_up_ne (by decide)
  have h23 : ∀ i : Nat, ad_up ad (21, 0) q (23, i) = ad (23, i) := fun i => ad_up_ne (ne1 (by decide))
  by_cases h0 : a = 0 ∧ b = 0
  · obtain ⟨rfl, rfl⟩ := h0
    rw [fu_s]
    show _ = some (Sum.inr (5, [Value.ref (ad_up ad (21, 0) q (21, 0)), Value.ref (ad_up ad (21, 0) q (22, 0))]))
    rw [h21, h22]
  · rw [fu_n h0]
    unfold wH
    split
    · exact absurd ⟨rfl, rfl⟩ h0
    · exact absurd ⟨rfl, rfl⟩ hab
    · rw [show (fun i => if i < e then some (ad_up ad (21, 0) q (23, i)) else none) = (fun i => if i < e then some (ad (23, i)) else none) from funext fun i => by rw [h23 i]]
    · rfl
    · rfl
def ad_e (ad : xL → Nat) (e : Nat) : xL → Nat := ad_up (ad_up ad (22, 0) (ad (25, 0))) (23, e) (ad (24, 0))
/-- one row more -/
theorem xW.elems {c : Nat} {f : Nat → Int32} {gr : Nat → Option Nat} (hg : ∀ i, i < e + 1 → gr i = if i < e then some (ad (23, i)) else some (ad (24, 0)))
    (h : xW D A ad (aw_up (wU (wB y ad bl z g pl kn rw mi un) (fu (fu (wH y ad n fr e fk fw) 4 0 (.inl (y 0, c, .inl f))) 5 0 (.inl (y 3, e + 1, xr gr))) wN) (20, 0) (.inr (5, [.ref (ad (21, 0)), .ref (ad (25, 0))]))) H) :
    xW D A (ad_e ad e) (wU (wB y (ad_e ad e) bl z g pl kn rw mi un) (wH y (ad_e ad e) n fr (e + 1) (fun i => if i = e then c else fk i) (fun i => if i = e then f else fw i)) wN) H := by
  have lt : ∀ j : xL, j.1 < 20 → ad_e ad e j = ad j := fun j hj => (ad_up_ne (fun g => by rw [g] at hj; exact absurd (show 23 < 20 from hj) (by decide))).trans (ad_up_ne (fun g => by rw [g] at hj; exact absurd hj (by decide)))
  rw [wB_ad lt]
  -- where each cell of the new world stands now
  have src : ∀ (k : xL) (v : va_E), wU (wB y ad bl z g pl kn rw mi un) (wH y (ad_e ad e) n fr (e + 1) (fun i => if i = e then c else fk i) (fun i => if i = e then f else fw i)) wN k = some v →
      ∃ (j : xL) (v' : va_E), aw_up (wU (wB y ad bl z g pl kn rw mi un) (fu (fu (wH y ad n fr e fk fw) 4 0 (.inl (y 0, c, .inl f))) 5 0 (.inl (y 3, e + 1, xr gr))) wN) (20, 0) (.inr (5, [.ref (ad (21, 0)), .ref (ad (25, 0))])) j = some v' ∧ (va_at D vwCl (ad j, v') H → va_at D vwCl (ad j, v) H) ∧ ad_e ad e k = ad j ∧ (j = if k = (22, 0) then (25, 0) else if k = (23, e) then (24, 0) else k) := fun k v hk => by
    by_cases h22 : k = (22, 0)
    · subst h22
      refine ⟨(25, 0), _, (aw_up_ne (by decide)).trans rfl, fun h => ?_, (ad_up_ne (ne1 (by decide))).trans ad_up_self, by rw [if_pos rfl]⟩
      have hk : (some (Sum.inl (y 3, e + 1, xr (fun i => if i < e + 1 then some (ad_e ad e (23, i)) else none))) : Option va_E) = some v := hk
      cases hk
      refine xA_q (fun i hi => ?_) h
      rw [hg i hi]
      show _ = if i < e + 1 then some (ad_e ad e (23, i)) else none
      rw [if_pos hi]
      by_cases he : i < e
      · rw [if_pos he]
        have : ad_e ad e (23, i) = ad (23, i) := (ad_up_ne (ne2 (by omega))).trans (ad_up_ne (ne1 (by decide)))
        rw [this]
      · have e2 : i = e := by omega
        subst e2
        have : ad_e ad i (23, i) = ad (24, 0) := ad_up_self
        rw [if_neg (Nat.lt_irrefl _), this]
    · by_cases h23 : k = (23, e)
      · subst h23
        refine ⟨(24, 0), _, (aw_up_ne (by decide)).trans rfl, fun h => ?_, ad_up_self, by rw [if_neg h22, if_pos rfl]⟩
        have hk : (if e < e + 1 then some (Sum.inl (y 0, (if e = e then c else fk e), .inl (if e = e then f else fw e))) else none : Option va_E) = some v := hk
        rw [if_pos (Nat.lt_succ_self _), if_pos rfl, if_pos rfl] at hk
        cases hk
        exact h
      · have had : ad_e ad e k = ad k := (ad_up_ne h23).trans (ad_up_ne h22)
        refine ⟨k, v, ?_, fun h => h, had, by rw [if_neg h22, if_neg h23]⟩
        rw [← hk]
        obtain ⟨a, b⟩ := k
        by_cases h20 : ((a, b) : xL) = (20, 0)
        · cases h20
          rw [aw_up_self]
          show _ = (some (Sum.inr (5, [Value.ref (ad_e ad e (21, 0)), Value.ref (ad_e ad e (22, 0))])) : Option va_E)
          have e21 : ad_e ad e (21, 0) = ad (21, 0) := (ad_up_ne (ne1 (by decide))).trans (ad_up_ne (by decide))
          have e22 : ad_e ad e (22, 0) = ad (25, 0) := (ad_up_ne (ne1 (by decide))).trans ad_up_self
          rw [e21, e22]
        · rw [aw_up_ne h20]
          unfold wU
          by_cases ha : a < 20
          · rw [if_pos ha, if_pos ha]
          · rw [if_neg ha, if_neg ha]
            by_cases hb : a < 40
            · rw [if_pos (show ((a, b) : xL).1 < 40 from hb), if_pos (show ((a, b) : xL).1 < 40 from hb)]
              unfold wU at hk
              rw [if_neg (show ¬ ((a, b) : xL).1 < 20 from ha), if_pos (show ((a, b) : xL).1 < 40 from hb)] at hk
              show fu (fu (wH y ad n fr e fk fw) 4 0 _) 5 0 _ (a - 20) b = wH y (ad_e ad e) n fr (e + 1) _ _ (a - 20) b
              have hk : wH y (ad_e ad e) n fr (e + 1) (fun i => if i = e then c else fk i) (fun i => if i = e then f else fw i) (a - 20) b = some v := hk
              obtain ⟨a, rfl⟩ : ∃ a', a = a' + 20 := ⟨a - 20, by omega⟩
              rw [Nat.add_sub_cancel] at hk ⊢
              match a, b with
              | 0, 0 => exact absurd rfl h20
              | 0, b + 1 => cases hk
              | 1, 0 => rfl
              | 1, b + 1 => cases hk
              | 2, 0 => exact absurd rfl h22
              | 2, b + 1 => cases hk
              | 3, b =>
                have hbe : b ≠ e := fun g => h23 (by rw [g])
                rw [fu_n (fun g => absurd g.1 (by decide)), fu_n (fun g => absurd g.1 (by decide))]
                show (if b < e then some (Sum.inl (y 0, fk b, .inl (fw b))) else none : Option va_E) = (if b < e + 1 then some (Sum.inl (y 0, (if b = e then c else fk b), .inl (if b = e then f else fw b))) else none : Option va_E)
                rw [if_neg hbe, if_neg hbe]
                by_cases hb2 : b < e
                · rw [if_pos hb2, if_pos (by omega)]
                · rw [if_neg hb2, if_neg (by omega)]
              | a + 4, b => cases hk
            · rw [if_neg hb, if_neg hb]
  have inj : ∀ k l : xL, (∃ v, wU (wB y ad bl z g pl kn rw mi un) (wH y (ad_e ad e) n fr (e + 1) (fun i => if i = e then c else fk i) (fun i => if i = e then f else fw i)) wN k = some v) → (if k = (22, 0) then ((25, 0) : xL) else if k = (23, e) then (24, 0) else k) = (if l = (22, 0) then (25, 0) else if l = (23, e) then (24, 0) else l) → (∃ v, wU (wB y ad bl z g pl kn rw mi un) (wH y (ad_e ad e) n fr (e + 1) (fun i => if i = e then c else fk i) (fun i => if i = e then f else fw i)) wN l = some v) → k = l := fun k l hk hkl hl => by
    have no25 : ∀ m : xL, (∃ v, wU (wB y ad bl z g pl kn rw mi un) (wH y (ad_e ad e) n fr (e + 1) (fun i => if i = e then c else fk i) (fun i => if i = e then f else fw i)) wN m = some v) → m ≠ (25, 0) ∧ m ≠ (24, 0) := fun m hm => by
      obtain ⟨v, hv⟩ := hm
      exact ⟨fun g => (by rw [g] at hv; cases hv), fun g => (by rw [g] at hv; cases hv)⟩
    have nk := no25 k hk
    have nl := no25 l hl
    by_cases k1 : k = (22, 0)
    · rw [if_pos k1] at hkl
      by_cases l1 : l = (22, 0)
      · rw [k1, l1]
      · rw [if_neg l1] at hkl
        by_cases l2 : l = (23, e)
        · rw [if_pos l2] at hkl; exact absurd hkl (by decide)
        · rw [if_neg l2] at hkl; exact absurd hkl.symm nl.1
    · rw [if_neg k1] at hkl
      by_cases k2 : k = (23, e)
      · rw [if_pos k2] at hkl
        by_cases l1 : l = (22, 0)
        · rw [if_pos l1] at hkl; exact absurd hkl (by decide)
        · rw [if_neg l1] at hkl
          by_cases l2 : l = (23, e)
          · rw [k2, l2]
          · rw [if_neg l2] at hkl; exact absurd hkl.symm nl.2
      · rw [if_neg k2] at hkl
        by_cases l1 : l = (22, 0)
        · rw [if_pos l1] at hkl; exact absurd hkl nk.1
        · rw [if_neg l1] at hkl
          by_cases l2 : l = (23, e)
          · rw [if_pos l2] at hkl; exact absurd hkl nk.2
          · rw [if_neg l2] at hkl; exact hkl
  have some_of : ∀ k : xL, wU (wB y ad bl z g pl kn rw mi un) (wH y (ad_e ad e) n fr (e + 1) (fun i => if i = e then c else fk i) (fun i => if i = e then f else fw i)) wN k ≠ none → ∃ v, wU (wB y ad bl z g pl kn rw mi un) (wH y (ad_e ad e) n fr (e + 1) (fun i => if i = e then c else fk i) (fun i => if i = e then f else fw i)) wN k = some v := fun k hk => Option.ne_none_iff_exists'.mp hk
  refine ⟨fun k v hk => ?_, ⟨fun k l hk hl hkl => ?_, fun k hk => ?_⟩, h.2.2⟩
  · obtain ⟨j, v', h1, h2, h3, -⟩ := src k v hk
    rw [h3]
    exact h2 (h.1 j v' h1)
  · obtain ⟨v, hv⟩ := some_of k hk
    obtain ⟨w, hw⟩ := some_of l hl
    obtain ⟨j, v', h1, -, h3, h4⟩ := src k v hv
    obtain ⟨j2, w', g1, -, g3, g4⟩ := src l w hw
    have hj : j = j2 := h.2.1.1 j j2 (by rw [h1]; exact fun q => by cases q) (by rw [g1]; exact fun q => by cases q) (by rw [← h3, ← g3]; exact hkl)
    exact inj k l ⟨v, hv⟩ (by rw [← h4, ← g4]; exact hj) ⟨w, hw⟩
  · obtain ⟨v, hv⟩ := some_of k hk
    obtain ⟨j, v', h1, -, h3, -⟩ := src k v hv
    rw [h3]
    exact h.2.1.2 j (by rw [h1]; exact fun q => by cases q)
end XL
/-! what the rows say -/
/-- a row of the law's stands for the element i -/
def rowOk (z : xC) (i : Nat) (f : Nat → Int32) (k : Nat) : Prop := f 0 = eS z i ∧ f 1 = eA z i ∧ f 2 = eB z i ∧ f 3 = eZ z i ∧ f 4 = eO z i ∧ k = 5 + cT z i ∧ ∀ τ, τ ≤ 999 → ctH f (nI τ) (cT z i) = tb z i (nI τ + nI 1) (cT z i)
/-- the first e rows and all rails -/
def bEq (n e : Nat) (z : xC) (fr : Nat → Int32) (fk : Nat → Nat) (fw : Nat → Nat → Int32) : Prop := nN z = n ∧ (∀ j, j < n → fr j = if nR z j = 0 then nI 100 else nP z j) ∧ ∀ i, i < e → rowOk z i (fw i) (fk i)
theorem tb_congr {z z' : xC} {i i' : Nat} {t : Int32} : ∀ k, (∀ j, j < k → tT z' (6 * i' + j) = tT z (6 * i + j)) → tb z' i' t k = tb z i t k
  | 0, _ => rfl
  | k + 1, h => by
    show tb z' i' t k + _ = tb z i t k + _
    rw [tb_congr k (fun j hj => h j (by omega)), h k (by omega)]
theorem ctH_congr {f f' : Nat → Int32} {t : Int32} : ∀ k, (∀ j, j < k → f' (5 + j) = f (5 + j)) → ctH f' t k = ctH f t k
  | 0, _ => rfl
  | k + 1, h => by
    have ih := ctH_congr (t := t) k (fun j hj => h j (by omega))
    have e := h k (by omega)
    by_cases c : f (5 + k) ≤ t
    · rw [ctH_1 c, ctH_1 (by rw [e]; exact c), ih]
    · rw [ctH_0 c, ctH_0 (by rw [e]; exact c), ih]
theorem rowOk.keep {z z' : xC} {i k : Nat} {f : Nat → Int32} (h : rowOk z i f k) (hS : eS z' i = eS z i) (hA : eA z' i = eA z i) (hB : eB z' i = eB z i) (hZ : eZ z' i = eZ z i) (hO : eO z' i = eO z i) (hT : eT z' i = eT z i) (ht : ∀ j, j < cT z i → tT z' (6 * i + j) = tT z (6 * i + j)) : rowOk z' i f k := by
  obtain ⟨h0, h1, h2, h3, h4, h5, h6⟩ := h
  have hc : cT z' i = cT z i := by unfold cT; rw [hT]
  refine ⟨h0.trans hS.symm, h1.trans hA.symm, h2.trans hB.symm, h3.trans hZ.symm, h4.trans hO.symm, by rw [hc]; exact h5, fun τ hτ => ?_⟩
  rw [hc, h6 τ hτ]
  exact (tb_congr _ ht).symm
theorem un_lt {f : Nat → Int32} {k j : Nat} {x : Int32} (h : j < k) : upd f k x j = f j := pk_un (by omega)
/-- a new element leaves the others -/
theorem bEq_el {n e : Nat} {z : xC} {fr : Nat → Int32} {fk : Nat → Nat} {fw : Nat → Nat → Int32} (h : bEq n e z fr fk fw) (he : e ≤ nE z) (w : wf z) (s a b x : Int32) : bEq n e (zAddEl z s a b x) fr fk fw := by
  refine ⟨h.1, h.2.1, fun i hi => (h.2.2 i hi).keep ?_ ?_ ?_ ?_ ?_ ?_ (fun j hj => ?_)⟩
  · exact un_lt (f := eS z) (x := s) (show i < nE z by omega)
  · exact un_lt (f := eA z) (x := a) (show i < nE z by omega)
  · exact un_lt (f := eB z) (x := b) (show i < nE z by omega)
  · exact un_lt (f := eZ z) (x := x) (show i < nE z by omega)
  · exact un_lt (f := eO z) (x := nI 1) (show i < nE z by omega)
  · exact un_lt (f := eT z) (x := nI 0) (show i < nE z by omega)
  · have h6 := w.t6 (i := i) (by omega)
    show (if 6 * nE z ≤ 6 * i + j ∧ 6 * i + j < 6 * nE z + 6 then 0 else tT z (6 * i + j)) = _
    rw [if_neg (by omega)]
theorem row_new {z : xC} {s a b x : Int32} {f : Nat → Int32} (h0 : f 0 = s) (h1 : f 1 = a) (h2 : f 2 = b) (h3 : f 3 = x) (h4 : f 4 = nI 1) : rowOk (zAddEl z s a b x) (nE z) f 5 := by
  have u : ∀ (g : Nat → Int32) (v : Int32), upd g (nE z) v (nE z) = v := fun g v => pk_us
  have hc : cT (zAddEl z s a b x) (nE z) = 0 := by
    show (upd (eT z) (nE z) (nI 0) (nE z)).toNatClampNeg = 0
    rw [u]
    decide
  refine ⟨h0.trans (u (eS z) s).symm, h1.trans (u (eA z) a).symm, h2.trans (u (eB z) b).symm, h3.trans (u (eZ z) x).symm, h4.trans (u (eO z) (nI 1)).symm, by rw [hc], fun τ _ => ?_⟩
  rw [hc]
  rfl
/-- told to be off at the start -/
theorem bEq_eO {n e : Nat} {z : xC} {fr : Nat → Int32} {fk : Nat → Nat} {fw : Nat → Nat → Int32} (h : bEq n e z fr fk fw) (b : Int32) : bEq n e (s_eO z (upd (eO z) e b)) fr fk fw :=
  ⟨h.1, h.2.1, fun i hi => (h.2.2 i hi).keep rfl rfl rfl rfl (un_lt (f := eO z) (x := b) hi) rfl (fun _ _ => rfl)⟩
/-! a toggle more -/
theorem tb_putp {z z' : xC} {e p c : Nat} {t u : Int32} (hT : tT z' = putT (tT z) (6 * e) p c t) : ∀ m, m ≤ p → tb z' e u m = tb z e u m := fun m hm => tb_congr m (fun j hj => by
  rw [hT]
  exact if_pos (show 6 * e + j < 6 * e + p by omega))
theorem tb_put {z z' : xC} {e p c : Nat} {t u : Int32} (hT : tT z' = putT (tT z) (6 * e) p c t) : ∀ d, p + d ≤ c → tb z' e u (p + d + 1) = tb z e u (p + d) + (if u ≤ t then 0 else 1)
  | 0, h => by
    have e1 : tT z' (6 * e + p) = t := by
      rw [hT]
      show (if 6 * e + p < 6 * e + p then _ else if 6 * e + p = 6 * e + p then t else _) = t
      rw [if_neg (Nat.lt_irrefl _), if_pos rfl]
    show tb z' e u p + (if u ≤ tT z' (6 * e + p) then 0 else 1) = _
    rw [tb_putp hT p (Nat.le_refl _), e1]
    rfl
  | d + 1, h => by
    have ih := tb_put (u := u) hT d (by omega)
    have e1 : tT z' (6 * e + (p + d + 1)) = tT z (6 * e + (p + d)) := by
      rw [hT]
      show (if 6 * e + (p + d + 1) < 6 * e + p then _ else if 6 * e + (p + d + 1) = 6 * e + p then t else if 6 * e + (p + d + 1) ≤ 6 * e + c then tT z (6 * e + (p + d + 1) - 1) else _) = _
      rw [if_neg (by omega), if_neg (by omega), if_pos (by omega), show 6 * e + (p + d + 1) - 1 = 6 * e + (p + d) by omega]
    show tb z' e u (p + d + 1) + (if u ≤ tT z' (6 * e + (p + d + 1)) then 0 else 1) = tb z e u (p + d) + (if u ≤ tT z (6 * e + (p + d)) then 0 else 1) + _
    rw [ih, e1]
    omega
theorem ctH_m1 {f : Nat → Int32} {t : Nat} (h1 : 1 ≤ t) (ht : t ≤ 999) : ∀ k, (∀ j, j < k → f (5 + j) ≠ nI t) → ctH f (nI t) k = ctH f (nI (t - 1)) k
  | 0, _ => rfl
  | k + 1, h => by
    have ih := ctH_m1 h1 ht k (fun j hj => h j (by omega))
    have hk := h k (by omega)
    have e1 : (nI t).toInt = (t : Int) := nI_toInt (by omega)
    have e2 : (nI (t - 1)).toInt = ((t - 1 : Nat) : Int) := nI_toInt (by omega)
    have h3 : (f (5 + k)).toInt ≠ (nI t).toInt := fun g => hk (Int32.toInt_inj.mp g)
    have iff : f (5 + k) ≤ nI t ↔ f (5 + k) ≤ nI (t - 1) := by
      rw [Int32.le_iff_toInt_le, Int32.le_iff_toInt_le, e1, e2]
      omega
    by_cases c : f (5 + k) ≤ nI t
    · rw [ctH_1 c, ctH_1 (iff.mp c), ih]
    · rw [ctH_0 c, ctH_0 (fun g => c (iff.mpr g)), ih]
section TG
variable {z : xC} {e c t : Nat} {f : Nat → Int32}
/-- no toggle at a time that is in none of the row's places -/
theorem no_has (h : rowOk z e f (5 + c)) (h1 : 1 ≤ t) (ht : t ≤ 999) (hn : ∀ j, j < c → f (5 + j) ≠ nI t) : ¬ hasP z e (nI t) := by
  obtain ⟨-, -, -, -, -, h5, h6⟩ := h
  have hc : cT z e = c := by omega
  have a := h6 t ht
  have b := h6 (t - 1) (by omega)
  rw [hc] at a b
  have e1 : nI (t - 1) + nI 1 = nI t := by rw [nI_add, show t - 1 + 1 = t by omega]
  rw [e1] at b
  unfold hasP
  rw [hc, ← a, ← b, ctH_m1 h1 ht c hn]
  exact Nat.lt_irrefl _
theorem row_put (h : rowOk z e f (5 + c)) (w : wf z) (he : e < nE z) (h6 : c < 6) (h1 : 1 ≤ t) (ht : t ≤ 999) (hn : ∀ j, j < c → f (5 + j) ≠ nI t) : rowOk (zTog z e (nI t)) e (fun j => if j < 5 + c then f j else nI t) (5 + (c + 1)) := by
  have hh := no_has h h1 ht hn
  obtain ⟨g0, g1, g2, g3, g4, g5, g6⟩ := h
  have hc : cT z e = c := by omega
  have hz : zTog z e (nI t) = zPut z e (nI t) := if_neg hh
  rw [hz]
  have hc1 : cT (zPut z e (nI t)) e = c + 1 := by
    show (upd (eT z) e (nI (cT z e + 1)) e).toNatClampNeg = _
    rw [pk_us, hc, nI_clamp (by omega)]
  refine ⟨(if_pos (show 0 < 5 + c by omega)).trans g0, (if_pos (show 1 < 5 + c by omega)).trans g1, (if_pos (show 2 < 5 + c by omega)).trans g2, (if_pos (show 3 < 5 + c by omega)).trans g3, (if_pos (show 4 < 5 + c by omega)).trans g4, by rw [hc1], fun τ hτ => ?_⟩
  rw [hc1]
  have hp := tb_le z e (nI t) (cT z e)
  obtain ⟨p, hpe⟩ : ∃ p, p = tb z e (nI t) (cT z e) := ⟨_, rfl⟩
  have hT : tT (zPut z e (nI t)) = putT (tT z) (6 * e) p c (nI t) := by
    rw [hpe, ← hc]
    rfl
  have hb := tb_put (u := nI τ + nI 1) hT (c - p) (by omega)
  rw [show p + (c - p) = c by omega] at hb
  rw [hb, ← hc, ← g6 τ hτ, hc]
  have ek : ctH (fun j => if j < 5 + c then f j else nI t) (nI τ) c = ctH f (nI τ) c := ctH_congr c (fun j hj => if_pos (by omega))
  have e1 : nI τ + nI 1 = nI (τ + 1) := nI_add τ 1
  rw [e1]
  by_cases q : t ≤ τ
  · rw [ctH_1 (by rw [if_neg (Nat.lt_irrefl _)]; exact nI_le q (by omega)), ek, if_neg (fun g => by have := ni_le (by omega) (by omega) g; omega)]
  · rw [ctH_0 (by rw [if_neg (Nat.lt_irrefl _)]; exact fun g => q (ni_le (by omega) (by omega) g)), ek, if_pos (nI_le (by omega) (by omega))]
    rfl
theorem bEq_tog {n : Nat} {fr : Nat → Int32} {fk : Nat → Nat} {fw : Nat → Nat → Int32} (h : bEq n e z fr fk fw) (w : wf z) (he : e < nE z) {u : Int32} (hh : ¬ hasP z e u) : bEq n e (zTog z e u) fr fk fw := by
  have hz : zTog z e u = zPut z e u := if_neg hh
  rw [hz]
  refine ⟨h.1, h.2.1, fun i hi => (h.2.2 i hi).keep rfl rfl rfl rfl rfl (un_lt (f := eT z) (x := nI (cT z e + 1)) hi) (fun j hj => ?_)⟩
  have h6 := w.t6 (i := i) (by omega)
  show putT (tT z) (6 * e) _ _ u (6 * i + j) = _
  exact if_pos (by omega)
theorem tog_0 (w : wf z) (he : e < nE z) (h1 : 1 ≤ t) (ht : t ≤ 999) (hc : cT z e ≠ 6) : tTog z (nI e) (nI t) = 0 := by
  have hE := w.E
  rw [tTog, if_neg (not_not_intro (elP_o w he)), if_neg (not_not_intro ⟨nI_le h1 (by omega), nI_le ht (by decide)⟩), cl_nI (by omega), if_neg (fun g => hc g.2)]
end TG
/-! the law's rows, when all is built -/
theorem bEq.Rh {n e : Nat} {z : xC} {fr : Nat → Int32} {fk : Nat → Nat} {fw : Nat → Nat → Int32} (h : bEq n e z fr fk fw) (he : nE z = e) : Rh z n fr e fk fw := by
  refine ⟨h.1.symm, he.symm, fun j hj => h.2.1 j (by rw [← h.1]; exact hj), fun i hi => ?_⟩
  obtain ⟨h0, h1, h2, h3, h4, h5, h6⟩ := h.2.2 i (by omega)
  exact ⟨h0, h1, h2, h4, h5, h6⟩
/-! checks that pass -/
theorem rail_0 {z : xC} (w : wf z) {k : Nat} (hk : k < nN z) {v p : Int32} (hp : -99 ≤ p ∧ p ≤ nI 99) : tRail z (nI k) v p = 0 := by
  rw [tRail, if_neg (not_not_intro (nodeP_o w hk)), if_neg (fun g => g.2 hp)]
theorem addEl_0 {z : xC} (w : wf z) {a b : Nat} (ha : a < nN z) (hb : b < nN z) (hab : a ≠ b) {s x : Int32} (hx : sizeP s x) (hE : nE z ≠ 20) : tAddEl z s (nI a) (nI b) x = 0 := by
  have hN := w.N
  rw [tAddEl, if_neg (fun g => by rcases g with g | g; exact g (nodeP_o w ha); exact g (nodeP_o w hb)), if_neg (fun g => by rcases g with g | g; exact hab ((nI_eq (by omega) (by omega)).mp g); exact g hx), if_neg hE]
theorem beg_0 {z : xC} (w : wf z) {e : Nat} (he : e < nE z) : tBeg z (nI e) = 0 := by
  rw [tBeg, if_neg (not_not_intro (elP_o w he))]
theorem in_99 : ∀ r, r < 199 → (-99 : Int32) ≤ nI r - nI 99 ∧ nI r - nI 99 ≤ nI 99 := by decide +kernel
theorem in_9 : ∀ r, r < 9 → (1 : Int32) ≤ nI (1 + r) ∧ nI (1 + r) ≤ nI 9 := by decide +kernel
theorem to_ne {n a r : Nat} (hn : 2 ≤ n) (ha : a < n) (hr : r < n - 1) : (a + 1 + r) % n < n ∧ a ≠ (a + 1 + r) % n := by
  refine ⟨Nat.mod_lt _ (by omega), fun g => ?_⟩
  rcases Nat.lt_or_ge (a + 1 + r) n with h | h
  · rw [Nat.mod_eq_of_lt h] at g; omega
  · have e : (a + 1 + r) % n = a + 1 + r - n := by
      rw [Nat.mod_eq_sub_mod h, Nat.mod_eq_of_lt (by omega)]
    omega
/-- what stands at a rail's place, after one node more -/
theorem rails_s {z : xC} {k : Nat} {fr : Nat → Int32} {v p : Int32} (hk : nN z = k) (h : ∀ j, j < k → fr j = if nR z j = 0 then nI 100 else nP z j) : ∀ j, j < k + 1 → (if j < k then fr j else if v = 0 then nI 100 else p) = if nR (zRail (zAddNode z) k v p) j = 0 then nI 100 else nP (zRail (zAddNode z) k v p) j := fun j hj => by
  show _ = if upd (upd (nR z) (nN z) 0) k v j = 0 then nI 100 else upd (upd (nP z) (nN z) 0) k (if v = 0 then nI 0 else p) j
  rw [hk]
  by_cases e : j = k
  · subst e
    rw [if_neg (Nat.lt_irrefl _), pk_us, pk_us]
    by_cases c : v = 0
    · rw [if_pos c, if_pos c]
    · rw [if_neg c, if_neg c, if_neg c]
  · rw [if_pos (by omega), pk_un e, pk_un e, pk_un e, pk_un e]
    exact h j (by omega)
