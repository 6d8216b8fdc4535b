/-! the law's circuit, from its making; rows told otherwise; one row more -/
theorem xW.hand0 {D : va_G} {A : Nat → Prop} {y : Nat → ClassId} {ad : xL → Nat} {bl : xM} {z : xC} {g pl : Nat → Int32} {kn mi : Nat → Int64} {rw : Nat → Nat → Int64} {un : Int32} {H : Heap} {qh q1 q2 : Nat} {fr : Nat → Int32} {fk : Nat → Nat} {fw : Nat → Nat → Int32} {e9 : va_E}
    (h : xW D A (ad_up (ad_up (ad_up ad (20, 0) qh) (21, 0) q1) (22, 0) q2) (aw_up (aw_up (aw_up (aw_up (wU (wB y ad bl z g pl kn rw mi un) wN wN) (20, 0) e9) (21, 0) (.inl (y 0, 0, .inl fr))) (22, 0) (.inl (y 3, 0, xr (fun _ => none)))) (20, 0) (.inr (5, [.ref q1, .ref q2]))) H) :
    xW D A (ad_up (ad_up (ad_up ad (20, 0) qh) (21, 0) q1) (22, 0) q2) (wU (wB y (ad_up (ad_up (ad_up ad (20, 0) qh) (21, 0) q1) (22, 0) q2) bl z g pl kn rw mi un) (wH y (ad_up (ad_up (ad_up ad (20, 0) qh) (21, 0) q1) (22, 0) q2) 0 fr 0 fk fw) wN) H := by
  have h21 : ad_up (ad_up (ad_up ad (20, 0) qh) (21, 0) q1) (22, 0) q2 (21, 0) = q1 := (ad_up_ne (by decide)).trans ad_up_self
  have h22 : ad_up (ad_up (ad_up ad (20, 0) qh) (21, 0) q1) (22, 0) q2 (22, 0) = q2 := ad_up_self
  rw [wB_ad (ad := ad) (fun k hk => (up_lt (k := (22, 0)) (by decide) k hk).trans ((up_lt (k := (21, 0)) (by decide) k hk).trans (up_lt (k := (20, 0)) (by decide) k hk)))]
  refine h.ct ?_
  rw [wU_fu (k := 0) (by decide), wU_fu (k := 1) (by decide), wU_fu (k := 2) (by decide)]
  refine wU_R (k := 0) (by decide) (fun a b hab => ?_) (by rw [← h21, ← h22]; rfl)
  match a, b with
  | 0, 0 => exact absurd ⟨rfl, rfl⟩ hab
  | 0, b + 1 => rfl
  | 1, 0 => rfl
  | 1, b + 1 => rfl
  | 2, 0 =>
    show some (Sum.inl (y 3, 0, xr (fun _ => none))) = (some (Sum.inl (y 3, 0, xr (fun i => if i < 0 then some _ else none))) : Option va_E)
    rw [show (fun i : Nat => if i < 0 then some (ad_up (ad_up (ad_up ad (20, 0) qh) (21, 0) q1) (22, 0) q2 (23, i)) else none) = fun _ => none from funext fun i => if_neg (Nat.not_lt_zero i)]
  | 2, b + 1 => rfl
  | 3, b => rfl
  | a + 4, b => rfl
theorem row_off {z : xC} {e k : Nat} {f : Nat → Int32} (h : rowOk z e f k) (b : Int32) : rowOk (s_eO z (upd (eO z) e b)) e (upd f 4 b) k := by
  obtain ⟨g0, g1, g2, g3, g4, g5, g6⟩ := h
  refine ⟨(pk_un (by decide)).trans g0, (pk_un (by decide)).trans g1, (pk_un (by decide)).trans g2, (pk_un (by decide)).trans g3, pk_us.trans pk_us.symm, g5, fun τ hτ => ?_⟩
  have e1 : ctH (upd f 4 b) (nI τ) (cT z e) = ctH f (nI τ) (cT z e) := ctH_congr _ (fun j _ => pk_un (by omega))
  have e2 : tb (s_eO z (upd (eO z) e b)) e (nI τ + nI 1) (cT z e) = tb z e (nI τ + nI 1) (cT z e) := tb_congr _ (fun _ _ => rfl)
  exact e1.trans ((g6 τ hτ).trans e2.symm)
theorem bEq_s {n e k : Nat} {z : xC} {fr : Nat → Int32} {fk : Nat → Nat} {fw : Nat → Nat → Int32} {f : Nat → Int32} (h : bEq n e z fr fk fw) (hr : rowOk z e f k) : bEq n (e + 1) z fr (fun i => if i = e then k else fk i) (fun i => if i = e then f else fw i) := by
  refine ⟨h.1, h.2.1, fun i hi => ?_⟩
  by_cases c : i = e
  · subst c
    show rowOk z i (if i = i then f else fw i) (if i = i then k else fk i)
    rw [if_pos rfl, if_pos rfl]
    exact hr
  · show rowOk z i (if i = e then f else fw i) (if i = e then k else fk i)
    rw [if_neg c, if_neg c]
    exact h.2.2 i (by omega)
theorem addNode_0 {z : xC} (h : nN z < 8) : tAddNode z = 0 := by rw [tAddNode, if_neg (by omega)]
def zK : Nat → Nat := fun _ => 0
def zF : Nat → Nat → Int32 := fun _ _ => 0
