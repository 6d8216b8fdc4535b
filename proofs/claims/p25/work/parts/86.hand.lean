/-! the law's own circuit: what its methods answer -/
theorem nb0 {M k : Nat} (h : ¬ M.testBit k = true) : M / 2 ^ k % 2 = 0 := by
  rw [bt_0]
  cases g : M.testBit k
  · rfl
  · exact absurd g h
theorem nb1 {M k : Nat} (h : M.testBit k = true) : ¬ M / 2 ^ k % 2 = 0 := by
  rw [bt_0, h]
  decide
set_option maxHeartbeats 4000000 in
set_option maxRecDepth 100000 in
theorem c_X4_isOn (l : Launch) {D : va_G} {y : Nat → ClassId} {A : Nat → Prop} {ad : xL → Nat} {ct : xL → Option va_E} {nr ne : Nat} {fr : Nat → Int32} {fk : Nat → Nat} {fw : Nat → Nat → Int32} {Hs : Heap} (hP : xW D A ad ct Hs) (hh : hdO y ad ct nr fr ne fk fw) {z : xC} (hR : Rh z nr fr ne fk fw) (w : wf z) {i τ : Nat} (hi : i < nE z) (hτ : τ ≤ 999) : Met l yX4_isOn (.code yX4_isOn cX4_isOn 5 (some .boolean) :: WG) { frames := 0, cells := 0, slots := 0, locals := 0 } (xPc [.ref (ad (20, 0)), .int (nI i), .int (nI τ)] D y Hs) (xQ (fun v H1 => v = some (.int (onI z i (nI τ))) ∧ Hs = H1) A) 0 0 A := by
  refine xM_go (by decide) (Nat.le_of_ble_eq_true rfl) (fun p e s m args below meth c ls R Q hx hb hr hlocks hml hown hts hH hE hnm hRf hRl hRc hRs hQ hS hl => ?_)
  have hRf : R.frames = 0 := hRf
  have hRl : R.locals = 0 := hRl
  have hRc : R.cells = 0 := hRc
  have hRs : R.slots = 0 := hRs
  have hl : lv_has ls 5 [(0, .ref (ad (20, 0))), (1, .int (nI i)), (2, .int (nI τ))] := hl
  have hN := w.N
  have hE20 := w.E
  have e1 := hR.1
  have e2 := hR.2.1
  obtain ⟨r0, r1, r2, r4, rk, rt⟩ := hR.2.2.2 i (by omega)
  have t6 := w.t6 (i := i) (by omega)
  refine lv_aload_n hx hb dX4_isOn_0 rfl (lv_at hl 0 rfl) ?_
  refine xw_get hx hb hts hown hE hP iw_X4 (20, 0) hh.1 rfl 1 (by decide) q_453 (fun x h => h) rfl dX4_isOn_1 ?_
  refine lv_iload_n hx hb dX4_isOn_4 rfl (lv_at hl 1 rfl) ?_
  refine xw_aald3 hx hb hE hP (22, 0) hh.2.2.1 (i := i) (v := ad (23, i)) (if_pos (by omega)) (by omega) (by omega) dX4_isOn_5 ?_
  refine lv_iconst (v := nI 4) hx hb dX4_isOn_6 (by decide) ?_
  refine xw_iald hx hb hE hP (23, i) (hh.2.2.2 _ (by omega)) (i := 4) (by omega) (by omega) dX4_isOn_7 ?_
  refine lv_iconst (v := nI 1) hx hb dX4_isOn_8 (by decide) ?_
  have K17 : ∀ (v : Int32), (v = hoS (fw i) (nI τ) 0) → ∀ (locs : List Loc) (ls : Array Slot), va_S A Hs Hs locs → lv_has ls 5 [(2, .int (nI τ)), (1, .int (nI i)), (0, .ref (ad (20, 0)))] → W p l e R s m args below meth c Hs locs 0 0 Q (F0 m 17 ls [.int v]) := by
    intro v hv locs ls hS hl
    subst hv
    refine lv_istore_n (lv' := [(3, .int (hoS (fw i) (nI τ) 0)), (2, .int (nI τ)), (1, .int (nI i)), (0, .ref (ad (20, 0)))]) hx hb dX4_isOn_17 rfl hl (by decide) rfl (fun ls hl => ?_)
    refine lv_iconst (v := nI 5) hx hb dX4_isOn_18 (by decide) ?_
    refine lv_istore (lv' := [(4, .int (nI 5)), (3, .int (hoS (fw i) (nI τ) 0)), (2, .int (nI τ)), (1, .int (nI i)), (0, .ref (ad (20, 0)))]) hx hb dX4_isOn_19 hl (by decide) rfl (fun ls hl => ?_)
    have K21 : ∀ (nn : Nat), ∀ (k : Nat), (k ≤ cT z i) → cT z i - k < nn → ∀ (locs : List Loc) (ls : Array Slot), va_S A Hs Hs locs → lv_has ls 5 [(4, .int (nI (5 + k))), (3, .int (hoS (fw i) (nI τ) k)), (2, .int (nI τ)), (1, .int (nI i)), (0, .ref (ad (20, 0)))] → W p l e R s m args below meth c Hs locs 0 0 Q (F0 m 21 ls []) := by
      intro nn
      induction nn with
      | zero => intro k hk h; exact absurd h (Nat.not_lt_zero _)
      | succ nn ih21 =>
        intro k hk hn21 locs ls hS hl
        refine lv_iload hx hb dX4_isOn_21 (lv_at hl 0 rfl) ?_
        refine lv_aload_n hx hb dX4_isOn_23 rfl (lv_at hl 4 rfl) ?_
        refine xw_get hx hb hts hown hE hP iw_X4 (20, 0) hh.1 rfl 1 (by decide) q_453 (fun x h => h) rfl dX4_isOn_24 ?_
        refine lv_iload_n hx hb dX4_isOn_27 rfl (lv_at hl 3 rfl) ?_
        refine xw_aald3 hx hb hE hP (22, 0) hh.2.2.1 (i := i) (v := ad (23, i)) (if_pos (by omega)) (by omega) (by omega) dX4_isOn_28 ?_
        refine xw_ialen hx hb hE hP (23, i) (hh.2.2.2 _ (by omega)) dX4_isOn_29 ?_
        refine lv_icmp_ge (tgt := 62) hx hb dX4_isOn_30 (by decide) (fun c30 => ?_) (fun c30 => ?_)
        · skip
          have c30 := ni_le (a := (fk i)) (b := (5 + k)) (by omega) (by omega) c30
          refine lv_iload_n hx hb dX4_isOn_62 rfl (lv_at hl 1 rfl) ?_
          exact xe_zret hQ hx hb hr hlocks hH hS (hoS_01 _ _ _) (Nat.le_refl _) (Nat.le_refl _) (⟨by rw [show k = cT z i by omega, hR.on w hi hτ], rfl⟩) dX4_isOn_63
        · skip
          have c30 := ni_nle (a := (fk i)) (b := (5 + k)) (by omega) (by omega) c30
          refine lv_aload_n hx hb dX4_isOn_33 rfl (lv_at hl 4 rfl) ?_
          refine xw_get hx hb hts hown hE hP iw_X4 (20, 0) hh.1 rfl 1 (by decide) q_453 (fun x h => h) rfl dX4_isOn_34 ?_
          refine lv_iload_n hx hb dX4_isOn_37 rfl (lv_at hl 3 rfl) ?_
          refine xw_aald3 hx hb hE hP (22, 0) hh.2.2.1 (i := i) (v := ad (23, i)) (if_pos (by omega)) (by omega) (by omega) dX4_isOn_38 ?_
          refine lv_iload hx hb dX4_isOn_39 (lv_at hl 0 rfl) ?_
          refine xw_iald hx hb hE hP (23, i) (hh.2.2.2 _ (by omega)) (i := 5 + k) (by omega) (by omega) dX4_isOn_41 ?_
          refine lv_iload_n hx hb dX4_isOn_42 rfl (lv_at hl 2 rfl) ?_
          refine lv_icmp_gt (tgt := 56) hx hb dX4_isOn_43 (by decide) (fun c43 => ?_) (fun c43 => ?_)
          · skip
            rw [show hoS (fw i) (nI τ) k = hoS (fw i) (nI τ) (k + 1) from (hoS_0 (Int32.not_le.mpr c43)).symm] at hl
            refine lv_iinc (v := nI (5 + k + 1)) (lv' := [(4, .int (nI (5 + k + 1))), (3, .int (hoS (fw i) (nI τ) (k + 1))), (2, .int (nI τ)), (1, .int (nI i)), (0, .ref (ad (20, 0)))]) hx hb dX4_isOn_56 hl (k := 0) rfl (nI_1 _) (by decide) rfl (fun ls hl => ?_)
            refine lv_goto (tgt := 21) hx hb dX4_isOn_59 (by decide) ?_
            exact ih21 (k + 1) (by omega) (by omega) _ _ hS (lv_sub hl [0, 1, 2, 3, 4] rfl)
          · skip
            refine lv_iload_n hx hb dX4_isOn_46 rfl (lv_at hl 1 rfl) ?_
            refine lv_if_ne (tgt := 54) hx hb dX4_isOn_47 (by decide) (fun c47 => ?_) (fun c47 => ?_)
            · skip
              refine lv_iconst (v := nI 0) hx hb dX4_isOn_54 (by decide) ?_
              refine xt_i (w := hoS (fw i) (nI τ) (k + 1)) (by rw [hoS_1 (Int32.not_lt.mp c43), if_neg c47]) ?_
              refine lv_istore_n (lv' := [(3, .int (hoS (fw i) (nI τ) (k + 1))), (4, .int (nI (5 + k))), (2, .int (nI τ)), (1, .int (nI i)), (0, .ref (ad (20, 0)))]) hx hb dX4_isOn_55 rfl hl (by decide) rfl (fun ls hl => ?_)
              refine lv_iinc (v := nI (5 + k + 1)) (lv' := [(4, .int (nI (5 + k + 1))), (3, .int (hoS (fw i) (nI τ) (k + 1))), (2, .int (nI τ)), (1, .int (nI i)), (0, .ref (ad (20, 0)))]) hx hb dX4_isOn_56 hl (k := 1) rfl (nI_1 _) (by decide) rfl (fun ls hl => ?_)
              refine lv_goto (tgt := 21) hx hb dX4_isOn_59 (by decide) ?_
              exact ih21 (k + 1) (by omega) (by omega) _ _ hS (lv_sub hl [0, 1, 2, 3, 4] rfl)
            · skip
              refine lv_iconst (v := nI 1) hx hb dX4_isOn_50 (by decide) ?_
              refine xt_i (w := hoS (fw i) (nI τ) (k + 1)) (by rw [hoS_1 (Int32.not_lt.mp c43), if_pos c47]) ?_
              refine lv_goto (tgt := 55) hx hb dX4_isOn_51 (by decide) ?_
              refine lv_istore_n (lv' := [(3, .int (hoS (fw i) (nI τ) (k + 1))), (4, .int (nI (5 + k))), (2, .int (nI τ)), (1, .int (nI i)), (0, .ref (ad (20, 0)))]) hx hb dX4_isOn_55 rfl hl (by decide) rfl (fun ls hl => ?_)
              refine lv_iinc (v := nI (5 + k + 1)) (lv' := [(4, .int (nI (5 + k + 1))), (3, .int (hoS (fw i) (nI τ) (k + 1))), (2, .int (nI τ)), (1, .int (nI i)), (0, .ref (ad (20, 0)))]) hx hb dX4_isOn_56 hl (k := 1) rfl (nI_1 _) (by decide) rfl (fun ls hl => ?_)
              refine lv_goto (tgt := 21) hx hb dX4_isOn_59 (by decide) ?_
              exact ih21 (k + 1) (by omega) (by omega) _ _ hS (lv_sub hl [0, 1, 2, 3, 4] rfl)
    exact K21 _ 0 (by omega) (Nat.lt_succ_self _) _ _ hS (lv_sub hl [0, 1, 2, 3, 4] rfl)
  refine lv_icmp_ne (tgt := 16) hx hb dX4_isOn_9 (by decide) (fun c9 => ?_) (fun c9 => ?_)
  · skip
    refine lv_iconst (v := nI 0) hx hb dX4_isOn_16 (by decide) ?_
    exact K17 (nI 0) (by first | (rw [hoS, if_pos c9]) | (rw [hoS, if_neg c9])) _ _ hS (lv_sub hl [2, 1, 0] rfl)
  · skip
    refine lv_iconst (v := nI 1) hx hb dX4_isOn_12 (by decide) ?_
    refine lv_goto (tgt := 17) hx hb dX4_isOn_13 (by decide) ?_
    exact K17 (nI 1) (by first | (rw [hoS, if_pos c9]) | (rw [hoS, if_neg c9])) _ _ hS (lv_sub hl [2, 1, 0] rfl)

set_option maxHeartbeats 4000000 in
set_option maxRecDepth 100000 in
theorem c_X4_conducts (l : Launch) {D : va_G} {y : Nat → ClassId} {A : Nat → Prop} {ad : xL → Nat} {ct : xL → Option va_E} {nr ne : Nat} {fr : Nat → Int32} {fk : Nat → Nat} {fw : Nat → Nat → Int32} {Hs : Heap} (hP : xW D A ad ct Hs) (hh : hdO y ad ct nr fr ne fk fw) {z : xC} (hR : Rh z nr fr ne fk fw) (w : wf z) {i τ : Nat} (hi : i < nE z) (hτ : τ ≤ 999) : Met l yX4_conducts (.code yX4_conducts cX4_conducts 3 (some .boolean) :: WG) { frames := 1, cells := 0, slots := 0, locals := 24 } (xPc [.ref (ad (20, 0)), .int (nI i), .int (nI τ)] D y Hs) (xQ (fun v H1 => v = some (.int (if eS z i = 0 ∧ ¬ onI z i (nI τ) = 0 then nI 1 else nI 0)) ∧ Hs = H1) A) 0 0 A := by
  refine xM_go (by decide) (Nat.le_of_ble_eq_true rfl) (fun p e s m args below meth c ls R Q hx hb hr hlocks hml hown hts hH hE hnm hRf hRl hRc hRs hQ hS hl => ?_)
  have hRf : R.frames = 1 := hRf
  have hRl : R.locals = 24 := hRl
  have hRc : R.cells = 0 := hRc
  have hRs : R.slots = 0 := hRs
  have hl : lv_has ls 3 [(0, .ref (ad (20, 0))), (1, .int (nI i)), (2, .int (nI τ))] := hl
  have hN := w.N
  have hE20 := w.E
  have e1 := hR.1
  have e2 := hR.2.1
  obtain ⟨r0, r1, r2, r4, rk, rt⟩ := hR.2.2.2 i (by omega)
  have t6 := w.t6 (i := i) (by omega)
  refine lv_aload_n hx hb dX4_conducts_0 rfl (lv_at hl 0 rfl) ?_
  refine xw_get hx hb hts hown hE hP iw_X4 (20, 0) hh.1 rfl 1 (by decide) q_453 (fun x h => h) rfl dX4_conducts_1 ?_
  refine lv_iload_n hx hb dX4_conducts_4 rfl (lv_at hl 1 rfl) ?_
  refine xw_aald3 hx hb hE hP (22, 0) hh.2.2.1 (i := i) (v := ad (23, i)) (if_pos (by omega)) (by omega) (by omega) dX4_conducts_5 ?_
  refine lv_iconst (v := nI 0) hx hb dX4_conducts_6 (by decide) ?_
  refine xw_iald hx hb hE hP (23, i) (hh.2.2.2 _ (by omega)) (i := 0) (by omega) (by omega) dX4_conducts_7 ?_
  refine xt_i (w := eS z i) (r0) ?_
  refine lv_if_ne (tgt := 24) hx hb dX4_conducts_8 (by decide) (fun c8 => ?_) (fun c8 => ?_)
  · skip
    refine lv_iconst (v := nI 0) hx hb dX4_conducts_24 (by decide) ?_
    exact xe_zret hQ hx hb hr hlocks hH hS (by first | assumption | decide | omega) (Nat.le_refl _) (Nat.le_refl _) (⟨by rw [if_neg (fun g => c8 g.1)], rfl⟩) dX4_conducts_25
  · skip
    refine lv_aload_n hx hb dX4_conducts_11 rfl (lv_at hl 0 rfl) ?_
    refine lv_iload_n hx hb dX4_conducts_12 rfl (lv_at hl 1 rfl) ?_
    refine lv_iload_n hx hb dX4_conducts_13 rfl (lv_at hl 2 rfl) ?_
    refine xw_callV (C := "NetlistBenchLaw$Hand") (n := 2) [.int (nI i), .int (nI τ)] (c_X4_isOn l hP hh hR w hi hτ) hx hb hml hown hts hE hS (xw_recv hE hP (20, 0) hh.1 rfl) rfl rfl q_26 q_425 q_416 q_414 q_415 (by decide) rfl ⟨by rw [hRf]; decide, by rw [hRl]; decide⟩ hl.1 rfl (Nat.le_of_ble_eq_true rfl) dX4_conducts_14 ⟨by rw [hRc]; omega, by rw [hRs]; omega⟩ (fun v H1 locs hp hS => ?_)
    obtain ⟨hv, hh_⟩ := hp; subst hv; subst hh_
    refine lv_if_eq (tgt := 24) hx hb dX4_conducts_17 (by decide) (fun c17 => ?_) (fun c17 => ?_)
    · skip
      refine lv_iconst (v := nI 0) hx hb dX4_conducts_24 (by decide) ?_
      exact xe_zret hQ hx hb hr hlocks hH hS (by first | assumption | decide | omega) (Nat.le_refl _) (Nat.le_refl _) (⟨by rw [if_neg (fun g => g.2 c17)], rfl⟩) dX4_conducts_25
    · skip
      refine lv_iconst (v := nI 1) hx hb dX4_conducts_20 (by decide) ?_
      refine lv_goto (tgt := 25) hx hb dX4_conducts_21 (by decide) ?_
      exact xe_zret hQ hx hb hr hlocks hH hS (by first | assumption | decide | omega) (Nat.le_refl _) (Nat.le_refl _) (⟨by rw [if_pos ⟨c8, c17⟩], rfl⟩) dX4_conducts_25

set_option maxHeartbeats 4000000 in
set_option maxRecDepth 100000 in
theorem c_X4_isWay (l : Launch) {D : va_G} {y : Nat → ClassId} {A : Nat → Prop} {ad0 : xL → Nat} {ct : xL → Option va_E} {nr ne : Nat} {fr : Nat → Int32} {fk : Nat → Nat} {fw : Nat → Nat → Int32} {Hs : Heap} (hP : xW D A ad0 ct Hs) (hh : hdO y ad0 ct nr fr ne fk fw) (hT : ct (39, 0) = none) {z : xC} (hR : Rh z nr fr ne fk fw) (w : wf z) {a b τ : Nat} (ha : a < nN z) (hb0 : b < nN z) (hτ : τ ≤ 999) : Met l yX4_isWay (.code yX4_isWay cX4_isWay 7 (some .boolean) :: WG) { frames := 2, cells := 1, slots := 8, locals := 46 } (xPc [.ref (ad0 (20, 0)), .int (nI a), .int (nI b), .int (nI τ)] D y Hs) (xQ (fun v H1 => v = some (.int (if (gM z (nI τ) a).testBit b = true then nI 1 else nI 0)) ∧ xW D A ad0 ct H1) A) 1 8 A := by
  refine xM_go (by decide) (Nat.le_of_ble_eq_true rfl) (fun p e s m args below meth c ls R Q hx hb hr hlocks hml hown hts hH hE hnm hRf hRl hRc hRs hQ hS hl => ?_)
  have hRf : R.frames = 2 := hRf
  have hRl : R.locals = 46 := hRl
  have hRc : R.cells = 1 := hRc
  have hRs : R.slots = 8 := hRs
  have hl : lv_has ls 7 [(0, .ref (ad0 (20, 0))), (1, .int (nI a)), (2, .int (nI b)), (3, .int (nI τ))] := hl
  have hN := w.N
  have hE20 := w.E
  have e1 := hR.1
  have e2 := hR.2.1
  refine lv_aload_n hx hb dX4_isWay_0 rfl (lv_at hl 0 rfl) ?_
  refine xw_get hx hb hts hown hE hP iw_X4 (20, 0) hh.1 rfl 0 (by decide) q_451 (fun x h => h) rfl dX4_isWay_1 ?_
  refine xw_ialen hx hb hE hP (21, 0) hh.2.1 dX4_isWay_4 ?_
  refine xw_newA hx hb (atype := .boolean) (ty := .boolean) (t := 2) (N := nr) (a0 := (nr, .inl (fun _ => nI 0))) hts q_426 rfl rfl (fun _ => by rw [vp_cell_i]; rfl) hE hP hS (by omega) (by show nr * 1 ≤ _; omega) (by rw [hRc]; omega) (by rw [hRs]; omega) dX4_isWay_5 (39, 0) (fun qw H hP hS => ?_)
  obtain ⟨ad, had⟩ : ∃ ad, ad = ad_up ad0 (39, 0) qw := ⟨_, rfl⟩
  rw [← had] at hP
  have hA : ∀ k : xL, k.1 < 39 → ad k = ad0 k := fun k hk => by rw [had, ad_up_ne (fun g => by rw [g] at hk; exact absurd hk (by decide))]
  have hh := hh.ad (fun k h1 h2 => hA k (by omega))
  have hq : ad (39, 0) = qw := by rw [had, ad_up_self]
  rw [← hA (20, 0) (by decide)] at hl
  rw [← hq]
  refine lv_astore (lv' := [(4, .ref (ad (39, 0))), (0, .ref (ad (20, 0))), (1, .int (nI a)), (2, .int (nI b)), (3, .int (nI τ))]) hx hb dX4_isWay_7 hl (by decide) rfl (fun ls hl => ?_)
  refine lv_aload hx hb dX4_isWay_9 (lv_at hl 0 rfl) ?_
  refine lv_iload_n hx hb dX4_isWay_11 rfl (lv_at hl 2 rfl) ?_
  refine lv_iconst (v := nI 1) hx hb dX4_isWay_12 (by decide) ?_
  refine xw_zast hx hb hE hP hS (39, 0) aw_up_self (i := a) (by omega) (by omega) (x := nI 1) (by decide) dX4_isWay_13 (fun H locs hP hS => ?_)
  have hP := hP.ct aw_up_up
  refine lv_iconst (v := nI 0) hx hb dX4_isWay_14 (by decide) ?_
  refine lv_istore (lv' := [(5, .int (nI 0)), (4, .ref (ad (39, 0))), (0, .ref (ad (20, 0))), (1, .int (nI a)), (2, .int (nI b)), (3, .int (nI τ))]) hx hb dX4_isWay_15 hl (by decide) rfl (fun ls hl => ?_)
  have K17 : ∀ (nn : Nat), ∀ (r : Nat), (r ≤ nN z) → nN z - r < nn → ∀ (H : Heap) (locs : List Loc) (ls : Array Slot), xW D A ad (aw_up ct (39, 0) (.inl (y 2, nr, .inl (wyR z (nI τ) a r)))) H → va_S A Hs H locs → lv_has ls 7 [(5, .int (nI r)), (4, .ref (ad (39, 0))), (3, .int (nI τ)), (2, .int (nI b)), (1, .int (nI a)), (0, .ref (ad (20, 0)))] → W p l e R s m args below meth c H locs (0 + 1) (0 + nr) Q (F0 m 17 ls []) := by
    intro nn
    induction nn with
    | zero => intro r hk h; exact absurd h (Nat.not_lt_zero _)
    | succ nn ih17 =>
      intro r hk hn17 H locs ls hP hS hl
      refine lv_iload hx hb dX4_isWay_17 (lv_at hl 0 rfl) ?_
      refine lv_aload_n hx hb dX4_isWay_19 rfl (lv_at hl 5 rfl) ?_
      refine xw_get hx hb hts hown hE hP iw_X4 (20, 0) (hdO.up hh).1 rfl 0 (by decide) q_451 (fun x h => h) rfl dX4_isWay_20 ?_
      refine xw_ialen hx hb hE hP (21, 0) (hdO.up hh).2.1 dX4_isWay_23 ?_
      refine lv_icmp_ge (tgt := 115) hx hb dX4_isWay_24 (by decide) (fun c24 => ?_) (fun c24 => ?_)
      · skip
        have c24 := ni_le (a := nr) (b := r) (by omega) (by omega) c24
        refine lv_aload hx hb dX4_isWay_115 (lv_at hl 1 rfl) ?_
        refine lv_iload_n hx hb dX4_isWay_117 rfl (lv_at hl 3 rfl) ?_
        refine xw_zald hx hb hE hP (39, 0) aw_up_self (i := b) (by omega) (by omega) dX4_isWay_118 ?_
        exact xe_zret hQ hx hb hr hlocks hH hS (by rw [show r = nN z by omega, wy_end w ha hb0]; split; exact Or.inr rfl; exact Or.inl rfl) (by omega) (by omega) (⟨by rw [show r = nN z by omega, wy_end w ha hb0], by rw [had] at hP; exact hP.drop hT⟩) dX4_isWay_119
      · skip
        have c24 := ni_nle (a := nr) (b := r) (by omega) (by omega) c24
        refine lv_iconst (v := nI 0) hx hb dX4_isWay_27 (by decide) ?_
        refine lv_istore (lv' := [(6, .int (nI 0)), (5, .int (nI r)), (4, .ref (ad (39, 0))), (3, .int (nI τ)), (2, .int (nI b)), (1, .int (nI a)), (0, .ref (ad (20, 0)))]) hx hb dX4_isWay_28 hl (by decide) rfl (fun ls hl => ?_)
        have K30 : ∀ (nn : Nat), ∀ (j : Nat), (j ≤ nE z) → nE z - j < nn → ∀ (H : Heap) (locs : List Loc) (ls : Array Slot), xW D A ad (aw_up ct (39, 0) (.inl (y 2, nr, .inl (wyE z (nI τ) (wyR z (nI τ) a r) j)))) H → va_S A Hs H locs → lv_has ls 7 [(6, .int (nI j)), (5, .int (nI r)), (4, .ref (ad (39, 0))), (3, .int (nI τ)), (2, .int (nI b)), (1, .int (nI a)), (0, .ref (ad (20, 0)))] → W p l e R s m args below meth c H locs (0 + 1) (0 + nr) Q (F0 m 30 ls []) := by
          intro nn
          induction nn with
          | zero => intro j hj h; exact absurd h (Nat.not_lt_zero _)
          | succ nn ih30 =>
            intro j hj hn30 H locs ls hP hS hl
            refine lv_iload hx hb dX4_isWay_30 (lv_at hl 0 rfl) ?_
            refine lv_aload_n hx hb dX4_isWay_32 rfl (lv_at hl 6 rfl) ?_
            refine xw_get hx hb hts hown hE hP iw_X4 (20, 0) (hdO.up hh).1 rfl 1 (by decide) q_453 (fun x h => h) rfl dX4_isWay_33 ?_
            refine xw_3alen hx hb hE hP (22, 0) (hdO.up hh).2.2.1 dX4_isWay_36 ?_
            refine lv_icmp_ge (tgt := 109) hx hb dX4_isWay_37 (by decide) (fun c37 => ?_) (fun c37 => ?_)
            · skip
              have c37 := ni_le (a := ne) (b := j) (by omega) (by omega) c37
              have hP := hP.ct (show _ = aw_up ct (39, 0) (.inl (y 2, nr, .inl (wyR z (nI τ) a (r + 1)))) by rw [show j = nE z by omega]; rfl)
              refine lv_iinc (v := nI (r + 1)) (lv' := [(5, .int (nI (r + 1))), (6, .int (nI j)), (4, .ref (ad (39, 0))), (3, .int (nI τ)), (2, .int (nI b)), (1, .int (nI a)), (0, .ref (ad (20, 0)))]) hx hb dX4_isWay_109 hl (k := 1) rfl (nI_1 _) (by decide) rfl (fun ls hl => ?_)
              refine lv_goto (tgt := 17) hx hb dX4_isWay_112 (by decide) ?_
              exact ih17 (r + 1) (by omega) (by omega) _ _ _ hP hS (lv_sub hl [0, 2, 3, 4, 5, 6] rfl)
            · skip
              have c37 := ni_nle (a := ne) (b := j) (by omega) (by omega) c37
              obtain ⟨r0, r1, r2, r4, rk, rt⟩ := hR.2.2.2 j (by omega)
              have t6 := w.t6 (i := j) (by omega)
              have ha8 := w.a8 (i := j) (by omega)
              have hb8 := w.b8 (i := j) (by omega)
              have K103 : ∀ (H : Heap) (locs : List Loc) (ls : Array Slot), xW D A ad (aw_up ct (39, 0) (.inl (y 2, nr, .inl (wyE z (nI τ) (wyR z (nI τ) a r) (j + 1))))) H → va_S A Hs H locs → lv_has ls 7 [(6, .int (nI j)), (5, .int (nI r)), (4, .ref (ad (39, 0))), (3, .int (nI τ)), (2, .int (nI b)), (1, .int (nI a)), (0, .ref (ad (20, 0)))] → W p l e R s m args below meth c H locs (0 + 1) (0 + nr) Q (F0 m 103 ls []) := by
                intro   H locs ls hP hS hl
                refine lv_iinc (v := nI (j + 1)) (lv' := [(6, .int (nI (j + 1))), (5, .int (nI r)), (4, .ref (ad (39, 0))), (3, .int (nI τ)), (2, .int (nI b)), (1, .int (nI a)), (0, .ref (ad (20, 0)))]) hx hb dX4_isWay_103 hl (k := 0) rfl (nI_1 _) (by decide) rfl (fun ls hl => ?_)
                refine lv_goto (tgt := 30) hx hb dX4_isWay_106 (by decide) ?_
                exact ih30 (j + 1) (by omega) (by omega) _ _ _ hP hS (lv_sub hl [0, 1, 2, 3, 4, 5, 6] rfl)
              refine lv_aload_n hx hb dX4_isWay_40 rfl (lv_at hl 6 rfl) ?_
              refine lv_iload hx hb dX4_isWay_41 (lv_at hl 0 rfl) ?_
              refine lv_iload_n hx hb dX4_isWay_43 rfl (lv_at hl 3 rfl) ?_
              refine xw_callV (C := "NetlistBenchLaw$Hand") (n := 2) [.int (nI j), .int (nI τ)] (c_X4_conducts l hP (hdO.up hh) hR w (i := j) (by omega) hτ) hx hb hml hown hts hE hS (xw_recv hE hP (20, 0) (hdO.up hh).1 rfl) rfl rfl q_26 q_421 q_424 q_422 q_423 (by decide) rfl ⟨by rw [hRf]; decide, by rw [hRl]; decide⟩ hl.1 rfl (Nat.le_of_ble_eq_true rfl) dX4_isWay_44 ⟨by rw [hRc]; omega, by rw [hRs]; omega⟩ (fun v H1 locs hp hS => ?_)
              obtain ⟨hv, hh_⟩ := hp; subst hv; subst hh_
              refine lv_if_eq (tgt := 103) hx hb dX4_isWay_47 (by decide) (fun c47 => ?_) (fun c47 => ?_)
              · skip
                have c47 := b_f c47
                exact K103  _ _ _ (hP.ct (by first | rw [wyE_0 (Or.inl c47)] | rw [wyE_0 (Or.inr c74)] | rw [wyE_1 c47 c74])) hS (lv_sub hl [0, 1, 2, 3, 4, 5, 6] rfl)
              · skip
                have c47 := b_t c47
                refine lv_aload hx hb dX4_isWay_50 (lv_at hl 2 rfl) ?_
                refine lv_aload_n hx hb dX4_isWay_52 rfl (lv_at hl 6 rfl) ?_
                refine xw_get hx hb hts hown hE hP iw_X4 (20, 0) (hdO.up hh).1 rfl 1 (by decide) q_453 (fun x h => h) rfl dX4_isWay_53 ?_
                refine lv_iload hx hb dX4_isWay_56 (lv_at hl 0 rfl) ?_
                refine xw_aald3 hx hb hE hP (22, 0) (hdO.up hh).2.2.1 (i := j) (v := ad (23, j)) (if_pos (by omega)) (by omega) (by omega) dX4_isWay_58 ?_
                refine lv_iconst (v := nI 1) hx hb dX4_isWay_59 (by decide) ?_
                refine xw_iald hx hb hE hP (23, j) ((hdO.up hh).2.2.2 _ (by omega)) (i := 1) (by omega) (by omega) dX4_isWay_60 ?_
                refine xt_i (w := nI (cA z j)) (r1.trans (w.a (by omega))) ?_
                refine xw_zald hx hb hE hP (39, 0) aw_up_self (i := cA z j) (by omega) (by omega) dX4_isWay_61 ?_
                refine lv_aload hx hb dX4_isWay_62 (lv_at hl 2 rfl) ?_
                refine lv_aload_n hx hb dX4_isWay_64 rfl (lv_at hl 6 rfl) ?_
                refine xw_get hx hb hts hown hE hP iw_X4 (20, 0) (hdO.up hh).1 rfl 1 (by decide) q_453 (fun x h => h) rfl dX4_isWay_65 ?_
                refine lv_iload hx hb dX4_isWay_68 (lv_at hl 0 rfl) ?_
                refine xw_aald3 hx hb hE hP (22, 0) (hdO.up hh).2.2.1 (i := j) (v := ad (23, j)) (if_pos (by omega)) (by omega) (by omega) dX4_isWay_70 ?_
                refine lv_iconst (v := nI 2) hx hb dX4_isWay_71 (by decide) ?_
                refine xw_iald hx hb hE hP (23, j) ((hdO.up hh).2.2.2 _ (by omega)) (i := 2) (by omega) (by omega) dX4_isWay_72 ?_
                refine xt_i (w := nI (cB z j)) (r2.trans (w.b (by omega))) ?_
                refine xw_zald hx hb hE hP (39, 0) aw_up_self (i := cB z j) (by omega) (by omega) dX4_isWay_73 ?_
                refine lv_icmp_eq (tgt := 103) hx hb dX4_isWay_74 (by decide) (fun c74 => ?_) (fun c74 => ?_)
                · skip
                  exact K103  _ _ _ (hP.ct (by first | rw [wyE_0 (Or.inl c47)] | rw [wyE_0 (Or.inr c74)] | rw [wyE_1 c47 c74])) hS (lv_sub hl [0, 1, 2, 3, 4, 5, 6] rfl)
                · skip
                  refine lv_aload hx hb dX4_isWay_77 (lv_at hl 2 rfl) ?_
                  refine lv_aload_n hx hb dX4_isWay_79 rfl (lv_at hl 6 rfl) ?_
                  refine xw_get hx hb hts hown hE hP iw_X4 (20, 0) (hdO.up hh).1 rfl 1 (by decide) q_453 (fun x h => h) rfl dX4_isWay_80 ?_
                  refine lv_iload hx hb dX4_isWay_83 (lv_at hl 0 rfl) ?_
                  refine xw_aald3 hx hb hE hP (22, 0) (hdO.up hh).2.2.1 (i := j) (v := ad (23, j)) (if_pos (by omega)) (by omega) (by omega) dX4_isWay_85 ?_
                  refine lv_iconst (v := nI 1) hx hb dX4_isWay_86 (by decide) ?_
                  refine xw_iald hx hb hE hP (23, j) ((hdO.up hh).2.2.2 _ (by omega)) (i := 1) (by omega) (by omega) dX4_isWay_87 ?_
                  refine xt_i (w := nI (cA z j)) (r1.trans (w.a (by omega))) ?_
                  refine lv_iconst (v := nI 1) hx hb dX4_isWay_88 (by decide) ?_
                  refine xw_zast hx hb hE hP hS (39, 0) aw_up_self (i := cA z j) (by omega) (by omega) (x := nI 1) (by decide) dX4_isWay_89 (fun H locs hP hS => ?_)
                  have hP := hP.ct aw_up_up
                  refine lv_aload hx hb dX4_isWay_90 (lv_at hl 2 rfl) ?_
                  refine lv_aload_n hx hb dX4_isWay_92 rfl (lv_at hl 6 rfl) ?_
                  refine xw_get hx hb hts hown hE hP iw_X4 (20, 0) (hdO.up hh).1 rfl 1 (by decide) q_453 (fun x h => h) rfl dX4_isWay_93 ?_
                  refine lv_iload hx hb dX4_isWay_96 (lv_at hl 0 rfl) ?_
                  refine xw_aald3 hx hb hE hP (22, 0) (hdO.up hh).2.2.1 (i := j) (v := ad (23, j)) (if_pos (by omega)) (by omega) (by omega) dX4_isWay_98 ?_
                  refine lv_iconst (v := nI 2) hx hb dX4_isWay_99 (by decide) ?_
                  refine xw_iald hx hb hE hP (23, j) ((hdO.up hh).2.2.2 _ (by omega)) (i := 2) (by omega) (by omega) dX4_isWay_100 ?_
                  refine xt_i (w := nI (cB z j)) (r2.trans (w.b (by omega))) ?_
                  refine lv_iconst (v := nI 1) hx hb dX4_isWay_101 (by decide) ?_
                  refine xw_zast hx hb hE hP hS (39, 0) aw_up_self (i := cB z j) (by omega) (by omega) (x := nI 1) (by decide) dX4_isWay_102 (fun H locs hP hS => ?_)
                  have hP := hP.ct aw_up_up
                  exact K103  _ _ _ (hP.ct (by first | rw [wyE_0 (Or.inl c47)] | rw [wyE_0 (Or.inr c74)] | rw [wyE_1 c47 c74])) hS (lv_sub hl [0, 1, 2, 3, 4, 5, 6] rfl)
        exact K30 _ 0 (by omega) (Nat.lt_succ_self _) _ _ _ hP hS (lv_sub hl [0, 1, 2, 3, 4, 5, 6] rfl)
  exact K17 _ 0 (by omega) (Nat.lt_succ_self _) _ _ _ hP hS (lv_sub hl [0, 1, 5, 4, 3, 2] rfl)

set_option maxHeartbeats 4000000 in
set_option maxRecDepth 100000 in
theorem c_X4_floats (l : Launch) {D : va_G} {y : Nat → ClassId} {A : Nat → Prop} {ad : xL → Nat} {ct : xL → Option va_E} {nr ne : Nat} {fr : Nat → Int32} {fk : Nat → Nat} {fw : Nat → Nat → Int32} {Hs : Heap} (hP : xW D A ad ct Hs) (hh : hdO y ad ct nr fr ne fk fw) (hT : ct (39, 0) = none) {z : xC} (hR : Rh z nr fr ne fk fw) (w : wf z) {a τ : Nat} (ha : a < nN z) (hτ : τ ≤ 999) : Met l yX4_floats (.code yX4_floats cX4_floats 4 (some .boolean) :: WG) { frames := 3, cells := 8, slots := 64, locals := 72 } (xPc [.ref (ad (20, 0)), .int (nI a), .int (nI τ)] D y Hs) (xQ (fun v H1 => v = some (.int (aflI z (gM z (nI τ) a))) ∧ xW D A ad ct H1) A) 8 64 A := by
  refine xM_go (by decide) (Nat.le_of_ble_eq_true rfl) (fun p e s m args below meth c ls R Q hx hb hr hlocks hml hown hts hH hE hnm hRf hRl hRc hRs hQ hS hl => ?_)
  have hRf : R.frames = 3 := hRf
  have hRl : R.locals = 72 := hRl
  have hRc : R.cells = 8 := hRc
  have hRs : R.slots = 64 := hRs
  have hl : lv_has ls 4 [(0, .ref (ad (20, 0))), (1, .int (nI a)), (2, .int (nI τ))] := hl
  have hN := w.N
  have hE20 := w.E
  have e1 := hR.1
  have e2 := hR.2.1
  refine lv_iconst (v := nI 0) hx hb dX4_floats_0 (by decide) ?_
  refine lv_istore_n (lv' := [(3, .int (nI 0)), (0, .ref (ad (20, 0))), (1, .int (nI a)), (2, .int (nI τ))]) hx hb dX4_floats_1 rfl hl (by decide) rfl (fun ls hl => ?_)
  have K2 : ∀ (nn : Nat), ∀ (k : Nat), (k ≤ nN z) → (aflB z (gM z (nI τ) a) k = true) → nN z - k < nn → ∀ (H : Heap) (locs : List Loc) (ls : Array Slot), xW D A ad ct H → va_S A Hs H locs → lv_has ls 4 [(3, .int (nI k)), (2, .int (nI τ)), (1, .int (nI a)), (0, .ref (ad (20, 0)))] → W p l e R s m args below meth c H locs k (8 * k) Q (F0 m 2 ls []) := by
    intro nn
    induction nn with
    | zero => intro k hk hf h; exact absurd h (Nat.not_lt_zero _)
    | succ nn ih2 =>
      intro k hk hf hn2 H locs ls hP hS hl
      refine lv_iload_n hx hb dX4_floats_2 rfl (lv_at hl 0 rfl) ?_
      refine lv_aload_n hx hb dX4_floats_3 rfl (lv_at hl 3 rfl) ?_
      refine xw_get hx hb hts hown hE hP iw_X4 (20, 0) hh.1 rfl 0 (by decide) q_451 (fun x h => h) rfl dX4_floats_4 ?_
      refine xw_ialen hx hb hE hP (21, 0) hh.2.1 dX4_floats_7 ?_
      refine lv_icmp_ge (tgt := 40) hx hb dX4_floats_8 (by decide) (fun c8 => ?_) (fun c8 => ?_)
      · skip
        have c8 := ni_le (a := nr) (b := k) (by omega) (by omega) c8
        refine lv_iconst (v := nI 1) hx hb dX4_floats_40 (by decide) ?_
        exact xe_zret hQ hx hb hr hlocks hH hS (by first | assumption | decide | omega) (by omega) (by omega) (⟨by rw [aflI, if_pos (by rw [show nN z = k by omega]; exact hf)], hP⟩) dX4_floats_41
      · skip
        have c8 := ni_nle (a := nr) (b := k) (by omega) (by omega) c8
        refine lv_aload_n hx hb dX4_floats_11 rfl (lv_at hl 3 rfl) ?_
        refine xw_get hx hb hts hown hE hP iw_X4 (20, 0) hh.1 rfl 0 (by decide) q_451 (fun x h => h) rfl dX4_floats_12 ?_
        refine lv_iload_n hx hb dX4_floats_15 rfl (lv_at hl 0 rfl) ?_
        refine xw_iald hx hb hE hP (21, 0) hh.2.1 (i := k) (by omega) (by omega) dX4_floats_16 ?_
        refine lv_bipush (v := nI 100) hx hb dX4_floats_17 (by decide) ?_
        refine lv_icmp_ge (tgt := 34) hx hb dX4_floats_19 (by decide) (fun c19 => ?_) (fun c19 => ?_)
        · skip
          have c19 : ¬ fr k < nI 100 := Int32.not_lt.mpr c19
          refine lv_iinc (v := nI (k + 1)) (lv' := [(3, .int (nI (k + 1))), (2, .int (nI τ)), (1, .int (nI a)), (0, .ref (ad (20, 0)))]) hx hb dX4_floats_34 hl (k := 0) rfl (nI_1 _) (by decide) rfl (fun ls hl => ?_)
          refine lv_goto (tgt := 2) hx hb dX4_floats_37 (by decide) ?_
          refine W.widen (k := (k + 1)) (n := 8 * (k + 1)) (by omega) (by omega) ?_
          exact ih2 (k + 1) (by omega) (aflB_s1 hf (by first | exact Or.inl (Classical.byContradiction (fun g => c19 ((hR.rl w (by omega)).mpr g))) | exact Or.inr (nb0 c29))) (by omega) _ _ _ hP hS (lv_sub hl [0, 1, 2, 3] rfl)
        · skip
          have c19 : fr k < nI 100 := Int32.not_le.mp c19
          refine lv_aload_n hx hb dX4_floats_22 rfl (lv_at hl 3 rfl) ?_
          refine lv_iload_n hx hb dX4_floats_23 rfl (lv_at hl 2 rfl) ?_
          refine lv_iload_n hx hb dX4_floats_24 rfl (lv_at hl 0 rfl) ?_
          refine lv_iload_n hx hb dX4_floats_25 rfl (lv_at hl 1 rfl) ?_
          refine xw_callV (C := "NetlistBenchLaw$Hand") (n := 3) [.int (nI a), .int (nI k), .int (nI τ)] (c_X4_isWay l hP hh hT hR w ha (b := k) (by omega) hτ) hx hb hml hown hts hE hS (xw_recv hE hP (20, 0) hh.1 rfl) rfl rfl q_26 q_431 q_420 q_418 q_419 (by decide) rfl ⟨by rw [hRf]; decide, by rw [hRl]; decide⟩ hl.1 rfl (Nat.le_of_ble_eq_true rfl) dX4_floats_26 ⟨by rw [hRc]; omega, by rw [hRs]; omega⟩ (fun v H1 locs hp hS => ?_)
          obtain ⟨hv, hP⟩ := hp; subst hv; generalize H1 = H at hP hS ⊢
          refine lv_if_eq (tgt := 34) hx hb dX4_floats_29 (by decide) (fun c29 => ?_) (fun c29 => ?_)
          · skip
            have c29 := b_f c29
            refine lv_iinc (v := nI (k + 1)) (lv' := [(3, .int (nI (k + 1))), (2, .int (nI τ)), (1, .int (nI a)), (0, .ref (ad (20, 0)))]) hx hb dX4_floats_34 hl (k := 0) rfl (nI_1 _) (by decide) rfl (fun ls hl => ?_)
            refine lv_goto (tgt := 2) hx hb dX4_floats_37 (by decide) ?_
            refine W.widen (k := (k + 1)) (n := 8 * (k + 1)) (by omega) (by omega) ?_
            exact ih2 (k + 1) (by omega) (aflB_s1 hf (by first | exact Or.inl (Classical.byContradiction (fun g => c19 ((hR.rl w (by omega)).mpr g))) | exact Or.inr (nb0 c29))) (by omega) _ _ _ hP hS (lv_sub hl [0, 1, 2, 3] rfl)
          · skip
            have c29 := b_t c29
            refine lv_iconst (v := nI 0) hx hb dX4_floats_32 (by decide) ?_
            exact xe_zret hQ hx hb hr hlocks hH hS (by first | assumption | decide | omega) (by omega) (by omega) (⟨by rw [aflI, if_neg (by rw [aflB_s0 ((hR.rl w (by omega)).mp c19) (nb1 c29) (nN z) (by omega)]; decide)], hP⟩) dX4_floats_33
  refine W.widen (k := 0) (n := 8 * 0) (by omega) (by omega) ?_
  exact K2 _ 0 (by omega) rfl (Nat.lt_succ_self _) _ _ _ hP hS (lv_sub hl [0, 3, 2, 1] rfl)
