set_option maxHeartbeats 4000000 in
set_option maxRecDepth 100000 in
theorem c_X4_resize (l : Launch) {D : va_G} {y : Nat → ClassId} {A : Nat → Prop} {ad : xL → Nat} {th : Int32} {w : xC} {qp : Nat → Int32} {qm : Nat → Int64} {qr : Nat → Int64} {qi : Nat → Int64} {qn : Nat → Int64} {qf : Nat → Int32} {qu : Int32} {qd : Int64} {fB fO : Nat → Nat → Option va_E} {Hs : Heap} (hP : xW D A ad (wU fB (wR y ad th w qp qm qr qi qn qf qu qd) fO) Hs) {z : xC} (hq : Rq z w) (hw : wf z) (x k : Int32) : Met l yX4_resize (.code yX4_resize cX4_resize 4 (some .int) :: WG) { frames := 2, cells := 0, slots := 0, locals := 43 } (xPc [.ref (ad (20, 0)), .int x, .int k] D y Hs) (xQ (fun v H1 => ∃ r, v = some (.int r) ∧ (tRes z x k = 0 → r = eZ z (clN x)) ∧ xRf D A y ad (if tRes z x k = 0 then s_eZ z (upd (eZ z) (clN x) k) else z) fB fO (tRes z x k) H1) A) 0 0 A := by
  refine xM_go (by decide) (Nat.le_of_ble_eq_true rfl) (fun p e s m args below meth c ls R Q hx hb hr hlocks hml hown hts hH hE hnm hRf hRl hRc hRs hQ hS hl => ?_)
  have hRf : R.frames = 2 := hRf
  have hRl : R.locals = 43 := hRl
  have hRc : R.cells = 0 := hRc
  have hRs : R.slots = 0 := hRs
  have hl : lv_has ls 4 [(0, .ref (ad (20, 0))), (1, .int x), (2, .int k)] := hl
  have hN := hw.N
  have hE20 := hw.E
  refine lv_aload_n hx hb dX4_resize_0 rfl (lv_at hl 0 rfl) ?_
  refine lv_iconst (v := nI 0) hx hb dX4_resize_1 (by decide) ?_
  refine fp_X4_thrown hx hb hts hown hE hS hP q_728 dX4_resize_2 (fun H locs hP hS => ?_)
  refine lv_aload_n hx hb dX4_resize_5 rfl (lv_at hl 0 rfl) ?_
  refine lv_iload_n hx hb dX4_resize_6 rfl (lv_at hl 1 rfl) ?_
  refine xw_callV (C := "NetlistBenchModel") (n := 1) [.int x] (c_X4_isElement l hP hq hw x) hx hb hml hown hts hE hS (xw_recv hE hP (20, 0) rfl rfl) rfl rfl q_48 q_824 q_827 q_826 q_28 (by decide) rfl ⟨by rw [hRf]; decide, by rw [hRl]; decide⟩ hl.1 rfl (Nat.le_of_ble_eq_true rfl) dX4_resize_7 ⟨by rw [hRc]; decide, by rw [hRs]; decide⟩ (fun v H1 locs hp hS => ?_)
  obtain ⟨hv, hh⟩ := hp; subst hv; subst hh
  refine lv_if_ne (tgt := 19) hx hb dX4_resize_10 (by decide) (fun c10 => ?_) (fun c10 => ?_)
  · skip
    have c10 := b_t c10
    obtain ⟨j, hj, exj⟩ := elP_i hw c10
    subst exj
    refine lv_aload_n hx hb dX4_resize_19 rfl (lv_at hl 0 rfl) ?_
    refine fg_X4_areSources hx hb hts hown hE hP q_733 dX4_resize_20 ?_
    refine lv_iload_n hx hb dX4_resize_23 rfl (lv_at hl 1 rfl) ?_
    refine al_areSources hx hb hE hP (j := j) (by omega) dX4_resize_24 ?_
    refine xt_i (hq.s (by first | assumption | omega)) ?_
    refine lv_iload_n hx hb dX4_resize_25 rfl (lv_at hl 2 rfl) ?_
    refine xw_callS (n := 2) [.int (eS z j), .int k] (c_X4_isSize l (eS z j) k) hx hb hml hown hts hE hS rfl rfl q_48 q_817 q_819 q_818 (by decide) rfl ⟨by rw [hRf]; decide, by rw [hRl]; decide⟩ hl.1 rfl (Nat.le_of_ble_eq_true rfl) dX4_resize_26 ⟨by rw [hRc]; decide, by rw [hRs]; decide⟩ (fun v H1 locs hp hS => ?_)
    obtain ⟨hv, hh⟩ := hp; subst hv; subst hh
    refine lv_if_ne (tgt := 38) hx hb dX4_resize_29 (by decide) (fun c29 => ?_) (fun c29 => ?_)
    · skip
      have c29 := b_t c29
      refine lv_aload_n hx hb dX4_resize_38 rfl (lv_at hl 0 rfl) ?_
      refine fg_X4_sizes hx hb hts hown hE hP q_736 dX4_resize_39 ?_
      refine lv_iload_n hx hb dX4_resize_42 rfl (lv_at hl 1 rfl) ?_
      refine al_sizes hx hb hE hP (j := j) (by omega) dX4_resize_43 ?_
      refine xt_i (hq.z (by first | assumption | omega)) ?_
      refine lv_istore_n (lv' := [(3, .int (eZ z j)), (0, .ref (ad (20, 0))), (1, .int (nI j)), (2, .int k)]) hx hb dX4_resize_44 rfl hl (by decide) rfl (fun ls hl => ?_)
      refine lv_aload_n hx hb dX4_resize_45 rfl (lv_at hl 1 rfl) ?_
      refine fg_X4_sizes hx hb hts hown hE hP q_736 dX4_resize_46 ?_
      refine lv_iload_n hx hb dX4_resize_49 rfl (lv_at hl 2 rfl) ?_
      refine lv_iload_n hx hb dX4_resize_50 rfl (lv_at hl 3 rfl) ?_
      refine as_sizes hx hb hE hS hP (j := j) (by omega) dX4_resize_51 (fun H locs hP hS => ?_)
      refine lv_iload_n hx hb dX4_resize_52 rfl (lv_at hl 0 rfl) ?_
      have eT : tRes z (nI j) k = 0 := by rw [tRes, if_neg (not_not_intro c10), cl_nI (by omega), if_neg (not_not_intro c29)]
      exact xe_iret hQ hx hb hr hlocks hH hS (Nat.le_refl _) (Nat.le_refl _) (⟨_, rfl, fun _ => by rw [cl_nI (by omega)], by rw [eT, if_pos rfl]; exact (by rw [cl_nI (by omega)]; exact hP.R (rq_eZ hq j k))⟩) dX4_resize_53
    · skip
      have c29 := b_f c29
      refine lv_aload_n hx hb dX4_resize_32 rfl (lv_at hl 0 rfl) ?_
      refine lv_iconst (v := nI 2) hx hb dX4_resize_33 (by decide) ?_
      refine xw_callV (C := "NetlistBenchModel") (n := 1) [.int (nI 2)] (c_X4_fail l hP (nI 2)) hx hb hml hown hts hE hS (xw_recv hE hP (20, 0) rfl rfl) rfl rfl q_48 q_798 q_801 q_800 q_26 (by decide) rfl ⟨by rw [hRf]; decide, by rw [hRl]; decide⟩ hl.1 rfl (Nat.le_of_ble_eq_true rfl) dX4_resize_34 ⟨by rw [hRc]; decide, by rw [hRs]; decide⟩ (fun v H1 locs hp hS => ?_)
      obtain ⟨hv, hP⟩ := hp; subst hv
      generalize H1 = H at hP hS ⊢
      have eT : tRes z (nI j) k = (nI 2) := by rw [tRes, if_neg (not_not_intro c10), cl_nI (by omega), if_pos c29]; rfl
      exact xe_iret hQ hx hb hr hlocks hH hS (Nat.le_refl _) (Nat.le_refl _) (⟨_, rfl, fun h => absurd (eT.symm.trans h) (by decide), by rw [eT, if_neg (by decide)]; exact hP.R hq⟩) dX4_resize_37
  · skip
    have c10 := b_f c10
    refine lv_aload_n hx hb dX4_resize_13 rfl (lv_at hl 0 rfl) ?_
    refine lv_iconst (v := nI 1) hx hb dX4_resize_14 (by decide) ?_
    refine xw_callV (C := "NetlistBenchModel") (n := 1) [.int (nI 1)] (c_X4_fail l hP (nI 1)) hx hb hml hown hts hE hS (xw_recv hE hP (20, 0) rfl rfl) rfl rfl q_48 q_798 q_801 q_800 q_26 (by decide) rfl ⟨by rw [hRf]; decide, by rw [hRl]; decide⟩ hl.1 rfl (Nat.le_of_ble_eq_true rfl) dX4_resize_15 ⟨by rw [hRc]; decide, by rw [hRs]; decide⟩ (fun v H1 locs hp hS => ?_)
    obtain ⟨hv, hP⟩ := hp; subst hv
    generalize H1 = H at hP hS ⊢
    have eT : tRes z x k = (nI 1) := by rw [tRes, if_pos c10]; rfl
    exact xe_iret hQ hx hb hr hlocks hH hS (Nat.le_refl _) (Nat.le_refl _) (⟨_, rfl, fun h => absurd (eT.symm.trans h) (by decide), by rw [eT, if_neg (by decide)]; exact hP.R hq⟩) dX4_resize_18

set_option maxHeartbeats 4000000 in
set_option maxRecDepth 100000 in
theorem c_X4_begin (l : Launch) {D : va_G} {y : Nat → ClassId} {A : Nat → Prop} {ad : xL → Nat} {th : Int32} {w : xC} {qp : Nat → Int32} {qm : Nat → Int64} {qr : Nat → Int64} {qi : Nat → Int64} {qn : Nat → Int64} {qf : Nat → Int32} {qu : Int32} {qd : Int64} {fB fO : Nat → Nat → Option va_E} {Hs : Heap} (hP : xW D A ad (wU fB (wR y ad th w qp qm qr qi qn qf qu qd) fO) Hs) {z : xC} (hq : Rq z w) (hw : wf z) (x b : Int32) (hb01 : b = 0 ∨ b = 1) : Met l yX4_begin (.code yX4_begin cX4_begin 4 (some .boolean) :: WG) { frames := 2, cells := 0, slots := 0, locals := 43 } (xPc [.ref (ad (20, 0)), .int x, .int b] D y Hs) (xQ (fun v H1 => ∃ r, v = some (.int r) ∧ (tBeg z x = 0 → r = eO z (clN x)) ∧ xRf D A y ad (if tBeg z x = 0 then s_eO z (upd (eO z) (clN x) b) else z) fB fO (tBeg z x) H1) A) 0 0 A := by
  refine xM_go (by decide) (Nat.le_of_ble_eq_true rfl) (fun p e s m args below meth c ls R Q hx hb hr hlocks hml hown hts hH hE hnm hRf hRl hRc hRs hQ hS hl => ?_)
  have hRf : R.frames = 2 := hRf
  have hRl : R.locals = 43 := hRl
  have hRc : R.cells = 0 := hRc
  have hRs : R.slots = 0 := hRs
  have hl : lv_has ls 4 [(0, .ref (ad (20, 0))), (1, .int x), (2, .int b)] := hl
  have hN := hw.N
  have hE20 := hw.E
  refine lv_aload_n hx hb dX4_begin_0 rfl (lv_at hl 0 rfl) ?_
  refine lv_aload_n hx hb dX4_begin_1 rfl (lv_at hl 0 rfl) ?_
  refine lv_iload_n hx hb dX4_begin_2 rfl (lv_at hl 1 rfl) ?_
  refine xw_callV (C := "NetlistBenchModel") (n := 1) [.int x] (c_X4_isElement l hP hq hw x) hx hb hml hown hts hE hS (xw_recv hE hP (20, 0) rfl rfl) rfl rfl q_48 q_824 q_827 q_826 q_28 (by decide) rfl ⟨by rw [hRf]; decide, by rw [hRl]; decide⟩ hl.1 rfl (Nat.le_of_ble_eq_true rfl) dX4_begin_3 ⟨by rw [hRc]; decide, by rw [hRs]; decide⟩ (fun v H1 locs hp hS => ?_)
  obtain ⟨hv, hh⟩ := hp; subst hv; subst hh
  refine lv_if_eq (tgt := 13) hx hb dX4_begin_6 (by decide) (fun c6 => ?_) (fun c6 => ?_)
  · skip
    have c6 := b_f c6
    refine lv_iconst (v := nI 1) hx hb dX4_begin_13 (by decide) ?_
    refine fp_X4_thrown hx hb hts hown hE hS hP q_728 dX4_begin_14 (fun H locs hP hS => ?_)
    refine lv_aload_n hx hb dX4_begin_17 rfl (lv_at hl 0 rfl) ?_
    refine fg_X4_thrown hx hb hts hown hE hP q_728 dX4_begin_18 ?_
    refine lv_if_eq (tgt := 26) hx hb dX4_begin_21 (by decide) (fun c21 => ?_) (fun c21 => ?_)
    · skip
      have c21 := ni_eq (a := 1) (b := 0) (by omega) (by omega) c21
      exfalso; omega
    · skip
      have c21 := ni_ne (a := 1) (b := 0) (by omega) (by omega) c21
      refine lv_iconst (v := nI 0) hx hb dX4_begin_24 (by decide) ?_
      have eT : tBeg z x = nI 1 := by rw [tBeg, if_pos c6]; rfl
      exact xe_zret hQ hx hb hr hlocks hH hS (by first | exact Or.inl rfl | exact hw.o hj) (Nat.le_refl _) (Nat.le_refl _) (⟨_, rfl, fun h => absurd (eT.symm.trans h) (by decide), by rw [eT, if_neg (by decide)]; exact hP.R hq⟩) dX4_begin_25
  · skip
    have c6 := b_t c6
    obtain ⟨j, hj, exj⟩ := elP_i hw c6
    subst exj
    refine lv_iconst (v := nI 0) hx hb dX4_begin_9 (by decide) ?_
    refine lv_goto (tgt := 14) hx hb dX4_begin_10 (by decide) ?_
    refine fp_X4_thrown hx hb hts hown hE hS hP q_728 dX4_begin_14 (fun H locs hP hS => ?_)
    refine lv_aload_n hx hb dX4_begin_17 rfl (lv_at hl 0 rfl) ?_
    refine fg_X4_thrown hx hb hts hown hE hP q_728 dX4_begin_18 ?_
    refine lv_if_eq (tgt := 26) hx hb dX4_begin_21 (by decide) (fun c21 => ?_) (fun c21 => ?_)
    · skip
      have c21 := ni_eq (a := 0) (b := 0) (by omega) (by omega) c21
      refine lv_aload_n hx hb dX4_begin_26 rfl (lv_at hl 0 rfl) ?_
      refine fg_X4_areOn hx hb hts hown hE hP q_737 dX4_begin_27 ?_
      refine lv_iload_n hx hb dX4_begin_30 rfl (lv_at hl 1 rfl) ?_
      refine al_areOn hx hb hE hP (j := j) (by omega) dX4_begin_31 ?_
      refine xt_i (hq.o (by first | assumption | omega)) ?_
      refine lv_istore_n (lv' := [(3, .int (eO z j)), (0, .ref (ad (20, 0))), (1, .int (nI j)), (2, .int b)]) hx hb dX4_begin_32 rfl hl (by decide) rfl (fun ls hl => ?_)
      refine lv_aload_n hx hb dX4_begin_33 rfl (lv_at hl 1 rfl) ?_
      refine fg_X4_areOn hx hb hts hown hE hP q_737 dX4_begin_34 ?_
      refine lv_iload_n hx hb dX4_begin_37 rfl (lv_at hl 2 rfl) ?_
      refine lv_iload_n hx hb dX4_begin_38 rfl (lv_at hl 3 rfl) ?_
      refine as_areOn hx hb hE hS hP (j := j) (by omega) (by first | assumption | decide | omega) dX4_begin_39 (fun H locs hP hS => ?_)
      refine lv_iload_n hx hb dX4_begin_40 rfl (lv_at hl 0 rfl) ?_
      have eT : tBeg z (nI j) = 0 := by rw [tBeg, if_neg (not_not_intro c6)]
      exact xe_zret hQ hx hb hr hlocks hH hS (by first | exact Or.inl rfl | exact hw.o hj) (Nat.le_refl _) (Nat.le_refl _) (⟨_, rfl, fun _ => by rw [cl_nI (by omega)], by rw [eT, if_pos rfl]; exact (by rw [cl_nI (by omega)]; exact hP.R (rq_eO hq j b))⟩) dX4_begin_41
    · skip
      have c21 := ni_ne (a := 0) (b := 0) (by omega) (by omega) c21
      exfalso; omega

set_option maxHeartbeats 4000000 in
set_option maxRecDepth 100000 in
theorem c_X4_rail (l : Launch) {D : va_G} {y : Nat → ClassId} {A : Nat → Prop} {ad : xL → Nat} {th : Int32} {w : xC} {qp : Nat → Int32} {qm : Nat → Int64} {qr : Nat → Int64} {qi : Nat → Int64} {qn : Nat → Int64} {qf : Nat → Int32} {qu : Int32} {qd : Int64} {fB fO : Nat → Nat → Option va_E} {Hs : Heap} (hP : xW D A ad (wU fB (wR y ad th w qp qm qr qi qn qf qu qd) fO) Hs) {z : xC} (hq : Rq z w) (hw : wf z) (x b k : Int32) (hb01 : b = 0 ∨ b = 1) : Met l yX4_rail (.code yX4_rail cX4_rail 5 (some .boolean) :: WG) { frames := 2, cells := 0, slots := 0, locals := 43 } (xPc [.ref (ad (20, 0)), .int x, .int b, .int k] D y Hs) (xQ (fun v H1 => ∃ r, v = some (.int r) ∧ (tRail z x b k = 0 → r = nR z (clN x)) ∧ xRf D A y ad (if tRail z x b k = 0 then zRail z (clN x) b k else z) fB fO (tRail z x b k) H1) A) 0 0 A := by
  refine xM_go (by decide) (Nat.le_of_ble_eq_true rfl) (fun p e s m args below meth c ls R Q hx hb hr hlocks hml hown hts hH hE hnm hRf hRl hRc hRs hQ hS hl => ?_)
  have hRf : R.frames = 2 := hRf
  have hRl : R.locals = 43 := hRl
  have hRc : R.cells = 0 := hRc
  have hRs : R.slots = 0 := hRs
  have hl : lv_has ls 5 [(0, .ref (ad (20, 0))), (1, .int x), (2, .int b), (3, .int k)] := hl
  have hN := hw.N
  have hE20 := hw.E
  refine lv_aload_n hx hb dX4_rail_0 rfl (lv_at hl 0 rfl) ?_
  refine lv_aload_n hx hb dX4_rail_1 rfl (lv_at hl 0 rfl) ?_
  refine lv_iload_n hx hb dX4_rail_2 rfl (lv_at hl 1 rfl) ?_
  refine xw_callV (C := "NetlistBenchModel") (n := 1) [.int x] (c_X4_isNode l hP hq hw x) hx hb hml hown hts hE hS (xw_recv hE hP (20, 0) rfl rfl) rfl rfl q_48 q_806 q_809 q_808 q_27 (by decide) rfl ⟨by rw [hRf]; decide, by rw [hRl]; decide⟩ hl.1 rfl (Nat.le_of_ble_eq_true rfl) dX4_rail_3 ⟨by rw [hRc]; decide, by rw [hRs]; decide⟩ (fun v H1 locs hp hS => ?_)
  obtain ⟨hv, hh⟩ := hp; subst hv; subst hh
  refine lv_if_ne (tgt := 13) hx hb dX4_rail_6 (by decide) (fun c6 => ?_) (fun c6 => ?_)
  · skip
    have c6 := b_t c6
    obtain ⟨j, hj, exj⟩ := nodeP_i hw c6
    subst exj
    refine lv_iload_n hx hb dX4_rail_13 rfl (lv_at hl 2 rfl) ?_
    refine lv_if_eq (tgt := 32) hx hb dX4_rail_14 (by decide) (fun c14 => ?_) (fun c14 => ?_)
    · skip
      refine lv_iconst (v := nI 0) hx hb dX4_rail_32 (by decide) ?_
      refine fp_X4_thrown hx hb hts hown hE hS hP q_728 dX4_rail_33 (fun H locs hP hS => ?_)
      refine lv_aload_n hx hb dX4_rail_36 rfl (lv_at hl 0 rfl) ?_
      refine fg_X4_thrown hx hb hts hown hE hP q_728 dX4_rail_37 ?_
      refine lv_if_eq (tgt := 45) hx hb dX4_rail_40 (by decide) (fun c40 => ?_) (fun c40 => ?_)
      · skip
        have c40 := ni_eq (a := 0) (b := 0) (by omega) (by omega) c40
        refine lv_aload_n hx hb dX4_rail_45 rfl (lv_at hl 0 rfl) ?_
        refine fg_X4_areRails hx hb hts hown hE hP q_730 dX4_rail_46 ?_
        refine lv_iload_n hx hb dX4_rail_49 rfl (lv_at hl 1 rfl) ?_
        refine al_areRails hx hb hE hP (j := j) (by omega) dX4_rail_50 ?_
        refine xt_i (hq.r (by first | assumption | omega)) ?_
        refine lv_istore (lv' := [(4, .int (nR z j)), (0, .ref (ad (20, 0))), (1, .int (nI j)), (2, .int b), (3, .int k)]) hx hb dX4_rail_51 hl (by decide) rfl (fun ls hl => ?_)
        refine lv_aload_n hx hb dX4_rail_53 rfl (lv_at hl 1 rfl) ?_
        refine fg_X4_areRails hx hb hts hown hE hP q_730 dX4_rail_54 ?_
        refine lv_iload_n hx hb dX4_rail_57 rfl (lv_at hl 2 rfl) ?_
        refine lv_iload_n hx hb dX4_rail_58 rfl (lv_at hl 3 rfl) ?_
        refine as_areRails hx hb hE hS hP (j := j) (by omega) (by first | assumption | decide | omega) dX4_rail_59 (fun H locs hP hS => ?_)
        refine lv_aload_n hx hb dX4_rail_60 rfl (lv_at hl 1 rfl) ?_
        refine fg_X4_railPotentials hx hb hts hown hE hP q_731 dX4_rail_61 ?_
        refine lv_iload_n hx hb dX4_rail_64 rfl (lv_at hl 2 rfl) ?_
        refine lv_iload_n hx hb dX4_rail_65 rfl (lv_at hl 4 rfl) ?_
        refine as_railPotentials hx hb hE hS hP (j := j) (by omega) dX4_rail_66 (fun H locs hP hS => ?_)
        refine lv_iload hx hb dX4_rail_67 (lv_at hl 0 rfl) ?_
        have eT : tRail z (nI j) b k = 0 := by rw [tRail, if_neg (not_not_intro c6), if_neg (fun h => h.1 c14)]
        exact xe_zret hQ hx hb hr hlocks hH hS (by first | exact Or.inl rfl | exact hw.r hj) (Nat.le_refl _) (Nat.le_refl _) (⟨_, rfl, fun _ => by rw [cl_nI (by omega)], by rw [eT, if_pos rfl]; exact (by rw [cl_nI (by omega)]; exact hP.R (rq_rail hq j b k))⟩) dX4_rail_69
      · skip
        have c40 := ni_ne (a := 0) (b := 0) (by omega) (by omega) c40
        exfalso; omega
    · skip
      refine lv_iload_n hx hb dX4_rail_17 rfl (lv_at hl 3 rfl) ?_
      refine lv_bipush (v := (-99)) hx hb dX4_rail_18 (by decide) ?_
      refine lv_bipush (v := nI 99) hx hb dX4_rail_20 (by decide) ?_
      refine xw_callS (n := 3) [.int k, .int ((-99)), .int (nI 99)] (c_X4_isIn l k (-99) (nI 99)) hx hb hml hown hts hE hS rfl rfl q_48 q_810 q_812 q_811 (by decide) rfl ⟨by rw [hRf]; decide, by rw [hRl]; decide⟩ hl.1 rfl (Nat.le_of_ble_eq_true rfl) dX4_rail_22 ⟨by rw [hRc]; decide, by rw [hRs]; decide⟩ (fun v H1 locs hp hS => ?_)
      obtain ⟨hv, hh⟩ := hp; subst hv; subst hh
      refine lv_if_ne (tgt := 32) hx hb dX4_rail_25 (by decide) (fun c25 => ?_) (fun c25 => ?_)
      · skip
        have c25 := b_t c25
        refine lv_iconst (v := nI 0) hx hb dX4_rail_32 (by decide) ?_
        refine fp_X4_thrown hx hb hts hown hE hS hP q_728 dX4_rail_33 (fun H locs hP hS => ?_)
        refine lv_aload_n hx hb dX4_rail_36 rfl (lv_at hl 0 rfl) ?_
        refine fg_X4_thrown hx hb hts hown hE hP q_728 dX4_rail_37 ?_
        refine lv_if_eq (tgt := 45) hx hb dX4_rail_40 (by decide) (fun c40 => ?_) (fun c40 => ?_)
        · skip
          have c40 := ni_eq (a := 0) (b := 0) (by omega) (by omega) c40
          refine lv_aload_n hx hb dX4_rail_45 rfl (lv_at hl 0 rfl) ?_
          refine fg_X4_areRails hx hb hts hown hE hP q_730 dX4_rail_46 ?_
          refine lv_iload_n hx hb dX4_rail_49 rfl (lv_at hl 1 rfl) ?_
          refine al_areRails hx hb hE hP (j := j) (by omega) dX4_rail_50 ?_
          refine xt_i (hq.r (by first | assumption | omega)) ?_
          refine lv_istore (lv' := [(4, .int (nR z j)), (0, .ref (ad (20, 0))), (1, .int (nI j)), (2, .int b), (3, .int k)]) hx hb dX4_rail_51 hl (by decide) rfl (fun ls hl => ?_)
          refine lv_aload_n hx hb dX4_rail_53 rfl (lv_at hl 1 rfl) ?_
          refine fg_X4_areRails hx hb hts hown hE hP q_730 dX4_rail_54 ?_
          refine lv_iload_n hx hb dX4_rail_57 rfl (lv_at hl 2 rfl) ?_
          refine lv_iload_n hx hb dX4_rail_58 rfl (lv_at hl 3 rfl) ?_
          refine as_areRails hx hb hE hS hP (j := j) (by omega) (by first | assumption | decide | omega) dX4_rail_59 (fun H locs hP hS => ?_)
          refine lv_aload_n hx hb dX4_rail_60 rfl (lv_at hl 1 rfl) ?_
          refine fg_X4_railPotentials hx hb hts hown hE hP q_731 dX4_rail_61 ?_
          refine lv_iload_n hx hb dX4_rail_64 rfl (lv_at hl 2 rfl) ?_
          refine lv_iload_n hx hb dX4_rail_65 rfl (lv_at hl 4 rfl) ?_
          refine as_railPotentials hx hb hE hS hP (j := j) (by omega) dX4_rail_66 (fun H locs hP hS => ?_)
          refine lv_iload hx hb dX4_rail_67 (lv_at hl 0 rfl) ?_
          have eT : tRail z (nI j) b k = 0 := by rw [tRail, if_neg (not_not_intro c6), if_neg (fun h => h.2 ⟨Int32.not_lt.mp (fun g => c25 (Or.inl g)), Int32.not_lt.mp (fun g => c25 (Or.inr g))⟩)]
          exact xe_zret hQ hx hb hr hlocks hH hS (by first | exact Or.inl rfl | exact hw.r hj) (Nat.le_refl _) (Nat.le_refl _) (⟨_, rfl, fun _ => by rw [cl_nI (by omega)], by rw [eT, if_pos rfl]; exact (by rw [cl_nI (by omega)]; exact hP.R (rq_rail hq j b k))⟩) dX4_rail_69
        · skip
          have c40 := ni_ne (a := 0) (b := 0) (by omega) (by omega) c40
          exfalso; omega
      · skip
        have c25 := b_f c25
        refine lv_iconst (v := nI 2) hx hb dX4_rail_28 (by decide) ?_
        refine lv_goto (tgt := 33) hx hb dX4_rail_29 (by decide) ?_
        refine fp_X4_thrown hx hb hts hown hE hS hP q_728 dX4_rail_33 (fun H locs hP hS => ?_)
        refine lv_aload_n hx hb dX4_rail_36 rfl (lv_at hl 0 rfl) ?_
        refine fg_X4_thrown hx hb hts hown hE hP q_728 dX4_rail_37 ?_
        refine lv_if_eq (tgt := 45) hx hb dX4_rail_40 (by decide) (fun c40 => ?_) (fun c40 => ?_)
        · skip
          have c40 := ni_eq (a := 2) (b := 0) (by omega) (by omega) c40
          exfalso; omega
        · skip
          have c40 := ni_ne (a := 2) (b := 0) (by omega) (by omega) c40
          refine lv_iconst (v := nI 0) hx hb dX4_rail_43 (by decide) ?_
          have eT : tRail z (nI j) b k = nI 2 := by rw [tRail, if_neg (not_not_intro c6), if_pos ⟨c14, fun h => c25 (by rintro (g | g); exact Int32.not_lt.mpr h.1 g; exact Int32.not_lt.mpr h.2 g)⟩]; rfl
          exact xe_zret hQ hx hb hr hlocks hH hS (by first | exact Or.inl rfl | exact hw.r hj) (Nat.le_refl _) (Nat.le_refl _) (⟨_, rfl, fun h => absurd (eT.symm.trans h) (by decide), by rw [eT, if_neg (by decide)]; exact hP.R hq⟩) dX4_rail_44
  · skip
    have c6 := b_f c6
    refine lv_iconst (v := nI 1) hx hb dX4_rail_9 (by decide) ?_
    refine lv_goto (tgt := 33) hx hb dX4_rail_10 (by decide) ?_
    refine fp_X4_thrown hx hb hts hown hE hS hP q_728 dX4_rail_33 (fun H locs hP hS => ?_)
    refine lv_aload_n hx hb dX4_rail_36 rfl (lv_at hl 0 rfl) ?_
    refine fg_X4_thrown hx hb hts hown hE hP q_728 dX4_rail_37 ?_
    refine lv_if_eq (tgt := 45) hx hb dX4_rail_40 (by decide) (fun c40 => ?_) (fun c40 => ?_)
    · skip
      have c40 := ni_eq (a := 1) (b := 0) (by omega) (by omega) c40
      exfalso; omega
    · skip
      have c40 := ni_ne (a := 1) (b := 0) (by omega) (by omega) c40
      refine lv_iconst (v := nI 0) hx hb dX4_rail_43 (by decide) ?_
      have eT : tRail z x b k = nI 1 := by rw [tRail, if_pos c6]; rfl
      exact xe_zret hQ hx hb hr hlocks hH hS (by first | exact Or.inl rfl | exact hw.r hj) (Nat.le_refl _) (Nat.le_refl _) (⟨_, rfl, fun h => absurd (eT.symm.trans h) (by decide), by rw [eT, if_neg (by decide)]; exact hP.R hq⟩) dX4_rail_44

set_option maxHeartbeats 4000000 in
set_option maxRecDepth 100000 in
theorem c_X4_into (l : Launch) {D : va_G} {y : Nat → ClassId} {A : Nat → Prop} {ad : xL → Nat} {th : Int32} {w : xC} {qp : Nat → Int32} {qm : Nat → Int64} {qr : Nat → Int64} {qi : Nat → Int64} {qn : Nat → Int64} {qf : Nat → Int32} {qu : Int32} {qd : Int64} {fB fO : Nat → Nat → Option va_E} {Hs : Heap} (hP : xW D A ad (wU fB (wR y ad th w qp qm qr qi qn qf qu qd) fO) Hs) {z : xC} (hq : Rq z w) (hw : wf z) (hk : nOk z) (d0 : Int64) {t : Nat} (ht : t ≤ 999) : Met l yX4_into (.code yX4_into cX4_into 7 (some .long) :: WG) { frames := 5, cells := 0, slots := 0, locals := 117 } (xPc [.ref (ad (20, 0)), .long d0, .int (nI t)] D y Hs) (xQ (fun v H1 => ∃ (qp qf : Nat → Int32) (qm qr qi qn : Nat → Int64) (qu : Int32) (qd : Int64), v = some (.long (dgP z (nI t) d0 (nN z))) ∧ xW D A ad (wU fB (wR y ad th w qp qm qr qi qn qf qu qd) fO) H1) A) 0 0 A := by
  refine xM_go (by decide) (Nat.le_of_ble_eq_true rfl) (fun p e s m args below meth c ls R Q hx hb hr hlocks hml hown hts hH hE hnm hRf hRl hRc hRs hQ hS hl => ?_)
  have hRf : R.frames = 5 := hRf
  have hRl : R.locals = 117 := hRl
  have hRc : R.cells = 0 := hRc
  have hRs : R.slots = 0 := hRs
  have hl : lv_has ls 7 [(0, .ref (ad (20, 0))), (1, .long d0), (3, .int (nI t))] := hl
  have hN := hw.N
  have hE20 := hw.E
  refine lv_lload_n hx hb dX4_into_0 rfl (lv_at hl 1 rfl) ?_
  refine lv_lstore (lv' := [(4, .long d0), (0, .ref (ad (20, 0))), (1, .long d0), (3, .int (nI t))]) hx hb dX4_into_1 hl (by decide) rfl (fun ls hl => ?_)
  refine lv_aload_n hx hb dX4_into_3 rfl (lv_at hl 1 rfl) ?_
  refine lv_iload_n hx hb dX4_into_4 rfl (lv_at hl 3 rfl) ?_
  refine xw_callV (C := "NetlistBenchModel") (n := 1) [.int (nI t)] (c_X4_solve l hP hq hw ht) hx hb hml hown hts hE hS (xw_recv hE hP (20, 0) rfl rfl) rfl rfl q_48 q_892 q_895 q_894 q_35 (by decide) rfl ⟨by rw [hRf]; decide, by rw [hRl]; decide⟩ hl.1 rfl (Nat.le_of_ble_eq_true rfl) dX4_into_5 ⟨by rw [hRc]; decide, by rw [hRs]; decide⟩ (fun v H1 locs hp hS => ?_)
  obtain ⟨qp9, qf9, qm9, qr9, qi9, qn9, qu9, hv, hnu, hP⟩ := hp; subst hv
  generalize H1 = H at hP hS ⊢
  refine lv_iconst (v := nI 0) hx hb dX4_into_8 (by decide) ?_
  refine lv_istore (lv' := [(6, .int (nI 0)), (4, .long d0), (0, .ref (ad (20, 0))), (1, .long d0), (3, .int (nI t))]) hx hb dX4_into_9 hl (by decide) rfl (fun ls hl => ?_)
  have K11 : ∀ (nn : Nat), ∀ (i : Nat), (i ≤ nN z) → nN z - i < nn → ∀ (H : Heap) (locs : List Loc) (ls : Array Slot), xW D A ad (wU fB (wR y ad th w qp9 qm9 qr9 qi9 qn9 qf9 qu9 (deR z w (nI t))) fO) H → va_S A Hs H locs → lv_has ls 7 [(6, .int (nI i)), (4, .long (dgP z (nI t) d0 i)), (3, .int (nI t)), (0, .ref (ad (20, 0)))] → W p l e R s m args below meth c H locs 0 0 Q (F0 m 11 ls []) := by
    intro nn
    induction nn with
    | zero => intro i hi h; exact absurd h (Nat.not_lt_zero _)
    | succ nn ih11 =>
      intro i hi hn11 H locs ls hP hS hl
      refine lv_iload hx hb dX4_into_11 (lv_at hl 0 rfl) ?_
      refine lv_aload_n hx hb dX4_into_13 rfl (lv_at hl 3 rfl) ?_
      refine fg_X4_nodes hx hb hts hown hE hP q_729 dX4_into_14 ?_
      refine xt_i (congrArg nI hq.N) ?_
      refine lv_icmp_ge (tgt := 93) hx hb dX4_into_17 (by decide) (fun c17 => ?_) (fun c17 => ?_)
      · skip
        have c17 := ni_le (a := (nN z)) (b := i) (by omega) (by omega) c17
        refine lv_lload hx hb dX4_into_93 (lv_at hl 1 rfl) ?_
        exact xe_lret hQ hx hb hr hlocks hH hS (Nat.le_refl _) (Nat.le_refl _) (⟨_, _, _, _, _, _, _, _, by rw [show nN z = i by omega], hP⟩) dX4_into_95
      · skip
        have c17 := ni_nle (a := (nN z)) (b := i) (by omega) (by omega) c17
        refine lv_aload_n hx hb dX4_into_20 rfl (lv_at hl 3 rfl) ?_
        refine fg_X4_areFloating hx hb hts hown hE hP q_747 dX4_into_21 ?_
        refine lv_iload hx hb dX4_into_24 (lv_at hl 0 rfl) ?_
        refine al_areFloating hx hb hE hP (j := i) (by omega) dX4_into_26 ?_
        refine xt_i (w := aflI z (gM z (nI t) i)) ((hnu i (by omega)).2) ?_
        refine lv_if_eq (tgt := 43) hx hb dX4_into_27 (by decide) (fun c27 => ?_) (fun c27 => ?_)
        · skip
          refine lv_lload hx hb dX4_into_43 (lv_at hl 1 rfl) ?_
          refine lv_ldc2 hx hb hown (hts _ q_965) dX4_into_45 ?_
          refine lv_lmul hx hb dX4_into_48 ?_
          refine lv_aload_n hx hb dX4_into_49 rfl (lv_at hl 3 rfl) ?_
          refine fg_X4_numerators hx hb hts hown hE hP q_746 dX4_into_50 ?_
          refine lv_iload hx hb dX4_into_53 (lv_at hl 0 rfl) ?_
          refine al_numerators hx hb hE hP (j := i) (by omega) dX4_into_55 ?_
          refine xt_l (w := num z (nI t) i) (((hnu i (by omega)).1.trans (br_nu2 hq hw _ (by omega)))) ?_
          refine lv_aload_n hx hb dX4_into_56 rfl (lv_at hl 3 rfl) ?_
          refine fg_X4_denominator hx hb hts hown hE hP q_745 dX4_into_57 ?_
          refine xt_l (w := den z (nI t)) (br_de hw _) ?_
          refine lv_iconst (v := nI 1) hx hb dX4_into_60 (by decide) ?_
          refine xw_callS (n := 3) [.long (num z (nI t) i), .long (den z (nI t)), .int (nI 1)] (c_X4_part l (num z (nI t) i) (den z (nI t)) 1 (gcdW_ne (hk _).1 ((hk _).2.1 i (by omega) c27))) hx hb hml hown hts hE hS rfl rfl q_48 q_909 q_911 q_910 (by decide) rfl ⟨by rw [hRf]; decide, by rw [hRl]; decide⟩ hl.1 rfl (Nat.le_of_ble_eq_true rfl) dX4_into_61 ⟨by rw [hRc]; decide, by rw [hRs]; decide⟩ (fun v H1 locs hp hS => ?_)
          obtain ⟨hv, hh⟩ := hp; subst hv; subst hh
          refine xt_l (w := ptF (num z (nI t) i) (den z (nI t)) (nI 1)) (pt_eq (hk _).1 ((hk _).2.1 i (by omega) c27) _) ?_
          refine lv_ladd hx hb dX4_into_64 ?_
          refine lv_ldc2 hx hb hown (hts _ q_965) dX4_into_65 ?_
          refine lv_lmul hx hb dX4_into_68 ?_
          refine lv_aload_n hx hb dX4_into_69 rfl (lv_at hl 3 rfl) ?_
          refine fg_X4_numerators hx hb hts hown hE hP q_746 dX4_into_70 ?_
          refine lv_iload hx hb dX4_into_73 (lv_at hl 0 rfl) ?_
          refine al_numerators hx hb hE hP (j := i) (by omega) dX4_into_75 ?_
          refine xt_l (w := num z (nI t) i) (((hnu i (by omega)).1.trans (br_nu2 hq hw _ (by omega)))) ?_
          refine lv_aload_n hx hb dX4_into_76 rfl (lv_at hl 3 rfl) ?_
          refine fg_X4_denominator hx hb hts hown hE hP q_745 dX4_into_77 ?_
          refine xt_l (w := den z (nI t)) (br_de hw _) ?_
          refine lv_iconst (v := nI 0) hx hb dX4_into_80 (by decide) ?_
          refine xw_callS (n := 3) [.long (num z (nI t) i), .long (den z (nI t)), .int (nI 0)] (c_X4_part l (num z (nI t) i) (den z (nI t)) 0 (gcdW_ne (hk _).1 ((hk _).2.1 i (by omega) c27))) hx hb hml hown hts hE hS rfl rfl q_48 q_909 q_911 q_910 (by decide) rfl ⟨by rw [hRf]; decide, by rw [hRl]; decide⟩ hl.1 rfl (Nat.le_of_ble_eq_true rfl) dX4_into_81 ⟨by rw [hRc]; decide, by rw [hRs]; decide⟩ (fun v H1 locs hp hS => ?_)
          obtain ⟨hv, hh⟩ := hp; subst hv; subst hh
          refine xt_l (w := ptF (num z (nI t) i) (den z (nI t)) (nI 0)) (pt_eq (hk _).1 ((hk _).2.1 i (by omega) c27) _) ?_
          refine lv_ladd hx hb dX4_into_84 ?_
          refine lv_lstore (lv' := [(4, .long (((((dgP z (nI t) d0 i) * 31) + (ptF (num z (nI t) i) (den z (nI t)) (nI 1))) * 31) + (ptF (num z (nI t) i) (den z (nI t)) (nI 0)))), (6, .int (nI i)), (3, .int (nI t)), (0, .ref (ad (20, 0)))]) hx hb dX4_into_85 hl (by decide) rfl (fun ls hl => ?_)
          have e85 : ((((dgP z (nI t) d0 i) * 31) + (ptF (num z (nI t) i) (den z (nI t)) (nI 1))) * 31) + (ptF (num z (nI t) i) (den z (nI t)) (nI 0)) = dgP z (nI t) d0 (i + 1) := by rw [dgP, if_pos c27]; rfl
          have hl : lv_has ls 7 [(4, .long (dgP z (nI t) d0 (i + 1))), (6, .int (nI i)), (3, .int (nI t)), (0, .ref (ad (20, 0)))] := by rw [← e85]; exact hl
          refine lv_iinc (v := nI (i + 1)) (lv' := [(6, .int (nI (i + 1))), (4, .long (dgP z (nI t) d0 (i + 1))), (3, .int (nI t)), (0, .ref (ad (20, 0)))]) hx hb dX4_into_87 hl (k := 1) rfl (nI_1 _) (by decide) rfl (fun ls hl => ?_)
          refine lv_goto (tgt := 11) hx hb dX4_into_90 (by decide) ?_
          exact ih11 (i + 1) (by omega) (by omega) _ _ _ hP hS (lv_sub hl [0, 1, 2, 3] rfl)
        · skip
          refine lv_lload hx hb dX4_into_30 (lv_at hl 1 rfl) ?_
          refine lv_ldc2 hx hb hown (hts _ q_965) dX4_into_32 ?_
          refine lv_lmul hx hb dX4_into_35 ?_
          refine lv_ldc2 hx hb hown (hts _ q_970) dX4_into_36 ?_
          refine lv_ladd hx hb dX4_into_39 ?_
          refine lv_goto (tgt := 85) hx hb dX4_into_40 (by decide) ?_
          refine lv_lstore (lv' := [(4, .long (((dgP z (nI t) d0 i) * 31) + ((-1)))), (6, .int (nI i)), (3, .int (nI t)), (0, .ref (ad (20, 0)))]) hx hb dX4_into_85 hl (by decide) rfl (fun ls hl => ?_)
          have e85 : ((dgP z (nI t) d0 i) * 31) + ((-1)) = dgP z (nI t) d0 (i + 1) := by rw [dgP, if_neg c27]; rfl
          have hl : lv_has ls 7 [(4, .long (dgP z (nI t) d0 (i + 1))), (6, .int (nI i)), (3, .int (nI t)), (0, .ref (ad (20, 0)))] := by rw [← e85]; exact hl
          refine lv_iinc (v := nI (i + 1)) (lv' := [(6, .int (nI (i + 1))), (4, .long (dgP z (nI t) d0 (i + 1))), (3, .int (nI t)), (0, .ref (ad (20, 0)))]) hx hb dX4_into_87 hl (k := 1) rfl (nI_1 _) (by decide) rfl (fun ls hl => ?_)
          refine lv_goto (tgt := 11) hx hb dX4_into_90 (by decide) ?_
          exact ih11 (i + 1) (by omega) (by omega) _ _ _ hP hS (lv_sub hl [0, 1, 2, 3] rfl)
  exact K11 _ 0 (by omega) (Nat.lt_succ_self _) _ _ _ hP hS (lv_sub hl [0, 1, 4, 2] rfl)
