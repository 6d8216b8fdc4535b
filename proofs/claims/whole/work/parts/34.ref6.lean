set_option maxHeartbeats 4000000 in
set_option maxRecDepth 100000 in
theorem c_X4_together (l : Launch) {D : va_G} {y : Nat → ClassId} {A : Nat → Prop} {ad : xL → Nat} {th : Int32} {w : xC} {qp : Nat → Int32} {qm : Nat → Int64} {qr : Nat → Int64} {qi : Nat → Int64} {qn : Nat → Int64} {qf : Nat → Int32} {qu : Int32} {qd : Int64} {fB fO : Nat → Nat → Option va_E} {Hs : Heap} (hP : xW D A ad (wU fB (wR y ad th w qp qm qr qi qn qf qu qd) fO) Hs) {z : xC} (hq : Rq z w) (hw : wf z) (x t : Int32) : Met l yX4_together (.code yX4_together cX4_together 3 (some .int) :: WG) { frames := 3, cells := 0, slots := 0, locals := 71 } (xPc [.ref (ad (20, 0)), .int x, .int t] D y Hs) (xQ (fun v H1 => ∃ r, v = some (.int r) ∧ (tNd z x t = 0 → r = nI (gM z t (clN x))) ∧ xRf D A y ad (z) fB fO (tNd z x t) H1) A) 0 0 A := by
  refine xM_go (by decide) (Nat.le_of_ble_eq_true rfl) (fun p e s m args below meth c ls R Q hx hb hr hlocks hml hown hts hH hE hnm hRf hRl hRc hRs hQ hS hl => ?_)
  have hRf : R.frames = 3 := hRf
  have hRl : R.locals = 71 := hRl
  have hRc : R.cells = 0 := hRc
  have hRs : R.slots = 0 := hRs
  have hl : lv_has ls 3 [(0, .ref (ad (20, 0))), (1, .int x), (2, .int t)] := hl
  have hN := hw.N
  have hE20 := hw.E
  refine lv_aload_n hx hb dX4_together_0 rfl (lv_at hl 0 rfl) ?_
  refine lv_iconst (v := nI 0) hx hb dX4_together_1 (by decide) ?_
  refine fp_X4_thrown hx hb hts hown hE hS hP q_732 dX4_together_2 (fun H locs hP hS => ?_)
  refine lv_aload_n hx hb dX4_together_5 rfl (lv_at hl 0 rfl) ?_
  refine lv_iload_n hx hb dX4_together_6 rfl (lv_at hl 1 rfl) ?_
  refine xw_callV (C := "NetlistBenchModel") (n := 1) [.int x] (c_X4_isNode l hP hq hw x) hx hb hml hown hts hE hS (xw_recv hE hP (20, 0) rfl rfl) rfl rfl q_48 q_810 q_813 q_812 q_27 (by decide) rfl ⟨by rw [hRf]; decide, by rw [hRl]; decide⟩ hl.1 rfl (Nat.le_of_ble_eq_true rfl) dX4_together_7 ⟨by rw [hRc]; decide, by rw [hRs]; decide⟩ (fun v H1 locs hp hS => ?_)
  obtain ⟨hv, hh⟩ := hp; subst hv; subst hh
  refine lv_if_ne (tgt := 19) hx hb dX4_together_10 (by decide) (fun c10 => ?_) (fun c10 => ?_)
  · skip
    have c10 := b_t c10
    obtain ⟨j, hj, exj⟩ := nodeP_i hw c10
    subst exj
    refine lv_iload_n hx hb dX4_together_19 rfl (lv_at hl 2 rfl) ?_
    refine xw_callS (n := 1) [.int t] (c_X4_isTime l t) hx hb hml hown hts hE hS rfl rfl q_48 q_865 q_867 q_866 (by decide) rfl ⟨by rw [hRf]; decide, by rw [hRl]; decide⟩ hl.1 rfl (Nat.le_of_ble_eq_true rfl) dX4_together_20 ⟨by rw [hRc]; decide, by rw [hRs]; decide⟩ (fun v H1 locs hp hS => ?_)
    obtain ⟨hv, hh⟩ := hp; subst hv; subst hh
    refine lv_if_eq (tgt := 35) hx hb dX4_together_23 (by decide) (fun c23 => ?_) (fun c23 => ?_)
    · skip
      have c23 := b_f c23
      refine lv_aload_n hx hb dX4_together_35 rfl (lv_at hl 0 rfl) ?_
      refine lv_iconst (v := nI 2) hx hb dX4_together_36 (by decide) ?_
      refine xw_callV (C := "NetlistBenchModel") (n := 1) [.int (nI 2)] (c_X4_fail l hP (nI 2)) hx hb hml hown hts hE hS (xw_recv hE hP (20, 0) rfl rfl) rfl rfl q_48 q_802 q_805 q_804 q_26 (by decide) rfl ⟨by rw [hRf]; decide, by rw [hRl]; decide⟩ hl.1 rfl (Nat.le_of_ble_eq_true rfl) dX4_together_37 ⟨by rw [hRc]; decide, by rw [hRs]; decide⟩ (fun v H1 locs hp hS => ?_)
      obtain ⟨hv, hP⟩ := hp; subst hv
      generalize H1 = H at hP hS ⊢
      have eT : tNd z (nI j) t = (nI 2) := by rw [tNd, if_neg (not_not_intro c10), if_pos c23]; rfl
      exact xe_iret hQ hx hb hr hlocks hH hS (Nat.le_refl _) (Nat.le_refl _) (⟨_, rfl, fun h => absurd (eT.symm.trans h) (by decide), by rw [eT]; exact hP.R hq⟩) dX4_together_40
    · skip
      have c23 := b_t c23
      obtain ⟨tm, htm, ettm⟩ := timeP_i c23
      subst ettm
      refine lv_aload_n hx hb dX4_together_26 rfl (lv_at hl 0 rfl) ?_
      refine lv_iload_n hx hb dX4_together_27 rfl (lv_at hl 1 rfl) ?_
      refine lv_iload_n hx hb dX4_together_28 rfl (lv_at hl 2 rfl) ?_
      refine xw_callV (C := "NetlistBenchModel") (n := 2) [.int (nI j), .int (nI tm)] (c_X4_group l hP hq hw (by omega) htm) hx hb hml hown hts hE hS (xw_recv hE hP (20, 0) rfl rfl) rfl rfl q_48 q_876 q_879 q_878 q_32 (by decide) rfl ⟨by rw [hRf]; decide, by rw [hRl]; decide⟩ hl.1 rfl (Nat.le_of_ble_eq_true rfl) dX4_together_29 ⟨by rw [hRc]; decide, by rw [hRs]; decide⟩ (fun v H1 locs hp hS => ?_)
      obtain ⟨hv, hh⟩ := hp; subst hv; subst hh
      refine lv_goto (tgt := 40) hx hb dX4_together_32 (by decide) ?_
      have eT : tNd z (nI j) (nI tm) = 0 := by rw [tNd, if_neg (not_not_intro c10), if_neg (not_not_intro c23)]
      exact xe_iret hQ hx hb hr hlocks hH hS (Nat.le_refl _) (Nat.le_refl _) (⟨_, rfl, fun _ => by rw [cl_nI (by omega)], by rw [eT]; exact hP.R hq⟩) dX4_together_40
  · skip
    have c10 := b_f c10
    refine lv_aload_n hx hb dX4_together_13 rfl (lv_at hl 0 rfl) ?_
    refine lv_iconst (v := nI 1) hx hb dX4_together_14 (by decide) ?_
    refine xw_callV (C := "NetlistBenchModel") (n := 1) [.int (nI 1)] (c_X4_fail l hP (nI 1)) hx hb hml hown hts hE hS (xw_recv hE hP (20, 0) rfl rfl) rfl rfl q_48 q_802 q_805 q_804 q_26 (by decide) rfl ⟨by rw [hRf]; decide, by rw [hRl]; decide⟩ hl.1 rfl (Nat.le_of_ble_eq_true rfl) dX4_together_15 ⟨by rw [hRc]; decide, by rw [hRs]; decide⟩ (fun v H1 locs hp hS => ?_)
    obtain ⟨hv, hP⟩ := hp; subst hv
    generalize H1 = H at hP hS ⊢
    have eT : tNd z x t = (nI 1) := by rw [tNd, if_pos c10]; rfl
    exact xe_iret hQ hx hb hr hlocks hH hS (Nat.le_refl _) (Nat.le_refl _) (⟨_, rfl, fun h => absurd (eT.symm.trans h) (by decide), by rw [eT]; exact hP.R hq⟩) dX4_together_18
