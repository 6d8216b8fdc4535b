set_option maxHeartbeats 4000000 in
set_option maxRecDepth 100000 in
theorem c_X4_together (l : Launch) {D : va_G} {y : Nat → ClassId} {A : Nat → Prop} {ad : xL → Nat} {th : Int32} {w : xC} {qp : Nat → Int32} {qm : Nat → Int64} {qr : Nat → Int64} {qi : Nat → Int64} {qn : Nat → Int64} {qf : Nat → Int32} {qu : Int32} {qd : Int64} {fB fO : Nat → Nat → Option va_E} {Hs : Heap} (hP : xW D A ad (wU fB (wR y ad th w qp qm qr qi qn qf qu qd) fO) Hs) {z : xC} (hq : Rq z w) (hw : wf z) (x t : Int32) : Met l yX4_together (.code yX4_together cX4_together 3 (some .int) :: WG) { frames := 3, cells := 0, slots := 0, locals := 71 } (xPc [.ref (ad (20, 0)), .int x, .int t] D y Hs) (xQ (fun v H1 => ∃ r, v = some (.int r) ∧ (tNd z x t = 0 → r = nI (gM z t (clN x))) ∧ xRf D A y ad (z) fB fO (tNd z x t) H1) A) 0 0 A := by
  refine xM_go (by decide) (Nat.le_of_ble_eq_true rfl) (fun p e s m args below meth c ls R Q hx hb hr hlocks hml hown hts hH hE hnm hRf hRl hRc hRs hQ hS hl => ?_)
  have hRf : R.frames = 3 := hRf
  have hRl : R.locals = 71 := hRl
  have hRc : R.cells = 0 := hRc
  have hRs : R.slots = 0 := hRs
  have hl : lv_has ls 3 [(0, .ref (ad (20, 0))), (1, .int x), (2, .int t)] := hl
  have hN := hw.N
  have hE20 := hw.E
  refine lv_aload_n hx hb dX4_together_0 rfl (lv_at hl 0 rfl) ?_
  refine lv_iconst (v := nI 0) hx hb dX4_together_1 (by decide) ?_
  refine fp_X4_thrown hx hb hts hown hE hS hP q_728 dX4_together_2 (fun H locs hP hS => ?_)
  refine lv_aload_n hx hb dX4_together_5 rfl (lv_at hl 0 rfl) ?_
  refine lv_iload_n hx hb dX4_together_6 rfl (lv_at hl 1 rfl) ?_
  refine xw_callV (C := "NetlistBenchModel") (n := 1) [.int x] (c_X4_isNode l hP hq hw x) hx hb hml hown hts hE hS (xw_recv hE hP (20, 0) rfl rfl) rfl rfl q_48 q_806 q_809 q_808 q_27 (by decide) rfl ⟨by rw [hRf]; decide, by rw [hRl]; decide⟩ hl.1 rfl (Nat.le_of_ble_eq_true rfl) dX4_together_7 ⟨by rw [hRc]; decide, by rw [hRs]; decide⟩ (fun v H1 locs hp hS => ?_)
  obtain ⟨hv, hh⟩ := hp; subst hv; subst hh
  refine lv_if_ne (tgt := 19) hx hb dX4_together_10 (by decide) (fun c10 => ?_) (fun c10 => ?_)
  · skip
    have c10 := b_t c10
    obtain ⟨j, hj, exj⟩ := nodeP_i hw c10
    subst exj
    refine lv_iload_n hx hb dX4_together_19 rfl (lv_at hl 2 rfl) ?_
    refine xw_callS (n := 1) [.int t] (c_X4_isTime l t) hx hb hml hown hts hE hS rfl rfl q_48 q_861 q_863 q_862 (by decide) rfl ⟨by rw [hRf]; decide, by rw [hRl]; decide⟩ hl.1 rfl (Nat.le_of_ble_eq_true rfl) dX4_together_20 ⟨by rw [hRc]; decide, by rw [hRs]; decide⟩ (fun v H1 locs hp hS => ?_)
    obtain ⟨hv, hh⟩ := hp; subst hv; subst hh
    refine lv_if_eq (tgt := 35) hx hb dX4_together_23 (by decide) (fun c23 => ?_) (fun c23 => ?_)
    · skip
      have c23 := b_f c23
      refine lv_aload_n hx hb dX4_together_35 rfl (lv_at hl 0 rfl) ?_
      refine lv_iconst (v := nI 2) hx hb dX4_together_36 (by decide) ?_
      refine xw_callV (C := "NetlistBenchModel") (n := 1) [.int (nI 2)] (c_X4_fail l hP (nI 2)) hx hb hml hown hts hE hS (xw_recv hE hP (20, 0) rfl rfl) rfl rfl q_48 q_798 q_801 q_800 q_26 (by decide) rfl ⟨by rw [hRf]; decide, by rw [hRl]; decide⟩ hl.1 rfl (Nat.le_of_ble_eq_true rfl) dX4_together_37 ⟨by rw [hRc]; decide, by rw [hRs]; decide⟩ (fun v H1 locs hp hS => ?_)
      obtain ⟨hv, hP⟩ := hp; subst hv
      generalize H1 = H at hP hS ⊢
      have eT : tNd z (nI j) t = (nI 2) := by rw [tNd, if_neg (not_not_intro c10), if_pos c23]; rfl
      exact xe_iret hQ hx hb hr hlocks hH hS (Nat.le_refl _) (Nat.le_refl _) (⟨_, rfl, fun h => absurd (eT.symm.trans h) (by decide), by rw [eT]; exact hP.R hq⟩) dX4_together_40
    · skip
      have c23 := b_t c23
      obtain ⟨tm, htm, ettm⟩ := timeP_i c23
      subst ettm
      refine lv_aload_n hx hb dX4_together_26 rfl (lv_at hl 0 rfl) ?_
      refine lv_iload_n hx hb dX4_together_27 rfl (lv_at hl 1 rfl) ?_
      refine lv_iload_n hx hb dX4_together_28 rfl (lv_at hl 2 rfl) ?_
      refine xw_callV (C := "NetlistBenchModel") (n := 2) [.int (nI j), .int (nI tm)] (c_X4_group l hP hq hw (by omega) htm) hx hb hml hown hts hE hS (xw_recv hE hP (20, 0) rfl rfl) rfl rfl q_48 q_872 q_875 q_874 q_32 (by decide) rfl ⟨by rw [hRf]; decide, by rw [hRl]; decide⟩ hl.1 rfl (Nat.le_of_ble_eq_true rfl) dX4_together_29 ⟨by rw [hRc]; decide, by rw [hRs]; decide⟩ (fun v H1 locs hp hS => ?_)
      obtain ⟨hv, hh⟩ := hp; subst hv; subst hh
      refine lv_goto (tgt := 40) hx hb dX4_together_32 (by decide) ?_
      have eT : tNd z (nI j) (nI tm) = 0 := by rw [tNd, if_neg (not_not_intro c10), if_neg (not_not_intro c23)]
      exact xe_iret hQ hx hb hr hlocks hH hS (Nat.le_refl _) (Nat.le_refl _) (⟨_, rfl, fun _ => by rw [cl_nI (by omega)], by rw [eT]; exact hP.R hq⟩) dX4_together_40
  · skip
    have c10 := b_f c10
    refine lv_aload_n hx hb dX4_together_13 rfl (lv_at hl 0 rfl) ?_
    refine lv_iconst (v := nI 1) hx hb dX4_together_14 (by decide) ?_
    refine xw_callV (C := "NetlistBenchModel") (n := 1) [.int (nI 1)] (c_X4_fail l hP (nI 1)) hx hb hml hown hts hE hS (xw_recv hE hP (20, 0) rfl rfl) rfl rfl q_48 q_798 q_801 q_800 q_26 (by decide) rfl ⟨by rw [hRf]; decide, by rw [hRl]; decide⟩ hl.1 rfl (Nat.le_of_ble_eq_true rfl) dX4_together_15 ⟨by rw [hRc]; decide, by rw [hRs]; decide⟩ (fun v H1 locs hp hS => ?_)
    obtain ⟨hv, hP⟩ := hp; subst hv
    generalize H1 = H at hP hS ⊢
    have eT : tNd z x t = (nI 1) := by rw [tNd, if_pos c10]; rfl
    exact xe_iret hQ hx hb hr hlocks hH hS (Nat.le_refl _) (Nat.le_refl _) (⟨_, rfl, fun h => absurd (eT.symm.trans h) (by decide), by rw [eT]; exact hP.R hq⟩) dX4_together_18

set_option maxHeartbeats 4000000 in
set_option maxRecDepth 100000 in
theorem c_X4_count (l : Launch) {D : va_G} {y : Nat → ClassId} {A : Nat → Prop} {ad : xL → Nat} {th : Int32} {w : xC} {qp : Nat → Int32} {qm : Nat → Int64} {qr : Nat → Int64} {qi : Nat → Int64} {qn : Nat → Int64} {qf : Nat → Int32} {qu : Int32} {qd : Int64} {fB fO : Nat → Nat → Option va_E} {Hs : Heap} (hP : xW D A ad (wU fB (wR y ad th w qp qm qr qi qn qf qu qd) fO) Hs) {z : xC} (hq : Rq z w) (hw : wf z) (k : Int32) : Met l yX4_count (.code yX4_count cX4_count 2 (some .int) :: WG) { frames := 1, cells := 0, slots := 0, locals := 23 } (xPc [.ref (ad (20, 0)), .int k] D y Hs) (xQ (fun v H1 => ∃ r, v = some (.int r) ∧ (tCount k = 0 → r = nI (cnt z (clN k))) ∧ xRf D A y ad (z) fB fO (tCount k) H1) A) 0 0 A := by
  refine xM_go (by decide) (Nat.le_of_ble_eq_true rfl) (fun p e s m args below meth c ls R Q hx hb hr hlocks hml hown hts hH hE hnm hRf hRl hRc hRs hQ hS hl => ?_)
  have hRf : R.frames = 1 := hRf
  have hRl : R.locals = 23 := hRl
  have hRc : R.cells = 0 := hRc
  have hRs : R.slots = 0 := hRs
  have hl : lv_has ls 2 [(0, .ref (ad (20, 0))), (1, .int k)] := hl
  have hN := hw.N
  have hE20 := hw.E
  refine lv_aload_n hx hb dX4_count_0 rfl (lv_at hl 0 rfl) ?_
  refine lv_iconst (v := nI 0) hx hb dX4_count_1 (by decide) ?_
  refine fp_X4_thrown hx hb hts hown hE hS hP q_728 dX4_count_2 (fun H locs hP hS => ?_)
  refine lv_iload_n hx hb dX4_count_5 rfl (lv_at hl 1 rfl) ?_
  refine lv_iconst (v := nI 0) hx hb dX4_count_6 (by decide) ?_
  refine lv_iconst (v := nI 3) hx hb dX4_count_7 (by decide) ?_
  refine xw_callS (n := 3) [.int k, .int (nI 0), .int (nI 3)] (c_X4_isIn l k (nI 0) (nI 3)) hx hb hml hown hts hE hS rfl rfl q_48 q_810 q_812 q_811 (by decide) rfl ⟨by rw [hRf]; decide, by rw [hRl]; decide⟩ hl.1 rfl (Nat.le_of_ble_eq_true rfl) dX4_count_8 ⟨by rw [hRc]; decide, by rw [hRs]; decide⟩ (fun v H1 locs hp hS => ?_)
  obtain ⟨hv, hh⟩ := hp; subst hv; subst hh
  refine lv_if_eq (tgt := 22) hx hb dX4_count_11 (by decide) (fun c11 => ?_) (fun c11 => ?_)
  · skip
    have c11 := b_f c11
    have c12 : k < 0 ∨ nI 3 < k := Classical.not_not.mp c11
    refine lv_aload_n hx hb dX4_count_22 rfl (lv_at hl 0 rfl) ?_
    refine lv_iconst (v := nI 1) hx hb dX4_count_23 (by decide) ?_
    refine xw_callV (C := "NetlistBenchModel") (n := 1) [.int (nI 1)] (c_X4_fail l hP (nI 1)) hx hb hml hown hts hE hS (xw_recv hE hP (20, 0) rfl rfl) rfl rfl q_48 q_798 q_801 q_800 q_26 (by decide) rfl ⟨by rw [hRf]; decide, by rw [hRl]; decide⟩ hl.1 rfl (Nat.le_of_ble_eq_true rfl) dX4_count_24 ⟨by rw [hRc]; decide, by rw [hRs]; decide⟩ (fun v H1 locs hp hS => ?_)
    obtain ⟨hv, hP⟩ := hp; subst hv
    generalize H1 = H at hP hS ⊢
    have eT : tCount k = (nI 1) := by rw [tCount, if_pos (fun h => by rcases c12 with g | g; exact Int32.not_lt.mpr h.1 g; exact absurd (show k < nI 4 from h.2) (fun h4 => by rw [Int32.lt_iff_toInt_lt] at g h4; have e3 : (nI 3).toInt = 3 := (by decide); have e4 : (nI 4).toInt = 4 := (by decide); omega))]; rfl
    exact xe_iret hQ hx hb hr hlocks hH hS (Nat.le_refl _) (Nat.le_refl _) (⟨_, rfl, fun h => absurd (eT.symm.trans h) (by decide), by rw [eT]; exact hP.R hq⟩) dX4_count_27
  · skip
    have c11 := b_t c11
    have hk0 : ¬ k < 0 := fun h => c11 (Or.inl h)
    obtain ⟨kj, hkj, ek⟩ := nI_of hk0
    subst ek
    have hk4 : kj < 4 := by have := ni_nlt (a := 3) (b := kj) (by decide) hkj (fun h => c11 (Or.inr h)); omega
    refine lv_aload_n hx hb dX4_count_14 rfl (lv_at hl 0 rfl) ?_
    refine lv_iload_n hx hb dX4_count_15 rfl (lv_at hl 1 rfl) ?_
    refine xw_callV (C := "NetlistBenchModel") (n := 1) [.int (nI kj)] (c_X4_counted l hP hq hw hk4) hx hb hml hown hts hE hS (xw_recv hE hP (20, 0) rfl rfl) rfl rfl q_48 q_841 q_844 q_843 q_29 (by decide) rfl ⟨by rw [hRf]; decide, by rw [hRl]; decide⟩ hl.1 rfl (Nat.le_of_ble_eq_true rfl) dX4_count_16 ⟨by rw [hRc]; decide, by rw [hRs]; decide⟩ (fun v H1 locs hp hS => ?_)
    obtain ⟨hv, hh⟩ := hp; subst hv; subst hh
    refine lv_goto (tgt := 27) hx hb dX4_count_19 (by decide) ?_
    have eT : tCount (nI kj) = 0 := by rw [tCount, if_neg (not_not_intro ⟨nI_pos' (by omega), nI_lt hk4 (by decide)⟩)]
    exact xe_iret hQ hx hb hr hlocks hH hS (Nat.le_refl _) (Nat.le_refl _) (⟨_, rfl, fun _ => by rw [cl_nI (by omega)], by rw [eT]; exact hP.R hq⟩) dX4_count_27

set_option maxHeartbeats 4000000 in
set_option maxRecDepth 100000 in
theorem c_X4_isOn (l : Launch) {D : va_G} {y : Nat → ClassId} {A : Nat → Prop} {ad : xL → Nat} {th : Int32} {w : xC} {qp : Nat → Int32} {qm : Nat → Int64} {qr : Nat → Int64} {qi : Nat → Int64} {qn : Nat → Int64} {qf : Nat → Int32} {qu : Int32} {qd : Int64} {fB fO : Nat → Nat → Option va_E} {Hs : Heap} (hP : xW D A ad (wU fB (wR y ad th w qp qm qr qi qn qf qu qd) fO) Hs) {z : xC} (hq : Rq z w) (hw : wf z) (x t : Int32) : Met l yX4_isOn (.code yX4_isOn cX4_isOn 3 (some .boolean) :: WG) { frames := 2, cells := 0, slots := 0, locals := 43 } (xPc [.ref (ad (20, 0)), .int x, .int t] D y Hs) (xQ (fun v H1 => ∃ r, v = some (.int r) ∧ (tOn z x t = 0 → r = onI z (clN x) t) ∧ xRf D A y ad (z) fB fO (tOn z x t) H1) A) 0 0 A := by
  refine xM_go (by decide) (Nat.le_of_ble_eq_true rfl) (fun p e s m args below meth c ls R Q hx hb hr hlocks hml hown hts hH hE hnm hRf hRl hRc hRs hQ hS hl => ?_)
  have hRf : R.frames = 2 := hRf
  have hRl : R.locals = 43 := hRl
  have hRc : R.cells = 0 := hRc
  have hRs : R.slots = 0 := hRs
  have hl : lv_has ls 3 [(0, .ref (ad (20, 0))), (1, .int x), (2, .int t)] := hl
  have hN := hw.N
  have hE20 := hw.E
  refine lv_aload_n hx hb dX4_isOn_0 rfl (lv_at hl 0 rfl) ?_
  refine lv_aload_n hx hb dX4_isOn_1 rfl (lv_at hl 0 rfl) ?_
  refine lv_iload_n hx hb dX4_isOn_2 rfl (lv_at hl 1 rfl) ?_
  refine xw_callV (C := "NetlistBenchModel") (n := 1) [.int x] (c_X4_isElement l hP hq hw x) hx hb hml hown hts hE hS (xw_recv hE hP (20, 0) rfl rfl) rfl rfl q_48 q_824 q_827 q_826 q_28 (by decide) rfl ⟨by rw [hRf]; decide, by rw [hRl]; decide⟩ hl.1 rfl (Nat.le_of_ble_eq_true rfl) dX4_isOn_3 ⟨by rw [hRc]; decide, by rw [hRs]; decide⟩ (fun v H1 locs hp hS => ?_)
  obtain ⟨hv, hh⟩ := hp; subst hv; subst hh
  refine lv_if_ne (tgt := 13) hx hb dX4_isOn_6 (by decide) (fun c6 => ?_) (fun c6 => ?_)
  · skip
    have c6 := b_t c6
    obtain ⟨j, hj, exj⟩ := elP_i hw c6
    subst exj
    refine lv_iload_n hx hb dX4_isOn_13 rfl (lv_at hl 2 rfl) ?_
    refine xw_callS (n := 1) [.int t] (c_X4_isTime l t) hx hb hml hown hts hE hS rfl rfl q_48 q_861 q_863 q_862 (by decide) rfl ⟨by rw [hRf]; decide, by rw [hRl]; decide⟩ hl.1 rfl (Nat.le_of_ble_eq_true rfl) dX4_isOn_14 ⟨by rw [hRc]; decide, by rw [hRs]; decide⟩ (fun v H1 locs hp hS => ?_)
    obtain ⟨hv, hh⟩ := hp; subst hv; subst hh
    refine lv_if_eq (tgt := 24) hx hb dX4_isOn_17 (by decide) (fun c17 => ?_) (fun c17 => ?_)
    · skip
      have c17 := b_f c17
      refine lv_iconst (v := nI 2) hx hb dX4_isOn_24 (by decide) ?_
      refine fp_X4_thrown hx hb hts hown hE hS hP q_728 dX4_isOn_25 (fun H locs hP hS => ?_)
      refine lv_aload_n hx hb dX4_isOn_28 rfl (lv_at hl 0 rfl) ?_
      refine fg_X4_thrown hx hb hts hown hE hP q_728 dX4_isOn_29 ?_
      refine lv_if_ne (tgt := 48) hx hb dX4_isOn_32 (by decide) (fun c32 => ?_) (fun c32 => ?_)
      · skip
        have c32 := ni_ne (a := 2) (b := 0) (by omega) (by omega) c32
        refine lv_iconst (v := nI 0) hx hb dX4_isOn_48 (by decide) ?_
        have eT : tOn z (nI j) t = nI 2 := by rw [tOn, if_neg (not_not_intro c6), if_pos c17]; rfl
        exact xe_zret hQ hx hb hr hlocks hH hS (by first | exact Or.inl rfl | exact Or.inr rfl) (Nat.le_refl _) (Nat.le_refl _) (⟨_, rfl, fun h => absurd (eT.symm.trans h) (by decide), by rw [eT]; exact hP.R hq⟩) dX4_isOn_49
      · skip
        have c32 := ni_eq (a := 2) (b := 0) (by omega) (by omega) c32
        exfalso; omega
    · skip
      have c17 := b_t c17
      obtain ⟨tm, htm, ettm⟩ := timeP_i c17
      subst ettm
      refine lv_iconst (v := nI 0) hx hb dX4_isOn_20 (by decide) ?_
      refine lv_goto (tgt := 25) hx hb dX4_isOn_21 (by decide) ?_
      refine fp_X4_thrown hx hb hts hown hE hS hP q_728 dX4_isOn_25 (fun H locs hP hS => ?_)
      refine lv_aload_n hx hb dX4_isOn_28 rfl (lv_at hl 0 rfl) ?_
      refine fg_X4_thrown hx hb hts hown hE hP q_728 dX4_isOn_29 ?_
      refine lv_if_ne (tgt := 48) hx hb dX4_isOn_32 (by decide) (fun c32 => ?_) (fun c32 => ?_)
      · skip
        have c32 := ni_ne (a := 0) (b := 0) (by omega) (by omega) c32
        exfalso; omega
      · skip
        have c32 := ni_eq (a := 0) (b := 0) (by omega) (by omega) c32
        refine lv_aload_n hx hb dX4_isOn_35 rfl (lv_at hl 0 rfl) ?_
        refine lv_iload_n hx hb dX4_isOn_36 rfl (lv_at hl 1 rfl) ?_
        refine lv_iload_n hx hb dX4_isOn_37 rfl (lv_at hl 2 rfl) ?_
        refine xw_callV (C := "NetlistBenchModel") (n := 2) [.int (nI j), .int (nI tm)] (c_X4_isOnAt l hP hq hw hj htm) hx hb hml hown hts hE hS (xw_recv hE hP (20, 0) rfl rfl) rfl rfl q_48 q_864 q_867 q_866 q_31 (by decide) rfl ⟨by rw [hRf]; decide, by rw [hRl]; decide⟩ hl.1 rfl (Nat.le_of_ble_eq_true rfl) dX4_isOn_38 ⟨by rw [hRc]; decide, by rw [hRs]; decide⟩ (fun v H1 locs hp hS => ?_)
        obtain ⟨hv, hh⟩ := hp; subst hv; subst hh
        refine lv_if_eq (tgt := 48) hx hb dX4_isOn_41 (by decide) (fun c41 => ?_) (fun c41 => ?_)
        · skip
          refine lv_iconst (v := nI 0) hx hb dX4_isOn_48 (by decide) ?_
          have eT : tOn z (nI j) (nI tm) = 0 := by rw [tOn, if_neg (not_not_intro c6), if_neg (not_not_intro c17)]
          exact xe_zret hQ hx hb hr hlocks hH hS (by first | exact Or.inl rfl | exact Or.inr rfl) (Nat.le_refl _) (Nat.le_refl _) (⟨_, rfl, fun _ => by rw [cl_nI (by omega), c41]; rfl, by rw [eT]; exact hP.R hq⟩) dX4_isOn_49
        · skip
          refine lv_iconst (v := nI 1) hx hb dX4_isOn_44 (by decide) ?_
          refine lv_goto (tgt := 49) hx hb dX4_isOn_45 (by decide) ?_
          have eT : tOn z (nI j) (nI tm) = 0 := by rw [tOn, if_neg (not_not_intro c6), if_neg (not_not_intro c17)]
          exact xe_zret hQ hx hb hr hlocks hH hS (by first | exact Or.inl rfl | exact Or.inr rfl) (Nat.le_refl _) (Nat.le_refl _) (⟨_, rfl, fun _ => by rw [cl_nI (by omega)]; rcases onI_01 z j (nI tm) with h | h; exact absurd h c41; rw [h]; rfl, by rw [eT]; exact hP.R hq⟩) dX4_isOn_49
  · skip
    have c6 := b_f c6
    refine lv_iconst (v := nI 1) hx hb dX4_isOn_9 (by decide) ?_
    refine lv_goto (tgt := 25) hx hb dX4_isOn_10 (by decide) ?_
    refine fp_X4_thrown hx hb hts hown hE hS hP q_728 dX4_isOn_25 (fun H locs hP hS => ?_)
    refine lv_aload_n hx hb dX4_isOn_28 rfl (lv_at hl 0 rfl) ?_
    refine fg_X4_thrown hx hb hts hown hE hP q_728 dX4_isOn_29 ?_
    refine lv_if_ne (tgt := 48) hx hb dX4_isOn_32 (by decide) (fun c32 => ?_) (fun c32 => ?_)
    · skip
      have c32 := ni_ne (a := 1) (b := 0) (by omega) (by omega) c32
      refine lv_iconst (v := nI 0) hx hb dX4_isOn_48 (by decide) ?_
      have eT : tOn z x t = nI 1 := by rw [tOn, if_pos c6]; rfl
      exact xe_zret hQ hx hb hr hlocks hH hS (by first | exact Or.inl rfl | exact Or.inr rfl) (Nat.le_refl _) (Nat.le_refl _) (⟨_, rfl, fun h => absurd (eT.symm.trans h) (by decide), by rw [eT]; exact hP.R hq⟩) dX4_isOn_49
    · skip
      have c32 := ni_eq (a := 1) (b := 0) (by omega) (by omega) c32
      exfalso; omega

set_option maxHeartbeats 4000000 in
set_option maxRecDepth 100000 in
theorem c_X4_floats (l : Launch) {D : va_G} {y : Nat → ClassId} {A : Nat → Prop} {ad : xL → Nat} {th : Int32} {w : xC} {qp : Nat → Int32} {qm : Nat → Int64} {qr : Nat → Int64} {qi : Nat → Int64} {qn : Nat → Int64} {qf : Nat → Int32} {qu : Int32} {qd : Int64} {fB fO : Nat → Nat → Option va_E} {Hs : Heap} (hP : xW D A ad (wU fB (wR y ad th w qp qm qr qi qn qf qu qd) fO) Hs) {z : xC} (hq : Rq z w) (hw : wf z) (x t : Int32) : Met l yX4_floats (.code yX4_floats cX4_floats 3 (some .boolean) :: WG) { frames := 4, cells := 0, slots := 0, locals := 95 } (xPc [.ref (ad (20, 0)), .int x, .int t] D y Hs) (xQ (fun v H1 => ∃ r, v = some (.int r) ∧ (tNd z x t = 0 → r = aflI z (gM z t (clN x))) ∧ xRf D A y ad (z) fB fO (tNd z x t) H1) A) 0 0 A := by
  refine xM_go (by decide) (Nat.le_of_ble_eq_true rfl) (fun p e s m args below meth c ls R Q hx hb hr hlocks hml hown hts hH hE hnm hRf hRl hRc hRs hQ hS hl => ?_)
  have hRf : R.frames = 4 := hRf
  have hRl : R.locals = 95 := hRl
  have hRc : R.cells = 0 := hRc
  have hRs : R.slots = 0 := hRs
  have hl : lv_has ls 3 [(0, .ref (ad (20, 0))), (1, .int x), (2, .int t)] := hl
  have hN := hw.N
  have hE20 := hw.E
  refine lv_aload_n hx hb dX4_floats_0 rfl (lv_at hl 0 rfl) ?_
  refine lv_aload_n hx hb dX4_floats_1 rfl (lv_at hl 0 rfl) ?_
  refine lv_iload_n hx hb dX4_floats_2 rfl (lv_at hl 1 rfl) ?_
  refine xw_callV (C := "NetlistBenchModel") (n := 1) [.int x] (c_X4_isNode l hP hq hw x) hx hb hml hown hts hE hS (xw_recv hE hP (20, 0) rfl rfl) rfl rfl q_48 q_806 q_809 q_808 q_27 (by decide) rfl ⟨by rw [hRf]; decide, by rw [hRl]; decide⟩ hl.1 rfl (Nat.le_of_ble_eq_true rfl) dX4_floats_3 ⟨by rw [hRc]; decide, by rw [hRs]; decide⟩ (fun v H1 locs hp hS => ?_)
  obtain ⟨hv, hh⟩ := hp; subst hv; subst hh
  refine lv_if_ne (tgt := 13) hx hb dX4_floats_6 (by decide) (fun c6 => ?_) (fun c6 => ?_)
  · skip
    have c6 := b_t c6
    obtain ⟨j, hj, exj⟩ := nodeP_i hw c6
    subst exj
    refine lv_iload_n hx hb dX4_floats_13 rfl (lv_at hl 2 rfl) ?_
    refine xw_callS (n := 1) [.int t] (c_X4_isTime l t) hx hb hml hown hts hE hS rfl rfl q_48 q_861 q_863 q_862 (by decide) rfl ⟨by rw [hRf]; decide, by rw [hRl]; decide⟩ hl.1 rfl (Nat.le_of_ble_eq_true rfl) dX4_floats_14 ⟨by rw [hRc]; decide, by rw [hRs]; decide⟩ (fun v H1 locs hp hS => ?_)
    obtain ⟨hv, hh⟩ := hp; subst hv; subst hh
    refine lv_if_eq (tgt := 24) hx hb dX4_floats_17 (by decide) (fun c17 => ?_) (fun c17 => ?_)
    · skip
      have c17 := b_f c17
      refine lv_iconst (v := nI 2) hx hb dX4_floats_24 (by decide) ?_
      refine fp_X4_thrown hx hb hts hown hE hS hP q_728 dX4_floats_25 (fun H locs hP hS => ?_)
      refine lv_aload_n hx hb dX4_floats_28 rfl (lv_at hl 0 rfl) ?_
      refine fg_X4_thrown hx hb hts hown hE hP q_728 dX4_floats_29 ?_
      refine lv_if_ne (tgt := 48) hx hb dX4_floats_32 (by decide) (fun c32 => ?_) (fun c32 => ?_)
      · skip
        have c32 := ni_ne (a := 2) (b := 0) (by omega) (by omega) c32
        refine lv_iconst (v := nI 0) hx hb dX4_floats_48 (by decide) ?_
        have eT : tNd z (nI j) t = nI 2 := by rw [tNd, if_neg (not_not_intro c6), if_pos c17]; rfl
        exact xe_zret hQ hx hb hr hlocks hH hS (by first | exact Or.inl rfl | exact Or.inr rfl) (Nat.le_refl _) (Nat.le_refl _) (⟨_, rfl, fun h => absurd (eT.symm.trans h) (by decide), by rw [eT]; exact hP.R hq⟩) dX4_floats_49
      · skip
        have c32 := ni_eq (a := 2) (b := 0) (by omega) (by omega) c32
        exfalso; omega
    · skip
      have c17 := b_t c17
      obtain ⟨tm, htm, ettm⟩ := timeP_i c17
      subst ettm
      refine lv_iconst (v := nI 0) hx hb dX4_floats_20 (by decide) ?_
      refine lv_goto (tgt := 25) hx hb dX4_floats_21 (by decide) ?_
      refine fp_X4_thrown hx hb hts hown hE hS hP q_728 dX4_floats_25 (fun H locs hP hS => ?_)
      refine lv_aload_n hx hb dX4_floats_28 rfl (lv_at hl 0 rfl) ?_
      refine fg_X4_thrown hx hb hts hown hE hP q_728 dX4_floats_29 ?_
      refine lv_if_ne (tgt := 48) hx hb dX4_floats_32 (by decide) (fun c32 => ?_) (fun c32 => ?_)
      · skip
        have c32 := ni_ne (a := 0) (b := 0) (by omega) (by omega) c32
        exfalso; omega
      · skip
        have c32 := ni_eq (a := 0) (b := 0) (by omega) (by omega) c32
        refine lv_aload_n hx hb dX4_floats_35 rfl (lv_at hl 0 rfl) ?_
        refine lv_iload_n hx hb dX4_floats_36 rfl (lv_at hl 1 rfl) ?_
        refine lv_iload_n hx hb dX4_floats_37 rfl (lv_at hl 2 rfl) ?_
        refine xw_callV (C := "NetlistBenchModel") (n := 2) [.int (nI j), .int (nI tm)] (c_X4_floatsAt l hP hq hw (by omega) htm) hx hb hml hown hts hE hS (xw_recv hE hP (20, 0) rfl rfl) rfl rfl q_48 q_884 q_887 q_886 q_34 (by decide) rfl ⟨by rw [hRf]; decide, by rw [hRl]; decide⟩ hl.1 rfl (Nat.le_of_ble_eq_true rfl) dX4_floats_38 ⟨by rw [hRc]; decide, by rw [hRs]; decide⟩ (fun v H1 locs hp hS => ?_)
        obtain ⟨hv, hh⟩ := hp; subst hv; subst hh
        refine lv_if_eq (tgt := 48) hx hb dX4_floats_41 (by decide) (fun c41 => ?_) (fun c41 => ?_)
        · skip
          refine lv_iconst (v := nI 0) hx hb dX4_floats_48 (by decide) ?_
          have eT : tNd z (nI j) (nI tm) = 0 := by rw [tNd, if_neg (not_not_intro c6), if_neg (not_not_intro c17)]
          exact xe_zret hQ hx hb hr hlocks hH hS (by first | exact Or.inl rfl | exact Or.inr rfl) (Nat.le_refl _) (Nat.le_refl _) (⟨_, rfl, fun _ => by rw [cl_nI (by omega), c41]; rfl, by rw [eT]; exact hP.R hq⟩) dX4_floats_49
        · skip
          refine lv_iconst (v := nI 1) hx hb dX4_floats_44 (by decide) ?_
          refine lv_goto (tgt := 49) hx hb dX4_floats_45 (by decide) ?_
          have eT : tNd z (nI j) (nI tm) = 0 := by rw [tNd, if_neg (not_not_intro c6), if_neg (not_not_intro c17)]
          exact xe_zret hQ hx hb hr hlocks hH hS (by first | exact Or.inl rfl | exact Or.inr rfl) (Nat.le_refl _) (Nat.le_refl _) (⟨_, rfl, fun _ => by rw [cl_nI (by omega)]; rcases aflI_01 z (gM z (nI tm) j) with h | h; exact absurd h c41; rw [h]; rfl, by rw [eT]; exact hP.R hq⟩) dX4_floats_49
  · skip
    have c6 := b_f c6
    refine lv_iconst (v := nI 1) hx hb dX4_floats_9 (by decide) ?_
    refine lv_goto (tgt := 25) hx hb dX4_floats_10 (by decide) ?_
    refine fp_X4_thrown hx hb hts hown hE hS hP q_728 dX4_floats_25 (fun H locs hP hS => ?_)
    refine lv_aload_n hx hb dX4_floats_28 rfl (lv_at hl 0 rfl) ?_
    refine fg_X4_thrown hx hb hts hown hE hP q_728 dX4_floats_29 ?_
    refine lv_if_ne (tgt := 48) hx hb dX4_floats_32 (by decide) (fun c32 => ?_) (fun c32 => ?_)
    · skip
      have c32 := ni_ne (a := 1) (b := 0) (by omega) (by omega) c32
      refine lv_iconst (v := nI 0) hx hb dX4_floats_48 (by decide) ?_
      have eT : tNd z x t = nI 1 := by rw [tNd, if_pos c6]; rfl
      exact xe_zret hQ hx hb hr hlocks hH hS (by first | exact Or.inl rfl | exact Or.inr rfl) (Nat.le_refl _) (Nat.le_refl _) (⟨_, rfl, fun h => absurd (eT.symm.trans h) (by decide), by rw [eT]; exact hP.R hq⟩) dX4_floats_49
    · skip
      have c32 := ni_eq (a := 1) (b := 0) (by omega) (by omega) c32
      exfalso; omega

set_option maxHeartbeats 4000000 in
set_option maxRecDepth 100000 in
theorem c_X4_nextToggle (l : Launch) {D : va_G} {y : Nat → ClassId} {A : Nat → Prop} {ad : xL → Nat} {th : Int32} {w : xC} {qp : Nat → Int32} {qm : Nat → Int64} {qr : Nat → Int64} {qi : Nat → Int64} {qn : Nat → Int64} {qf : Nat → Int32} {qu : Int32} {qd : Int64} {fB fO : Nat → Nat → Option va_E} {Hs : Heap} (hP : xW D A ad (wU fB (wR y ad th w qp qm qr qi qn qf qu qd) fO) Hs) {z : xC} (hq : Rq z w) (hw : wf z) (t : Int32) : Met l yX4_nextToggle (.code yX4_nextToggle cX4_nextToggle 2 (some .int) :: WG) { frames := 2, cells := 0, slots := 0, locals := 42 } (xPc [.ref (ad (20, 0)), .int t] D y Hs) (xQ (fun v H1 => ∃ r, v = some (.int r) ∧ (tTm t = 0 → r = ftS z t (nE z)) ∧ xRf D A y ad (z) fB fO (tTm t) H1) A) 0 0 A := by
  refine xM_go (by decide) (Nat.le_of_ble_eq_true rfl) (fun p e s m args below meth c ls R Q hx hb hr hlocks hml hown hts hH hE hnm hRf hRl hRc hRs hQ hS hl => ?_)
  have hRf : R.frames = 2 := hRf
  have hRl : R.locals = 42 := hRl
  have hRc : R.cells = 0 := hRc
  have hRs : R.slots = 0 := hRs
  have hl : lv_has ls 2 [(0, .ref (ad (20, 0))), (1, .int t)] := hl
  have hN := hw.N
  have hE20 := hw.E
  refine lv_aload_n hx hb dX4_nextToggle_0 rfl (lv_at hl 0 rfl) ?_
  refine lv_iconst (v := nI 0) hx hb dX4_nextToggle_1 (by decide) ?_
  refine fp_X4_thrown hx hb hts hown hE hS hP q_728 dX4_nextToggle_2 (fun H locs hP hS => ?_)
  refine lv_iload_n hx hb dX4_nextToggle_5 rfl (lv_at hl 1 rfl) ?_
  refine xw_callS (n := 1) [.int t] (c_X4_isTime l t) hx hb hml hown hts hE hS rfl rfl q_48 q_861 q_863 q_862 (by decide) rfl ⟨by rw [hRf]; decide, by rw [hRl]; decide⟩ hl.1 rfl (Nat.le_of_ble_eq_true rfl) dX4_nextToggle_6 ⟨by rw [hRc]; decide, by rw [hRs]; decide⟩ (fun v H1 locs hp hS => ?_)
  obtain ⟨hv, hh⟩ := hp; subst hv; subst hh
  refine lv_if_eq (tgt := 20) hx hb dX4_nextToggle_9 (by decide) (fun c9 => ?_) (fun c9 => ?_)
  · skip
    have c9 := b_f c9
    refine lv_aload_n hx hb dX4_nextToggle_20 rfl (lv_at hl 0 rfl) ?_
    refine lv_iconst (v := nI 1) hx hb dX4_nextToggle_21 (by decide) ?_
    refine xw_callV (C := "NetlistBenchModel") (n := 1) [.int (nI 1)] (c_X4_fail l hP (nI 1)) hx hb hml hown hts hE hS (xw_recv hE hP (20, 0) rfl rfl) rfl rfl q_48 q_798 q_801 q_800 q_26 (by decide) rfl ⟨by rw [hRf]; decide, by rw [hRl]; decide⟩ hl.1 rfl (Nat.le_of_ble_eq_true rfl) dX4_nextToggle_22 ⟨by rw [hRc]; decide, by rw [hRs]; decide⟩ (fun v H1 locs hp hS => ?_)
    obtain ⟨hv, hP⟩ := hp; subst hv
    generalize H1 = H at hP hS ⊢
    have eT : tTm t = (nI 1) := by rw [tTm, if_pos c9]; rfl
    exact xe_iret hQ hx hb hr hlocks hH hS (Nat.le_refl _) (Nat.le_refl _) (⟨_, rfl, fun h => absurd (eT.symm.trans h) (by decide), by rw [eT]; exact hP.R hq⟩) dX4_nextToggle_25
  · skip
    have c9 := b_t c9
    obtain ⟨tm, htm, ettm⟩ := timeP_i c9
    subst ettm
    refine lv_aload_n hx hb dX4_nextToggle_12 rfl (lv_at hl 0 rfl) ?_
    refine lv_iload_n hx hb dX4_nextToggle_13 rfl (lv_at hl 1 rfl) ?_
    refine xw_callV (C := "NetlistBenchModel") (n := 1) [.int (nI tm)] (c_X4_toggleBehind l hP hq hw htm) hx hb hml hown hts hE hS (xw_recv hE hP (20, 0) rfl rfl) rfl rfl q_48 q_940 q_943 q_942 q_40 (by decide) rfl ⟨by rw [hRf]; decide, by rw [hRl]; decide⟩ hl.1 rfl (Nat.le_of_ble_eq_true rfl) dX4_nextToggle_14 ⟨by rw [hRc]; decide, by rw [hRs]; decide⟩ (fun v H1 locs hp hS => ?_)
    obtain ⟨hv, hh⟩ := hp; subst hv; subst hh
    refine lv_goto (tgt := 25) hx hb dX4_nextToggle_17 (by decide) ?_
    have eT : tTm (nI tm) = 0 := by rw [tTm, if_neg (not_not_intro c9)]
    exact xe_iret hQ hx hb hr hlocks hH hS (Nat.le_refl _) (Nat.le_refl _) (⟨_, rfl, fun _ => rfl, by rw [eT]; exact hP.R hq⟩) dX4_nextToggle_25

set_option maxHeartbeats 4000000 in
set_option maxRecDepth 100000 in
theorem c_X4_potential (l : Launch) {D : va_G} {y : Nat → ClassId} {A : Nat → Prop} {ad : xL → Nat} {th : Int32} {w : xC} {qp : Nat → Int32} {qm : Nat → Int64} {qr : Nat → Int64} {qi : Nat → Int64} {qn : Nat → Int64} {qf : Nat → Int32} {qu : Int32} {qd : Int64} {fB fO : Nat → Nat → Option va_E} {Hs : Heap} (hP : xW D A ad (wU fB (wR y ad th w qp qm qr qi qn qf qu qd) fO) Hs) {z : xC} (hq : Rq z w) (hw : wf z) (hk : nOk z) (x t b : Int32) : Met l yX4_potential (.code yX4_potential cX4_potential 4 (some .long) :: WG) { frames := 5, cells := 0, slots := 0, locals := 117 } (xPc [.ref (ad (20, 0)), .int x, .int t, .int b] D y Hs) (xQ (fun v H1 => ∃ r, v = some (.long r) ∧ (tPot z x t = 0 → r = rPot z x t b) ∧ xRf D A y ad (z) fB fO (tPot z x t) H1) A) 0 0 A := by
  refine xM_go (by decide) (Nat.le_of_ble_eq_true rfl) (fun p e s m args below meth c ls R Q hx hb hr hlocks hml hown hts hH hE hnm hRf hRl hRc hRs hQ hS hl => ?_)
  have hRf : R.frames = 5 := hRf
  have hRl : R.locals = 117 := hRl
  have hRc : R.cells = 0 := hRc
  have hRs : R.slots = 0 := hRs
  have hl : lv_has ls 4 [(0, .ref (ad (20, 0))), (1, .int x), (2, .int t), (3, .int b)] := hl
  have hN := hw.N
  have hE20 := hw.E
  refine lv_aload_n hx hb dX4_potential_0 rfl (lv_at hl 0 rfl) ?_
  refine lv_aload_n hx hb dX4_potential_1 rfl (lv_at hl 0 rfl) ?_
  refine lv_iload_n hx hb dX4_potential_2 rfl (lv_at hl 1 rfl) ?_
  refine xw_callV (C := "NetlistBenchModel") (n := 1) [.int x] (c_X4_isNode l hP hq hw x) hx hb hml hown hts hE hS (xw_recv hE hP (20, 0) rfl rfl) rfl rfl q_48 q_806 q_809 q_808 q_27 (by decide) rfl ⟨by rw [hRf]; decide, by rw [hRl]; decide⟩ hl.1 rfl (Nat.le_of_ble_eq_true rfl) dX4_potential_3 ⟨by rw [hRc]; decide, by rw [hRs]; decide⟩ (fun v H1 locs hp hS => ?_)
  obtain ⟨hv, hh⟩ := hp; subst hv; subst hh
  refine lv_if_ne (tgt := 13) hx hb dX4_potential_6 (by decide) (fun c6 => ?_) (fun c6 => ?_)
  · skip
    have c6 := b_t c6
    obtain ⟨j, hj, exj⟩ := nodeP_i hw c6
    subst exj
    refine lv_iload_n hx hb dX4_potential_13 rfl (lv_at hl 2 rfl) ?_
    refine xw_callS (n := 1) [.int t] (c_X4_isTime l t) hx hb hml hown hts hE hS rfl rfl q_48 q_861 q_863 q_862 (by decide) rfl ⟨by rw [hRf]; decide, by rw [hRl]; decide⟩ hl.1 rfl (Nat.le_of_ble_eq_true rfl) dX4_potential_14 ⟨by rw [hRc]; decide, by rw [hRs]; decide⟩ (fun v H1 locs hp hS => ?_)
    obtain ⟨hv, hh⟩ := hp; subst hv; subst hh
    refine lv_if_ne (tgt := 24) hx hb dX4_potential_17 (by decide) (fun c17 => ?_) (fun c17 => ?_)
    · skip
      have c17 := b_t c17
      obtain ⟨tm, htm, ettm⟩ := timeP_i c17
      subst ettm
      refine lv_aload_n hx hb dX4_potential_24 rfl (lv_at hl 0 rfl) ?_
      refine lv_iload_n hx hb dX4_potential_25 rfl (lv_at hl 1 rfl) ?_
      refine lv_iload_n hx hb dX4_potential_26 rfl (lv_at hl 2 rfl) ?_
      refine xw_callV (C := "NetlistBenchModel") (n := 2) [.int (nI j), .int (nI tm)] (c_X4_floatsAt l hP hq hw (by omega) htm) hx hb hml hown hts hE hS (xw_recv hE hP (20, 0) rfl rfl) rfl rfl q_48 q_884 q_887 q_886 q_34 (by decide) rfl ⟨by rw [hRf]; decide, by rw [hRl]; decide⟩ hl.1 rfl (Nat.le_of_ble_eq_true rfl) dX4_potential_27 ⟨by rw [hRc]; decide, by rw [hRs]; decide⟩ (fun v H1 locs hp hS => ?_)
      obtain ⟨hv, hh⟩ := hp; subst hv; subst hh
      refine lv_if_eq (tgt := 37) hx hb dX4_potential_30 (by decide) (fun c30 => ?_) (fun c30 => ?_)
      · skip
        refine lv_iconst (v := nI 0) hx hb dX4_potential_37 (by decide) ?_
        refine fp_X4_thrown hx hb hts hown hE hS hP q_728 dX4_potential_38 (fun H locs hP hS => ?_)
        refine lv_aload_n hx hb dX4_potential_41 rfl (lv_at hl 0 rfl) ?_
        refine fg_X4_thrown hx hb hts hown hE hP q_728 dX4_potential_42 ?_
        refine lv_if_eq (tgt := 50) hx hb dX4_potential_45 (by decide) (fun c45 => ?_) (fun c45 => ?_)
        · skip
          have c45 := ni_eq (a := 0) (b := 0) (by omega) (by omega) c45
          refine lv_aload_n hx hb dX4_potential_50 rfl (lv_at hl 0 rfl) ?_
          refine lv_iload_n hx hb dX4_potential_51 rfl (lv_at hl 2 rfl) ?_
          refine xw_callV (C := "NetlistBenchModel") (n := 1) [.int (nI tm)] (c_X4_solve l hP hq hw htm) hx hb hml hown hts hE hS (xw_recv hE hP (20, 0) rfl rfl) rfl rfl q_48 q_892 q_895 q_894 q_35 (by decide) rfl ⟨by rw [hRf]; decide, by rw [hRl]; decide⟩ hl.1 rfl (Nat.le_of_ble_eq_true rfl) dX4_potential_52 ⟨by rw [hRc]; decide, by rw [hRs]; decide⟩ (fun v H1 locs hp hS => ?_)
          obtain ⟨qp9, qf9, qm9, qr9, qi9, qn9, qu9, hv, hnu, hP⟩ := hp; subst hv
          generalize H1 = H at hP hS ⊢
          refine lv_aload_n hx hb dX4_potential_55 rfl (lv_at hl 0 rfl) ?_
          refine fg_X4_numerators hx hb hts hown hE hP q_746 dX4_potential_56 ?_
          refine lv_iload_n hx hb dX4_potential_59 rfl (lv_at hl 1 rfl) ?_
          refine al_numerators hx hb hE hP (j := j) (by omega) dX4_potential_60 ?_
          refine xt_l (w := num z (nI tm) j) (((hnu j (by omega)).1.trans (br_nu hq hw _ (by omega) c30))) ?_
          refine lv_aload_n hx hb dX4_potential_61 rfl (lv_at hl 0 rfl) ?_
          refine fg_X4_denominator hx hb hts hown hE hP q_745 dX4_potential_62 ?_
          refine xt_l (w := den z (nI tm)) (br_de hw _) ?_
          refine lv_iload_n hx hb dX4_potential_65 rfl (lv_at hl 3 rfl) ?_
          refine xw_callS (n := 3) [.long (num z (nI tm) j), .long (den z (nI tm)), .int b] (c_X4_part l (num z (nI tm) j) (den z (nI tm)) b (gcdW_ne (hk _).1 ((hk _).2.1 _ hj c30))) hx hb hml hown hts hE hS rfl rfl q_48 q_909 q_911 q_910 (by decide) rfl ⟨by rw [hRf]; decide, by rw [hRl]; decide⟩ hl.1 rfl (Nat.le_of_ble_eq_true rfl) dX4_potential_66 ⟨by rw [hRc]; decide, by rw [hRs]; decide⟩ (fun v H1 locs hp hS => ?_)
          obtain ⟨hv, hh⟩ := hp; subst hv; subst hh
          refine xt_l (w := ptF (num z (nI tm) j) (den z (nI tm)) b) (pt_eq (hk _).1 ((hk _).2.1 _ hj c30) b) ?_
          have eT : tPot z (nI j) (nI tm) = 0 := by rw [tPot, if_neg (not_not_intro c6), if_neg (not_not_intro c17), cl_nI (by omega), if_neg (not_not_intro c30)]
          exact xe_lret hQ hx hb hr hlocks hH hS (Nat.le_refl _) (Nat.le_refl _) (⟨_, rfl, fun _ => by rw [rPot, cl_nI (by omega)], by rw [eT]; exact hP.R hq⟩) dX4_potential_69
        · skip
          have c45 := ni_ne (a := 0) (b := 0) (by omega) (by omega) c45
          exfalso; omega
      · skip
        refine lv_iconst (v := nI 3) hx hb dX4_potential_33 (by decide) ?_
        refine lv_goto (tgt := 38) hx hb dX4_potential_34 (by decide) ?_
        refine fp_X4_thrown hx hb hts hown hE hS hP q_728 dX4_potential_38 (fun H locs hP hS => ?_)
        refine lv_aload_n hx hb dX4_potential_41 rfl (lv_at hl 0 rfl) ?_
        refine fg_X4_thrown hx hb hts hown hE hP q_728 dX4_potential_42 ?_
        refine lv_if_eq (tgt := 50) hx hb dX4_potential_45 (by decide) (fun c45 => ?_) (fun c45 => ?_)
        · skip
          have c45 := ni_eq (a := 3) (b := 0) (by omega) (by omega) c45
          exfalso; omega
        · skip
          have c45 := ni_ne (a := 3) (b := 0) (by omega) (by omega) c45
          refine lv_lconst (v := 0) hx hb dX4_potential_48 (by decide) ?_
          have eT : tPot z (nI j) (nI tm) = nI 3 := by rw [tPot, if_neg (not_not_intro c6), if_neg (not_not_intro c17), cl_nI (by omega), if_pos c30]; rfl
          exact xe_lret hQ hx hb hr hlocks hH hS (Nat.le_refl _) (Nat.le_refl _) (⟨_, rfl, fun h => absurd (eT.symm.trans h) (by decide), by rw [eT]; exact hP.R hq⟩) dX4_potential_49
    · skip
      have c17 := b_f c17
      refine lv_iconst (v := nI 2) hx hb dX4_potential_20 (by decide) ?_
      refine lv_goto (tgt := 38) hx hb dX4_potential_21 (by decide) ?_
      refine fp_X4_thrown hx hb hts hown hE hS hP q_728 dX4_potential_38 (fun H locs hP hS => ?_)
      refine lv_aload_n hx hb dX4_potential_41 rfl (lv_at hl 0 rfl) ?_
      refine fg_X4_thrown hx hb hts hown hE hP q_728 dX4_potential_42 ?_
      refine lv_if_eq (tgt := 50) hx hb dX4_potential_45 (by decide) (fun c45 => ?_) (fun c45 => ?_)
      · skip
        have c45 := ni_eq (a := 2) (b := 0) (by omega) (by omega) c45
        exfalso; omega
      · skip
        have c45 := ni_ne (a := 2) (b := 0) (by omega) (by omega) c45
        refine lv_lconst (v := 0) hx hb dX4_potential_48 (by decide) ?_
        have eT : tPot z (nI j) t = nI 2 := by rw [tPot, if_neg (not_not_intro c6), if_pos c17]; rfl
        exact xe_lret hQ hx hb hr hlocks hH hS (Nat.le_refl _) (Nat.le_refl _) (⟨_, rfl, fun h => absurd (eT.symm.trans h) (by decide), by rw [eT]; exact hP.R hq⟩) dX4_potential_49
  · skip
    have c6 := b_f c6
    refine lv_iconst (v := nI 1) hx hb dX4_potential_9 (by decide) ?_
    refine lv_goto (tgt := 38) hx hb dX4_potential_10 (by decide) ?_
    refine fp_X4_thrown hx hb hts hown hE hS hP q_728 dX4_potential_38 (fun H locs hP hS => ?_)
    refine lv_aload_n hx hb dX4_potential_41 rfl (lv_at hl 0 rfl) ?_
    refine fg_X4_thrown hx hb hts hown hE hP q_728 dX4_potential_42 ?_
    refine lv_if_eq (tgt := 50) hx hb dX4_potential_45 (by decide) (fun c45 => ?_) (fun c45 => ?_)
    · skip
      have c45 := ni_eq (a := 1) (b := 0) (by omega) (by omega) c45
      exfalso; omega
    · skip
      have c45 := ni_ne (a := 1) (b := 0) (by omega) (by omega) c45
      refine lv_lconst (v := 0) hx hb dX4_potential_48 (by decide) ?_
      have eT : tPot z x t = nI 1 := by rw [tPot, if_pos c6]; rfl
      exact xe_lret hQ hx hb hr hlocks hH hS (Nat.le_refl _) (Nat.le_refl _) (⟨_, rfl, fun h => absurd (eT.symm.trans h) (by decide), by rw [eT]; exact hP.R hq⟩) dX4_potential_49

set_option maxHeartbeats 4000000 in
set_option maxRecDepth 100000 in
theorem c_X4_current (l : Launch) {D : va_G} {y : Nat → ClassId} {A : Nat → Prop} {ad : xL → Nat} {th : Int32} {w : xC} {qp : Nat → Int32} {qm : Nat → Int64} {qr : Nat → Int64} {qi : Nat → Int64} {qn : Nat → Int64} {qf : Nat → Int32} {qu : Int32} {qd : Int64} {fB fO : Nat → Nat → Option va_E} {Hs : Heap} (hP : xW D A ad (wU fB (wR y ad th w qp qm qr qi qn qf qu qd) fO) Hs) {z : xC} (hq : Rq z w) (hw : wf z) (hk : nOk z) (x t b : Int32) : Met l yX4_current (.code yX4_current cX4_current 4 (some .long) :: WG) { frames := 5, cells := 0, slots := 0, locals := 117 } (xPc [.ref (ad (20, 0)), .int x, .int t, .int b] D y Hs) (xQ (fun v H1 => ∃ r, v = some (.long r) ∧ (tCur z x t = 0 → r = rCur z x t b) ∧ xRf D A y ad (z) fB fO (tCur z x t) H1) A) 0 0 A := by
  refine xM_go (by decide) (Nat.le_of_ble_eq_true rfl) (fun p e s m args below meth c ls R Q hx hb hr hlocks hml hown hts hH hE hnm hRf hRl hRc hRs hQ hS hl => ?_)
  have hRf : R.frames = 5 := hRf
  have hRl : R.locals = 117 := hRl
  have hRc : R.cells = 0 := hRc
  have hRs : R.slots = 0 := hRs
  have hl : lv_has ls 4 [(0, .ref (ad (20, 0))), (1, .int x), (2, .int t), (3, .int b)] := hl
  have hN := hw.N
  have hE20 := hw.E
  refine lv_aload_n hx hb dX4_current_0 rfl (lv_at hl 0 rfl) ?_
  refine lv_aload_n hx hb dX4_current_1 rfl (lv_at hl 0 rfl) ?_
  refine lv_iload_n hx hb dX4_current_2 rfl (lv_at hl 1 rfl) ?_
  refine xw_callV (C := "NetlistBenchModel") (n := 1) [.int x] (c_X4_isElement l hP hq hw x) hx hb hml hown hts hE hS (xw_recv hE hP (20, 0) rfl rfl) rfl rfl q_48 q_824 q_827 q_826 q_28 (by decide) rfl ⟨by rw [hRf]; decide, by rw [hRl]; decide⟩ hl.1 rfl (Nat.le_of_ble_eq_true rfl) dX4_current_3 ⟨by rw [hRc]; decide, by rw [hRs]; decide⟩ (fun v H1 locs hp hS => ?_)
  obtain ⟨hv, hh⟩ := hp; subst hv; subst hh
  refine lv_if_ne (tgt := 13) hx hb dX4_current_6 (by decide) (fun c6 => ?_) (fun c6 => ?_)
  · skip
    have c6 := b_t c6
    obtain ⟨j, hj, exj⟩ := elP_i hw c6
    subst exj
    refine lv_iload_n hx hb dX4_current_13 rfl (lv_at hl 2 rfl) ?_
    refine xw_callS (n := 1) [.int t] (c_X4_isTime l t) hx hb hml hown hts hE hS rfl rfl q_48 q_861 q_863 q_862 (by decide) rfl ⟨by rw [hRf]; decide, by rw [hRl]; decide⟩ hl.1 rfl (Nat.le_of_ble_eq_true rfl) dX4_current_14 ⟨by rw [hRc]; decide, by rw [hRs]; decide⟩ (fun v H1 locs hp hS => ?_)
    obtain ⟨hv, hh⟩ := hp; subst hv; subst hh
    refine lv_if_ne (tgt := 24) hx hb dX4_current_17 (by decide) (fun c17 => ?_) (fun c17 => ?_)
    · skip
      have c17 := b_t c17
      obtain ⟨tm, htm, ettm⟩ := timeP_i c17
      subst ettm
      have ha8 : cA z j < nN z := hw.a8 hj
      have hb8 : cB z j < nN z := hw.b8 hj
      refine lv_aload_n hx hb dX4_current_24 rfl (lv_at hl 0 rfl) ?_
      refine lv_iload_n hx hb dX4_current_25 rfl (lv_at hl 1 rfl) ?_
      refine lv_iload_n hx hb dX4_current_26 rfl (lv_at hl 2 rfl) ?_
      refine xw_callV (C := "NetlistBenchModel") (n := 2) [.int (nI j), .int (nI tm)] (c_X4_conducts l hP hq hw hj htm) hx hb hml hown hts hE hS (xw_recv hE hP (20, 0) rfl rfl) rfl rfl q_48 q_876 q_879 q_878 q_33 (by decide) rfl ⟨by rw [hRf]; decide, by rw [hRl]; decide⟩ hl.1 rfl (Nat.le_of_ble_eq_true rfl) dX4_current_27 ⟨by rw [hRc]; decide, by rw [hRs]; decide⟩ (fun v H1 locs hp hS => ?_)
      obtain ⟨hv, hh⟩ := hp; subst hv; subst hh
      refine lv_if_eq (tgt := 51) hx hb dX4_current_30 (by decide) (fun c30 => ?_) (fun c30 => ?_)
      · skip
        have c30 := b_f c30
        refine lv_iconst (v := nI 0) hx hb dX4_current_51 (by decide) ?_
        refine fp_X4_thrown hx hb hts hown hE hS hP q_728 dX4_current_52 (fun H locs hP hS => ?_)
        refine lv_aload_n hx hb dX4_current_55 rfl (lv_at hl 0 rfl) ?_
        refine fg_X4_thrown hx hb hts hown hE hP q_728 dX4_current_56 ?_
        refine lv_if_eq (tgt := 64) hx hb dX4_current_59 (by decide) (fun c59 => ?_) (fun c59 => ?_)
        · skip
          have c59 := ni_eq (a := 0) (b := 0) (by omega) (by omega) c59
          refine lv_aload_n hx hb dX4_current_64 rfl (lv_at hl 0 rfl) ?_
          refine lv_iload_n hx hb dX4_current_65 rfl (lv_at hl 1 rfl) ?_
          refine lv_iload_n hx hb dX4_current_66 rfl (lv_at hl 2 rfl) ?_
          refine xw_callV (C := "NetlistBenchModel") (n := 2) [.int (nI j), .int (nI tm)] (c_X4_isOnAt l hP hq hw hj htm) hx hb hml hown hts hE hS (xw_recv hE hP (20, 0) rfl rfl) rfl rfl q_48 q_864 q_867 q_866 q_31 (by decide) rfl ⟨by rw [hRf]; decide, by rw [hRl]; decide⟩ hl.1 rfl (Nat.le_of_ble_eq_true rfl) dX4_current_67 ⟨by rw [hRc]; decide, by rw [hRs]; decide⟩ (fun v H1 locs hp hS => ?_)
          obtain ⟨hv, hh⟩ := hp; subst hv; subst hh
          refine lv_if_ne (tgt := 83) hx hb dX4_current_70 (by decide) (fun c70 => ?_) (fun c70 => ?_)
          · skip
            refine lv_aload_n hx hb dX4_current_83 rfl (lv_at hl 0 rfl) ?_
            refine fg_X4_areSources hx hb hts hown hE hP q_733 dX4_current_84 ?_
            refine lv_iload_n hx hb dX4_current_87 rfl (lv_at hl 1 rfl) ?_
            refine al_areSources hx hb hE hP (j := j) (by omega) dX4_current_88 ?_
            refine xt_i (hq.s (by first | assumption | omega)) ?_
            refine lv_if_eq (tgt := 108) hx hb dX4_current_89 (by decide) (fun c89 => ?_) (fun c89 => ?_)
            · skip
              refine lv_aload_n hx hb dX4_current_108 rfl (lv_at hl 0 rfl) ?_
              refine lv_iload_n hx hb dX4_current_109 rfl (lv_at hl 2 rfl) ?_
              refine xw_callV (C := "NetlistBenchModel") (n := 1) [.int (nI tm)] (c_X4_solve l hP hq hw htm) hx hb hml hown hts hE hS (xw_recv hE hP (20, 0) rfl rfl) rfl rfl q_48 q_892 q_895 q_894 q_35 (by decide) rfl ⟨by rw [hRf]; decide, by rw [hRl]; decide⟩ hl.1 rfl (Nat.le_of_ble_eq_true rfl) dX4_current_110 ⟨by rw [hRc]; decide, by rw [hRs]; decide⟩ (fun v H1 locs hp hS => ?_)
              obtain ⟨qp9, qf9, qm9, qr9, qi9, qn9, qu9, hv, hnu, hP⟩ := hp; subst hv
              generalize H1 = H at hP hS ⊢
              refine lv_aload_n hx hb dX4_current_113 rfl (lv_at hl 0 rfl) ?_
              refine fg_X4_sizes hx hb hts hown hE hP q_736 dX4_current_114 ?_
              refine lv_iload_n hx hb dX4_current_117 rfl (lv_at hl 1 rfl) ?_
              refine al_sizes hx hb hE hP (j := j) (by omega) dX4_current_118 ?_
              refine xt_i (hq.z (by first | assumption | omega)) ?_
              refine lv_i2l (v := (eZ z j).toInt64) hx hb dX4_current_119 rfl ?_
              refine lv_aload_n hx hb dX4_current_120 rfl (lv_at hl 0 rfl) ?_
              refine fg_X4_numerators hx hb hts hown hE hP q_746 dX4_current_121 ?_
              refine lv_aload_n hx hb dX4_current_124 rfl (lv_at hl 0 rfl) ?_
              refine fg_X4_as hx hb hts hown hE hP q_734 dX4_current_125 ?_
              refine lv_iload_n hx hb dX4_current_128 rfl (lv_at hl 1 rfl) ?_
              refine al_as hx hb hE hP (j := j) (by omega) dX4_current_129 ?_
              refine xt_i (hq.a hw (by first | assumption | omega)) ?_
              refine al_numerators hx hb hE hP (j := cA z j) (by omega) dX4_current_130 ?_
              refine xt_l (w := num z (nI tm) (cA z j)) (((hnu (cA z j) (by omega)).1.trans (br_nu2 hq hw _ (by omega)))) ?_
              refine lv_aload_n hx hb dX4_current_131 rfl (lv_at hl 0 rfl) ?_
              refine fg_X4_numerators hx hb hts hown hE hP q_746 dX4_current_132 ?_
              refine lv_aload_n hx hb dX4_current_135 rfl (lv_at hl 0 rfl) ?_
              refine fg_X4_bs hx hb hts hown hE hP q_735 dX4_current_136 ?_
              refine lv_iload_n hx hb dX4_current_139 rfl (lv_at hl 1 rfl) ?_
              refine al_bs hx hb hE hP (j := j) (by omega) dX4_current_140 ?_
              refine xt_i (hq.b hw (by first | assumption | omega)) ?_
              refine al_numerators hx hb hE hP (j := cB z j) (by omega) dX4_current_141 ?_
              refine xt_l (w := num z (nI tm) (cB z j)) (((hnu (cB z j) (by omega)).1.trans (br_nu2 hq hw _ (by omega)))) ?_
              refine lv_lsub hx hb dX4_current_142 ?_
              refine lv_lmul hx hb dX4_current_143 ?_
              refine xt_l (w := flw z (num z (nI tm)) (den z (nI tm)) j (cA z j)) (by rw [flw, if_neg (fun h => h.1 rfl), if_pos rfl, if_pos c89]) ?_
              refine lv_aload_n hx hb dX4_current_144 rfl (lv_at hl 0 rfl) ?_
              refine fg_X4_denominator hx hb hts hown hE hP q_745 dX4_current_145 ?_
              refine xt_l (w := den z (nI tm)) (br_de hw _) ?_
              refine lv_iload_n hx hb dX4_current_148 rfl (lv_at hl 3 rfl) ?_
              refine xw_callS (n := 3) [.long (flw z (num z (nI tm)) (den z (nI tm)) j (cA z j)), .long (den z (nI tm)), .int b] (c_X4_part l (flw z (num z (nI tm)) (den z (nI tm)) j (cA z j)) (den z (nI tm)) b (gcdW_ne (hk _).1 ((hk _).2.2.1 _ hj (by first | exact c44 | exact absurd ⟨c89, c70⟩ c30)))) hx hb hml hown hts hE hS rfl rfl q_48 q_909 q_911 q_910 (by decide) rfl ⟨by rw [hRf]; decide, by rw [hRl]; decide⟩ hl.1 rfl (Nat.le_of_ble_eq_true rfl) dX4_current_149 ⟨by rw [hRc]; decide, by rw [hRs]; decide⟩ (fun v H1 locs hp hS => ?_)
              obtain ⟨hv, hh⟩ := hp; subst hv; subst hh
              refine xt_l (w := ptF (flw z (num z (nI tm)) (den z (nI tm)) j (cA z j)) (den z (nI tm)) b) (pt_eq (hk _).1 ((hk _).2.2.1 _ hj (by first | exact c44 | exact absurd ⟨c89, c70⟩ c30)) b) ?_
              have eT : tCur z (nI j) (nI tm) = 0 := by rw [tCur, if_neg (not_not_intro c6), if_neg (not_not_intro c17), cl_nI (by omega), if_neg (fun h => c30 h.1)]
              exact xe_lret hQ hx hb hr hlocks hH hS (Nat.le_refl _) (Nat.le_refl _) (⟨_, rfl, fun _ => by rw [rCur, cl_nI (by omega), if_neg c70, if_neg (not_not_intro c89)], by rw [eT]; exact hP.R hq⟩) dX4_current_152
            · skip
              refine lv_iload_n hx hb dX4_current_92 rfl (lv_at hl 3 rfl) ?_
              refine lv_if_eq (tgt := 106) hx hb dX4_current_93 (by decide) (fun c93 => ?_) (fun c93 => ?_)
              · skip
                refine lv_lconst (v := 1) hx hb dX4_current_106 (by decide) ?_
                have eT : tCur z (nI j) (nI tm) = 0 := by rw [tCur, if_neg (not_not_intro c6), if_neg (not_not_intro c17), cl_nI (by omega), if_neg (fun h => c30 h.1)]
                exact xe_lret hQ hx hb hr hlocks hH hS (Nat.le_refl _) (Nat.le_refl _) (⟨_, rfl, fun _ => by rw [rCur, cl_nI (by omega), if_neg c70, if_pos c89, pt_1, if_pos c93], by rw [eT]; exact hP.R hq⟩) dX4_current_107
              · skip
                refine lv_aload_n hx hb dX4_current_96 rfl (lv_at hl 0 rfl) ?_
                refine fg_X4_sizes hx hb hts hown hE hP q_736 dX4_current_97 ?_
                refine lv_iload_n hx hb dX4_current_100 rfl (lv_at hl 1 rfl) ?_
                refine al_sizes hx hb hE hP (j := j) (by omega) dX4_current_101 ?_
                refine xt_i (hq.z (by first | assumption | omega)) ?_
                refine lv_i2l (v := (eZ z j).toInt64) hx hb dX4_current_102 rfl ?_
                refine lv_goto (tgt := 107) hx hb dX4_current_103 (by decide) ?_
                have eT : tCur z (nI j) (nI tm) = 0 := by rw [tCur, if_neg (not_not_intro c6), if_neg (not_not_intro c17), cl_nI (by omega), if_neg (fun h => c30 h.1)]
                exact xe_lret hQ hx hb hr hlocks hH hS (Nat.le_refl _) (Nat.le_refl _) (⟨_, rfl, fun _ => by rw [rCur, cl_nI (by omega), if_neg c70, if_pos c89, pt_1, if_neg c93], by rw [eT]; exact hP.R hq⟩) dX4_current_107
          · skip
            refine lv_iload_n hx hb dX4_current_73 rfl (lv_at hl 3 rfl) ?_
            refine lv_if_eq (tgt := 81) hx hb dX4_current_74 (by decide) (fun c74 => ?_) (fun c74 => ?_)
            · skip
              refine lv_lconst (v := 1) hx hb dX4_current_81 (by decide) ?_
              have eT : tCur z (nI j) (nI tm) = 0 := by rw [tCur, if_neg (not_not_intro c6), if_neg (not_not_intro c17), cl_nI (by omega), if_neg (fun h => c30 h.1)]
              exact xe_lret hQ hx hb hr hlocks hH hS (Nat.le_refl _) (Nat.le_refl _) (⟨_, rfl, fun _ => by rw [rCur, cl_nI (by omega), if_pos c70, pt_1, if_pos c74], by rw [eT]; exact hP.R hq⟩) dX4_current_82
            · skip
              refine lv_lconst (v := 0) hx hb dX4_current_77 (by decide) ?_
              refine lv_goto (tgt := 82) hx hb dX4_current_78 (by decide) ?_
              have eT : tCur z (nI j) (nI tm) = 0 := by rw [tCur, if_neg (not_not_intro c6), if_neg (not_not_intro c17), cl_nI (by omega), if_neg (fun h => c30 h.1)]
              exact xe_lret hQ hx hb hr hlocks hH hS (Nat.le_refl _) (Nat.le_refl _) (⟨_, rfl, fun _ => by rw [rCur, cl_nI (by omega), if_pos c70, pt_1, if_neg c74], by rw [eT]; exact hP.R hq⟩) dX4_current_82
        · skip
          have c59 := ni_ne (a := 0) (b := 0) (by omega) (by omega) c59
          exfalso; omega
      · skip
        have c30 := b_t c30
        refine lv_aload_n hx hb dX4_current_33 rfl (lv_at hl 0 rfl) ?_
        refine lv_aload_n hx hb dX4_current_34 rfl (lv_at hl 0 rfl) ?_
        refine fg_X4_as hx hb hts hown hE hP q_734 dX4_current_35 ?_
        refine lv_iload_n hx hb dX4_current_38 rfl (lv_at hl 1 rfl) ?_
        refine al_as hx hb hE hP (j := j) (by omega) dX4_current_39 ?_
        refine xt_i (hq.a hw (by first | assumption | omega)) ?_
        refine lv_iload_n hx hb dX4_current_40 rfl (lv_at hl 2 rfl) ?_
        refine xw_callV (C := "NetlistBenchModel") (n := 2) [.int (nI (cA z j)), .int (nI tm)] (c_X4_floatsAt l hP hq hw (by omega) htm) hx hb hml hown hts hE hS (xw_recv hE hP (20, 0) rfl rfl) rfl rfl q_48 q_884 q_887 q_886 q_34 (by decide) rfl ⟨by rw [hRf]; decide, by rw [hRl]; decide⟩ hl.1 rfl (Nat.le_of_ble_eq_true rfl) dX4_current_41 ⟨by rw [hRc]; decide, by rw [hRs]; decide⟩ (fun v H1 locs hp hS => ?_)
        obtain ⟨hv, hh⟩ := hp; subst hv; subst hh
        refine lv_if_eq (tgt := 51) hx hb dX4_current_44 (by decide) (fun c44 => ?_) (fun c44 => ?_)
        · skip
          refine lv_iconst (v := nI 0) hx hb dX4_current_51 (by decide) ?_
          refine fp_X4_thrown hx hb hts hown hE hS hP q_728 dX4_current_52 (fun H locs hP hS => ?_)
          refine lv_aload_n hx hb dX4_current_55 rfl (lv_at hl 0 rfl) ?_
          refine fg_X4_thrown hx hb hts hown hE hP q_728 dX4_current_56 ?_
          refine lv_if_eq (tgt := 64) hx hb dX4_current_59 (by decide) (fun c59 => ?_) (fun c59 => ?_)
          · skip
            have c59 := ni_eq (a := 0) (b := 0) (by omega) (by omega) c59
            refine lv_aload_n hx hb dX4_current_64 rfl (lv_at hl 0 rfl) ?_
            refine lv_iload_n hx hb dX4_current_65 rfl (lv_at hl 1 rfl) ?_
            refine lv_iload_n hx hb dX4_current_66 rfl (lv_at hl 2 rfl) ?_
            refine xw_callV (C := "NetlistBenchModel") (n := 2) [.int (nI j), .int (nI tm)] (c_X4_isOnAt l hP hq hw hj htm) hx hb hml hown hts hE hS (xw_recv hE hP (20, 0) rfl rfl) rfl rfl q_48 q_864 q_867 q_866 q_31 (by decide) rfl ⟨by rw [hRf]; decide, by rw [hRl]; decide⟩ hl.1 rfl (Nat.le_of_ble_eq_true rfl) dX4_current_67 ⟨by rw [hRc]; decide, by rw [hRs]; decide⟩ (fun v H1 locs hp hS => ?_)
            obtain ⟨hv, hh⟩ := hp; subst hv; subst hh
            refine lv_if_ne (tgt := 83) hx hb dX4_current_70 (by decide) (fun c70 => ?_) (fun c70 => ?_)
            · skip
              refine lv_aload_n hx hb dX4_current_83 rfl (lv_at hl 0 rfl) ?_
              refine fg_X4_areSources hx hb hts hown hE hP q_733 dX4_current_84 ?_
              refine lv_iload_n hx hb dX4_current_87 rfl (lv_at hl 1 rfl) ?_
              refine al_areSources hx hb hE hP (j := j) (by omega) dX4_current_88 ?_
              refine xt_i (hq.s (by first | assumption | omega)) ?_
              refine lv_if_eq (tgt := 108) hx hb dX4_current_89 (by decide) (fun c89 => ?_) (fun c89 => ?_)
              · skip
                refine lv_aload_n hx hb dX4_current_108 rfl (lv_at hl 0 rfl) ?_
                refine lv_iload_n hx hb dX4_current_109 rfl (lv_at hl 2 rfl) ?_
                refine xw_callV (C := "NetlistBenchModel") (n := 1) [.int (nI tm)] (c_X4_solve l hP hq hw htm) hx hb hml hown hts hE hS (xw_recv hE hP (20, 0) rfl rfl) rfl rfl q_48 q_892 q_895 q_894 q_35 (by decide) rfl ⟨by rw [hRf]; decide, by rw [hRl]; decide⟩ hl.1 rfl (Nat.le_of_ble_eq_true rfl) dX4_current_110 ⟨by rw [hRc]; decide, by rw [hRs]; decide⟩ (fun v H1 locs hp hS => ?_)
                obtain ⟨qp9, qf9, qm9, qr9, qi9, qn9, qu9, hv, hnu, hP⟩ := hp; subst hv
                generalize H1 = H at hP hS ⊢
                refine lv_aload_n hx hb dX4_current_113 rfl (lv_at hl 0 rfl) ?_
                refine fg_X4_sizes hx hb hts hown hE hP q_736 dX4_current_114 ?_
                refine lv_iload_n hx hb dX4_current_117 rfl (lv_at hl 1 rfl) ?_
                refine al_sizes hx hb hE hP (j := j) (by omega) dX4_current_118 ?_
                refine xt_i (hq.z (by first | assumption | omega)) ?_
                refine lv_i2l (v := (eZ z j).toInt64) hx hb dX4_current_119 rfl ?_
                refine lv_aload_n hx hb dX4_current_120 rfl (lv_at hl 0 rfl) ?_
                refine fg_X4_numerators hx hb hts hown hE hP q_746 dX4_current_121 ?_
                refine lv_aload_n hx hb dX4_current_124 rfl (lv_at hl 0 rfl) ?_
                refine fg_X4_as hx hb hts hown hE hP q_734 dX4_current_125 ?_
                refine lv_iload_n hx hb dX4_current_128 rfl (lv_at hl 1 rfl) ?_
                refine al_as hx hb hE hP (j := j) (by omega) dX4_current_129 ?_
                refine xt_i (hq.a hw (by first | assumption | omega)) ?_
                refine al_numerators hx hb hE hP (j := cA z j) (by omega) dX4_current_130 ?_
                refine xt_l (w := num z (nI tm) (cA z j)) (((hnu (cA z j) (by omega)).1.trans (br_nu2 hq hw _ (by omega)))) ?_
                refine lv_aload_n hx hb dX4_current_131 rfl (lv_at hl 0 rfl) ?_
                refine fg_X4_numerators hx hb hts hown hE hP q_746 dX4_current_132 ?_
                refine lv_aload_n hx hb dX4_current_135 rfl (lv_at hl 0 rfl) ?_
                refine fg_X4_bs hx hb hts hown hE hP q_735 dX4_current_136 ?_
                refine lv_iload_n hx hb dX4_current_139 rfl (lv_at hl 1 rfl) ?_
                refine al_bs hx hb hE hP (j := j) (by omega) dX4_current_140 ?_
                refine xt_i (hq.b hw (by first | assumption | omega)) ?_
                refine al_numerators hx hb hE hP (j := cB z j) (by omega) dX4_current_141 ?_
                refine xt_l (w := num z (nI tm) (cB z j)) (((hnu (cB z j) (by omega)).1.trans (br_nu2 hq hw _ (by omega)))) ?_
                refine lv_lsub hx hb dX4_current_142 ?_
                refine lv_lmul hx hb dX4_current_143 ?_
                refine xt_l (w := flw z (num z (nI tm)) (den z (nI tm)) j (cA z j)) (by rw [flw, if_neg (fun h => h.1 rfl), if_pos rfl, if_pos c89]) ?_
                refine lv_aload_n hx hb dX4_current_144 rfl (lv_at hl 0 rfl) ?_
                refine fg_X4_denominator hx hb hts hown hE hP q_745 dX4_current_145 ?_
                refine xt_l (w := den z (nI tm)) (br_de hw _) ?_
                refine lv_iload_n hx hb dX4_current_148 rfl (lv_at hl 3 rfl) ?_
                refine xw_callS (n := 3) [.long (flw z (num z (nI tm)) (den z (nI tm)) j (cA z j)), .long (den z (nI tm)), .int b] (c_X4_part l (flw z (num z (nI tm)) (den z (nI tm)) j (cA z j)) (den z (nI tm)) b (gcdW_ne (hk _).1 ((hk _).2.2.1 _ hj (by first | exact c44 | exact absurd ⟨c89, c70⟩ c30)))) hx hb hml hown hts hE hS rfl rfl q_48 q_909 q_911 q_910 (by decide) rfl ⟨by rw [hRf]; decide, by rw [hRl]; decide⟩ hl.1 rfl (Nat.le_of_ble_eq_true rfl) dX4_current_149 ⟨by rw [hRc]; decide, by rw [hRs]; decide⟩ (fun v H1 locs hp hS => ?_)
                obtain ⟨hv, hh⟩ := hp; subst hv; subst hh
                refine xt_l (w := ptF (flw z (num z (nI tm)) (den z (nI tm)) j (cA z j)) (den z (nI tm)) b) (pt_eq (hk _).1 ((hk _).2.2.1 _ hj (by first | exact c44 | exact absurd ⟨c89, c70⟩ c30)) b) ?_
                have eT : tCur z (nI j) (nI tm) = 0 := by rw [tCur, if_neg (not_not_intro c6), if_neg (not_not_intro c17), cl_nI (by omega), if_neg (fun h => h.2 c44)]
                exact xe_lret hQ hx hb hr hlocks hH hS (Nat.le_refl _) (Nat.le_refl _) (⟨_, rfl, fun _ => by rw [rCur, cl_nI (by omega), if_neg c70, if_neg (not_not_intro c89)], by rw [eT]; exact hP.R hq⟩) dX4_current_152
              · skip
                refine lv_iload_n hx hb dX4_current_92 rfl (lv_at hl 3 rfl) ?_
                refine lv_if_eq (tgt := 106) hx hb dX4_current_93 (by decide) (fun c93 => ?_) (fun c93 => ?_)
                · skip
                  refine lv_lconst (v := 1) hx hb dX4_current_106 (by decide) ?_
                  have eT : tCur z (nI j) (nI tm) = 0 := by rw [tCur, if_neg (not_not_intro c6), if_neg (not_not_intro c17), cl_nI (by omega), if_neg (fun h => h.2 c44)]
                  exact xe_lret hQ hx hb hr hlocks hH hS (Nat.le_refl _) (Nat.le_refl _) (⟨_, rfl, fun _ => by rw [rCur, cl_nI (by omega), if_neg c70, if_pos c89, pt_1, if_pos c93], by rw [eT]; exact hP.R hq⟩) dX4_current_107
                · skip
                  refine lv_aload_n hx hb dX4_current_96 rfl (lv_at hl 0 rfl) ?_
                  refine fg_X4_sizes hx hb hts hown hE hP q_736 dX4_current_97 ?_
                  refine lv_iload_n hx hb dX4_current_100 rfl (lv_at hl 1 rfl) ?_
                  refine al_sizes hx hb hE hP (j := j) (by omega) dX4_current_101 ?_
                  refine xt_i (hq.z (by first | assumption | omega)) ?_
                  refine lv_i2l (v := (eZ z j).toInt64) hx hb dX4_current_102 rfl ?_
                  refine lv_goto (tgt := 107) hx hb dX4_current_103 (by decide) ?_
                  have eT : tCur z (nI j) (nI tm) = 0 := by rw [tCur, if_neg (not_not_intro c6), if_neg (not_not_intro c17), cl_nI (by omega), if_neg (fun h => h.2 c44)]
                  exact xe_lret hQ hx hb hr hlocks hH hS (Nat.le_refl _) (Nat.le_refl _) (⟨_, rfl, fun _ => by rw [rCur, cl_nI (by omega), if_neg c70, if_pos c89, pt_1, if_neg c93], by rw [eT]; exact hP.R hq⟩) dX4_current_107
            · skip
              refine lv_iload_n hx hb dX4_current_73 rfl (lv_at hl 3 rfl) ?_
              refine lv_if_eq (tgt := 81) hx hb dX4_current_74 (by decide) (fun c74 => ?_) (fun c74 => ?_)
              · skip
                refine lv_lconst (v := 1) hx hb dX4_current_81 (by decide) ?_
                have eT : tCur z (nI j) (nI tm) = 0 := by rw [tCur, if_neg (not_not_intro c6), if_neg (not_not_intro c17), cl_nI (by omega), if_neg (fun h => h.2 c44)]
                exact xe_lret hQ hx hb hr hlocks hH hS (Nat.le_refl _) (Nat.le_refl _) (⟨_, rfl, fun _ => by rw [rCur, cl_nI (by omega), if_pos c70, pt_1, if_pos c74], by rw [eT]; exact hP.R hq⟩) dX4_current_82
              · skip
                refine lv_lconst (v := 0) hx hb dX4_current_77 (by decide) ?_
                refine lv_goto (tgt := 82) hx hb dX4_current_78 (by decide) ?_
                have eT : tCur z (nI j) (nI tm) = 0 := by rw [tCur, if_neg (not_not_intro c6), if_neg (not_not_intro c17), cl_nI (by omega), if_neg (fun h => h.2 c44)]
                exact xe_lret hQ hx hb hr hlocks hH hS (Nat.le_refl _) (Nat.le_refl _) (⟨_, rfl, fun _ => by rw [rCur, cl_nI (by omega), if_pos c70, pt_1, if_neg c74], by rw [eT]; exact hP.R hq⟩) dX4_current_82
          · skip
            have c59 := ni_ne (a := 0) (b := 0) (by omega) (by omega) c59
            exfalso; omega
        · skip
          refine lv_iconst (v := nI 3) hx hb dX4_current_47 (by decide) ?_
          refine lv_goto (tgt := 52) hx hb dX4_current_48 (by decide) ?_
          refine fp_X4_thrown hx hb hts hown hE hS hP q_728 dX4_current_52 (fun H locs hP hS => ?_)
          refine lv_aload_n hx hb dX4_current_55 rfl (lv_at hl 0 rfl) ?_
          refine fg_X4_thrown hx hb hts hown hE hP q_728 dX4_current_56 ?_
          refine lv_if_eq (tgt := 64) hx hb dX4_current_59 (by decide) (fun c59 => ?_) (fun c59 => ?_)
          · skip
            have c59 := ni_eq (a := 3) (b := 0) (by omega) (by omega) c59
            exfalso; omega
          · skip
            have c59 := ni_ne (a := 3) (b := 0) (by omega) (by omega) c59
            refine lv_lconst (v := 0) hx hb dX4_current_62 (by decide) ?_
            have eT : tCur z (nI j) (nI tm) = nI 3 := by rw [tCur, if_neg (not_not_intro c6), if_neg (not_not_intro c17), cl_nI (by omega), if_pos ⟨c30, c44⟩]; rfl
            exact xe_lret hQ hx hb hr hlocks hH hS (Nat.le_refl _) (Nat.le_refl _) (⟨_, rfl, fun h => absurd (eT.symm.trans h) (by decide), by rw [eT]; exact hP.R hq⟩) dX4_current_63
    · skip
      have c17 := b_f c17
      refine lv_iconst (v := nI 2) hx hb dX4_current_20 (by decide) ?_
      refine lv_goto (tgt := 52) hx hb dX4_current_21 (by decide) ?_
      refine fp_X4_thrown hx hb hts hown hE hS hP q_728 dX4_current_52 (fun H locs hP hS => ?_)
      refine lv_aload_n hx hb dX4_current_55 rfl (lv_at hl 0 rfl) ?_
      refine fg_X4_thrown hx hb hts hown hE hP q_728 dX4_current_56 ?_
      refine lv_if_eq (tgt := 64) hx hb dX4_current_59 (by decide) (fun c59 => ?_) (fun c59 => ?_)
      · skip
        have c59 := ni_eq (a := 2) (b := 0) (by omega) (by omega) c59
        exfalso; omega
      · skip
        have c59 := ni_ne (a := 2) (b := 0) (by omega) (by omega) c59
        refine lv_lconst (v := 0) hx hb dX4_current_62 (by decide) ?_
        have eT : tCur z (nI j) t = nI 2 := by rw [tCur, if_neg (not_not_intro c6), if_pos c17]; rfl
        exact xe_lret hQ hx hb hr hlocks hH hS (Nat.le_refl _) (Nat.le_refl _) (⟨_, rfl, fun h => absurd (eT.symm.trans h) (by decide), by rw [eT]; exact hP.R hq⟩) dX4_current_63
  · skip
    have c6 := b_f c6
    refine lv_iconst (v := nI 1) hx hb dX4_current_9 (by decide) ?_
    refine lv_goto (tgt := 52) hx hb dX4_current_10 (by decide) ?_
    refine fp_X4_thrown hx hb hts hown hE hS hP q_728 dX4_current_52 (fun H locs hP hS => ?_)
    refine lv_aload_n hx hb dX4_current_55 rfl (lv_at hl 0 rfl) ?_
    refine fg_X4_thrown hx hb hts hown hE hP q_728 dX4_current_56 ?_
    refine lv_if_eq (tgt := 64) hx hb dX4_current_59 (by decide) (fun c59 => ?_) (fun c59 => ?_)
    · skip
      have c59 := ni_eq (a := 1) (b := 0) (by omega) (by omega) c59
      exfalso; omega
    · skip
      have c59 := ni_ne (a := 1) (b := 0) (by omega) (by omega) c59
      refine lv_lconst (v := 0) hx hb dX4_current_62 (by decide) ?_
      have eT : tCur z x t = nI 1 := by rw [tCur, if_pos c6]; rfl
      exact xe_lret hQ hx hb hr hlocks hH hS (Nat.le_refl _) (Nat.le_refl _) (⟨_, rfl, fun h => absurd (eT.symm.trans h) (by decide), by rw [eT]; exact hP.R hq⟩) dX4_current_63

set_option maxHeartbeats 4000000 in
set_option maxRecDepth 100000 in
theorem c_X4_feed (l : Launch) {D : va_G} {y : Nat → ClassId} {A : Nat → Prop} {ad : xL → Nat} {th : Int32} {w : xC} {qp : Nat → Int32} {qm : Nat → Int64} {qr : Nat → Int64} {qi : Nat → Int64} {qn : Nat → Int64} {qf : Nat → Int32} {qu : Int32} {qd : Int64} {fB fO : Nat → Nat → Option va_E} {Hs : Heap} (hP : xW D A ad (wU fB (wR y ad th w qp qm qr qi qn qf qu qd) fO) Hs) {z : xC} (hq : Rq z w) (hw : wf z) (hk : nOk z) (x t b : Int32) : Met l yX4_feed (.code yX4_feed cX4_feed 9 (some .long) :: WG) { frames := 5, cells := 0, slots := 0, locals := 117 } (xPc [.ref (ad (20, 0)), .int x, .int t, .int b] D y Hs) (xQ (fun v H1 => ∃ r, v = some (.long r) ∧ (tFeed z x t = 0 → r = rFeed z x t b) ∧ xRf D A y ad (z) fB fO (tFeed z x t) H1) A) 0 0 A := by
  refine xM_go (by decide) (Nat.le_of_ble_eq_true rfl) (fun p e s m args below meth c ls R Q hx hb hr hlocks hml hown hts hH hE hnm hRf hRl hRc hRs hQ hS hl => ?_)
  have hRf : R.frames = 5 := hRf
  have hRl : R.locals = 117 := hRl
  have hRc : R.cells = 0 := hRc
  have hRs : R.slots = 0 := hRs
  have hl : lv_has ls 9 [(0, .ref (ad (20, 0))), (1, .int x), (2, .int t), (3, .int b)] := hl
  have hN := hw.N
  have hE20 := hw.E
  refine lv_aload_n hx hb dX4_feed_0 rfl (lv_at hl 0 rfl) ?_
  refine lv_aload_n hx hb dX4_feed_1 rfl (lv_at hl 0 rfl) ?_
  refine lv_iload_n hx hb dX4_feed_2 rfl (lv_at hl 1 rfl) ?_
  refine xw_callV (C := "NetlistBenchModel") (n := 1) [.int x] (c_X4_isNode l hP hq hw x) hx hb hml hown hts hE hS (xw_recv hE hP (20, 0) rfl rfl) rfl rfl q_48 q_806 q_809 q_808 q_27 (by decide) rfl ⟨by rw [hRf]; decide, by rw [hRl]; decide⟩ hl.1 rfl (Nat.le_of_ble_eq_true rfl) dX4_feed_3 ⟨by rw [hRc]; decide, by rw [hRs]; decide⟩ (fun v H1 locs hp hS => ?_)
  obtain ⟨hv, hh⟩ := hp; subst hv; subst hh
  refine lv_if_ne (tgt := 13) hx hb dX4_feed_6 (by decide) (fun c6 => ?_) (fun c6 => ?_)
  · skip
    have c6 := b_t c6
    obtain ⟨j, hj, exj⟩ := nodeP_i hw c6
    subst exj
    refine lv_iload_n hx hb dX4_feed_13 rfl (lv_at hl 2 rfl) ?_
    refine xw_callS (n := 1) [.int t] (c_X4_isTime l t) hx hb hml hown hts hE hS rfl rfl q_48 q_861 q_863 q_862 (by decide) rfl ⟨by rw [hRf]; decide, by rw [hRl]; decide⟩ hl.1 rfl (Nat.le_of_ble_eq_true rfl) dX4_feed_14 ⟨by rw [hRc]; decide, by rw [hRs]; decide⟩ (fun v H1 locs hp hS => ?_)
    obtain ⟨hv, hh⟩ := hp; subst hv; subst hh
    refine lv_if_ne (tgt := 24) hx hb dX4_feed_17 (by decide) (fun c17 => ?_) (fun c17 => ?_)
    · skip
      have c17 := b_t c17
      obtain ⟨tm, htm, ettm⟩ := timeP_i c17
      subst ettm
      refine lv_aload_n hx hb dX4_feed_24 rfl (lv_at hl 0 rfl) ?_
      refine fg_X4_areRails hx hb hts hown hE hP q_730 dX4_feed_25 ?_
      refine lv_iload_n hx hb dX4_feed_28 rfl (lv_at hl 1 rfl) ?_
      refine al_areRails hx hb hE hP (j := j) (by omega) dX4_feed_29 ?_
      refine xt_i (hq.r (by first | assumption | omega)) ?_
      refine lv_if_eq (tgt := 37) hx hb dX4_feed_30 (by decide) (fun c30 => ?_) (fun c30 => ?_)
      · skip
        refine lv_iconst (v := nI 3) hx hb dX4_feed_37 (by decide) ?_
        refine fp_X4_thrown hx hb hts hown hE hS hP q_728 dX4_feed_38 (fun H locs hP hS => ?_)
        refine lv_aload_n hx hb dX4_feed_41 rfl (lv_at hl 0 rfl) ?_
        refine fg_X4_thrown hx hb hts hown hE hP q_728 dX4_feed_42 ?_
        refine lv_if_eq (tgt := 50) hx hb dX4_feed_45 (by decide) (fun c45 => ?_) (fun c45 => ?_)
        · skip
          have c45 := ni_eq (a := 3) (b := 0) (by omega) (by omega) c45
          exfalso; omega
        · skip
          have c45 := ni_ne (a := 3) (b := 0) (by omega) (by omega) c45
          refine lv_lconst (v := 0) hx hb dX4_feed_48 (by decide) ?_
          have eT : tFeed z (nI j) (nI tm) = nI 3 := by rw [tFeed, if_neg (not_not_intro c6), if_neg (not_not_intro c17), cl_nI (by omega), if_pos c30]; rfl
          exact xe_lret hQ hx hb hr hlocks hH hS (Nat.le_refl _) (Nat.le_refl _) (⟨_, rfl, fun h => absurd (eT.symm.trans h) (by decide), by rw [eT]; exact hP.R hq⟩) dX4_feed_49
      · skip
        refine lv_iconst (v := nI 0) hx hb dX4_feed_33 (by decide) ?_
        refine lv_goto (tgt := 38) hx hb dX4_feed_34 (by decide) ?_
        refine fp_X4_thrown hx hb hts hown hE hS hP q_728 dX4_feed_38 (fun H locs hP hS => ?_)
        refine lv_aload_n hx hb dX4_feed_41 rfl (lv_at hl 0 rfl) ?_
        refine fg_X4_thrown hx hb hts hown hE hP q_728 dX4_feed_42 ?_
        refine lv_if_eq (tgt := 50) hx hb dX4_feed_45 (by decide) (fun c45 => ?_) (fun c45 => ?_)
        · skip
          have c45 := ni_eq (a := 0) (b := 0) (by omega) (by omega) c45
          refine lv_aload_n hx hb dX4_feed_50 rfl (lv_at hl 0 rfl) ?_
          refine lv_iload_n hx hb dX4_feed_51 rfl (lv_at hl 2 rfl) ?_
          refine xw_callV (C := "NetlistBenchModel") (n := 1) [.int (nI tm)] (c_X4_solve l hP hq hw htm) hx hb hml hown hts hE hS (xw_recv hE hP (20, 0) rfl rfl) rfl rfl q_48 q_892 q_895 q_894 q_35 (by decide) rfl ⟨by rw [hRf]; decide, by rw [hRl]; decide⟩ hl.1 rfl (Nat.le_of_ble_eq_true rfl) dX4_feed_52 ⟨by rw [hRc]; decide, by rw [hRs]; decide⟩ (fun v H1 locs hp hS => ?_)
          obtain ⟨qp9, qf9, qm9, qr9, qi9, qn9, qu9, hv, hnu, hP⟩ := hp; subst hv
          generalize H1 = H at hP hS ⊢
          refine lv_lconst (v := 0) hx hb dX4_feed_55 (by decide) ?_
          refine lv_lstore (lv' := [(4, .long 0), (0, .ref (ad (20, 0))), (1, .int (nI j)), (2, .int (nI tm)), (3, .int b)]) hx hb dX4_feed_56 hl (by decide) rfl (fun ls hl => ?_)
          refine lv_iconst (v := nI 0) hx hb dX4_feed_58 (by decide) ?_
          refine lv_istore (lv' := [(6, .int (nI 0)), (4, .long 0), (0, .ref (ad (20, 0))), (1, .int (nI j)), (2, .int (nI tm)), (3, .int b)]) hx hb dX4_feed_59 hl (by decide) rfl (fun ls hl => ?_)
          have K61 : ∀ (nn : Nat), ∀ (i : Nat), (i ≤ nE z) → nE z - i < nn → ∀ (H : Heap) (locs : List Loc) (ls : Array Slot), xW D A ad (wU fB (wR y ad (nI 0) w qp9 qm9 qr9 qi9 qn9 qf9 qu9 (deR z w (nI tm))) fO) H → va_S A Hs H locs → lv_has ls 9 [(6, .int (nI i)), (4, .long (fdS z (nI tm) (num z (nI tm)) (den z (nI tm)) j i)), (0, .ref (ad (20, 0))), (1, .int (nI j)), (2, .int (nI tm)), (3, .int b)] → W p l e R s m args below meth c H locs 0 0 Q (F0 m 61 ls []) := by
            intro nn
            induction nn with
            | zero => intro i hi h; exact absurd h (Nat.not_lt_zero _)
            | succ nn ih61 =>
              intro i hi hn61 H locs ls hP hS hl
              refine lv_iload hx hb dX4_feed_61 (lv_at hl 0 rfl) ?_
              refine lv_aload_n hx hb dX4_feed_63 rfl (lv_at hl 2 rfl) ?_
              refine fg_X4_elements hx hb hts hown hE hP q_732 dX4_feed_64 ?_
              refine xt_i (congrArg nI hq.E) ?_
              refine lv_icmp_ge (tgt := 197) hx hb dX4_feed_67 (by decide) (fun c67 => ?_) (fun c67 => ?_)
              · skip
                have c67 := ni_le (a := (nE z)) (b := i) (by omega) (by omega) c67
                rw [show i = nE z by omega] at hl
                refine lv_lload hx hb dX4_feed_197 (lv_at hl 1 rfl) ?_
                refine lv_aload_n hx hb dX4_feed_199 rfl (lv_at hl 2 rfl) ?_
                refine fg_X4_denominator hx hb hts hown hE hP q_745 dX4_feed_200 ?_
                refine xt_l (w := den z (nI tm)) (br_de hw _) ?_
                refine lv_iload_n hx hb dX4_feed_203 rfl (lv_at hl 5 rfl) ?_
                refine xw_callS (n := 3) [.long (fdS z (nI tm) (num z (nI tm)) (den z (nI tm)) j (nE z)), .long (den z (nI tm)), .int b] (c_X4_part l (fdS z (nI tm) (num z (nI tm)) (den z (nI tm)) j (nE z)) (den z (nI tm)) b (gcdW_ne (hk _).1 ((hk _).2.2.2 _ hj c30))) hx hb hml hown hts hE hS rfl rfl q_48 q_909 q_911 q_910 (by decide) rfl ⟨by rw [hRf]; decide, by rw [hRl]; decide⟩ hl.1 rfl (Nat.le_of_ble_eq_true rfl) dX4_feed_204 ⟨by rw [hRc]; decide, by rw [hRs]; decide⟩ (fun v H1 locs hp hS => ?_)
                obtain ⟨hv, hh⟩ := hp; subst hv; subst hh
                refine xt_l (w := ptF (fdS z (nI tm) (num z (nI tm)) (den z (nI tm)) j (nE z)) (den z (nI tm)) b) (pt_eq (hk _).1 ((hk _).2.2.2 _ hj c30) b) ?_
                have eT : tFeed z (nI j) (nI tm) = 0 := by rw [tFeed, if_neg (not_not_intro c6), if_neg (not_not_intro c17), cl_nI (by omega), if_neg c30]
                exact xe_lret hQ hx hb hr hlocks hH hS (Nat.le_refl _) (Nat.le_refl _) (⟨_, rfl, fun _ => by rw [rFeed, cl_nI (by omega)], by rw [eT]; exact hP.R hq⟩) dX4_feed_207
              · skip
                have c67 := ni_nle (a := (nE z)) (b := i) (by omega) (by omega) c67
                have ha8 : cA z i < nN z := hw.a8 (i := i) (by omega)
                have hb8 : cB z i < nN z := hw.b8 (i := i) (by omega)
                refine lv_aload_n hx hb dX4_feed_70 rfl (lv_at hl 2 rfl) ?_
                refine fg_X4_as hx hb hts hown hE hP q_734 dX4_feed_71 ?_
                refine lv_iload hx hb dX4_feed_74 (lv_at hl 0 rfl) ?_
                refine al_as hx hb hE hP (j := i) (by omega) dX4_feed_76 ?_
                refine xt_i (hq.a hw (by first | assumption | omega)) ?_
                refine lv_iload_n hx hb dX4_feed_77 rfl (lv_at hl 3 rfl) ?_
                refine lv_icmp_eq (tgt := 92) hx hb dX4_feed_78 (by decide) (fun c78 => ?_) (fun c78 => ?_)
                · skip
                  have c78 := ni_eq (a := (cA z i)) (b := j) (by omega) (by omega) c78
                  refine lv_aload_n hx hb dX4_feed_92 rfl (lv_at hl 2 rfl) ?_
                  refine lv_iload hx hb dX4_feed_93 (lv_at hl 0 rfl) ?_
                  refine lv_iload_n hx hb dX4_feed_95 rfl (lv_at hl 4 rfl) ?_
                  refine xw_callV (C := "NetlistBenchModel") (n := 2) [.int (nI i), .int (nI tm)] (c_X4_isOnAt l hP hq hw (by omega) htm) hx hb hml hown hts hE hS (xw_recv hE hP (20, 0) rfl rfl) rfl rfl q_48 q_864 q_867 q_866 q_31 (by decide) rfl ⟨by rw [hRf]; decide, by rw [hRl]; decide⟩ hl.1 rfl (Nat.le_of_ble_eq_true rfl) dX4_feed_96 ⟨by rw [hRc]; decide, by rw [hRs]; decide⟩ (fun v H1 locs hp hS => ?_)
                  obtain ⟨hv, hh⟩ := hp; subst hv; subst hh
                  refine lv_if_ne (tgt := 105) hx hb dX4_feed_99 (by decide) (fun c99 => ?_) (fun c99 => ?_)
                  · skip
                    refine lv_aload_n hx hb dX4_feed_105 rfl (lv_at hl 2 rfl) ?_
                    refine fg_X4_areSources hx hb hts hown hE hP q_733 dX4_feed_106 ?_
                    refine lv_iload hx hb dX4_feed_109 (lv_at hl 0 rfl) ?_
                    refine al_areSources hx hb hE hP (j := i) (by omega) dX4_feed_111 ?_
                    refine xt_i (hq.s (by first | assumption | omega)) ?_
                    refine lv_if_eq (tgt := 131) hx hb dX4_feed_112 (by decide) (fun c112 => ?_) (fun c112 => ?_)
                    · skip
                      refine lv_aload_n hx hb dX4_feed_131 rfl (lv_at hl 2 rfl) ?_
                      refine fg_X4_sizes hx hb hts hown hE hP q_736 dX4_feed_132 ?_
                      refine lv_iload hx hb dX4_feed_135 (lv_at hl 0 rfl) ?_
                      refine al_sizes hx hb hE hP (j := i) (by omega) dX4_feed_137 ?_
                      refine xt_i (hq.z (by first | assumption | omega)) ?_
                      refine lv_i2l (v := (eZ z i).toInt64) hx hb dX4_feed_138 rfl ?_
                      refine lv_aload_n hx hb dX4_feed_139 rfl (lv_at hl 2 rfl) ?_
                      refine fg_X4_numerators hx hb hts hown hE hP q_746 dX4_feed_140 ?_
                      refine lv_aload_n hx hb dX4_feed_143 rfl (lv_at hl 2 rfl) ?_
                      refine fg_X4_as hx hb hts hown hE hP q_734 dX4_feed_144 ?_
                      refine lv_iload hx hb dX4_feed_147 (lv_at hl 0 rfl) ?_
                      refine al_as hx hb hE hP (j := i) (by omega) dX4_feed_149 ?_
                      refine xt_i (hq.a hw (by first | assumption | omega)) ?_
                      refine al_numerators hx hb hE hP (j := cA z i) (by omega) dX4_feed_150 ?_
                      refine xt_l (w := num z (nI tm) (cA z i)) (((hnu (cA z i) (by omega)).1.trans (br_nu2 hq hw _ (by omega)))) ?_
                      refine lv_aload_n hx hb dX4_feed_151 rfl (lv_at hl 2 rfl) ?_
                      refine fg_X4_numerators hx hb hts hown hE hP q_746 dX4_feed_152 ?_
                      refine lv_aload_n hx hb dX4_feed_155 rfl (lv_at hl 2 rfl) ?_
                      refine fg_X4_bs hx hb hts hown hE hP q_735 dX4_feed_156 ?_
                      refine lv_iload hx hb dX4_feed_159 (lv_at hl 0 rfl) ?_
                      refine al_bs hx hb hE hP (j := i) (by omega) dX4_feed_161 ?_
                      refine xt_i (hq.b hw (by first | assumption | omega)) ?_
                      refine al_numerators hx hb hE hP (j := cB z i) (by omega) dX4_feed_162 ?_
                      refine xt_l (w := num z (nI tm) (cB z i)) (((hnu (cB z i) (by omega)).1.trans (br_nu2 hq hw _ (by omega)))) ?_
                      refine lv_lsub hx hb dX4_feed_163 ?_
                      refine lv_lmul hx hb dX4_feed_164 ?_
                      refine lv_lstore (lv' := [(7, .long (((eZ z i).toInt64) * ((num z (nI tm) (cA z i)) - (num z (nI tm) (cB z i))))), (6, .int (nI i)), (4, .long (fdS z (nI tm) (num z (nI tm)) (den z (nI tm)) j i)), (0, .ref (ad (20, 0))), (1, .int (nI j)), (2, .int (nI tm)), (3, .int b)]) hx hb dX4_feed_165 hl (by decide) rfl (fun ls hl => ?_)
                      refine lv_lload hx hb dX4_feed_167 (lv_at hl 2 rfl) ?_
                      refine lv_aload_n hx hb dX4_feed_169 rfl (lv_at hl 3 rfl) ?_
                      refine fg_X4_as hx hb hts hown hE hP q_734 dX4_feed_170 ?_
                      refine lv_iload hx hb dX4_feed_173 (lv_at hl 1 rfl) ?_
                      refine al_as hx hb hE hP (j := i) (by omega) dX4_feed_175 ?_
                      refine xt_i (hq.a hw (by first | assumption | omega)) ?_
                      refine lv_iload_n hx hb dX4_feed_176 rfl (lv_at hl 4 rfl) ?_
                      refine lv_icmp_ne (tgt := 185) hx hb dX4_feed_177 (by decide) (fun c177 => ?_) (fun c177 => ?_)
                      · skip
                        have c177 := ni_ne (a := (cA z i)) (b := j) (by omega) (by omega) c177
                        refine lv_lload hx hb dX4_feed_185 (lv_at hl 0 rfl) ?_
                        refine lv_lneg hx hb dX4_feed_187 ?_
                        refine lv_ladd hx hb dX4_feed_188 ?_
                        refine lv_lstore (lv' := [(4, .long ((fdS z (nI tm) (num z (nI tm)) (den z (nI tm)) j i) + (-(((eZ z i).toInt64) * ((num z (nI tm) (cA z i)) - (num z (nI tm) (cB z i))))))), (7, .long (((eZ z i).toInt64) * ((num z (nI tm) (cA z i)) - (num z (nI tm) (cB z i))))), (6, .int (nI i)), (0, .ref (ad (20, 0))), (1, .int (nI j)), (2, .int (nI tm)), (3, .int b)]) hx hb dX4_feed_189 hl (by decide) rfl (fun ls hl => ?_)
                        have e189 : (fdS z (nI tm) (num z (nI tm)) (den z (nI tm)) j i) + (-(((eZ z i).toInt64) * ((num z (nI tm) (cA z i)) - (num z (nI tm) (cB z i))))) = fdS z (nI tm) (num z (nI tm)) (den z (nI tm)) j (i + 1) := by rw [fdS_1 c99, flw, if_neg (show ¬ (¬ j = cA z i ∧ ¬ j = cB z i) by omega), if_neg (show ¬ j = cA z i by omega), if_pos c112]
                        have hl : lv_has ls 9 [(4, .long (fdS z (nI tm) (num z (nI tm)) (den z (nI tm)) j (i + 1))), (7, .long (((eZ z i).toInt64) * ((num z (nI tm) (cA z i)) - (num z (nI tm) (cB z i))))), (6, .int (nI i)), (0, .ref (ad (20, 0))), (1, .int (nI j)), (2, .int (nI tm)), (3, .int b)] := by rw [← e189]; exact hl
                        refine lv_iinc (v := nI (i + 1)) (lv' := [(6, .int (nI (i + 1))), (4, .long (fdS z (nI tm) (num z (nI tm)) (den z (nI tm)) j (i + 1))), (7, .long (((eZ z i).toInt64) * ((num z (nI tm) (cA z i)) - (num z (nI tm) (cB z i))))), (0, .ref (ad (20, 0))), (1, .int (nI j)), (2, .int (nI tm)), (3, .int b)]) hx hb dX4_feed_191 hl (k := 2) rfl (nI_1 _) (by decide) rfl (fun ls hl => ?_)
                        refine lv_goto (tgt := 61) hx hb dX4_feed_194 (by decide) ?_
                        exact ih61 (i + 1) (by omega) (by omega) _ _ _ hP hS (lv_sub hl [0, 1, 3, 4, 5, 6] rfl)
                      · skip
                        have c177 := ni_eq (a := (cA z i)) (b := j) (by omega) (by omega) c177
                        refine lv_lload hx hb dX4_feed_180 (lv_at hl 0 rfl) ?_
                        refine lv_goto (tgt := 188) hx hb dX4_feed_182 (by decide) ?_
                        refine lv_ladd hx hb dX4_feed_188 ?_
                        refine lv_lstore (lv' := [(4, .long ((fdS z (nI tm) (num z (nI tm)) (den z (nI tm)) j i) + (((eZ z i).toInt64) * ((num z (nI tm) (cA z i)) - (num z (nI tm) (cB z i)))))), (7, .long (((eZ z i).toInt64) * ((num z (nI tm) (cA z i)) - (num z (nI tm) (cB z i))))), (6, .int (nI i)), (0, .ref (ad (20, 0))), (1, .int (nI j)), (2, .int (nI tm)), (3, .int b)]) hx hb dX4_feed_189 hl (by decide) rfl (fun ls hl => ?_)
                        have e189 : (fdS z (nI tm) (num z (nI tm)) (den z (nI tm)) j i) + (((eZ z i).toInt64) * ((num z (nI tm) (cA z i)) - (num z (nI tm) (cB z i)))) = fdS z (nI tm) (num z (nI tm)) (den z (nI tm)) j (i + 1) := by rw [fdS_1 c99, flw, if_neg (show ¬ (¬ j = cA z i ∧ ¬ j = cB z i) by omega), if_pos (show j = cA z i by omega), if_pos c112]
                        have hl : lv_has ls 9 [(4, .long (fdS z (nI tm) (num z (nI tm)) (den z (nI tm)) j (i + 1))), (7, .long (((eZ z i).toInt64) * ((num z (nI tm) (cA z i)) - (num z (nI tm) (cB z i))))), (6, .int (nI i)), (0, .ref (ad (20, 0))), (1, .int (nI j)), (2, .int (nI tm)), (3, .int b)] := by rw [← e189]; exact hl
                        refine lv_iinc (v := nI (i + 1)) (lv' := [(6, .int (nI (i + 1))), (4, .long (fdS z (nI tm) (num z (nI tm)) (den z (nI tm)) j (i + 1))), (7, .long (((eZ z i).toInt64) * ((num z (nI tm) (cA z i)) - (num z (nI tm) (cB z i))))), (0, .ref (ad (20, 0))), (1, .int (nI j)), (2, .int (nI tm)), (3, .int b)]) hx hb dX4_feed_191 hl (k := 2) rfl (nI_1 _) (by decide) rfl (fun ls hl => ?_)
                        refine lv_goto (tgt := 61) hx hb dX4_feed_194 (by decide) ?_
                        exact ih61 (i + 1) (by omega) (by omega) _ _ _ hP hS (lv_sub hl [0, 1, 3, 4, 5, 6] rfl)
                    · skip
                      refine lv_aload_n hx hb dX4_feed_115 rfl (lv_at hl 2 rfl) ?_
                      refine fg_X4_sizes hx hb hts hown hE hP q_736 dX4_feed_116 ?_
                      refine lv_iload hx hb dX4_feed_119 (lv_at hl 0 rfl) ?_
                      refine al_sizes hx hb hE hP (j := i) (by omega) dX4_feed_121 ?_
                      refine xt_i (hq.z (by first | assumption | omega)) ?_
                      refine lv_i2l (v := (eZ z i).toInt64) hx hb dX4_feed_122 rfl ?_
                      refine lv_aload_n hx hb dX4_feed_123 rfl (lv_at hl 2 rfl) ?_
                      refine fg_X4_denominator hx hb hts hown hE hP q_745 dX4_feed_124 ?_
                      refine xt_l (w := den z (nI tm)) (br_de hw _) ?_
                      refine lv_lmul hx hb dX4_feed_127 ?_
                      refine lv_goto (tgt := 165) hx hb dX4_feed_128 (by decide) ?_
                      refine lv_lstore (lv' := [(7, .long (((eZ z i).toInt64) * (den z (nI tm)))), (6, .int (nI i)), (4, .long (fdS z (nI tm) (num z (nI tm)) (den z (nI tm)) j i)), (0, .ref (ad (20, 0))), (1, .int (nI j)), (2, .int (nI tm)), (3, .int b)]) hx hb dX4_feed_165 hl (by decide) rfl (fun ls hl => ?_)
                      refine lv_lload hx hb dX4_feed_167 (lv_at hl 2 rfl) ?_
                      refine lv_aload_n hx hb dX4_feed_169 rfl (lv_at hl 3 rfl) ?_
                      refine fg_X4_as hx hb hts hown hE hP q_734 dX4_feed_170 ?_
                      refine lv_iload hx hb dX4_feed_173 (lv_at hl 1 rfl) ?_
                      refine al_as hx hb hE hP (j := i) (by omega) dX4_feed_175 ?_
                      refine xt_i (hq.a hw (by first | assumption | omega)) ?_
                      refine lv_iload_n hx hb dX4_feed_176 rfl (lv_at hl 4 rfl) ?_
                      refine lv_icmp_ne (tgt := 185) hx hb dX4_feed_177 (by decide) (fun c177 => ?_) (fun c177 => ?_)
                      · skip
                        have c177 := ni_ne (a := (cA z i)) (b := j) (by omega) (by omega) c177
                        refine lv_lload hx hb dX4_feed_185 (lv_at hl 0 rfl) ?_
                        refine lv_lneg hx hb dX4_feed_187 ?_
                        refine lv_ladd hx hb dX4_feed_188 ?_
                        refine lv_lstore (lv' := [(4, .long ((fdS z (nI tm) (num z (nI tm)) (den z (nI tm)) j i) + (-(((eZ z i).toInt64) * (den z (nI tm)))))), (7, .long (((eZ z i).toInt64) * (den z (nI tm)))), (6, .int (nI i)), (0, .ref (ad (20, 0))), (1, .int (nI j)), (2, .int (nI tm)), (3, .int b)]) hx hb dX4_feed_189 hl (by decide) rfl (fun ls hl => ?_)
                        have e189 : (fdS z (nI tm) (num z (nI tm)) (den z (nI tm)) j i) + (-(((eZ z i).toInt64) * (den z (nI tm)))) = fdS z (nI tm) (num z (nI tm)) (den z (nI tm)) j (i + 1) := by rw [fdS_1 c99, flw, if_neg (show ¬ (¬ j = cA z i ∧ ¬ j = cB z i) by omega), if_neg (show ¬ j = cA z i by omega), if_neg c112]
                        have hl : lv_has ls 9 [(4, .long (fdS z (nI tm) (num z (nI tm)) (den z (nI tm)) j (i + 1))), (7, .long (((eZ z i).toInt64) * (den z (nI tm)))), (6, .int (nI i)), (0, .ref (ad (20, 0))), (1, .int (nI j)), (2, .int (nI tm)), (3, .int b)] := by rw [← e189]; exact hl
                        refine lv_iinc (v := nI (i + 1)) (lv' := [(6, .int (nI (i + 1))), (4, .long (fdS z (nI tm) (num z (nI tm)) (den z (nI tm)) j (i + 1))), (7, .long (((eZ z i).toInt64) * (den z (nI tm)))), (0, .ref (ad (20, 0))), (1, .int (nI j)), (2, .int (nI tm)), (3, .int b)]) hx hb dX4_feed_191 hl (k := 2) rfl (nI_1 _) (by decide) rfl (fun ls hl => ?_)
                        refine lv_goto (tgt := 61) hx hb dX4_feed_194 (by decide) ?_
                        exact ih61 (i + 1) (by omega) (by omega) _ _ _ hP hS (lv_sub hl [0, 1, 3, 4, 5, 6] rfl)
                      · skip
                        have c177 := ni_eq (a := (cA z i)) (b := j) (by omega) (by omega) c177
                        refine lv_lload hx hb dX4_feed_180 (lv_at hl 0 rfl) ?_
                        refine lv_goto (tgt := 188) hx hb dX4_feed_182 (by decide) ?_
                        refine lv_ladd hx hb dX4_feed_188 ?_
                        refine lv_lstore (lv' := [(4, .long ((fdS z (nI tm) (num z (nI tm)) (den z (nI tm)) j i) + (((eZ z i).toInt64) * (den z (nI tm))))), (7, .long (((eZ z i).toInt64) * (den z (nI tm)))), (6, .int (nI i)), (0, .ref (ad (20, 0))), (1, .int (nI j)), (2, .int (nI tm)), (3, .int b)]) hx hb dX4_feed_189 hl (by decide) rfl (fun ls hl => ?_)
                        have e189 : (fdS z (nI tm) (num z (nI tm)) (den z (nI tm)) j i) + (((eZ z i).toInt64) * (den z (nI tm))) = fdS z (nI tm) (num z (nI tm)) (den z (nI tm)) j (i + 1) := by rw [fdS_1 c99, flw, if_neg (show ¬ (¬ j = cA z i ∧ ¬ j = cB z i) by omega), if_pos (show j = cA z i by omega), if_neg c112]
                        have hl : lv_has ls 9 [(4, .long (fdS z (nI tm) (num z (nI tm)) (den z (nI tm)) j (i + 1))), (7, .long (((eZ z i).toInt64) * (den z (nI tm)))), (6, .int (nI i)), (0, .ref (ad (20, 0))), (1, .int (nI j)), (2, .int (nI tm)), (3, .int b)] := by rw [← e189]; exact hl
                        refine lv_iinc (v := nI (i + 1)) (lv' := [(6, .int (nI (i + 1))), (4, .long (fdS z (nI tm) (num z (nI tm)) (den z (nI tm)) j (i + 1))), (7, .long (((eZ z i).toInt64) * (den z (nI tm)))), (0, .ref (ad (20, 0))), (1, .int (nI j)), (2, .int (nI tm)), (3, .int b)]) hx hb dX4_feed_191 hl (k := 2) rfl (nI_1 _) (by decide) rfl (fun ls hl => ?_)
                        refine lv_goto (tgt := 61) hx hb dX4_feed_194 (by decide) ?_
                        exact ih61 (i + 1) (by omega) (by omega) _ _ _ hP hS (lv_sub hl [0, 1, 3, 4, 5, 6] rfl)
                  · skip
                    rw [show fdS z (nI tm) (num z (nI tm)) (den z (nI tm)) j i = fdS z (nI tm) (num z (nI tm)) (den z (nI tm)) j (i + 1) from (fdS_0 c99).symm] at hl
                    refine lv_goto (tgt := 191) hx hb dX4_feed_102 (by decide) ?_
                    refine lv_iinc (v := nI (i + 1)) (lv' := [(6, .int (nI (i + 1))), (4, .long (fdS z (nI tm) (num z (nI tm)) (den z (nI tm)) j (i + 1))), (0, .ref (ad (20, 0))), (1, .int (nI j)), (2, .int (nI tm)), (3, .int b)]) hx hb dX4_feed_191 hl (k := 0) rfl (nI_1 _) (by decide) rfl (fun ls hl => ?_)
                    refine lv_goto (tgt := 61) hx hb dX4_feed_194 (by decide) ?_
                    exact ih61 (i + 1) (by omega) (by omega) _ _ _ hP hS (lv_sub hl [0, 1, 2, 3, 4, 5] rfl)
                · skip
                  have c78 := ni_ne (a := (cA z i)) (b := j) (by omega) (by omega) c78
                  refine lv_aload_n hx hb dX4_feed_81 rfl (lv_at hl 2 rfl) ?_
                  refine fg_X4_bs hx hb hts hown hE hP q_735 dX4_feed_82 ?_
                  refine lv_iload hx hb dX4_feed_85 (lv_at hl 0 rfl) ?_
                  refine al_bs hx hb hE hP (j := i) (by omega) dX4_feed_87 ?_
                  refine xt_i (hq.b hw (by first | assumption | omega)) ?_
                  refine lv_iload_n hx hb dX4_feed_88 rfl (lv_at hl 3 rfl) ?_
                  refine lv_icmp_ne (tgt := 191) hx hb dX4_feed_89 (by decide) (fun c89 => ?_) (fun c89 => ?_)
                  · skip
                    have c89 := ni_ne (a := (cB z i)) (b := j) (by omega) (by omega) c89
                    rw [show fdS z (nI tm) (num z (nI tm)) (den z (nI tm)) j i = fdS z (nI tm) (num z (nI tm)) (den z (nI tm)) j (i + 1) from (fdS_n c78 c89).symm] at hl
                    refine lv_iinc (v := nI (i + 1)) (lv' := [(6, .int (nI (i + 1))), (4, .long (fdS z (nI tm) (num z (nI tm)) (den z (nI tm)) j (i + 1))), (0, .ref (ad (20, 0))), (1, .int (nI j)), (2, .int (nI tm)), (3, .int b)]) hx hb dX4_feed_191 hl (k := 0) rfl (nI_1 _) (by decide) rfl (fun ls hl => ?_)
                    refine lv_goto (tgt := 61) hx hb dX4_feed_194 (by decide) ?_
                    exact ih61 (i + 1) (by omega) (by omega) _ _ _ hP hS (lv_sub hl [0, 1, 2, 3, 4, 5] rfl)
                  · skip
                    have c89 := ni_eq (a := (cB z i)) (b := j) (by omega) (by omega) c89
                    refine lv_aload_n hx hb dX4_feed_92 rfl (lv_at hl 2 rfl) ?_
                    refine lv_iload hx hb dX4_feed_93 (lv_at hl 0 rfl) ?_
                    refine lv_iload_n hx hb dX4_feed_95 rfl (lv_at hl 4 rfl) ?_
                    refine xw_callV (C := "NetlistBenchModel") (n := 2) [.int (nI i), .int (nI tm)] (c_X4_isOnAt l hP hq hw (by omega) htm) hx hb hml hown hts hE hS (xw_recv hE hP (20, 0) rfl rfl) rfl rfl q_48 q_864 q_867 q_866 q_31 (by decide) rfl ⟨by rw [hRf]; decide, by rw [hRl]; decide⟩ hl.1 rfl (Nat.le_of_ble_eq_true rfl) dX4_feed_96 ⟨by rw [hRc]; decide, by rw [hRs]; decide⟩ (fun v H1 locs hp hS => ?_)
                    obtain ⟨hv, hh⟩ := hp; subst hv; subst hh
                    refine lv_if_ne (tgt := 105) hx hb dX4_feed_99 (by decide) (fun c99 => ?_) (fun c99 => ?_)
                    · skip
                      refine lv_aload_n hx hb dX4_feed_105 rfl (lv_at hl 2 rfl) ?_
                      refine fg_X4_areSources hx hb hts hown hE hP q_733 dX4_feed_106 ?_
                      refine lv_iload hx hb dX4_feed_109 (lv_at hl 0 rfl) ?_
                      refine al_areSources hx hb hE hP (j := i) (by omega) dX4_feed_111 ?_
                      refine xt_i (hq.s (by first | assumption | omega)) ?_
                      refine lv_if_eq (tgt := 131) hx hb dX4_feed_112 (by decide) (fun c112 => ?_) (fun c112 => ?_)
                      · skip
                        refine lv_aload_n hx hb dX4_feed_131 rfl (lv_at hl 2 rfl) ?_
                        refine fg_X4_sizes hx hb hts hown hE hP q_736 dX4_feed_132 ?_
                        refine lv_iload hx hb dX4_feed_135 (lv_at hl 0 rfl) ?_
                        refine al_sizes hx hb hE hP (j := i) (by omega) dX4_feed_137 ?_
                        refine xt_i (hq.z (by first | assumption | omega)) ?_
                        refine lv_i2l (v := (eZ z i).toInt64) hx hb dX4_feed_138 rfl ?_
                        refine lv_aload_n hx hb dX4_feed_139 rfl (lv_at hl 2 rfl) ?_
                        refine fg_X4_numerators hx hb hts hown hE hP q_746 dX4_feed_140 ?_
                        refine lv_aload_n hx hb dX4_feed_143 rfl (lv_at hl 2 rfl) ?_
                        refine fg_X4_as hx hb hts hown hE hP q_734 dX4_feed_144 ?_
                        refine lv_iload hx hb dX4_feed_147 (lv_at hl 0 rfl) ?_
                        refine al_as hx hb hE hP (j := i) (by omega) dX4_feed_149 ?_
                        refine xt_i (hq.a hw (by first | assumption | omega)) ?_
                        refine al_numerators hx hb hE hP (j := cA z i) (by omega) dX4_feed_150 ?_
                        refine xt_l (w := num z (nI tm) (cA z i)) (((hnu (cA z i) (by omega)).1.trans (br_nu2 hq hw _ (by omega)))) ?_
                        refine lv_aload_n hx hb dX4_feed_151 rfl (lv_at hl 2 rfl) ?_
                        refine fg_X4_numerators hx hb hts hown hE hP q_746 dX4_feed_152 ?_
                        refine lv_aload_n hx hb dX4_feed_155 rfl (lv_at hl 2 rfl) ?_
                        refine fg_X4_bs hx hb hts hown hE hP q_735 dX4_feed_156 ?_
                        refine lv_iload hx hb dX4_feed_159 (lv_at hl 0 rfl) ?_
                        refine al_bs hx hb hE hP (j := i) (by omega) dX4_feed_161 ?_
                        refine xt_i (hq.b hw (by first | assumption | omega)) ?_
                        refine al_numerators hx hb hE hP (j := cB z i) (by omega) dX4_feed_162 ?_
                        refine xt_l (w := num z (nI tm) (cB z i)) (((hnu (cB z i) (by omega)).1.trans (br_nu2 hq hw _ (by omega)))) ?_
                        refine lv_lsub hx hb dX4_feed_163 ?_
                        refine lv_lmul hx hb dX4_feed_164 ?_
                        refine lv_lstore (lv' := [(7, .long (((eZ z i).toInt64) * ((num z (nI tm) (cA z i)) - (num z (nI tm) (cB z i))))), (6, .int (nI i)), (4, .long (fdS z (nI tm) (num z (nI tm)) (den z (nI tm)) j i)), (0, .ref (ad (20, 0))), (1, .int (nI j)), (2, .int (nI tm)), (3, .int b)]) hx hb dX4_feed_165 hl (by decide) rfl (fun ls hl => ?_)
                        refine lv_lload hx hb dX4_feed_167 (lv_at hl 2 rfl) ?_
                        refine lv_aload_n hx hb dX4_feed_169 rfl (lv_at hl 3 rfl) ?_
                        refine fg_X4_as hx hb hts hown hE hP q_734 dX4_feed_170 ?_
                        refine lv_iload hx hb dX4_feed_173 (lv_at hl 1 rfl) ?_
                        refine al_as hx hb hE hP (j := i) (by omega) dX4_feed_175 ?_
                        refine xt_i (hq.a hw (by first | assumption | omega)) ?_
                        refine lv_iload_n hx hb dX4_feed_176 rfl (lv_at hl 4 rfl) ?_
                        refine lv_icmp_ne (tgt := 185) hx hb dX4_feed_177 (by decide) (fun c177 => ?_) (fun c177 => ?_)
                        · skip
                          have c177 := ni_ne (a := (cA z i)) (b := j) (by omega) (by omega) c177
                          refine lv_lload hx hb dX4_feed_185 (lv_at hl 0 rfl) ?_
                          refine lv_lneg hx hb dX4_feed_187 ?_
                          refine lv_ladd hx hb dX4_feed_188 ?_
                          refine lv_lstore (lv' := [(4, .long ((fdS z (nI tm) (num z (nI tm)) (den z (nI tm)) j i) + (-(((eZ z i).toInt64) * ((num z (nI tm) (cA z i)) - (num z (nI tm) (cB z i))))))), (7, .long (((eZ z i).toInt64) * ((num z (nI tm) (cA z i)) - (num z (nI tm) (cB z i))))), (6, .int (nI i)), (0, .ref (ad (20, 0))), (1, .int (nI j)), (2, .int (nI tm)), (3, .int b)]) hx hb dX4_feed_189 hl (by decide) rfl (fun ls hl => ?_)
                          have e189 : (fdS z (nI tm) (num z (nI tm)) (den z (nI tm)) j i) + (-(((eZ z i).toInt64) * ((num z (nI tm) (cA z i)) - (num z (nI tm) (cB z i))))) = fdS z (nI tm) (num z (nI tm)) (den z (nI tm)) j (i + 1) := by rw [fdS_1 c99, flw, if_neg (show ¬ (¬ j = cA z i ∧ ¬ j = cB z i) by omega), if_neg (show ¬ j = cA z i by omega), if_pos c112]
                          have hl : lv_has ls 9 [(4, .long (fdS z (nI tm) (num z (nI tm)) (den z (nI tm)) j (i + 1))), (7, .long (((eZ z i).toInt64) * ((num z (nI tm) (cA z i)) - (num z (nI tm) (cB z i))))), (6, .int (nI i)), (0, .ref (ad (20, 0))), (1, .int (nI j)), (2, .int (nI tm)), (3, .int b)] := by rw [← e189]; exact hl
                          refine lv_iinc (v := nI (i + 1)) (lv' := [(6, .int (nI (i + 1))), (4, .long (fdS z (nI tm) (num z (nI tm)) (den z (nI tm)) j (i + 1))), (7, .long (((eZ z i).toInt64) * ((num z (nI tm) (cA z i)) - (num z (nI tm) (cB z i))))), (0, .ref (ad (20, 0))), (1, .int (nI j)), (2, .int (nI tm)), (3, .int b)]) hx hb dX4_feed_191 hl (k := 2) rfl (nI_1 _) (by decide) rfl (fun ls hl => ?_)
                          refine lv_goto (tgt := 61) hx hb dX4_feed_194 (by decide) ?_
                          exact ih61 (i + 1) (by omega) (by omega) _ _ _ hP hS (lv_sub hl [0, 1, 3, 4, 5, 6] rfl)
                        · skip
                          have c177 := ni_eq (a := (cA z i)) (b := j) (by omega) (by omega) c177
                          refine lv_lload hx hb dX4_feed_180 (lv_at hl 0 rfl) ?_
                          refine lv_goto (tgt := 188) hx hb dX4_feed_182 (by decide) ?_
                          refine lv_ladd hx hb dX4_feed_188 ?_
                          refine lv_lstore (lv' := [(4, .long ((fdS z (nI tm) (num z (nI tm)) (den z (nI tm)) j i) + (((eZ z i).toInt64) * ((num z (nI tm) (cA z i)) - (num z (nI tm) (cB z i)))))), (7, .long (((eZ z i).toInt64) * ((num z (nI tm) (cA z i)) - (num z (nI tm) (cB z i))))), (6, .int (nI i)), (0, .ref (ad (20, 0))), (1, .int (nI j)), (2, .int (nI tm)), (3, .int b)]) hx hb dX4_feed_189 hl (by decide) rfl (fun ls hl => ?_)
                          have e189 : (fdS z (nI tm) (num z (nI tm)) (den z (nI tm)) j i) + (((eZ z i).toInt64) * ((num z (nI tm) (cA z i)) - (num z (nI tm) (cB z i)))) = fdS z (nI tm) (num z (nI tm)) (den z (nI tm)) j (i + 1) := by rw [fdS_1 c99, flw, if_neg (show ¬ (¬ j = cA z i ∧ ¬ j = cB z i) by omega), if_pos (show j = cA z i by omega), if_pos c112]
                          have hl : lv_has ls 9 [(4, .long (fdS z (nI tm) (num z (nI tm)) (den z (nI tm)) j (i + 1))), (7, .long (((eZ z i).toInt64) * ((num z (nI tm) (cA z i)) - (num z (nI tm) (cB z i))))), (6, .int (nI i)), (0, .ref (ad (20, 0))), (1, .int (nI j)), (2, .int (nI tm)), (3, .int b)] := by rw [← e189]; exact hl
                          refine lv_iinc (v := nI (i + 1)) (lv' := [(6, .int (nI (i + 1))), (4, .long (fdS z (nI tm) (num z (nI tm)) (den z (nI tm)) j (i + 1))), (7, .long (((eZ z i).toInt64) * ((num z (nI tm) (cA z i)) - (num z (nI tm) (cB z i))))), (0, .ref (ad (20, 0))), (1, .int (nI j)), (2, .int (nI tm)), (3, .int b)]) hx hb dX4_feed_191 hl (k := 2) rfl (nI_1 _) (by decide) rfl (fun ls hl => ?_)
                          refine lv_goto (tgt := 61) hx hb dX4_feed_194 (by decide) ?_
                          exact ih61 (i + 1) (by omega) (by omega) _ _ _ hP hS (lv_sub hl [0, 1, 3, 4, 5, 6] rfl)
                      · skip
                        refine lv_aload_n hx hb dX4_feed_115 rfl (lv_at hl 2 rfl) ?_
                        refine fg_X4_sizes hx hb hts hown hE hP q_736 dX4_feed_116 ?_
                        refine lv_iload hx hb dX4_feed_119 (lv_at hl 0 rfl) ?_
                        refine al_sizes hx hb hE hP (j := i) (by omega) dX4_feed_121 ?_
                        refine xt_i (hq.z (by first | assumption | omega)) ?_
                        refine lv_i2l (v := (eZ z i).toInt64) hx hb dX4_feed_122 rfl ?_
                        refine lv_aload_n hx hb dX4_feed_123 rfl (lv_at hl 2 rfl) ?_
                        refine fg_X4_denominator hx hb hts hown hE hP q_745 dX4_feed_124 ?_
                        refine xt_l (w := den z (nI tm)) (br_de hw _) ?_
                        refine lv_lmul hx hb dX4_feed_127 ?_
                        refine lv_goto (tgt := 165) hx hb dX4_feed_128 (by decide) ?_
                        refine lv_lstore (lv' := [(7, .long (((eZ z i).toInt64) * (den z (nI tm)))), (6, .int (nI i)), (4, .long (fdS z (nI tm) (num z (nI tm)) (den z (nI tm)) j i)), (0, .ref (ad (20, 0))), (1, .int (nI j)), (2, .int (nI tm)), (3, .int b)]) hx hb dX4_feed_165 hl (by decide) rfl (fun ls hl => ?_)
                        refine lv_lload hx hb dX4_feed_167 (lv_at hl 2 rfl) ?_
                        refine lv_aload_n hx hb dX4_feed_169 rfl (lv_at hl 3 rfl) ?_
                        refine fg_X4_as hx hb hts hown hE hP q_734 dX4_feed_170 ?_
                        refine lv_iload hx hb dX4_feed_173 (lv_at hl 1 rfl) ?_
                        refine al_as hx hb hE hP (j := i) (by omega) dX4_feed_175 ?_
                        refine xt_i (hq.a hw (by first | assumption | omega)) ?_
                        refine lv_iload_n hx hb dX4_feed_176 rfl (lv_at hl 4 rfl) ?_
                        refine lv_icmp_ne (tgt := 185) hx hb dX4_feed_177 (by decide) (fun c177 => ?_) (fun c177 => ?_)
                        · skip
                          have c177 := ni_ne (a := (cA z i)) (b := j) (by omega) (by omega) c177
                          refine lv_lload hx hb dX4_feed_185 (lv_at hl 0 rfl) ?_
                          refine lv_lneg hx hb dX4_feed_187 ?_
                          refine lv_ladd hx hb dX4_feed_188 ?_
                          refine lv_lstore (lv' := [(4, .long ((fdS z (nI tm) (num z (nI tm)) (den z (nI tm)) j i) + (-(((eZ z i).toInt64) * (den z (nI tm)))))), (7, .long (((eZ z i).toInt64) * (den z (nI tm)))), (6, .int (nI i)), (0, .ref (ad (20, 0))), (1, .int (nI j)), (2, .int (nI tm)), (3, .int b)]) hx hb dX4_feed_189 hl (by decide) rfl (fun ls hl => ?_)
                          have e189 : (fdS z (nI tm) (num z (nI tm)) (den z (nI tm)) j i) + (-(((eZ z i).toInt64) * (den z (nI tm)))) = fdS z (nI tm) (num z (nI tm)) (den z (nI tm)) j (i + 1) := by rw [fdS_1 c99, flw, if_neg (show ¬ (¬ j = cA z i ∧ ¬ j = cB z i) by omega), if_neg (show ¬ j = cA z i by omega), if_neg c112]
                          have hl : lv_has ls 9 [(4, .long (fdS z (nI tm) (num z (nI tm)) (den z (nI tm)) j (i + 1))), (7, .long (((eZ z i).toInt64) * (den z (nI tm)))), (6, .int (nI i)), (0, .ref (ad (20, 0))), (1, .int (nI j)), (2, .int (nI tm)), (3, .int b)] := by rw [← e189]; exact hl
                          refine lv_iinc (v := nI (i + 1)) (lv' := [(6, .int (nI (i + 1))), (4, .long (fdS z (nI tm) (num z (nI tm)) (den z (nI tm)) j (i + 1))), (7, .long (((eZ z i).toInt64) * (den z (nI tm)))), (0, .ref (ad (20, 0))), (1, .int (nI j)), (2, .int (nI tm)), (3, .int b)]) hx hb dX4_feed_191 hl (k := 2) rfl (nI_1 _) (by decide) rfl (fun ls hl => ?_)
                          refine lv_goto (tgt := 61) hx hb dX4_feed_194 (by decide) ?_
                          exact ih61 (i + 1) (by omega) (by omega) _ _ _ hP hS (lv_sub hl [0, 1, 3, 4, 5, 6] rfl)
                        · skip
                          have c177 := ni_eq (a := (cA z i)) (b := j) (by omega) (by omega) c177
                          refine lv_lload hx hb dX4_feed_180 (lv_at hl 0 rfl) ?_
                          refine lv_goto (tgt := 188) hx hb dX4_feed_182 (by decide) ?_
                          refine lv_ladd hx hb dX4_feed_188 ?_
                          refine lv_lstore (lv' := [(4, .long ((fdS z (nI tm) (num z (nI tm)) (den z (nI tm)) j i) + (((eZ z i).toInt64) * (den z (nI tm))))), (7, .long (((eZ z i).toInt64) * (den z (nI tm)))), (6, .int (nI i)), (0, .ref (ad (20, 0))), (1, .int (nI j)), (2, .int (nI tm)), (3, .int b)]) hx hb dX4_feed_189 hl (by decide) rfl (fun ls hl => ?_)
                          have e189 : (fdS z (nI tm) (num z (nI tm)) (den z (nI tm)) j i) + (((eZ z i).toInt64) * (den z (nI tm))) = fdS z (nI tm) (num z (nI tm)) (den z (nI tm)) j (i + 1) := by rw [fdS_1 c99, flw, if_neg (show ¬ (¬ j = cA z i ∧ ¬ j = cB z i) by omega), if_pos (show j = cA z i by omega), if_neg c112]
                          have hl : lv_has ls 9 [(4, .long (fdS z (nI tm) (num z (nI tm)) (den z (nI tm)) j (i + 1))), (7, .long (((eZ z i).toInt64) * (den z (nI tm)))), (6, .int (nI i)), (0, .ref (ad (20, 0))), (1, .int (nI j)), (2, .int (nI tm)), (3, .int b)] := by rw [← e189]; exact hl
                          refine lv_iinc (v := nI (i + 1)) (lv' := [(6, .int (nI (i + 1))), (4, .long (fdS z (nI tm) (num z (nI tm)) (den z (nI tm)) j (i + 1))), (7, .long (((eZ z i).toInt64) * (den z (nI tm)))), (0, .ref (ad (20, 0))), (1, .int (nI j)), (2, .int (nI tm)), (3, .int b)]) hx hb dX4_feed_191 hl (k := 2) rfl (nI_1 _) (by decide) rfl (fun ls hl => ?_)
                          refine lv_goto (tgt := 61) hx hb dX4_feed_194 (by decide) ?_
                          exact ih61 (i + 1) (by omega) (by omega) _ _ _ hP hS (lv_sub hl [0, 1, 3, 4, 5, 6] rfl)
                    · skip
                      rw [show fdS z (nI tm) (num z (nI tm)) (den z (nI tm)) j i = fdS z (nI tm) (num z (nI tm)) (den z (nI tm)) j (i + 1) from (fdS_0 c99).symm] at hl
                      refine lv_goto (tgt := 191) hx hb dX4_feed_102 (by decide) ?_
                      refine lv_iinc (v := nI (i + 1)) (lv' := [(6, .int (nI (i + 1))), (4, .long (fdS z (nI tm) (num z (nI tm)) (den z (nI tm)) j (i + 1))), (0, .ref (ad (20, 0))), (1, .int (nI j)), (2, .int (nI tm)), (3, .int b)]) hx hb dX4_feed_191 hl (k := 0) rfl (nI_1 _) (by decide) rfl (fun ls hl => ?_)
                      refine lv_goto (tgt := 61) hx hb dX4_feed_194 (by decide) ?_
                      exact ih61 (i + 1) (by omega) (by omega) _ _ _ hP hS (lv_sub hl [0, 1, 2, 3, 4, 5] rfl)
          exact K61 _ 0 (by omega) (Nat.lt_succ_self _) _ _ _ hP hS (lv_sub hl [0, 1, 2, 3, 4, 5] rfl)
        · skip
          have c45 := ni_ne (a := 0) (b := 0) (by omega) (by omega) c45
          exfalso; omega
    · skip
      have c17 := b_f c17
      refine lv_iconst (v := nI 2) hx hb dX4_feed_20 (by decide) ?_
      refine lv_goto (tgt := 38) hx hb dX4_feed_21 (by decide) ?_
      refine fp_X4_thrown hx hb hts hown hE hS hP q_728 dX4_feed_38 (fun H locs hP hS => ?_)
      refine lv_aload_n hx hb dX4_feed_41 rfl (lv_at hl 0 rfl) ?_
      refine fg_X4_thrown hx hb hts hown hE hP q_728 dX4_feed_42 ?_
      refine lv_if_eq (tgt := 50) hx hb dX4_feed_45 (by decide) (fun c45 => ?_) (fun c45 => ?_)
      · skip
        have c45 := ni_eq (a := 2) (b := 0) (by omega) (by omega) c45
        exfalso; omega
      · skip
        have c45 := ni_ne (a := 2) (b := 0) (by omega) (by omega) c45
        refine lv_lconst (v := 0) hx hb dX4_feed_48 (by decide) ?_
        have eT : tFeed z (nI j) t = nI 2 := by rw [tFeed, if_neg (not_not_intro c6), if_pos c17]; rfl
        exact xe_lret hQ hx hb hr hlocks hH hS (Nat.le_refl _) (Nat.le_refl _) (⟨_, rfl, fun h => absurd (eT.symm.trans h) (by decide), by rw [eT]; exact hP.R hq⟩) dX4_feed_49
  · skip
    have c6 := b_f c6
    refine lv_iconst (v := nI 1) hx hb dX4_feed_9 (by decide) ?_
    refine lv_goto (tgt := 38) hx hb dX4_feed_10 (by decide) ?_
    refine fp_X4_thrown hx hb hts hown hE hS hP q_728 dX4_feed_38 (fun H locs hP hS => ?_)
    refine lv_aload_n hx hb dX4_feed_41 rfl (lv_at hl 0 rfl) ?_
    refine fg_X4_thrown hx hb hts hown hE hP q_728 dX4_feed_42 ?_
    refine lv_if_eq (tgt := 50) hx hb dX4_feed_45 (by decide) (fun c45 => ?_) (fun c45 => ?_)
    · skip
      have c45 := ni_eq (a := 1) (b := 0) (by omega) (by omega) c45
      exfalso; omega
    · skip
      have c45 := ni_ne (a := 1) (b := 0) (by omega) (by omega) c45
      refine lv_lconst (v := 0) hx hb dX4_feed_48 (by decide) ?_
      have eT : tFeed z x t = nI 1 := by rw [tFeed, if_pos c6]; rfl
      exact xe_lret hQ hx hb hr hlocks hH hS (Nat.le_refl _) (Nat.le_refl _) (⟨_, rfl, fun h => absurd (eT.symm.trans h) (by decide), by rw [eT]; exact hP.R hq⟩) dX4_feed_49
