set_option maxHeartbeats 4000000 in
set_option maxRecDepth 100000 in
theorem c_X4_element (l : Launch) {D : va_G} {y : Nat → ClassId} {A : Nat → Prop} {ad : xL → Nat} {th : Int32} {w : xC} {qp : Nat → Int32} {qm : Nat → Int64} {qr : Nat → Int64} {qi : Nat → Int64} {qn : Nat → Int64} {qf : Nat → Int32} {qu : Int32} {qd : Int64} {fB fO : Nat → Nat → Option va_E} {Hs : Heap} (hP : xW D A ad (wU fB (wR y ad th w qp qm qr qi qn qf qu qd) fO) Hs) {z : xC} (hq : Rq z w) (hw : wf z) (x k : Int32) : Met l yX4_element (.code yX4_element cX4_element 3 (some .int) :: WG) { frames := 2, cells := 0, slots := 0, locals := 43 } (xPc [.ref (ad (20, 0)), .int x, .int k] D y Hs) (xQ (fun v H1 => ∃ r, v = some (.int r) ∧ (tElem z x k = 0 → r = trt z (clN x) (clN k)) ∧ xRf D A y ad (z) fB fO (tElem z x k) H1) A) 0 0 A := by
  refine xM_go (by decide) (Nat.le_of_ble_eq_true rfl) (fun p e s m args below meth c ls R Q hx hb hr hlocks hml hown hts hH hE hnm hRf hRl hRc hRs hQ hS hl => ?_)
  have hRf : R.frames = 2 := hRf
  have hRl : R.locals = 43 := hRl
  have hRc : R.cells = 0 := hRc
  have hRs : R.slots = 0 := hRs
  have hl : lv_has ls 3 [(0, .ref (ad (20, 0))), (1, .int x), (2, .int k)] := hl
  have hN := hw.N
  have hE20 := hw.E
  refine lv_aload_n hx hb dX4_element_0 rfl (lv_at hl 0 rfl) ?_
  refine lv_iconst (v := nI 0) hx hb dX4_element_1 (by decide) ?_
  refine fp_X4_thrown hx hb hts hown hE hS hP q_728 dX4_element_2 (fun H locs hP hS => ?_)
  refine lv_aload_n hx hb dX4_element_5 rfl (lv_at hl 0 rfl) ?_
  refine lv_iload_n hx hb dX4_element_6 rfl (lv_at hl 1 rfl) ?_
  refine xw_callV (C := "NetlistBenchModel") (n := 1) [.int x] (c_X4_isElement l hP hq hw x) hx hb hml hown hts hE hS (xw_recv hE hP (20, 0) rfl rfl) rfl rfl q_48 q_824 q_827 q_826 q_28 (by decide) rfl ⟨by rw [hRf]; decide, by rw [hRl]; decide⟩ hl.1 rfl (Nat.le_of_ble_eq_true rfl) dX4_element_7 ⟨by rw [hRc]; decide, by rw [hRs]; decide⟩ (fun v H1 locs hp hS => ?_)
  obtain ⟨hv, hh⟩ := hp; subst hv; subst hh
  refine lv_if_eq (tgt := 31) hx hb dX4_element_10 (by decide) (fun c10 => ?_) (fun c10 => ?_)
  · skip
    have c10 := b_f c10
    refine lv_aload_n hx hb dX4_element_31 rfl (lv_at hl 0 rfl) ?_
    refine lv_iconst (v := nI 1) hx hb dX4_element_32 (by decide) ?_
    refine xw_callV (C := "NetlistBenchModel") (n := 1) [.int (nI 1)] (c_X4_fail l hP (nI 1)) hx hb hml hown hts hE hS (xw_recv hE hP (20, 0) rfl rfl) rfl rfl q_48 q_798 q_801 q_800 q_26 (by decide) rfl ⟨by rw [hRf]; decide, by rw [hRl]; decide⟩ hl.1 rfl (Nat.le_of_ble_eq_true rfl) dX4_element_33 ⟨by rw [hRc]; decide, by rw [hRs]; decide⟩ (fun v H1 locs hp hS => ?_)
    obtain ⟨hv, hP⟩ := hp; subst hv
    generalize H1 = H at hP hS ⊢
    have eT : tElem z x k = (nI 1) := by rw [tElem, if_pos c10]; rfl
    exact xe_iret hQ hx hb hr hlocks hH hS (Nat.le_refl _) (Nat.le_refl _) (⟨_, rfl, fun h => absurd (eT.symm.trans h) (by decide), by rw [eT]; exact hP.R hq⟩) dX4_element_36
  · skip
    have c10 := b_t c10
    obtain ⟨j, hj, exj⟩ := elP_i hw c10
    subst exj
    refine lv_iload_n hx hb dX4_element_13 rfl (lv_at hl 2 rfl) ?_
    refine lv_iconst (v := nI 0) hx hb dX4_element_14 (by decide) ?_
    refine lv_iconst (v := nI 5) hx hb dX4_element_15 (by decide) ?_
    refine xw_callS (n := 3) [.int k, .int (nI 0), .int (nI 5)] (c_X4_isIn l k (nI 0) (nI 5)) hx hb hml hown hts hE hS rfl rfl q_48 q_810 q_812 q_811 (by decide) rfl ⟨by rw [hRf]; decide, by rw [hRl]; decide⟩ hl.1 rfl (Nat.le_of_ble_eq_true rfl) dX4_element_16 ⟨by rw [hRc]; decide, by rw [hRs]; decide⟩ (fun v H1 locs hp hS => ?_)
    obtain ⟨hv, hh⟩ := hp; subst hv; subst hh
    refine lv_if_eq (tgt := 31) hx hb dX4_element_19 (by decide) (fun c19 => ?_) (fun c19 => ?_)
    · skip
      have c19 := b_f c19
      have c20 : k < 0 ∨ nI 5 < k := Classical.not_not.mp c19
      refine lv_aload_n hx hb dX4_element_31 rfl (lv_at hl 0 rfl) ?_
      refine lv_iconst (v := nI 1) hx hb dX4_element_32 (by decide) ?_
      refine xw_callV (C := "NetlistBenchModel") (n := 1) [.int (nI 1)] (c_X4_fail l hP (nI 1)) hx hb hml hown hts hE hS (xw_recv hE hP (20, 0) rfl rfl) rfl rfl q_48 q_798 q_801 q_800 q_26 (by decide) rfl ⟨by rw [hRf]; decide, by rw [hRl]; decide⟩ hl.1 rfl (Nat.le_of_ble_eq_true rfl) dX4_element_33 ⟨by rw [hRc]; decide, by rw [hRs]; decide⟩ (fun v H1 locs hp hS => ?_)
      obtain ⟨hv, hP⟩ := hp; subst hv
      generalize H1 = H at hP hS ⊢
      have eT : tElem z (nI j) k = (nI 1) := by rw [tElem, if_neg (not_not_intro c10), if_pos (fun h => by rcases c20 with g | g; exact Int32.not_lt.mpr h.1 g; exact absurd (show k < nI 6 from h.2) (fun h4 => by rw [Int32.lt_iff_toInt_lt] at g h4; have e3 : (nI 5).toInt = 5 := (by decide); have e4 : (nI 6).toInt = 6 := (by decide); omega))]; rfl
      exact xe_iret hQ hx hb hr hlocks hH hS (Nat.le_refl _) (Nat.le_refl _) (⟨_, rfl, fun h => absurd (eT.symm.trans h) (by decide), by rw [eT]; exact hP.R hq⟩) dX4_element_36
    · skip
      have c19 := b_t c19
      have hk0 : ¬ k < 0 := fun h => c19 (Or.inl h)
      obtain ⟨kj, hkj, ek⟩ := nI_of hk0
      subst ek
      have hk6 : kj < 6 := by have := ni_nlt (a := 5) (b := kj) (by decide) hkj (fun h => c19 (Or.inr h)); omega
      refine lv_aload_n hx hb dX4_element_22 rfl (lv_at hl 0 rfl) ?_
      refine lv_iload_n hx hb dX4_element_23 rfl (lv_at hl 1 rfl) ?_
      refine lv_iload_n hx hb dX4_element_24 rfl (lv_at hl 2 rfl) ?_
      refine xw_callV (C := "NetlistBenchModel") (n := 2) [.int (nI j), .int (nI kj)] (c_X4_elementTold l hP hq hw hj hk6) hx hb hml hown hts hE hS (xw_recv hE hP (20, 0) rfl rfl) rfl rfl q_48 q_849 q_852 q_851 q_30 (by decide) rfl ⟨by rw [hRf]; decide, by rw [hRl]; decide⟩ hl.1 rfl (Nat.le_of_ble_eq_true rfl) dX4_element_25 ⟨by rw [hRc]; decide, by rw [hRs]; decide⟩ (fun v H1 locs hp hS => ?_)
      obtain ⟨hv, hh⟩ := hp; subst hv; subst hh
      refine lv_goto (tgt := 36) hx hb dX4_element_28 (by decide) ?_
      have eT : tElem z (nI j) (nI kj) = 0 := by rw [tElem, if_neg (not_not_intro c10), if_neg (not_not_intro ⟨nI_pos' (by omega), nI_lt hk6 (by decide)⟩)]
      exact xe_iret hQ hx hb hr hlocks hH hS (Nat.le_refl _) (Nat.le_refl _) (⟨_, rfl, fun _ => by rw [cl_nI (by omega), cl_nI (by omega)], by rw [eT]; exact hP.R hq⟩) dX4_element_36

set_option maxHeartbeats 4000000 in
set_option maxRecDepth 100000 in
theorem c_X4_toggleAt (l : Launch) {D : va_G} {y : Nat → ClassId} {A : Nat → Prop} {ad : xL → Nat} {th : Int32} {w : xC} {qp : Nat → Int32} {qm : Nat → Int64} {qr : Nat → Int64} {qi : Nat → Int64} {qn : Nat → Int64} {qf : Nat → Int32} {qu : Int32} {qd : Int64} {fB fO : Nat → Nat → Option va_E} {Hs : Heap} (hP : xW D A ad (wU fB (wR y ad th w qp qm qr qi qn qf qu qd) fO) Hs) {z : xC} (hq : Rq z w) (hw : wf z) (x k : Int32) : Met l yX4_toggleAt (.code yX4_toggleAt cX4_toggleAt 3 (some .int) :: WG) { frames := 2, cells := 0, slots := 0, locals := 43 } (xPc [.ref (ad (20, 0)), .int x, .int k] D y Hs) (xQ (fun v H1 => ∃ r, v = some (.int r) ∧ (tTgAt z x k = 0 → r = tT z (6 * clN x + clN k)) ∧ xRf D A y ad (z) fB fO (tTgAt z x k) H1) A) 0 0 A := by
  refine xM_go (by decide) (Nat.le_of_ble_eq_true rfl) (fun p e s m args below meth c ls R Q hx hb hr hlocks hml hown hts hH hE hnm hRf hRl hRc hRs hQ hS hl => ?_)
  have hRf : R.frames = 2 := hRf
  have hRl : R.locals = 43 := hRl
  have hRc : R.cells = 0 := hRc
  have hRs : R.slots = 0 := hRs
  have hl : lv_has ls 3 [(0, .ref (ad (20, 0))), (1, .int x), (2, .int k)] := hl
  have hN := hw.N
  have hE20 := hw.E
  refine lv_aload_n hx hb dX4_toggleAt_0 rfl (lv_at hl 0 rfl) ?_
  refine lv_iconst (v := nI 0) hx hb dX4_toggleAt_1 (by decide) ?_
  refine fp_X4_thrown hx hb hts hown hE hS hP q_728 dX4_toggleAt_2 (fun H locs hP hS => ?_)
  refine lv_aload_n hx hb dX4_toggleAt_5 rfl (lv_at hl 0 rfl) ?_
  refine lv_iload_n hx hb dX4_toggleAt_6 rfl (lv_at hl 1 rfl) ?_
  refine xw_callV (C := "NetlistBenchModel") (n := 1) [.int x] (c_X4_isElement l hP hq hw x) hx hb hml hown hts hE hS (xw_recv hE hP (20, 0) rfl rfl) rfl rfl q_48 q_824 q_827 q_826 q_28 (by decide) rfl ⟨by rw [hRf]; decide, by rw [hRl]; decide⟩ hl.1 rfl (Nat.le_of_ble_eq_true rfl) dX4_toggleAt_7 ⟨by rw [hRc]; decide, by rw [hRs]; decide⟩ (fun v H1 locs hp hS => ?_)
  obtain ⟨hv, hh⟩ := hp; subst hv; subst hh
  refine lv_if_eq (tgt := 43) hx hb dX4_toggleAt_10 (by decide) (fun c10 => ?_) (fun c10 => ?_)
  · skip
    have c10 := b_f c10
    refine lv_aload_n hx hb dX4_toggleAt_43 rfl (lv_at hl 0 rfl) ?_
    refine lv_iconst (v := nI 1) hx hb dX4_toggleAt_44 (by decide) ?_
    refine xw_callV (C := "NetlistBenchModel") (n := 1) [.int (nI 1)] (c_X4_fail l hP (nI 1)) hx hb hml hown hts hE hS (xw_recv hE hP (20, 0) rfl rfl) rfl rfl q_48 q_798 q_801 q_800 q_26 (by decide) rfl ⟨by rw [hRf]; decide, by rw [hRl]; decide⟩ hl.1 rfl (Nat.le_of_ble_eq_true rfl) dX4_toggleAt_45 ⟨by rw [hRc]; decide, by rw [hRs]; decide⟩ (fun v H1 locs hp hS => ?_)
    obtain ⟨hv, hP⟩ := hp; subst hv
    generalize H1 = H at hP hS ⊢
    have eT : tTgAt z x k = (nI 1) := by rw [tTgAt, if_pos c10]; rfl
    exact xe_iret hQ hx hb hr hlocks hH hS (Nat.le_refl _) (Nat.le_refl _) (⟨_, rfl, fun h => absurd (eT.symm.trans h) (by decide), by rw [eT]; exact hP.R hq⟩) dX4_toggleAt_48
  · skip
    have c10 := b_t c10
    obtain ⟨j, hj, exj⟩ := elP_i hw c10
    subst exj
    have ht6 := hw.t6 hj
    have htj := hw.t hj
    refine lv_iload_n hx hb dX4_toggleAt_13 rfl (lv_at hl 2 rfl) ?_
    refine lv_iconst (v := nI 0) hx hb dX4_toggleAt_14 (by decide) ?_
    refine lv_aload_n hx hb dX4_toggleAt_15 rfl (lv_at hl 0 rfl) ?_
    refine fg_X4_toggles hx hb hts hown hE hP q_738 dX4_toggleAt_16 ?_
    refine lv_iload_n hx hb dX4_toggleAt_19 rfl (lv_at hl 1 rfl) ?_
    refine al_toggles hx hb hE hP (j := j) (by omega) dX4_toggleAt_20 ?_
    refine xt_i (hq.t hw (by first | assumption | omega)) ?_
    refine lv_iconst (v := nI 1) hx hb dX4_toggleAt_21 (by decide) ?_
    refine lv_isub hx hb dX4_toggleAt_22 ?_
    refine xw_callS (n := 3) [.int k, .int (nI 0), .int ((nI (cT z j)) - (nI 1))] (c_X4_isIn l k (nI 0) (nI (cT z j) - nI 1)) hx hb hml hown hts hE hS rfl rfl q_48 q_810 q_812 q_811 (by decide) rfl ⟨by rw [hRf]; decide, by rw [hRl]; decide⟩ hl.1 rfl (Nat.le_of_ble_eq_true rfl) dX4_toggleAt_23 ⟨by rw [hRc]; decide, by rw [hRs]; decide⟩ (fun v H1 locs hp hS => ?_)
    obtain ⟨hv, hh⟩ := hp; subst hv; subst hh
    refine lv_if_eq (tgt := 43) hx hb dX4_toggleAt_26 (by decide) (fun c26 => ?_) (fun c26 => ?_)
    · skip
      have c26 := b_f c26
      rw [nd_in (by omega), Classical.not_not] at c26
      refine lv_aload_n hx hb dX4_toggleAt_43 rfl (lv_at hl 0 rfl) ?_
      refine lv_iconst (v := nI 1) hx hb dX4_toggleAt_44 (by decide) ?_
      refine xw_callV (C := "NetlistBenchModel") (n := 1) [.int (nI 1)] (c_X4_fail l hP (nI 1)) hx hb hml hown hts hE hS (xw_recv hE hP (20, 0) rfl rfl) rfl rfl q_48 q_798 q_801 q_800 q_26 (by decide) rfl ⟨by rw [hRf]; decide, by rw [hRl]; decide⟩ hl.1 rfl (Nat.le_of_ble_eq_true rfl) dX4_toggleAt_45 ⟨by rw [hRc]; decide, by rw [hRs]; decide⟩ (fun v H1 locs hp hS => ?_)
      obtain ⟨hv, hP⟩ := hp; subst hv
      generalize H1 = H at hP hS ⊢
      have eT : tTgAt z (nI j) k = (nI 1) := by rw [tTgAt, if_neg (not_not_intro c10), cl_nI (by omega), htj, if_pos c26]; rfl
      exact xe_iret hQ hx hb hr hlocks hH hS (Nat.le_refl _) (Nat.le_refl _) (⟨_, rfl, fun h => absurd (eT.symm.trans h) (by decide), by rw [eT]; exact hP.R hq⟩) dX4_toggleAt_48
    · skip
      have c26 := b_t c26
      rw [nd_in (by omega), Classical.not_not] at c26
      have hk0 : ¬ k < 0 := Int32.not_lt.mpr c26.1
      obtain ⟨kj, hkj, ek⟩ := nI_of hk0
      subst ek
      have hkt : kj < cT z j := ni_lt hkj (by omega) c26.2
      refine lv_aload_n hx hb dX4_toggleAt_29 rfl (lv_at hl 0 rfl) ?_
      refine fg_X4_toggleTimes hx hb hts hown hE hP q_739 dX4_toggleAt_30 ?_
      refine lv_bipush (v := nI 6) hx hb dX4_toggleAt_33 (by decide) ?_
      refine lv_iload_n hx hb dX4_toggleAt_35 rfl (lv_at hl 1 rfl) ?_
      refine lv_imul hx hb dX4_toggleAt_36 ?_
      refine xt_i (pk_mul 6 j) ?_
      refine lv_iload_n hx hb dX4_toggleAt_37 rfl (lv_at hl 2 rfl) ?_
      refine lv_iadd hx hb dX4_toggleAt_38 ?_
      refine xt_i (nI_add (6 * j) kj) ?_
      refine al_toggleTimes hx hb hE hP (j := (6 * j) + kj) (by omega) dX4_toggleAt_39 ?_
      refine xt_i (w := tT z (6 * j + kj)) (hq.m (j := j) (k := kj) (by first | assumption | omega) (by first | assumption | omega)) ?_
      refine lv_goto (tgt := 48) hx hb dX4_toggleAt_40 (by decide) ?_
      have eT : tTgAt z (nI j) (nI kj) = 0 := by rw [tTgAt, if_neg (not_not_intro c10), cl_nI (by omega), htj, if_neg (not_not_intro c26)]
      exact xe_iret hQ hx hb hr hlocks hH hS (Nat.le_refl _) (Nat.le_refl _) (⟨_, rfl, fun _ => by rw [cl_nI (by omega), cl_nI (by omega)], by rw [eT]; exact hP.R hq⟩) dX4_toggleAt_48

set_option maxHeartbeats 4000000 in
set_option maxRecDepth 100000 in
theorem c_X4_compare (l : Launch) {D : va_G} {y : Nat → ClassId} {A : Nat → Prop} {ad : xL → Nat} {th : Int32} {w : xC} {qp : Nat → Int32} {qm : Nat → Int64} {qr : Nat → Int64} {qi : Nat → Int64} {qn : Nat → Int64} {qf : Nat → Int32} {qu : Int32} {qd : Int64} {fB fO : Nat → Nat → Option va_E} {Hs : Heap} (hP : xW D A ad (wU fB (wR y ad th w qp qm qr qi qn qf qu qd) fO) Hs) {z : xC} (hq : Rq z w) (hw : wf z) (hk : nOk z) (x t u o : Int32) : Met l yX4_compare (.code yX4_compare cX4_compare 5 (some .int) :: WG) { frames := 128, cells := 0, slots := 0, locals := 4470 } (xPc [.ref (ad (20, 0)), .int x, .int t, .int u, .int o] D y Hs) (xQ (fun v H1 => ∃ r, v = some (.int r) ∧ (tCmp z x t u o = 0 → r = rCmp z x t u o) ∧ xRf D A y ad (z) fB fO (tCmp z x t u o) H1) A) 0 0 A := by
  refine xM_go (by decide) (Nat.le_of_ble_eq_true rfl) (fun p e s m args below meth c ls R Q hx hb hr hlocks hml hown hts hH hE hnm hRf hRl hRc hRs hQ hS hl => ?_)
  have hRf : R.frames = 128 := hRf
  have hRl : R.locals = 4470 := hRl
  have hRc : R.cells = 0 := hRc
  have hRs : R.slots = 0 := hRs
  have hl : lv_has ls 5 [(0, .ref (ad (20, 0))), (1, .int x), (2, .int t), (3, .int u), (4, .int o)] := hl
  have hN := hw.N
  have hE20 := hw.E
  refine lv_aload_n hx hb dX4_compare_0 rfl (lv_at hl 0 rfl) ?_
  refine lv_iconst (v := nI 0) hx hb dX4_compare_1 (by decide) ?_
  refine fp_X4_thrown hx hb hts hown hE hS hP q_728 dX4_compare_2 (fun H locs hP hS => ?_)
  refine lv_aload_n hx hb dX4_compare_5 rfl (lv_at hl 0 rfl) ?_
  refine lv_iload_n hx hb dX4_compare_6 rfl (lv_at hl 1 rfl) ?_
  refine xw_callV (C := "NetlistBenchModel") (n := 1) [.int x] (c_X4_isNode l hP hq hw x) hx hb hml hown hts hE hS (xw_recv hE hP (20, 0) rfl rfl) rfl rfl q_48 q_806 q_809 q_808 q_27 (by decide) rfl ⟨by rw [hRf]; decide, by rw [hRl]; decide⟩ hl.1 rfl (Nat.le_of_ble_eq_true rfl) dX4_compare_7 ⟨by rw [hRc]; decide, by rw [hRs]; decide⟩ (fun v H1 locs hp hS => ?_)
  obtain ⟨hv, hh⟩ := hp; subst hv; subst hh
  refine lv_if_ne (tgt := 19) hx hb dX4_compare_10 (by decide) (fun c10 => ?_) (fun c10 => ?_)
  · skip
    have c10 := b_t c10
    obtain ⟨j, hj, exj⟩ := nodeP_i hw c10
    subst exj
    refine lv_iload_n hx hb dX4_compare_19 rfl (lv_at hl 2 rfl) ?_
    refine xw_callS (n := 1) [.int t] (c_X4_isTime l t) hx hb hml hown hts hE hS rfl rfl q_48 q_861 q_863 q_862 (by decide) rfl ⟨by rw [hRf]; decide, by rw [hRl]; decide⟩ hl.1 rfl (Nat.le_of_ble_eq_true rfl) dX4_compare_20 ⟨by rw [hRc]; decide, by rw [hRs]; decide⟩ (fun v H1 locs hp hS => ?_)
    obtain ⟨hv, hh⟩ := hp; subst hv; subst hh
    refine lv_if_eq (tgt := 51) hx hb dX4_compare_23 (by decide) (fun c23 => ?_) (fun c23 => ?_)
    · skip
      have c23 := b_f c23
      refine lv_aload_n hx hb dX4_compare_51 rfl (lv_at hl 0 rfl) ?_
      refine lv_iconst (v := nI 2) hx hb dX4_compare_52 (by decide) ?_
      refine xw_callV (C := "NetlistBenchModel") (n := 1) [.int (nI 2)] (c_X4_fail l hP (nI 2)) hx hb hml hown hts hE hS (xw_recv hE hP (20, 0) rfl rfl) rfl rfl q_48 q_798 q_801 q_800 q_26 (by decide) rfl ⟨by rw [hRf]; decide, by rw [hRl]; decide⟩ hl.1 rfl (Nat.le_of_ble_eq_true rfl) dX4_compare_53 ⟨by rw [hRc]; decide, by rw [hRs]; decide⟩ (fun v H1 locs hp hS => ?_)
      obtain ⟨hv, hP⟩ := hp; subst hv
      generalize H1 = H at hP hS ⊢
      have eT : tCmp z (nI j) t u o = (nI 2) := by rw [tCmp, if_neg (not_not_intro c10), if_pos c23]; rfl
      exact xe_iret hQ hx hb hr hlocks hH hS (Nat.le_refl _) (Nat.le_refl _) (⟨_, rfl, fun h => absurd (eT.symm.trans h) (by decide), by rw [eT]; exact hP.R hq⟩) dX4_compare_56
    · skip
      have c23 := b_t c23
      obtain ⟨tm, htm, ettm⟩ := timeP_i c23
      subst ettm
      refine lv_iload_n hx hb dX4_compare_26 rfl (lv_at hl 3 rfl) ?_
      refine lv_sipush (v := (-500)) hx hb dX4_compare_27 (by decide) ?_
      refine lv_sipush (v := nI 500) hx hb dX4_compare_30 (by decide) ?_
      refine xw_callS (n := 3) [.int u, .int ((-500)), .int (nI 500)] (c_X4_isIn l u (-500) (nI 500)) hx hb hml hown hts hE hS rfl rfl q_48 q_810 q_812 q_811 (by decide) rfl ⟨by rw [hRf]; decide, by rw [hRl]; decide⟩ hl.1 rfl (Nat.le_of_ble_eq_true rfl) dX4_compare_33 ⟨by rw [hRc]; decide, by rw [hRs]; decide⟩ (fun v H1 locs hp hS => ?_)
      obtain ⟨hv, hh⟩ := hp; subst hv; subst hh
      refine lv_if_eq (tgt := 51) hx hb dX4_compare_36 (by decide) (fun c36 => ?_) (fun c36 => ?_)
      · skip
        have c36 := b_f c36
        refine lv_aload_n hx hb dX4_compare_51 rfl (lv_at hl 0 rfl) ?_
        refine lv_iconst (v := nI 2) hx hb dX4_compare_52 (by decide) ?_
        refine xw_callV (C := "NetlistBenchModel") (n := 1) [.int (nI 2)] (c_X4_fail l hP (nI 2)) hx hb hml hown hts hE hS (xw_recv hE hP (20, 0) rfl rfl) rfl rfl q_48 q_798 q_801 q_800 q_26 (by decide) rfl ⟨by rw [hRf]; decide, by rw [hRl]; decide⟩ hl.1 rfl (Nat.le_of_ble_eq_true rfl) dX4_compare_53 ⟨by rw [hRc]; decide, by rw [hRs]; decide⟩ (fun v H1 locs hp hS => ?_)
        obtain ⟨hv, hP⟩ := hp; subst hv
        generalize H1 = H at hP hS ⊢
        have eT : tCmp z (nI j) (nI tm) u o = (nI 2) := by rw [tCmp, if_neg (not_not_intro c10), if_neg (not_not_intro c23), if_pos (fun h => c36 (by rintro (g | g); exact Int32.not_lt.mpr h.1 g; exact Int32.not_lt.mpr h.2.1 g))]; rfl
        exact xe_iret hQ hx hb hr hlocks hH hS (Nat.le_refl _) (Nat.le_refl _) (⟨_, rfl, fun h => absurd (eT.symm.trans h) (by decide), by rw [eT]; exact hP.R hq⟩) dX4_compare_56
      · skip
        have c36 := b_t c36
        refine lv_iload hx hb dX4_compare_39 (lv_at hl 4 rfl) ?_
        refine lv_iconst (v := nI 1) hx hb dX4_compare_41 (by decide) ?_
        refine lv_sipush (v := nI 500) hx hb dX4_compare_42 (by decide) ?_
        refine xw_callS (n := 3) [.int o, .int (nI 1), .int (nI 500)] (c_X4_isIn l o (nI 1) (nI 500)) hx hb hml hown hts hE hS rfl rfl q_48 q_810 q_812 q_811 (by decide) rfl ⟨by rw [hRf]; decide, by rw [hRl]; decide⟩ hl.1 rfl (Nat.le_of_ble_eq_true rfl) dX4_compare_45 ⟨by rw [hRc]; decide, by rw [hRs]; decide⟩ (fun v H1 locs hp hS => ?_)
        obtain ⟨hv, hh⟩ := hp; subst hv; subst hh
        refine lv_if_ne (tgt := 57) hx hb dX4_compare_48 (by decide) (fun c48 => ?_) (fun c48 => ?_)
        · skip
          have c48 := b_t c48
          refine lv_aload_n hx hb dX4_compare_57 rfl (lv_at hl 0 rfl) ?_
          refine lv_iload_n hx hb dX4_compare_58 rfl (lv_at hl 1 rfl) ?_
          refine lv_iload_n hx hb dX4_compare_59 rfl (lv_at hl 2 rfl) ?_
          refine xw_callV (C := "NetlistBenchModel") (n := 2) [.int (nI j), .int (nI tm)] (c_X4_floatsAt l hP hq hw (by omega) htm) hx hb hml hown hts hE hS (xw_recv hE hP (20, 0) rfl rfl) rfl rfl q_48 q_884 q_887 q_886 q_34 (by decide) rfl ⟨by rw [hRf]; decide, by rw [hRl]; decide⟩ hl.1 rfl (Nat.le_of_ble_eq_true rfl) dX4_compare_60 ⟨by rw [hRc]; decide, by rw [hRs]; decide⟩ (fun v H1 locs hp hS => ?_)
          obtain ⟨hv, hh⟩ := hp; subst hv; subst hh
          refine lv_if_eq (tgt := 72) hx hb dX4_compare_63 (by decide) (fun c63 => ?_) (fun c63 => ?_)
          · skip
            have ho : 0 < o.toInt64 := i64_pos.mpr (by rw [Int32.toInt_toInt64]; have h1 := Int32.le_iff_toInt_le.mp (Int32.not_lt.mp (fun h => c48 (Or.inl h))); have e1 : (nI 1).toInt = 1 := (by decide); omega)
            refine lv_aload_n hx hb dX4_compare_72 rfl (lv_at hl 0 rfl) ?_
            refine lv_iload_n hx hb dX4_compare_73 rfl (lv_at hl 2 rfl) ?_
            refine xw_callV (C := "NetlistBenchModel") (n := 1) [.int (nI tm)] (c_X4_solve l hP hq hw htm) hx hb hml hown hts hE hS (xw_recv hE hP (20, 0) rfl rfl) rfl rfl q_48 q_892 q_895 q_894 q_35 (by decide) rfl ⟨by rw [hRf]; decide, by rw [hRl]; decide⟩ hl.1 rfl (Nat.le_of_ble_eq_true rfl) dX4_compare_74 ⟨by rw [hRc]; decide, by rw [hRs]; decide⟩ (fun v H1 locs hp hS => ?_)
            obtain ⟨qp9, qf9, qm9, qr9, qi9, qn9, qu9, hv, hnu, hP⟩ := hp; subst hv
            generalize H1 = H at hP hS ⊢
            refine lv_aload_n hx hb dX4_compare_77 rfl (lv_at hl 0 rfl) ?_
            refine fg_X4_numerators hx hb hts hown hE hP q_746 dX4_compare_78 ?_
            refine lv_iload_n hx hb dX4_compare_81 rfl (lv_at hl 1 rfl) ?_
            refine al_numerators hx hb hE hP (j := j) (by omega) dX4_compare_82 ?_
            refine xt_l (w := num z (nI tm) j) (((hnu j (by omega)).1.trans (br_nu hq hw _ (by omega) c63))) ?_
            refine lv_aload_n hx hb dX4_compare_83 rfl (lv_at hl 0 rfl) ?_
            refine fg_X4_denominator hx hb hts hown hE hP q_745 dX4_compare_84 ?_
            refine xt_l (w := den z (nI tm)) (br_de hw _) ?_
            refine lv_iload_n hx hb dX4_compare_87 rfl (lv_at hl 3 rfl) ?_
            refine lv_i2l (v := u.toInt64) hx hb dX4_compare_88 rfl ?_
            refine lv_iload hx hb dX4_compare_89 (lv_at hl 4 rfl) ?_
            refine lv_i2l (v := o.toInt64) hx hb dX4_compare_91 rfl ?_
            refine xw_callS (n := 4) [.long (num z (nI tm) j), .long (den z (nI tm)), .long u.toInt64, .long o.toInt64] (c_X4_compared l 126 (num z (nI tm) j) (den z (nI tm)) u.toInt64 o.toInt64 (cpI_top (hk _).1 ho)) hx hb hml hown hts hE hS rfl rfl q_48 q_948 q_950 q_949 (by decide) rfl ⟨by rw [hRf]; decide, by rw [hRl]; decide⟩ hl.1 rfl (Nat.le_of_ble_eq_true rfl) dX4_compare_92 ⟨by rw [hRc]; decide, by rw [hRs]; decide⟩ (fun v H1 locs hp hS => ?_)
            obtain ⟨hv, hh⟩ := hp; subst hv; subst hh
            refine xt_i (w := cfS 200 (num z (nI tm) j) (den z (nI tm)) u.toInt64 o.toInt64 1) (cp_top (hk _).1 ho) ?_
            have eT : tCmp z (nI j) (nI tm) u o = 0 := by rw [tCmp, if_neg (not_not_intro c10), if_neg (not_not_intro c23), if_neg (not_not_intro ⟨Int32.not_lt.mp (fun h => c36 (Or.inl h)), Int32.not_lt.mp (fun h => c36 (Or.inr h)), Int32.not_lt.mp (fun h => c48 (Or.inl h)), Int32.not_lt.mp (fun h => c48 (Or.inr h))⟩), cl_nI (by omega), if_neg (not_not_intro c63)]
            exact xe_iret hQ hx hb hr hlocks hH hS (Nat.le_refl _) (Nat.le_refl _) (⟨_, rfl, fun _ => by rw [rCmp, cl_nI (by omega)], by rw [eT]; exact hP.R hq⟩) dX4_compare_95
          · skip
            refine lv_aload_n hx hb dX4_compare_66 rfl (lv_at hl 0 rfl) ?_
            refine lv_iconst (v := nI 3) hx hb dX4_compare_67 (by decide) ?_
            refine xw_callV (C := "NetlistBenchModel") (n := 1) [.int (nI 3)] (c_X4_fail l hP (nI 3)) hx hb hml hown hts hE hS (xw_recv hE hP (20, 0) rfl rfl) rfl rfl q_48 q_798 q_801 q_800 q_26 (by decide) rfl ⟨by rw [hRf]; decide, by rw [hRl]; decide⟩ hl.1 rfl (Nat.le_of_ble_eq_true rfl) dX4_compare_68 ⟨by rw [hRc]; decide, by rw [hRs]; decide⟩ (fun v H1 locs hp hS => ?_)
            obtain ⟨hv, hP⟩ := hp; subst hv
            generalize H1 = H at hP hS ⊢
            have eT : tCmp z (nI j) (nI tm) u o = (nI 3) := by rw [tCmp, if_neg (not_not_intro c10), if_neg (not_not_intro c23), if_neg (not_not_intro ⟨Int32.not_lt.mp (fun h => c36 (Or.inl h)), Int32.not_lt.mp (fun h => c36 (Or.inr h)), Int32.not_lt.mp (fun h => c48 (Or.inl h)), Int32.not_lt.mp (fun h => c48 (Or.inr h))⟩), cl_nI (by omega), if_pos c63]; rfl
            exact xe_iret hQ hx hb hr hlocks hH hS (Nat.le_refl _) (Nat.le_refl _) (⟨_, rfl, fun h => absurd (eT.symm.trans h) (by decide), by rw [eT]; exact hP.R hq⟩) dX4_compare_71
        · skip
          have c48 := b_f c48
          refine lv_aload_n hx hb dX4_compare_51 rfl (lv_at hl 0 rfl) ?_
          refine lv_iconst (v := nI 2) hx hb dX4_compare_52 (by decide) ?_
          refine xw_callV (C := "NetlistBenchModel") (n := 1) [.int (nI 2)] (c_X4_fail l hP (nI 2)) hx hb hml hown hts hE hS (xw_recv hE hP (20, 0) rfl rfl) rfl rfl q_48 q_798 q_801 q_800 q_26 (by decide) rfl ⟨by rw [hRf]; decide, by rw [hRl]; decide⟩ hl.1 rfl (Nat.le_of_ble_eq_true rfl) dX4_compare_53 ⟨by rw [hRc]; decide, by rw [hRs]; decide⟩ (fun v H1 locs hp hS => ?_)
          obtain ⟨hv, hP⟩ := hp; subst hv
          generalize H1 = H at hP hS ⊢
          have eT : tCmp z (nI j) (nI tm) u o = (nI 2) := by rw [tCmp, if_neg (not_not_intro c10), if_neg (not_not_intro c23), if_pos (fun h => c48 (by rintro (g | g); exact Int32.not_lt.mpr h.2.2.1 g; exact Int32.not_lt.mpr h.2.2.2 g))]; rfl
          exact xe_iret hQ hx hb hr hlocks hH hS (Nat.le_refl _) (Nat.le_refl _) (⟨_, rfl, fun h => absurd (eT.symm.trans h) (by decide), by rw [eT]; exact hP.R hq⟩) dX4_compare_56
  · skip
    have c10 := b_f c10
    refine lv_aload_n hx hb dX4_compare_13 rfl (lv_at hl 0 rfl) ?_
    refine lv_iconst (v := nI 1) hx hb dX4_compare_14 (by decide) ?_
    refine xw_callV (C := "NetlistBenchModel") (n := 1) [.int (nI 1)] (c_X4_fail l hP (nI 1)) hx hb hml hown hts hE hS (xw_recv hE hP (20, 0) rfl rfl) rfl rfl q_48 q_798 q_801 q_800 q_26 (by decide) rfl ⟨by rw [hRf]; decide, by rw [hRl]; decide⟩ hl.1 rfl (Nat.le_of_ble_eq_true rfl) dX4_compare_15 ⟨by rw [hRc]; decide, by rw [hRs]; decide⟩ (fun v H1 locs hp hS => ?_)
    obtain ⟨hv, hP⟩ := hp; subst hv
    generalize H1 = H at hP hS ⊢
    have eT : tCmp z x t u o = (nI 1) := by rw [tCmp, if_pos c10]; rfl
    exact xe_iret hQ hx hb hr hlocks hH hS (Nat.le_refl _) (Nat.le_refl _) (⟨_, rfl, fun h => absurd (eT.symm.trans h) (by decide), by rw [eT]; exact hP.R hq⟩) dX4_compare_18

set_option maxHeartbeats 4000000 in
set_option maxRecDepth 100000 in
theorem c_X4_levels (l : Launch) {D : va_G} {y : Nat → ClassId} {A : Nat → Prop} {ad : xL → Nat} {th : Int32} {w : xC} {qp : Nat → Int32} {qm : Nat → Int64} {qr : Nat → Int64} {qi : Nat → Int64} {qn : Nat → Int64} {qf : Nat → Int32} {qu : Int32} {qd : Int64} {fB fO : Nat → Nat → Option va_E} {Hs : Heap} (hP : xW D A ad (wU fB (wR y ad th w qp qm qr qi qn qf qu qd) fO) Hs) {z : xC} (hq : Rq z w) (hw : wf z) (t : Int32) : Met l yX4_levels (.code yX4_levels cX4_levels 6 (some .int) :: WG) { frames := 5, cells := 0, slots := 0, locals := 117 } (xPc [.ref (ad (20, 0)), .int t] D y Hs) (xQ (fun v H1 => ∃ r, v = some (.int r) ∧ (tTm t = 0 → r = nI (lvS z t (nN z))) ∧ xRf D A y ad (z) fB fO (tTm t) H1) A) 0 0 A := by
  refine xM_go (by decide) (Nat.le_of_ble_eq_true rfl) (fun p e s m args below meth c ls R Q hx hb hr hlocks hml hown hts hH hE hnm hRf hRl hRc hRs hQ hS hl => ?_)
  have hRf : R.frames = 5 := hRf
  have hRl : R.locals = 117 := hRl
  have hRc : R.cells = 0 := hRc
  have hRs : R.slots = 0 := hRs
  have hl : lv_has ls 6 [(0, .ref (ad (20, 0))), (1, .int t)] := hl
  have hN := hw.N
  have hE20 := hw.E
  refine lv_aload_n hx hb dX4_levels_0 rfl (lv_at hl 0 rfl) ?_
  refine lv_iconst (v := nI 0) hx hb dX4_levels_1 (by decide) ?_
  refine fp_X4_thrown hx hb hts hown hE hS hP q_728 dX4_levels_2 (fun H locs hP hS => ?_)
  refine lv_iload_n hx hb dX4_levels_5 rfl (lv_at hl 1 rfl) ?_
  refine xw_callS (n := 1) [.int t] (c_X4_isTime l t) hx hb hml hown hts hE hS rfl rfl q_48 q_861 q_863 q_862 (by decide) rfl ⟨by rw [hRf]; decide, by rw [hRl]; decide⟩ hl.1 rfl (Nat.le_of_ble_eq_true rfl) dX4_levels_6 ⟨by rw [hRc]; decide, by rw [hRs]; decide⟩ (fun v H1 locs hp hS => ?_)
  obtain ⟨hv, hh⟩ := hp; subst hv; subst hh
  refine lv_if_ne (tgt := 18) hx hb dX4_levels_9 (by decide) (fun c9 => ?_) (fun c9 => ?_)
  · skip
    have c9 := b_t c9
    obtain ⟨tm, htm, ettm⟩ := timeP_i c9
    subst ettm
    refine lv_aload_n hx hb dX4_levels_18 rfl (lv_at hl 0 rfl) ?_
    refine lv_iload_n hx hb dX4_levels_19 rfl (lv_at hl 1 rfl) ?_
    refine xw_callV (C := "NetlistBenchModel") (n := 1) [.int (nI tm)] (c_X4_solve l hP hq hw htm) hx hb hml hown hts hE hS (xw_recv hE hP (20, 0) rfl rfl) rfl rfl q_48 q_892 q_895 q_894 q_35 (by decide) rfl ⟨by rw [hRf]; decide, by rw [hRl]; decide⟩ hl.1 rfl (Nat.le_of_ble_eq_true rfl) dX4_levels_20 ⟨by rw [hRc]; decide, by rw [hRs]; decide⟩ (fun v H1 locs hp hS => ?_)
    obtain ⟨qp9, qf9, qm9, qr9, qi9, qn9, qu9, hv, hnu, hP⟩ := hp; subst hv
    generalize H1 = H at hP hS ⊢
    refine lv_iconst (v := nI 0) hx hb dX4_levels_23 (by decide) ?_
    refine lv_istore_n (lv' := [(2, .int (nI 0)), (0, .ref (ad (20, 0))), (1, .int (nI tm))]) hx hb dX4_levels_24 rfl hl (by decide) rfl (fun ls hl => ?_)
    refine lv_iconst (v := nI 0) hx hb dX4_levels_25 (by decide) ?_
    refine lv_istore_n (lv' := [(3, .int (nI 0)), (2, .int (nI 0)), (0, .ref (ad (20, 0))), (1, .int (nI tm))]) hx hb dX4_levels_26 rfl hl (by decide) rfl (fun ls hl => ?_)
    have K27 : ∀ (nn : Nat), ∀ (i : Nat), (i ≤ nN z) → nN z - i < nn → ∀ (H : Heap) (locs : List Loc) (ls : Array Slot), xW D A ad (wU fB (wR y ad (nI 0) w qp9 qm9 qr9 qi9 qn9 qf9 qu9 (deR z w (nI tm))) fO) H → va_S A Hs H locs → lv_has ls 6 [(3, .int (nI i)), (2, .int (nI (lvS z (nI tm) i))), (1, .int (nI tm)), (0, .ref (ad (20, 0)))] → W p l e R s m args below meth c H locs 0 0 Q (F0 m 27 ls []) := by
      intro nn
      induction nn with
      | zero => intro i hi h; exact absurd h (Nat.not_lt_zero _)
      | succ nn ih27 =>
        intro i hi hn27 H locs ls hP hS hl
        refine lv_iload_n hx hb dX4_levels_27 rfl (lv_at hl 0 rfl) ?_
        refine lv_aload_n hx hb dX4_levels_28 rfl (lv_at hl 3 rfl) ?_
        refine fg_X4_nodes hx hb hts hown hE hP q_729 dX4_levels_29 ?_
        refine xt_i (congrArg nI hq.N) ?_
        refine lv_icmp_ge (tgt := 124) hx hb dX4_levels_32 (by decide) (fun c32 => ?_) (fun c32 => ?_)
        · skip
          have c32 := ni_le (a := (nN z)) (b := i) (by omega) (by omega) c32
          rw [show i = nN z by omega] at hl
          refine lv_iload_n hx hb dX4_levels_124 rfl (lv_at hl 1 rfl) ?_
          have eT : tTm (nI tm) = 0 := by rw [tTm, if_neg (not_not_intro c9)]
          exact xe_iret hQ hx hb hr hlocks hH hS (Nat.le_refl _) (Nat.le_refl _) (⟨_, rfl, fun _ => rfl, by rw [eT]; exact hP.R hq⟩) dX4_levels_125
        · skip
          have c32 := ni_nle (a := (nN z)) (b := i) (by omega) (by omega) c32
          refine lv_aload_n hx hb dX4_levels_35 rfl (lv_at hl 3 rfl) ?_
          refine fg_X4_areFloating hx hb hts hown hE hP q_747 dX4_levels_36 ?_
          refine lv_iload_n hx hb dX4_levels_39 rfl (lv_at hl 0 rfl) ?_
          refine al_areFloating hx hb hE hP (j := i) (by omega) dX4_levels_40 ?_
          refine xt_i (w := aflI z (gM z (nI tm) i)) ((hnu i (by omega)).2) ?_
          refine lv_if_ne (tgt := 48) hx hb dX4_levels_41 (by decide) (fun c41 => ?_) (fun c41 => ?_)
          · skip
            refine lv_iconst (v := nI 0) hx hb dX4_levels_48 (by decide) ?_
            refine lv_istore (lv' := [(4, .int (nI 0)), (3, .int (nI i)), (2, .int (nI (lvS z (nI tm) i))), (1, .int (nI tm)), (0, .ref (ad (20, 0)))]) hx hb dX4_levels_49 hl (by decide) rfl (fun ls hl => ?_)
            have e49 : nI 0 = if aflI z (gM z (nI tm) i) = 0 ∧ lvF z (gM z (nI tm)) (num z (nI tm)) i 0 = true then nI 1 else nI 0 := by rw [if_neg (fun h => c41 h.1)]
            have hl : lv_has ls 6 [(4, .int (if aflI z (gM z (nI tm) i) = 0 ∧ lvF z (gM z (nI tm)) (num z (nI tm)) i 0 = true then nI 1 else nI 0)), (3, .int (nI i)), (2, .int (nI (lvS z (nI tm) i))), (1, .int (nI tm)), (0, .ref (ad (20, 0)))] := by rw [← e49]; exact hl
            refine lv_iconst (v := nI 0) hx hb dX4_levels_51 (by decide) ?_
            refine lv_istore (lv' := [(5, .int (nI 0)), (4, .int (if aflI z (gM z (nI tm) i) = 0 ∧ lvF z (gM z (nI tm)) (num z (nI tm)) i 0 = true then nI 1 else nI 0)), (3, .int (nI i)), (2, .int (nI (lvS z (nI tm) i))), (1, .int (nI tm)), (0, .ref (ad (20, 0)))]) hx hb dX4_levels_52 hl (by decide) rfl (fun ls hl => ?_)
            have K54 : ∀ (nn : Nat), ∀ (k : Nat), (k ≤ i) → i - k < nn → ∀ (H : Heap) (locs : List Loc) (ls : Array Slot), xW D A ad (wU fB (wR y ad (nI 0) w qp9 qm9 qr9 qi9 qn9 qf9 qu9 (deR z w (nI tm))) fO) H → va_S A Hs H locs → lv_has ls 6 [(5, .int (nI k)), (4, .int (if aflI z (gM z (nI tm) i) = 0 ∧ lvF z (gM z (nI tm)) (num z (nI tm)) i k = true then nI 1 else nI 0)), (3, .int (nI i)), (2, .int (nI (lvS z (nI tm) i))), (1, .int (nI tm)), (0, .ref (ad (20, 0)))] → W p l e R s m args below meth c H locs 0 0 Q (F0 m 54 ls []) := by
              intro nn
              induction nn with
              | zero => intro k hk h; exact absurd h (Nat.not_lt_zero _)
              | succ nn ih54 =>
                intro k hk hn54 H locs ls hP hS hl
                refine lv_iload hx hb dX4_levels_54 (lv_at hl 0 rfl) ?_
                refine lv_iload_n hx hb dX4_levels_56 rfl (lv_at hl 2 rfl) ?_
                refine lv_icmp_ge (tgt := 105) hx hb dX4_levels_57 (by decide) (fun c57 => ?_) (fun c57 => ?_)
                · skip
                  have c57 := ni_le (a := i) (b := k) (by omega) (by omega) c57
                  rw [show k = i by omega] at hl
                  refine lv_iload_n hx hb dX4_levels_105 rfl (lv_at hl 3 rfl) ?_
                  refine lv_iload hx hb dX4_levels_106 (lv_at hl 1 rfl) ?_
                  refine lv_if_eq (tgt := 115) hx hb dX4_levels_108 (by decide) (fun c108 => ?_) (fun c108 => ?_)
                  · skip
                    have c108 := b_f c108
                    refine lv_iconst (v := nI 0) hx hb dX4_levels_115 (by decide) ?_
                    refine lv_iadd hx hb dX4_levels_116 ?_
                    refine xt_i (w := nI (lvS z (nI tm) (i + 1))) (by first | (rw [lvS_1 c108.1 c108.2]; exact nI_add _ 1) | (rw [lvS_0 c108]; exact nI_add _ 0)) ?_
                    refine lv_istore_n (lv' := [(2, .int (nI (lvS z (nI tm) (i + 1)))), (5, .int (nI i)), (4, .int (if aflI z (gM z (nI tm) i) = 0 ∧ lvF z (gM z (nI tm)) (num z (nI tm)) i i = true then nI 1 else nI 0)), (3, .int (nI i)), (1, .int (nI tm)), (0, .ref (ad (20, 0)))]) hx hb dX4_levels_117 rfl hl (by decide) rfl (fun ls hl => ?_)
                    refine lv_iinc (v := nI (i + 1)) (lv' := [(3, .int (nI (i + 1))), (2, .int (nI (lvS z (nI tm) (i + 1)))), (5, .int (nI i)), (4, .int (if aflI z (gM z (nI tm) i) = 0 ∧ lvF z (gM z (nI tm)) (num z (nI tm)) i i = true then nI 1 else nI 0)), (1, .int (nI tm)), (0, .ref (ad (20, 0)))]) hx hb dX4_levels_118 hl (k := 3) rfl (nI_1 _) (by decide) rfl (fun ls hl => ?_)
                    refine lv_goto (tgt := 27) hx hb dX4_levels_121 (by decide) ?_
                    exact ih27 (i + 1) (by omega) (by omega) _ _ _ hP hS (lv_sub hl [0, 1, 4, 5] rfl)
                  · skip
                    have c108 := b_t c108
                    refine lv_iconst (v := nI 1) hx hb dX4_levels_111 (by decide) ?_
                    refine lv_goto (tgt := 116) hx hb dX4_levels_112 (by decide) ?_
                    refine lv_iadd hx hb dX4_levels_116 ?_
                    refine xt_i (w := nI (lvS z (nI tm) (i + 1))) (by first | (rw [lvS_1 c108.1 c108.2]; exact nI_add _ 1) | (rw [lvS_0 c108]; exact nI_add _ 0)) ?_
                    refine lv_istore_n (lv' := [(2, .int (nI (lvS z (nI tm) (i + 1)))), (5, .int (nI i)), (4, .int (if aflI z (gM z (nI tm) i) = 0 ∧ lvF z (gM z (nI tm)) (num z (nI tm)) i i = true then nI 1 else nI 0)), (3, .int (nI i)), (1, .int (nI tm)), (0, .ref (ad (20, 0)))]) hx hb dX4_levels_117 rfl hl (by decide) rfl (fun ls hl => ?_)
                    refine lv_iinc (v := nI (i + 1)) (lv' := [(3, .int (nI (i + 1))), (2, .int (nI (lvS z (nI tm) (i + 1)))), (5, .int (nI i)), (4, .int (if aflI z (gM z (nI tm) i) = 0 ∧ lvF z (gM z (nI tm)) (num z (nI tm)) i i = true then nI 1 else nI 0)), (1, .int (nI tm)), (0, .ref (ad (20, 0)))]) hx hb dX4_levels_118 hl (k := 3) rfl (nI_1 _) (by decide) rfl (fun ls hl => ?_)
                    refine lv_goto (tgt := 27) hx hb dX4_levels_121 (by decide) ?_
                    exact ih27 (i + 1) (by omega) (by omega) _ _ _ hP hS (lv_sub hl [0, 1, 4, 5] rfl)
                · skip
                  have c57 := ni_nle (a := i) (b := k) (by omega) (by omega) c57
                  refine lv_iload hx hb dX4_levels_60 (lv_at hl 1 rfl) ?_
                  refine lv_if_eq (tgt := 96) hx hb dX4_levels_62 (by decide) (fun c62 => ?_) (fun c62 => ?_)
                  · skip
                    have c62 := b_f c62
                    refine lv_iconst (v := nI 0) hx hb dX4_levels_96 (by decide) ?_
                    refine lv_istore (lv' := [(4, .int (nI 0)), (5, .int (nI k)), (3, .int (nI i)), (2, .int (nI (lvS z (nI tm) i))), (1, .int (nI tm)), (0, .ref (ad (20, 0)))]) hx hb dX4_levels_97 hl (by decide) rfl (fun ls hl => ?_)
                    have e97 : nI 0 = if aflI z (gM z (nI tm) i) = 0 ∧ lvF z (gM z (nI tm)) (num z (nI tm)) i (k + 1) = true then nI 1 else nI 0 := by rw [if_neg (fun h => c62 ⟨h.1, by have q := h.2; rw [lvF, Bool.and_eq_true] at q; exact q.1⟩)]
                    have hl : lv_has ls 6 [(4, .int (if aflI z (gM z (nI tm) i) = 0 ∧ lvF z (gM z (nI tm)) (num z (nI tm)) i (k + 1) = true then nI 1 else nI 0)), (5, .int (nI k)), (3, .int (nI i)), (2, .int (nI (lvS z (nI tm) i))), (1, .int (nI tm)), (0, .ref (ad (20, 0)))] := by rw [← e97]; exact hl
                    refine lv_iinc (v := nI (k + 1)) (lv' := [(5, .int (nI (k + 1))), (4, .int (if aflI z (gM z (nI tm) i) = 0 ∧ lvF z (gM z (nI tm)) (num z (nI tm)) i (k + 1) = true then nI 1 else nI 0)), (3, .int (nI i)), (2, .int (nI (lvS z (nI tm) i))), (1, .int (nI tm)), (0, .ref (ad (20, 0)))]) hx hb dX4_levels_99 hl (k := 1) rfl (nI_1 _) (by decide) rfl (fun ls hl => ?_)
                    refine lv_goto (tgt := 54) hx hb dX4_levels_102 (by decide) ?_
                    exact ih54 (k + 1) (by omega) (by omega) _ _ _ hP hS (lv_sub hl [0, 1, 2, 3, 4, 5] rfl)
                  · skip
                    have c62 := b_t c62
                    refine lv_aload_n hx hb dX4_levels_65 rfl (lv_at hl 5 rfl) ?_
                    refine fg_X4_areFloating hx hb hts hown hE hP q_747 dX4_levels_66 ?_
                    refine lv_iload hx hb dX4_levels_69 (lv_at hl 0 rfl) ?_
                    refine al_areFloating hx hb hE hP (j := k) (by omega) dX4_levels_71 ?_
                    refine xt_i (w := aflI z (gM z (nI tm) k)) ((hnu k (by omega)).2) ?_
                    refine lv_if_ne (tgt := 92) hx hb dX4_levels_72 (by decide) (fun c72 => ?_) (fun c72 => ?_)
                    · skip
                      refine lv_iconst (v := nI 1) hx hb dX4_levels_92 (by decide) ?_
                      refine lv_goto (tgt := 97) hx hb dX4_levels_93 (by decide) ?_
                      refine lv_istore (lv' := [(4, .int (nI 1)), (5, .int (nI k)), (3, .int (nI i)), (2, .int (nI (lvS z (nI tm) i))), (1, .int (nI tm)), (0, .ref (ad (20, 0)))]) hx hb dX4_levels_97 hl (by decide) rfl (fun ls hl => ?_)
                      have e97 : nI 1 = if aflI z (gM z (nI tm) i) = 0 ∧ lvF z (gM z (nI tm)) (num z (nI tm)) i (k + 1) = true then nI 1 else nI 0 := by rw [if_pos ⟨c62.1, lvF_1 c62.2 (Or.inl c72)⟩]
                      have hl : lv_has ls 6 [(4, .int (if aflI z (gM z (nI tm) i) = 0 ∧ lvF z (gM z (nI tm)) (num z (nI tm)) i (k + 1) = true then nI 1 else nI 0)), (5, .int (nI k)), (3, .int (nI i)), (2, .int (nI (lvS z (nI tm) i))), (1, .int (nI tm)), (0, .ref (ad (20, 0)))] := by rw [← e97]; exact hl
                      refine lv_iinc (v := nI (k + 1)) (lv' := [(5, .int (nI (k + 1))), (4, .int (if aflI z (gM z (nI tm) i) = 0 ∧ lvF z (gM z (nI tm)) (num z (nI tm)) i (k + 1) = true then nI 1 else nI 0)), (3, .int (nI i)), (2, .int (nI (lvS z (nI tm) i))), (1, .int (nI tm)), (0, .ref (ad (20, 0)))]) hx hb dX4_levels_99 hl (k := 1) rfl (nI_1 _) (by decide) rfl (fun ls hl => ?_)
                      refine lv_goto (tgt := 54) hx hb dX4_levels_102 (by decide) ?_
                      exact ih54 (k + 1) (by omega) (by omega) _ _ _ hP hS (lv_sub hl [0, 1, 2, 3, 4, 5] rfl)
                    · skip
                      refine lv_aload_n hx hb dX4_levels_75 rfl (lv_at hl 5 rfl) ?_
                      refine fg_X4_numerators hx hb hts hown hE hP q_746 dX4_levels_76 ?_
                      refine lv_iload hx hb dX4_levels_79 (lv_at hl 0 rfl) ?_
                      refine al_numerators hx hb hE hP (j := k) (by omega) dX4_levels_81 ?_
                      refine xt_l (w := num z (nI tm) k) (((hnu k (by omega)).1.trans (br_nu2 hq hw _ (by omega)))) ?_
                      refine lv_aload_n hx hb dX4_levels_82 rfl (lv_at hl 5 rfl) ?_
                      refine fg_X4_numerators hx hb hts hown hE hP q_746 dX4_levels_83 ?_
                      refine lv_iload_n hx hb dX4_levels_86 rfl (lv_at hl 2 rfl) ?_
                      refine al_numerators hx hb hE hP (j := i) (by omega) dX4_levels_87 ?_
                      refine xt_l (w := num z (nI tm) i) (((hnu i (by omega)).1.trans (br_nu2 hq hw _ (by omega)))) ?_
                      refine W.lcmp hx hb dX4_levels_88 ?_
                      refine lv_if_eq (tgt := 96) hx hb dX4_levels_89 (by decide) (fun c89 => ?_) (fun c89 => ?_)
                      · skip
                        have c89 := (lg_cmp_eq _ _).mp c89
                        refine lv_iconst (v := nI 0) hx hb dX4_levels_96 (by decide) ?_
                        refine lv_istore (lv' := [(4, .int (nI 0)), (5, .int (nI k)), (3, .int (nI i)), (2, .int (nI (lvS z (nI tm) i))), (1, .int (nI tm)), (0, .ref (ad (20, 0)))]) hx hb dX4_levels_97 hl (by decide) rfl (fun ls hl => ?_)
                        have e97 : nI 0 = if aflI z (gM z (nI tm) i) = 0 ∧ lvF z (gM z (nI tm)) (num z (nI tm)) i (k + 1) = true then nI 1 else nI 0 := by rw [if_neg (fun h => by have q := h.2; rw [lvF_0 c72 c89 (k + 1) (Nat.lt_succ_self _)] at q; cases q)]
                        have hl : lv_has ls 6 [(4, .int (if aflI z (gM z (nI tm) i) = 0 ∧ lvF z (gM z (nI tm)) (num z (nI tm)) i (k + 1) = true then nI 1 else nI 0)), (5, .int (nI k)), (3, .int (nI i)), (2, .int (nI (lvS z (nI tm) i))), (1, .int (nI tm)), (0, .ref (ad (20, 0)))] := by rw [← e97]; exact hl
                        refine lv_iinc (v := nI (k + 1)) (lv' := [(5, .int (nI (k + 1))), (4, .int (if aflI z (gM z (nI tm) i) = 0 ∧ lvF z (gM z (nI tm)) (num z (nI tm)) i (k + 1) = true then nI 1 else nI 0)), (3, .int (nI i)), (2, .int (nI (lvS z (nI tm) i))), (1, .int (nI tm)), (0, .ref (ad (20, 0)))]) hx hb dX4_levels_99 hl (k := 1) rfl (nI_1 _) (by decide) rfl (fun ls hl => ?_)
                        refine lv_goto (tgt := 54) hx hb dX4_levels_102 (by decide) ?_
                        exact ih54 (k + 1) (by omega) (by omega) _ _ _ hP hS (lv_sub hl [0, 1, 2, 3, 4, 5] rfl)
                      · skip
                        have c89 := mt (lg_cmp_eq _ _).mpr c89
                        refine lv_iconst (v := nI 1) hx hb dX4_levels_92 (by decide) ?_
                        refine lv_goto (tgt := 97) hx hb dX4_levels_93 (by decide) ?_
                        refine lv_istore (lv' := [(4, .int (nI 1)), (5, .int (nI k)), (3, .int (nI i)), (2, .int (nI (lvS z (nI tm) i))), (1, .int (nI tm)), (0, .ref (ad (20, 0)))]) hx hb dX4_levels_97 hl (by decide) rfl (fun ls hl => ?_)
                        have e97 : nI 1 = if aflI z (gM z (nI tm) i) = 0 ∧ lvF z (gM z (nI tm)) (num z (nI tm)) i (k + 1) = true then nI 1 else nI 0 := by rw [if_pos ⟨c62.1, lvF_1 c62.2 (Or.inr c89)⟩]
                        have hl : lv_has ls 6 [(4, .int (if aflI z (gM z (nI tm) i) = 0 ∧ lvF z (gM z (nI tm)) (num z (nI tm)) i (k + 1) = true then nI 1 else nI 0)), (5, .int (nI k)), (3, .int (nI i)), (2, .int (nI (lvS z (nI tm) i))), (1, .int (nI tm)), (0, .ref (ad (20, 0)))] := by rw [← e97]; exact hl
                        refine lv_iinc (v := nI (k + 1)) (lv' := [(5, .int (nI (k + 1))), (4, .int (if aflI z (gM z (nI tm) i) = 0 ∧ lvF z (gM z (nI tm)) (num z (nI tm)) i (k + 1) = true then nI 1 else nI 0)), (3, .int (nI i)), (2, .int (nI (lvS z (nI tm) i))), (1, .int (nI tm)), (0, .ref (ad (20, 0)))]) hx hb dX4_levels_99 hl (k := 1) rfl (nI_1 _) (by decide) rfl (fun ls hl => ?_)
                        refine lv_goto (tgt := 54) hx hb dX4_levels_102 (by decide) ?_
                        exact ih54 (k + 1) (by omega) (by omega) _ _ _ hP hS (lv_sub hl [0, 1, 2, 3, 4, 5] rfl)
            exact K54 _ 0 (by omega) (Nat.lt_succ_self _) _ _ _ hP hS (lv_sub hl [0, 1, 2, 3, 4, 5] rfl)
          · skip
            refine lv_iconst (v := nI 1) hx hb dX4_levels_44 (by decide) ?_
            refine lv_goto (tgt := 49) hx hb dX4_levels_45 (by decide) ?_
            refine lv_istore (lv' := [(4, .int (nI 1)), (3, .int (nI i)), (2, .int (nI (lvS z (nI tm) i))), (1, .int (nI tm)), (0, .ref (ad (20, 0)))]) hx hb dX4_levels_49 hl (by decide) rfl (fun ls hl => ?_)
            have e49 : nI 1 = if aflI z (gM z (nI tm) i) = 0 ∧ lvF z (gM z (nI tm)) (num z (nI tm)) i 0 = true then nI 1 else nI 0 := by rw [if_pos ⟨c41, rfl⟩]
            have hl : lv_has ls 6 [(4, .int (if aflI z (gM z (nI tm) i) = 0 ∧ lvF z (gM z (nI tm)) (num z (nI tm)) i 0 = true then nI 1 else nI 0)), (3, .int (nI i)), (2, .int (nI (lvS z (nI tm) i))), (1, .int (nI tm)), (0, .ref (ad (20, 0)))] := by rw [← e49]; exact hl
            refine lv_iconst (v := nI 0) hx hb dX4_levels_51 (by decide) ?_
            refine lv_istore (lv' := [(5, .int (nI 0)), (4, .int (if aflI z (gM z (nI tm) i) = 0 ∧ lvF z (gM z (nI tm)) (num z (nI tm)) i 0 = true then nI 1 else nI 0)), (3, .int (nI i)), (2, .int (nI (lvS z (nI tm) i))), (1, .int (nI tm)), (0, .ref (ad (20, 0)))]) hx hb dX4_levels_52 hl (by decide) rfl (fun ls hl => ?_)
            have K54 : ∀ (nn : Nat), ∀ (k : Nat), (k ≤ i) → i - k < nn → ∀ (H : Heap) (locs : List Loc) (ls : Array Slot), xW D A ad (wU fB (wR y ad (nI 0) w qp9 qm9 qr9 qi9 qn9 qf9 qu9 (deR z w (nI tm))) fO) H → va_S A Hs H locs → lv_has ls 6 [(5, .int (nI k)), (4, .int (if aflI z (gM z (nI tm) i) = 0 ∧ lvF z (gM z (nI tm)) (num z (nI tm)) i k = true then nI 1 else nI 0)), (3, .int (nI i)), (2, .int (nI (lvS z (nI tm) i))), (1, .int (nI tm)), (0, .ref (ad (20, 0)))] → W p l e R s m args below meth c H locs 0 0 Q (F0 m 54 ls []) := by
              intro nn
              induction nn with
              | zero => intro k hk h; exact absurd h (Nat.not_lt_zero _)
              | succ nn ih54 =>
                intro k hk hn54 H locs ls hP hS hl
                refine lv_iload hx hb dX4_levels_54 (lv_at hl 0 rfl) ?_
                refine lv_iload_n hx hb dX4_levels_56 rfl (lv_at hl 2 rfl) ?_
                refine lv_icmp_ge (tgt := 105) hx hb dX4_levels_57 (by decide) (fun c57 => ?_) (fun c57 => ?_)
                · skip
                  have c57 := ni_le (a := i) (b := k) (by omega) (by omega) c57
                  rw [show k = i by omega] at hl
                  refine lv_iload_n hx hb dX4_levels_105 rfl (lv_at hl 3 rfl) ?_
                  refine lv_iload hx hb dX4_levels_106 (lv_at hl 1 rfl) ?_
                  refine lv_if_eq (tgt := 115) hx hb dX4_levels_108 (by decide) (fun c108 => ?_) (fun c108 => ?_)
                  · skip
                    have c108 := b_f c108
                    refine lv_iconst (v := nI 0) hx hb dX4_levels_115 (by decide) ?_
                    refine lv_iadd hx hb dX4_levels_116 ?_
                    refine xt_i (w := nI (lvS z (nI tm) (i + 1))) (by first | (rw [lvS_1 c108.1 c108.2]; exact nI_add _ 1) | (rw [lvS_0 c108]; exact nI_add _ 0)) ?_
                    refine lv_istore_n (lv' := [(2, .int (nI (lvS z (nI tm) (i + 1)))), (5, .int (nI i)), (4, .int (if aflI z (gM z (nI tm) i) = 0 ∧ lvF z (gM z (nI tm)) (num z (nI tm)) i i = true then nI 1 else nI 0)), (3, .int (nI i)), (1, .int (nI tm)), (0, .ref (ad (20, 0)))]) hx hb dX4_levels_117 rfl hl (by decide) rfl (fun ls hl => ?_)
                    refine lv_iinc (v := nI (i + 1)) (lv' := [(3, .int (nI (i + 1))), (2, .int (nI (lvS z (nI tm) (i + 1)))), (5, .int (nI i)), (4, .int (if aflI z (gM z (nI tm) i) = 0 ∧ lvF z (gM z (nI tm)) (num z (nI tm)) i i = true then nI 1 else nI 0)), (1, .int (nI tm)), (0, .ref (ad (20, 0)))]) hx hb dX4_levels_118 hl (k := 3) rfl (nI_1 _) (by decide) rfl (fun ls hl => ?_)
                    refine lv_goto (tgt := 27) hx hb dX4_levels_121 (by decide) ?_
                    exact ih27 (i + 1) (by omega) (by omega) _ _ _ hP hS (lv_sub hl [0, 1, 4, 5] rfl)
                  · skip
                    have c108 := b_t c108
                    refine lv_iconst (v := nI 1) hx hb dX4_levels_111 (by decide) ?_
                    refine lv_goto (tgt := 116) hx hb dX4_levels_112 (by decide) ?_
                    refine lv_iadd hx hb dX4_levels_116 ?_
                    refine xt_i (w := nI (lvS z (nI tm) (i + 1))) (by first | (rw [lvS_1 c108.1 c108.2]; exact nI_add _ 1) | (rw [lvS_0 c108]; exact nI_add _ 0)) ?_
                    refine lv_istore_n (lv' := [(2, .int (nI (lvS z (nI tm) (i + 1)))), (5, .int (nI i)), (4, .int (if aflI z (gM z (nI tm) i) = 0 ∧ lvF z (gM z (nI tm)) (num z (nI tm)) i i = true then nI 1 else nI 0)), (3, .int (nI i)), (1, .int (nI tm)), (0, .ref (ad (20, 0)))]) hx hb dX4_levels_117 rfl hl (by decide) rfl (fun ls hl => ?_)
                    refine lv_iinc (v := nI (i + 1)) (lv' := [(3, .int (nI (i + 1))), (2, .int (nI (lvS z (nI tm) (i + 1)))), (5, .int (nI i)), (4, .int (if aflI z (gM z (nI tm) i) = 0 ∧ lvF z (gM z (nI tm)) (num z (nI tm)) i i = true then nI 1 else nI 0)), (1, .int (nI tm)), (0, .ref (ad (20, 0)))]) hx hb dX4_levels_118 hl (k := 3) rfl (nI_1 _) (by decide) rfl (fun ls hl => ?_)
                    refine lv_goto (tgt := 27) hx hb dX4_levels_121 (by decide) ?_
                    exact ih27 (i + 1) (by omega) (by omega) _ _ _ hP hS (lv_sub hl [0, 1, 4, 5] rfl)
                · skip
                  have c57 := ni_nle (a := i) (b := k) (by omega) (by omega) c57
                  refine lv_iload hx hb dX4_levels_60 (lv_at hl 1 rfl) ?_
                  refine lv_if_eq (tgt := 96) hx hb dX4_levels_62 (by decide) (fun c62 => ?_) (fun c62 => ?_)
                  · skip
                    have c62 := b_f c62
                    refine lv_iconst (v := nI 0) hx hb dX4_levels_96 (by decide) ?_
                    refine lv_istore (lv' := [(4, .int (nI 0)), (5, .int (nI k)), (3, .int (nI i)), (2, .int (nI (lvS z (nI tm) i))), (1, .int (nI tm)), (0, .ref (ad (20, 0)))]) hx hb dX4_levels_97 hl (by decide) rfl (fun ls hl => ?_)
                    have e97 : nI 0 = if aflI z (gM z (nI tm) i) = 0 ∧ lvF z (gM z (nI tm)) (num z (nI tm)) i (k + 1) = true then nI 1 else nI 0 := by rw [if_neg (fun h => c62 ⟨h.1, by have q := h.2; rw [lvF, Bool.and_eq_true] at q; exact q.1⟩)]
                    have hl : lv_has ls 6 [(4, .int (if aflI z (gM z (nI tm) i) = 0 ∧ lvF z (gM z (nI tm)) (num z (nI tm)) i (k + 1) = true then nI 1 else nI 0)), (5, .int (nI k)), (3, .int (nI i)), (2, .int (nI (lvS z (nI tm) i))), (1, .int (nI tm)), (0, .ref (ad (20, 0)))] := by rw [← e97]; exact hl
                    refine lv_iinc (v := nI (k + 1)) (lv' := [(5, .int (nI (k + 1))), (4, .int (if aflI z (gM z (nI tm) i) = 0 ∧ lvF z (gM z (nI tm)) (num z (nI tm)) i (k + 1) = true then nI 1 else nI 0)), (3, .int (nI i)), (2, .int (nI (lvS z (nI tm) i))), (1, .int (nI tm)), (0, .ref (ad (20, 0)))]) hx hb dX4_levels_99 hl (k := 1) rfl (nI_1 _) (by decide) rfl (fun ls hl => ?_)
                    refine lv_goto (tgt := 54) hx hb dX4_levels_102 (by decide) ?_
                    exact ih54 (k + 1) (by omega) (by omega) _ _ _ hP hS (lv_sub hl [0, 1, 2, 3, 4, 5] rfl)
                  · skip
                    have c62 := b_t c62
                    refine lv_aload_n hx hb dX4_levels_65 rfl (lv_at hl 5 rfl) ?_
                    refine fg_X4_areFloating hx hb hts hown hE hP q_747 dX4_levels_66 ?_
                    refine lv_iload hx hb dX4_levels_69 (lv_at hl 0 rfl) ?_
                    refine al_areFloating hx hb hE hP (j := k) (by omega) dX4_levels_71 ?_
                    refine xt_i (w := aflI z (gM z (nI tm) k)) ((hnu k (by omega)).2) ?_
                    refine lv_if_ne (tgt := 92) hx hb dX4_levels_72 (by decide) (fun c72 => ?_) (fun c72 => ?_)
                    · skip
                      refine lv_iconst (v := nI 1) hx hb dX4_levels_92 (by decide) ?_
                      refine lv_goto (tgt := 97) hx hb dX4_levels_93 (by decide) ?_
                      refine lv_istore (lv' := [(4, .int (nI 1)), (5, .int (nI k)), (3, .int (nI i)), (2, .int (nI (lvS z (nI tm) i))), (1, .int (nI tm)), (0, .ref (ad (20, 0)))]) hx hb dX4_levels_97 hl (by decide) rfl (fun ls hl => ?_)
                      have e97 : nI 1 = if aflI z (gM z (nI tm) i) = 0 ∧ lvF z (gM z (nI tm)) (num z (nI tm)) i (k + 1) = true then nI 1 else nI 0 := by rw [if_pos ⟨c62.1, lvF_1 c62.2 (Or.inl c72)⟩]
                      have hl : lv_has ls 6 [(4, .int (if aflI z (gM z (nI tm) i) = 0 ∧ lvF z (gM z (nI tm)) (num z (nI tm)) i (k + 1) = true then nI 1 else nI 0)), (5, .int (nI k)), (3, .int (nI i)), (2, .int (nI (lvS z (nI tm) i))), (1, .int (nI tm)), (0, .ref (ad (20, 0)))] := by rw [← e97]; exact hl
                      refine lv_iinc (v := nI (k + 1)) (lv' := [(5, .int (nI (k + 1))), (4, .int (if aflI z (gM z (nI tm) i) = 0 ∧ lvF z (gM z (nI tm)) (num z (nI tm)) i (k + 1) = true then nI 1 else nI 0)), (3, .int (nI i)), (2, .int (nI (lvS z (nI tm) i))), (1, .int (nI tm)), (0, .ref (ad (20, 0)))]) hx hb dX4_levels_99 hl (k := 1) rfl (nI_1 _) (by decide) rfl (fun ls hl => ?_)
                      refine lv_goto (tgt := 54) hx hb dX4_levels_102 (by decide) ?_
                      exact ih54 (k + 1) (by omega) (by omega) _ _ _ hP hS (lv_sub hl [0, 1, 2, 3, 4, 5] rfl)
                    · skip
                      refine lv_aload_n hx hb dX4_levels_75 rfl (lv_at hl 5 rfl) ?_
                      refine fg_X4_numerators hx hb hts hown hE hP q_746 dX4_levels_76 ?_
                      refine lv_iload hx hb dX4_levels_79 (lv_at hl 0 rfl) ?_
                      refine al_numerators hx hb hE hP (j := k) (by omega) dX4_levels_81 ?_
                      refine xt_l (w := num z (nI tm) k) (((hnu k (by omega)).1.trans (br_nu2 hq hw _ (by omega)))) ?_
                      refine lv_aload_n hx hb dX4_levels_82 rfl (lv_at hl 5 rfl) ?_
                      refine fg_X4_numerators hx hb hts hown hE hP q_746 dX4_levels_83 ?_
                      refine lv_iload_n hx hb dX4_levels_86 rfl (lv_at hl 2 rfl) ?_
                      refine al_numerators hx hb hE hP (j := i) (by omega) dX4_levels_87 ?_
                      refine xt_l (w := num z (nI tm) i) (((hnu i (by omega)).1.trans (br_nu2 hq hw _ (by omega)))) ?_
                      refine W.lcmp hx hb dX4_levels_88 ?_
                      refine lv_if_eq (tgt := 96) hx hb dX4_levels_89 (by decide) (fun c89 => ?_) (fun c89 => ?_)
                      · skip
                        have c89 := (lg_cmp_eq _ _).mp c89
                        refine lv_iconst (v := nI 0) hx hb dX4_levels_96 (by decide) ?_
                        refine lv_istore (lv' := [(4, .int (nI 0)), (5, .int (nI k)), (3, .int (nI i)), (2, .int (nI (lvS z (nI tm) i))), (1, .int (nI tm)), (0, .ref (ad (20, 0)))]) hx hb dX4_levels_97 hl (by decide) rfl (fun ls hl => ?_)
                        have e97 : nI 0 = if aflI z (gM z (nI tm) i) = 0 ∧ lvF z (gM z (nI tm)) (num z (nI tm)) i (k + 1) = true then nI 1 else nI 0 := by rw [if_neg (fun h => by have q := h.2; rw [lvF_0 c72 c89 (k + 1) (Nat.lt_succ_self _)] at q; cases q)]
                        have hl : lv_has ls 6 [(4, .int (if aflI z (gM z (nI tm) i) = 0 ∧ lvF z (gM z (nI tm)) (num z (nI tm)) i (k + 1) = true then nI 1 else nI 0)), (5, .int (nI k)), (3, .int (nI i)), (2, .int (nI (lvS z (nI tm) i))), (1, .int (nI tm)), (0, .ref (ad (20, 0)))] := by rw [← e97]; exact hl
                        refine lv_iinc (v := nI (k + 1)) (lv' := [(5, .int (nI (k + 1))), (4, .int (if aflI z (gM z (nI tm) i) = 0 ∧ lvF z (gM z (nI tm)) (num z (nI tm)) i (k + 1) = true then nI 1 else nI 0)), (3, .int (nI i)), (2, .int (nI (lvS z (nI tm) i))), (1, .int (nI tm)), (0, .ref (ad (20, 0)))]) hx hb dX4_levels_99 hl (k := 1) rfl (nI_1 _) (by decide) rfl (fun ls hl => ?_)
                        refine lv_goto (tgt := 54) hx hb dX4_levels_102 (by decide) ?_
                        exact ih54 (k + 1) (by omega) (by omega) _ _ _ hP hS (lv_sub hl [0, 1, 2, 3, 4, 5] rfl)
                      · skip
                        have c89 := mt (lg_cmp_eq _ _).mpr c89
                        refine lv_iconst (v := nI 1) hx hb dX4_levels_92 (by decide) ?_
                        refine lv_goto (tgt := 97) hx hb dX4_levels_93 (by decide) ?_
                        refine lv_istore (lv' := [(4, .int (nI 1)), (5, .int (nI k)), (3, .int (nI i)), (2, .int (nI (lvS z (nI tm) i))), (1, .int (nI tm)), (0, .ref (ad (20, 0)))]) hx hb dX4_levels_97 hl (by decide) rfl (fun ls hl => ?_)
                        have e97 : nI 1 = if aflI z (gM z (nI tm) i) = 0 ∧ lvF z (gM z (nI tm)) (num z (nI tm)) i (k + 1) = true then nI 1 else nI 0 := by rw [if_pos ⟨c62.1, lvF_1 c62.2 (Or.inr c89)⟩]
                        have hl : lv_has ls 6 [(4, .int (if aflI z (gM z (nI tm) i) = 0 ∧ lvF z (gM z (nI tm)) (num z (nI tm)) i (k + 1) = true then nI 1 else nI 0)), (5, .int (nI k)), (3, .int (nI i)), (2, .int (nI (lvS z (nI tm) i))), (1, .int (nI tm)), (0, .ref (ad (20, 0)))] := by rw [← e97]; exact hl
                        refine lv_iinc (v := nI (k + 1)) (lv' := [(5, .int (nI (k + 1))), (4, .int (if aflI z (gM z (nI tm) i) = 0 ∧ lvF z (gM z (nI tm)) (num z (nI tm)) i (k + 1) = true then nI 1 else nI 0)), (3, .int (nI i)), (2, .int (nI (lvS z (nI tm) i))), (1, .int (nI tm)), (0, .ref (ad (20, 0)))]) hx hb dX4_levels_99 hl (k := 1) rfl (nI_1 _) (by decide) rfl (fun ls hl => ?_)
                        refine lv_goto (tgt := 54) hx hb dX4_levels_102 (by decide) ?_
                        exact ih54 (k + 1) (by omega) (by omega) _ _ _ hP hS (lv_sub hl [0, 1, 2, 3, 4, 5] rfl)
            exact K54 _ 0 (by omega) (Nat.lt_succ_self _) _ _ _ hP hS (lv_sub hl [0, 1, 2, 3, 4, 5] rfl)
    exact K27 _ 0 (by omega) (Nat.lt_succ_self _) _ _ _ hP hS (lv_sub hl [0, 1, 3, 2] rfl)
  · skip
    have c9 := b_f c9
    refine lv_aload_n hx hb dX4_levels_12 rfl (lv_at hl 0 rfl) ?_
    refine lv_iconst (v := nI 1) hx hb dX4_levels_13 (by decide) ?_
    refine xw_callV (C := "NetlistBenchModel") (n := 1) [.int (nI 1)] (c_X4_fail l hP (nI 1)) hx hb hml hown hts hE hS (xw_recv hE hP (20, 0) rfl rfl) rfl rfl q_48 q_798 q_801 q_800 q_26 (by decide) rfl ⟨by rw [hRf]; decide, by rw [hRl]; decide⟩ hl.1 rfl (Nat.le_of_ble_eq_true rfl) dX4_levels_14 ⟨by rw [hRc]; decide, by rw [hRs]; decide⟩ (fun v H1 locs hp hS => ?_)
    obtain ⟨hv, hP⟩ := hp; subst hv
    generalize H1 = H at hP hS ⊢
    have eT : tTm t = (nI 1) := by rw [tTm, if_pos c9]; rfl
    exact xe_iret hQ hx hb hr hlocks hH hS (Nat.le_refl _) (Nat.le_refl _) (⟨_, rfl, fun h => absurd (eT.symm.trans h) (by decide), by rw [eT]; exact hP.R hq⟩) dX4_levels_17
