set_option maxHeartbeats 4000000 in
set_option maxRecDepth 100000 in
theorem c_X4_addNode (l : Launch) {D : va_G} {y : Nat → ClassId} {A : Nat → Prop} {ad : xL → Nat} {th : Int32} {w : xC} {qp : Nat → Int32} {qm : Nat → Int64} {qr : Nat → Int64} {qi : Nat → Int64} {qn : Nat → Int64} {qf : Nat → Int32} {qu : Int32} {qd : Int64} {fB fO : Nat → Nat → Option va_E} {Hs : Heap} (hP : xW D A ad (wU fB (wR y ad th w qp qm qr qi qn qf qu qd) fO) Hs) {z : xC} (hq : Rq z w) (hw : wf z)  : Met l yX4_addNode (.code yX4_addNode cX4_addNode 1 (some .int) :: WG) { frames := 1, cells := 0, slots := 0, locals := 21 } (xPc [.ref (ad (20, 0))] D y Hs) (xQ (fun v H1 => ∃ r, v = some (.int r) ∧ (tAddNode z = 0 → r = nI (nN z)) ∧ xRf D A y ad (if tAddNode z = 0 then zAddNode z else z) fB fO (tAddNode z) H1) A) 0 0 A := by
  refine xM_go (by decide) (Nat.le_of_ble_eq_true rfl) (fun p e s m args below meth c ls R Q hx hb hr hlocks hml hown hts hH hE hnm hRf hRl hRc hRs hQ hS hl => ?_)
  have hRf : R.frames = 1 := hRf
  have hRl : R.locals = 21 := hRl
  have hRc : R.cells = 0 := hRc
  have hRs : R.slots = 0 := hRs
  have hl : lv_has ls 1 [(0, .ref (ad (20, 0)))] := hl
  have hN := hw.N
  have hE20 := hw.E
  refine lv_aload_n hx hb dX4_addNode_0 rfl (lv_at hl 0 rfl) ?_
  refine lv_iconst (v := nI 0) hx hb dX4_addNode_1 (by decide) ?_
  refine fp_X4_thrown hx hb hts hown hE hS hP q_728 dX4_addNode_2 (fun H locs hP hS => ?_)
  refine lv_aload_n hx hb dX4_addNode_5 rfl (lv_at hl 0 rfl) ?_
  refine fg_X4_nodes hx hb hts hown hE hP q_729 dX4_addNode_6 ?_
  refine xt_i (congrArg nI hq.N) ?_
  refine lv_bipush (v := nI 8) hx hb dX4_addNode_9 (by decide) ?_
  refine lv_icmp_ne (tgt := 20) hx hb dX4_addNode_11 (by decide) (fun c11 => ?_) (fun c11 => ?_)
  · skip
    have c11 := ni_ne (a := (nN z)) (b := 8) (by omega) (by omega) c11
    refine lv_aload_n hx hb dX4_addNode_20 rfl (lv_at hl 0 rfl) ?_
    refine fg_X4_areRails hx hb hts hown hE hP q_730 dX4_addNode_21 ?_
    refine lv_aload_n hx hb dX4_addNode_24 rfl (lv_at hl 0 rfl) ?_
    refine fg_X4_nodes hx hb hts hown hE hP q_729 dX4_addNode_25 ?_
    refine xt_i (congrArg nI hq.N) ?_
    refine lv_iconst (v := nI 0) hx hb dX4_addNode_28 (by decide) ?_
    refine as_areRails hx hb hE hS hP (j := nN z) (by omega) (by first | assumption | decide | omega) dX4_addNode_29 (fun H locs hP hS => ?_)
    refine lv_aload_n hx hb dX4_addNode_30 rfl (lv_at hl 0 rfl) ?_
    refine lv_dup hx hb dX4_addNode_31 rfl ?_
    refine fg_X4_nodes hx hb hts hown hE hP q_729 dX4_addNode_32 ?_
    refine xt_i (w := nI (nN z)) (congrArg nI hq.N) ?_
    refine lv_iconst (v := nI 1) hx hb dX4_addNode_35 (by decide) ?_
    refine lv_iadd hx hb dX4_addNode_36 ?_
    refine xt_i (nI_add (nN z) 1) ?_
    refine fp_X4_nodes hx hb hts hown hE hS hP q_729 dX4_addNode_37 (fun H locs hP hS => ?_)
    refine lv_aload_n hx hb dX4_addNode_40 rfl (lv_at hl 0 rfl) ?_
    refine fg_X4_nodes hx hb hts hown hE hP q_729 dX4_addNode_41 ?_
    refine xt_i (w := nI (nN z + 1)) (rfl) ?_
    refine lv_iconst (v := nI 1) hx hb dX4_addNode_44 (by decide) ?_
    refine lv_isub hx hb dX4_addNode_45 ?_
    refine xt_i (w := nI (nN z)) (by rw [pk_sub (by omega)]; rfl) ?_
    have eT : tAddNode z = 0 := by rw [tAddNode, if_neg c11]
    exact xe_iret hQ hx hb hr hlocks hH hS (Nat.le_refl _) (Nat.le_refl _) (⟨_, rfl, fun _ => rfl, by rw [eT, if_pos rfl]; exact hP.R (rq_node hq)⟩) dX4_addNode_46
  · skip
    have c11 := ni_eq (a := (nN z)) (b := 8) (by omega) (by omega) c11
    refine lv_aload_n hx hb dX4_addNode_14 rfl (lv_at hl 0 rfl) ?_
    refine lv_iconst (v := nI 1) hx hb dX4_addNode_15 (by decide) ?_
    refine xw_callV (C := "NetlistBenchModel") (n := 1) [.int (nI 1)] (c_X4_fail l hP (nI 1)) hx hb hml hown hts hE hS (xw_recv hE hP (20, 0) rfl rfl) rfl rfl q_48 q_798 q_801 q_800 q_26 (by decide) rfl ⟨by rw [hRf]; decide, by rw [hRl]; decide⟩ hl.1 rfl (Nat.le_of_ble_eq_true rfl) dX4_addNode_16 ⟨by rw [hRc]; decide, by rw [hRs]; decide⟩ (fun v H1 locs hp hS => ?_)
    obtain ⟨hv, hP⟩ := hp; subst hv
    generalize H1 = H at hP hS ⊢
    have eT : tAddNode z = (nI 1) := by rw [tAddNode, if_pos c11]; rfl
    exact xe_iret hQ hx hb hr hlocks hH hS (Nat.le_refl _) (Nat.le_refl _) (⟨_, rfl, fun h => absurd (eT.symm.trans h) (by decide), by rw [eT, if_neg (by decide)]; exact hP.R hq⟩) dX4_addNode_19

set_option maxHeartbeats 4000000 in
set_option maxRecDepth 100000 in
theorem c_X4_addElement (l : Launch) {D : va_G} {y : Nat → ClassId} {A : Nat → Prop} {ad : xL → Nat} {th : Int32} {w : xC} {qp : Nat → Int32} {qm : Nat → Int64} {qr : Nat → Int64} {qi : Nat → Int64} {qn : Nat → Int64} {qf : Nat → Int32} {qu : Int32} {qd : Int64} {fB fO : Nat → Nat → Option va_E} {Hs : Heap} (hP : xW D A ad (wU fB (wR y ad th w qp qm qr qi qn qf qu qd) fO) Hs) {z : xC} (hq : Rq z w) (hw : wf z) (sr x1 x2 k : Int32) (hs01 : sr = 0 ∨ sr = 1) : Met l yX4_addElement (.code yX4_addElement cX4_addElement 5 (some .int) :: WG) { frames := 2, cells := 0, slots := 0, locals := 43 } (xPc [.ref (ad (20, 0)), .int sr, .int x1, .int x2, .int k] D y Hs) (xQ (fun v H1 => ∃ r, v = some (.int r) ∧ (tAddEl z sr x1 x2 k = 0 → r = nI (nE z)) ∧ xRf D A y ad (if tAddEl z sr x1 x2 k = 0 then zAddEl z sr x1 x2 k else z) fB fO (tAddEl z sr x1 x2 k) H1) A) 0 0 A := by
  refine xM_go (by decide) (Nat.le_of_ble_eq_true rfl) (fun p e s m args below meth c ls R Q hx hb hr hlocks hml hown hts hH hE hnm hRf hRl hRc hRs hQ hS hl => ?_)
  have hRf : R.frames = 2 := hRf
  have hRl : R.locals = 43 := hRl
  have hRc : R.cells = 0 := hRc
  have hRs : R.slots = 0 := hRs
  have hl : lv_has ls 5 [(0, .ref (ad (20, 0))), (1, .int sr), (2, .int x1), (3, .int x2), (4, .int k)] := hl
  have hN := hw.N
  have hE20 := hw.E
  refine lv_aload_n hx hb dX4_addElement_0 rfl (lv_at hl 0 rfl) ?_
  refine lv_iconst (v := nI 0) hx hb dX4_addElement_1 (by decide) ?_
  refine fp_X4_thrown hx hb hts hown hE hS hP q_728 dX4_addElement_2 (fun H locs hP hS => ?_)
  refine lv_aload_n hx hb dX4_addElement_5 rfl (lv_at hl 0 rfl) ?_
  refine lv_iload_n hx hb dX4_addElement_6 rfl (lv_at hl 2 rfl) ?_
  refine xw_callV (C := "NetlistBenchModel") (n := 1) [.int x1] (c_X4_isNode l hP hq hw x1) hx hb hml hown hts hE hS (xw_recv hE hP (20, 0) rfl rfl) rfl rfl q_48 q_806 q_809 q_808 q_27 (by decide) rfl ⟨by rw [hRf]; decide, by rw [hRl]; decide⟩ hl.1 rfl (Nat.le_of_ble_eq_true rfl) dX4_addElement_7 ⟨by rw [hRc]; decide, by rw [hRs]; decide⟩ (fun v H1 locs hp hS => ?_)
  obtain ⟨hv, hh⟩ := hp; subst hv; subst hh
  refine lv_if_eq (tgt := 21) hx hb dX4_addElement_10 (by decide) (fun c10 => ?_) (fun c10 => ?_)
  · skip
    have c10 := b_f c10
    refine lv_aload_n hx hb dX4_addElement_21 rfl (lv_at hl 0 rfl) ?_
    refine lv_iconst (v := nI 1) hx hb dX4_addElement_22 (by decide) ?_
    refine xw_callV (C := "NetlistBenchModel") (n := 1) [.int (nI 1)] (c_X4_fail l hP (nI 1)) hx hb hml hown hts hE hS (xw_recv hE hP (20, 0) rfl rfl) rfl rfl q_48 q_798 q_801 q_800 q_26 (by decide) rfl ⟨by rw [hRf]; decide, by rw [hRl]; decide⟩ hl.1 rfl (Nat.le_of_ble_eq_true rfl) dX4_addElement_23 ⟨by rw [hRc]; decide, by rw [hRs]; decide⟩ (fun v H1 locs hp hS => ?_)
    obtain ⟨hv, hP⟩ := hp; subst hv
    generalize H1 = H at hP hS ⊢
    have eT : tAddEl z sr x1 x2 k = (nI 1) := by rw [tAddEl, if_pos (Or.inl c10)]; rfl
    exact xe_iret hQ hx hb hr hlocks hH hS (Nat.le_refl _) (Nat.le_refl _) (⟨_, rfl, fun h => absurd (eT.symm.trans h) (by decide), by rw [eT, if_neg (by decide)]; exact hP.R hq⟩) dX4_addElement_26
  · skip
    have c10 := b_t c10
    obtain ⟨ja, hja, exja⟩ := nodeP_i hw c10
    subst exja
    refine lv_aload_n hx hb dX4_addElement_13 rfl (lv_at hl 0 rfl) ?_
    refine lv_iload_n hx hb dX4_addElement_14 rfl (lv_at hl 3 rfl) ?_
    refine xw_callV (C := "NetlistBenchModel") (n := 1) [.int x2] (c_X4_isNode l hP hq hw x2) hx hb hml hown hts hE hS (xw_recv hE hP (20, 0) rfl rfl) rfl rfl q_48 q_806 q_809 q_808 q_27 (by decide) rfl ⟨by rw [hRf]; decide, by rw [hRl]; decide⟩ hl.1 rfl (Nat.le_of_ble_eq_true rfl) dX4_addElement_15 ⟨by rw [hRc]; decide, by rw [hRs]; decide⟩ (fun v H1 locs hp hS => ?_)
    obtain ⟨hv, hh⟩ := hp; subst hv; subst hh
    refine lv_if_ne (tgt := 27) hx hb dX4_addElement_18 (by decide) (fun c18 => ?_) (fun c18 => ?_)
    · skip
      have c18 := b_t c18
      obtain ⟨jb, hjb, exjb⟩ := nodeP_i hw c18
      subst exjb
      refine lv_iload_n hx hb dX4_addElement_27 rfl (lv_at hl 2 rfl) ?_
      refine lv_iload_n hx hb dX4_addElement_28 rfl (lv_at hl 3 rfl) ?_
      refine lv_icmp_eq (tgt := 41) hx hb dX4_addElement_29 (by decide) (fun c29 => ?_) (fun c29 => ?_)
      · skip
        have c29 := ni_eq (a := ja) (b := jb) (by omega) (by omega) c29
        refine lv_aload_n hx hb dX4_addElement_41 rfl (lv_at hl 0 rfl) ?_
        refine lv_iconst (v := nI 2) hx hb dX4_addElement_42 (by decide) ?_
        refine xw_callV (C := "NetlistBenchModel") (n := 1) [.int (nI 2)] (c_X4_fail l hP (nI 2)) hx hb hml hown hts hE hS (xw_recv hE hP (20, 0) rfl rfl) rfl rfl q_48 q_798 q_801 q_800 q_26 (by decide) rfl ⟨by rw [hRf]; decide, by rw [hRl]; decide⟩ hl.1 rfl (Nat.le_of_ble_eq_true rfl) dX4_addElement_43 ⟨by rw [hRc]; decide, by rw [hRs]; decide⟩ (fun v H1 locs hp hS => ?_)
        obtain ⟨hv, hP⟩ := hp; subst hv
        generalize H1 = H at hP hS ⊢
        have eT : tAddEl z sr (nI ja) (nI jb) k = (nI 2) := by rw [tAddEl, if_neg (by rintro (h | h); exact h c10; exact h c18), if_pos (Or.inl (congrArg nI c29))]; rfl
        exact xe_iret hQ hx hb hr hlocks hH hS (Nat.le_refl _) (Nat.le_refl _) (⟨_, rfl, fun h => absurd (eT.symm.trans h) (by decide), by rw [eT, if_neg (by decide)]; exact hP.R hq⟩) dX4_addElement_46
      · skip
        have c29 := ni_ne (a := ja) (b := jb) (by omega) (by omega) c29
        refine lv_iload_n hx hb dX4_addElement_32 rfl (lv_at hl 1 rfl) ?_
        refine lv_iload hx hb dX4_addElement_33 (lv_at hl 4 rfl) ?_
        refine xw_callS (n := 2) [.int sr, .int k] (c_X4_isSize l sr k) hx hb hml hown hts hE hS rfl rfl q_48 q_817 q_819 q_818 (by decide) rfl ⟨by rw [hRf]; decide, by rw [hRl]; decide⟩ hl.1 rfl (Nat.le_of_ble_eq_true rfl) dX4_addElement_35 ⟨by rw [hRc]; decide, by rw [hRs]; decide⟩ (fun v H1 locs hp hS => ?_)
        obtain ⟨hv, hh⟩ := hp; subst hv; subst hh
        refine lv_if_ne (tgt := 47) hx hb dX4_addElement_38 (by decide) (fun c38 => ?_) (fun c38 => ?_)
        · skip
          have c38 := b_t c38
          refine lv_aload_n hx hb dX4_addElement_47 rfl (lv_at hl 0 rfl) ?_
          refine fg_X4_elements hx hb hts hown hE hP q_732 dX4_addElement_48 ?_
          refine xt_i (congrArg nI hq.E) ?_
          refine lv_bipush (v := nI 20) hx hb dX4_addElement_51 (by decide) ?_
          refine lv_icmp_ne (tgt := 62) hx hb dX4_addElement_53 (by decide) (fun c53 => ?_) (fun c53 => ?_)
          · skip
            have c53 := ni_ne (a := (nE z)) (b := 20) (by omega) (by omega) c53
            refine lv_aload_n hx hb dX4_addElement_62 rfl (lv_at hl 0 rfl) ?_
            refine fg_X4_areSources hx hb hts hown hE hP q_733 dX4_addElement_63 ?_
            refine lv_aload_n hx hb dX4_addElement_66 rfl (lv_at hl 0 rfl) ?_
            refine fg_X4_elements hx hb hts hown hE hP q_732 dX4_addElement_67 ?_
            refine xt_i (congrArg nI hq.E) ?_
            refine lv_iload_n hx hb dX4_addElement_70 rfl (lv_at hl 1 rfl) ?_
            refine as_areSources hx hb hE hS hP (j := nE z) (by omega) (by first | assumption | decide | omega) dX4_addElement_71 (fun H locs hP hS => ?_)
            refine lv_aload_n hx hb dX4_addElement_72 rfl (lv_at hl 0 rfl) ?_
            refine fg_X4_as hx hb hts hown hE hP q_734 dX4_addElement_73 ?_
            refine lv_aload_n hx hb dX4_addElement_76 rfl (lv_at hl 0 rfl) ?_
            refine fg_X4_elements hx hb hts hown hE hP q_732 dX4_addElement_77 ?_
            refine xt_i (w := nI (nE z)) (congrArg nI hq.E) ?_
            refine lv_iload_n hx hb dX4_addElement_80 rfl (lv_at hl 2 rfl) ?_
            refine as_as hx hb hE hS hP (j := nE z) (by omega) dX4_addElement_81 (fun H locs hP hS => ?_)
            refine lv_aload_n hx hb dX4_addElement_82 rfl (lv_at hl 0 rfl) ?_
            refine fg_X4_bs hx hb hts hown hE hP q_735 dX4_addElement_83 ?_
            refine lv_aload_n hx hb dX4_addElement_86 rfl (lv_at hl 0 rfl) ?_
            refine fg_X4_elements hx hb hts hown hE hP q_732 dX4_addElement_87 ?_
            refine xt_i (w := nI (nE z)) (congrArg nI hq.E) ?_
            refine lv_iload_n hx hb dX4_addElement_90 rfl (lv_at hl 3 rfl) ?_
            refine as_bs hx hb hE hS hP (j := nE z) (by omega) dX4_addElement_91 (fun H locs hP hS => ?_)
            refine lv_aload_n hx hb dX4_addElement_92 rfl (lv_at hl 0 rfl) ?_
            refine fg_X4_sizes hx hb hts hown hE hP q_736 dX4_addElement_93 ?_
            refine lv_aload_n hx hb dX4_addElement_96 rfl (lv_at hl 0 rfl) ?_
            refine fg_X4_elements hx hb hts hown hE hP q_732 dX4_addElement_97 ?_
            refine xt_i (w := nI (nE z)) (congrArg nI hq.E) ?_
            refine lv_iload hx hb dX4_addElement_100 (lv_at hl 4 rfl) ?_
            refine as_sizes hx hb hE hS hP (j := nE z) (by omega) dX4_addElement_102 (fun H locs hP hS => ?_)
            refine lv_aload_n hx hb dX4_addElement_103 rfl (lv_at hl 0 rfl) ?_
            refine fg_X4_areOn hx hb hts hown hE hP q_737 dX4_addElement_104 ?_
            refine lv_aload_n hx hb dX4_addElement_107 rfl (lv_at hl 0 rfl) ?_
            refine fg_X4_elements hx hb hts hown hE hP q_732 dX4_addElement_108 ?_
            refine xt_i (w := nI (nE z)) (congrArg nI hq.E) ?_
            refine lv_iconst (v := nI 1) hx hb dX4_addElement_111 (by decide) ?_
            refine as_areOn hx hb hE hS hP (j := nE z) (by omega) (by first | assumption | decide | omega) dX4_addElement_112 (fun H locs hP hS => ?_)
            refine lv_aload_n hx hb dX4_addElement_113 rfl (lv_at hl 0 rfl) ?_
            refine fg_X4_toggles hx hb hts hown hE hP q_738 dX4_addElement_114 ?_
            refine lv_aload_n hx hb dX4_addElement_117 rfl (lv_at hl 0 rfl) ?_
            refine fg_X4_elements hx hb hts hown hE hP q_732 dX4_addElement_118 ?_
            refine xt_i (w := nI (nE z)) (congrArg nI hq.E) ?_
            refine lv_iconst (v := nI 0) hx hb dX4_addElement_121 (by decide) ?_
            refine as_toggles hx hb hE hS hP (j := nE z) (by omega) dX4_addElement_122 (fun H locs hP hS => ?_)
            refine lv_aload_n hx hb dX4_addElement_123 rfl (lv_at hl 0 rfl) ?_
            refine lv_dup hx hb dX4_addElement_124 rfl ?_
            refine fg_X4_elements hx hb hts hown hE hP q_732 dX4_addElement_125 ?_
            refine xt_i (w := nI (nE z)) (congrArg nI hq.E) ?_
            refine lv_iconst (v := nI 1) hx hb dX4_addElement_128 (by decide) ?_
            refine lv_iadd hx hb dX4_addElement_129 ?_
            refine xt_i (nI_add (nE z) 1) ?_
            refine fp_X4_elements hx hb hts hown hE hS hP q_732 dX4_addElement_130 (fun H locs hP hS => ?_)
            refine lv_aload_n hx hb dX4_addElement_133 rfl (lv_at hl 0 rfl) ?_
            refine fg_X4_elements hx hb hts hown hE hP q_732 dX4_addElement_134 ?_
            refine xt_i (w := nI (nE z + 1)) (rfl) ?_
            refine lv_iconst (v := nI 1) hx hb dX4_addElement_137 (by decide) ?_
            refine lv_isub hx hb dX4_addElement_138 ?_
            refine xt_i (w := nI (nE z)) (by rw [pk_sub (by omega)]; rfl) ?_
            have eT : tAddEl z sr (nI ja) (nI jb) k = 0 := by rw [tAddEl, if_neg (by rintro (h | h); exact h c10; exact h c18), if_neg (by rintro (h | h); exact c29 (ni_eq (by omega) (by omega) h); exact h c38), if_neg c53]
            exact xe_iret hQ hx hb hr hlocks hH hS (Nat.le_refl _) (Nat.le_refl _) (⟨_, rfl, fun _ => rfl, by rw [eT, if_pos rfl]; exact hP.R (rq_el hq hw sr (nI ja) (nI jb) k)⟩) dX4_addElement_139
          · skip
            have c53 := ni_eq (a := (nE z)) (b := 20) (by omega) (by omega) c53
            refine lv_aload_n hx hb dX4_addElement_56 rfl (lv_at hl 0 rfl) ?_
            refine lv_iconst (v := nI 3) hx hb dX4_addElement_57 (by decide) ?_
            refine xw_callV (C := "NetlistBenchModel") (n := 1) [.int (nI 3)] (c_X4_fail l hP (nI 3)) hx hb hml hown hts hE hS (xw_recv hE hP (20, 0) rfl rfl) rfl rfl q_48 q_798 q_801 q_800 q_26 (by decide) rfl ⟨by rw [hRf]; decide, by rw [hRl]; decide⟩ hl.1 rfl (Nat.le_of_ble_eq_true rfl) dX4_addElement_58 ⟨by rw [hRc]; decide, by rw [hRs]; decide⟩ (fun v H1 locs hp hS => ?_)
            obtain ⟨hv, hP⟩ := hp; subst hv
            generalize H1 = H at hP hS ⊢
            have eT : tAddEl z sr (nI ja) (nI jb) k = (nI 3) := by rw [tAddEl, if_neg (by rintro (h | h); exact h c10; exact h c18), if_neg (by rintro (h | h); exact c29 (ni_eq (by omega) (by omega) h); exact h c38), if_pos c53]; rfl
            exact xe_iret hQ hx hb hr hlocks hH hS (Nat.le_refl _) (Nat.le_refl _) (⟨_, rfl, fun h => absurd (eT.symm.trans h) (by decide), by rw [eT, if_neg (by decide)]; exact hP.R hq⟩) dX4_addElement_61
        · skip
          have c38 := b_f c38
          refine lv_aload_n hx hb dX4_addElement_41 rfl (lv_at hl 0 rfl) ?_
          refine lv_iconst (v := nI 2) hx hb dX4_addElement_42 (by decide) ?_
          refine xw_callV (C := "NetlistBenchModel") (n := 1) [.int (nI 2)] (c_X4_fail l hP (nI 2)) hx hb hml hown hts hE hS (xw_recv hE hP (20, 0) rfl rfl) rfl rfl q_48 q_798 q_801 q_800 q_26 (by decide) rfl ⟨by rw [hRf]; decide, by rw [hRl]; decide⟩ hl.1 rfl (Nat.le_of_ble_eq_true rfl) dX4_addElement_43 ⟨by rw [hRc]; decide, by rw [hRs]; decide⟩ (fun v H1 locs hp hS => ?_)
          obtain ⟨hv, hP⟩ := hp; subst hv
          generalize H1 = H at hP hS ⊢
          have eT : tAddEl z sr (nI ja) (nI jb) k = (nI 2) := by rw [tAddEl, if_neg (by rintro (h | h); exact h c10; exact h c18), if_pos (Or.inr c38)]; rfl
          exact xe_iret hQ hx hb hr hlocks hH hS (Nat.le_refl _) (Nat.le_refl _) (⟨_, rfl, fun h => absurd (eT.symm.trans h) (by decide), by rw [eT, if_neg (by decide)]; exact hP.R hq⟩) dX4_addElement_46
    · skip
      have c18 := b_f c18
      refine lv_aload_n hx hb dX4_addElement_21 rfl (lv_at hl 0 rfl) ?_
      refine lv_iconst (v := nI 1) hx hb dX4_addElement_22 (by decide) ?_
      refine xw_callV (C := "NetlistBenchModel") (n := 1) [.int (nI 1)] (c_X4_fail l hP (nI 1)) hx hb hml hown hts hE hS (xw_recv hE hP (20, 0) rfl rfl) rfl rfl q_48 q_798 q_801 q_800 q_26 (by decide) rfl ⟨by rw [hRf]; decide, by rw [hRl]; decide⟩ hl.1 rfl (Nat.le_of_ble_eq_true rfl) dX4_addElement_23 ⟨by rw [hRc]; decide, by rw [hRs]; decide⟩ (fun v H1 locs hp hS => ?_)
      obtain ⟨hv, hP⟩ := hp; subst hv
      generalize H1 = H at hP hS ⊢
      have eT : tAddEl z sr (nI ja) x2 k = (nI 1) := by rw [tAddEl, if_pos (Or.inr c18)]; rfl
      exact xe_iret hQ hx hb hr hlocks hH hS (Nat.le_refl _) (Nat.le_refl _) (⟨_, rfl, fun h => absurd (eT.symm.trans h) (by decide), by rw [eT, if_neg (by decide)]; exact hP.R hq⟩) dX4_addElement_26

set_option maxHeartbeats 4000000 in
set_option maxRecDepth 100000 in
theorem c_X4_digest (l : Launch) {D : va_G} {y : Nat → ClassId} {A : Nat → Prop} {ad : xL → Nat} {th : Int32} {w : xC} {qp : Nat → Int32} {qm : Nat → Int64} {qr : Nat → Int64} {qi : Nat → Int64} {qn : Nat → Int64} {qf : Nat → Int32} {qu : Int32} {qd : Int64} {fB fO : Nat → Nat → Option va_E} {Hs : Heap} (hP : xW D A ad (wU fB (wR y ad th w qp qm qr qi qn qf qu qd) fO) Hs) {z : xC} (hq : Rq z w) (hw : wf z) (hk : nOk z) : Met l yX4_digest (.code yX4_digest cX4_digest 5 (some .long) :: WG) { frames := 6, cells := 0, slots := 0, locals := 143 } (xPc [.ref (ad (20, 0))] D y Hs) (xQ (fun v H1 => ∃ r, v = some (.long r) ∧ ((0 : Int32) = 0 → r = dgAll z) ∧ xRf D A y ad (z) fB fO ((0 : Int32)) H1) A) 0 0 A := by
  refine xM_go (by decide) (Nat.le_of_ble_eq_true rfl) (fun p e s m args below meth c ls R Q hx hb hr hlocks hml hown hts hH hE hnm hRf hRl hRc hRs hQ hS hl => ?_)
  have hRf : R.frames = 6 := hRf
  have hRl : R.locals = 143 := hRl
  have hRc : R.cells = 0 := hRc
  have hRs : R.slots = 0 := hRs
  have hl : lv_has ls 5 [(0, .ref (ad (20, 0)))] := hl
  have hN := hw.N
  have hE20 := hw.E
  refine lv_aload_n hx hb dX4_digest_0 rfl (lv_at hl 0 rfl) ?_
  refine lv_iconst (v := nI 0) hx hb dX4_digest_1 (by decide) ?_
  refine fp_X4_thrown hx hb hts hown hE hS hP q_728 dX4_digest_2 (fun H locs hP hS => ?_)
  refine lv_ldc2 hx hb hown (hts _ q_964) dX4_digest_5 ?_
  refine lv_lstore_n (lv' := [(1, .long 409), (0, .ref (ad (20, 0)))]) hx hb dX4_digest_8 rfl hl (by decide) rfl (fun ls hl => ?_)
  refine lv_iconst (v := nI 0) hx hb dX4_digest_9 (by decide) ?_
  refine lv_istore_n (lv' := [(3, .int (nI 0)), (1, .long 409), (0, .ref (ad (20, 0)))]) hx hb dX4_digest_10 rfl hl (by decide) rfl (fun ls hl => ?_)
  have K11 : ∀ (nn : Nat), ∀ (k : Nat), (k ≤ 4) → 4 - k < nn → ∀ (H : Heap) (locs : List Loc) (ls : Array Slot), xW D A ad (wU fB (wR y ad (nI 0) w qp qm qr qi qn qf qu qd) fO) H → va_S A Hs H locs → lv_has ls 5 [(3, .int (nI k)), (1, .long (dgC z 409 k)), (0, .ref (ad (20, 0)))] → W p l e R s m args below meth c H locs 0 0 Q (F0 m 11 ls []) := by
    intro nn
    induction nn with
    | zero => intro k h4 h; exact absurd h (Nat.not_lt_zero _)
    | succ nn ih11 =>
      intro k h4 hn11 H locs ls hP hS hl
      refine lv_iload_n hx hb dX4_digest_11 rfl (lv_at hl 0 rfl) ?_
      refine lv_iconst (v := nI 4) hx hb dX4_digest_12 (by decide) ?_
      refine lv_icmp_ge (tgt := 35) hx hb dX4_digest_13 (by decide) (fun c13 => ?_) (fun c13 => ?_)
      · skip
        have c13 := ni_le (a := 4) (b := k) (by omega) (by omega) c13
        rw [show k = 4 by omega] at hl
        refine lv_iconst (v := nI 0) hx hb dX4_digest_35 (by decide) ?_
        refine lv_istore_n (lv' := [(3, .int (nI 0)), (1, .long (dgC z 409 4)), (0, .ref (ad (20, 0)))]) hx hb dX4_digest_36 rfl hl (by decide) rfl (fun ls hl => ?_)
        have K37 : ∀ (nn : Nat), ∀ (i : Nat), (i ≤ nN z) → nN z - i < nn → ∀ (H : Heap) (locs : List Loc) (ls : Array Slot), xW D A ad (wU fB (wR y ad (nI 0) w qp qm qr qi qn qf qu qd) fO) H → va_S A Hs H locs → lv_has ls 5 [(3, .int (nI i)), (1, .long (dgN z (dgC z 409 4) i)), (0, .ref (ad (20, 0)))] → W p l e R s m args below meth c H locs 0 0 Q (F0 m 37 ls []) := by
          intro nn
          induction nn with
          | zero => intro i hi h; exact absurd h (Nat.not_lt_zero _)
          | succ nn ih37 =>
            intro i hi hn37 H locs ls hP hS hl
            refine lv_iload_n hx hb dX4_digest_37 rfl (lv_at hl 0 rfl) ?_
            refine lv_aload_n hx hb dX4_digest_38 rfl (lv_at hl 2 rfl) ?_
            refine fg_X4_nodes hx hb hts hown hE hP q_729 dX4_digest_39 ?_
            refine xt_i (congrArg nI hq.N) ?_
            refine lv_icmp_ge (tgt := 72) hx hb dX4_digest_42 (by decide) (fun c42 => ?_) (fun c42 => ?_)
            · skip
              have c42 := ni_le (a := (nN z)) (b := i) (by omega) (by omega) c42
              rw [show i = nN z by omega] at hl
              refine lv_iconst (v := nI 0) hx hb dX4_digest_72 (by decide) ?_
              refine lv_istore_n (lv' := [(3, .int (nI 0)), (1, .long (dgN z (dgC z 409 4) (nN z))), (0, .ref (ad (20, 0)))]) hx hb dX4_digest_73 rfl hl (by decide) rfl (fun ls hl => ?_)
              have K74 : ∀ (nn : Nat), ∀ (i : Nat), (i ≤ nE z) → nE z - i < nn → ∀ (H : Heap) (locs : List Loc) (ls : Array Slot), xW D A ad (wU fB (wR y ad (nI 0) w qp qm qr qi qn qf qu qd) fO) H → va_S A Hs H locs → lv_has ls 5 [(3, .int (nI i)), (1, .long (dgE z (dgN z (dgC z 409 4) (nN z)) i)), (0, .ref (ad (20, 0)))] → W p l e R s m args below meth c H locs 0 0 Q (F0 m 74 ls []) := by
                intro nn
                induction nn with
                | zero => intro i hi h; exact absurd h (Nat.not_lt_zero _)
                | succ nn ih74 =>
                  intro i hi hn74 H locs ls hP hS hl
                  refine lv_iload_n hx hb dX4_digest_74 rfl (lv_at hl 0 rfl) ?_
                  refine lv_aload_n hx hb dX4_digest_75 rfl (lv_at hl 2 rfl) ?_
                  refine fg_X4_elements hx hb hts hown hE hP q_732 dX4_digest_76 ?_
                  refine xt_i (congrArg nI hq.E) ?_
                  refine lv_icmp_ge (tgt := 159) hx hb dX4_digest_79 (by decide) (fun c79 => ?_) (fun c79 => ?_)
                  · skip
                    have c79 := ni_le (a := (nE z)) (b := i) (by omega) (by omega) c79
                    rw [show i = nE z by omega] at hl
                    refine lv_aload_n hx hb dX4_digest_159 rfl (lv_at hl 2 rfl) ?_
                    refine lv_lload_n hx hb dX4_digest_160 rfl (lv_at hl 1 rfl) ?_
                    refine lv_iconst (v := nI 0) hx hb dX4_digest_161 (by decide) ?_
                    refine xw_callV (C := "NetlistBenchModel") (n := 2) [.long (dgA z 409), .int (nI 0)] (c_X4_into l hP hq hw hk (dgA z 409) (show 0 ≤ 999 by omega)) hx hb hml hown hts hE hS (xw_recv hE hP (20, 0) rfl rfl) rfl rfl q_48 q_966 q_969 q_968 q_41 (by decide) rfl ⟨by rw [hRf]; decide, by rw [hRl]; decide⟩ hl.1 rfl (Nat.le_of_ble_eq_true rfl) dX4_digest_162 ⟨by rw [hRc]; decide, by rw [hRs]; decide⟩ (fun v H1 locs hp hS => ?_)
                    obtain ⟨qp9, qf9, qm9, qr9, qi9, qn9, qu9, qd9, hv, hP⟩ := hp; subst hv
                    generalize H1 = H at hP hS ⊢
                    refine lv_lstore_n (lv' := [(1, .long (dgP z (nI 0) (dgA z 409) (nN z))), (3, .int (nI (nE z))), (0, .ref (ad (20, 0)))]) hx hb dX4_digest_165 rfl hl (by decide) rfl (fun ls hl => ?_)
                    refine lv_aload_n hx hb dX4_digest_166 rfl (lv_at hl 2 rfl) ?_
                    refine lv_iconst (v := nI 0) hx hb dX4_digest_167 (by decide) ?_
                    refine xw_callV (C := "NetlistBenchModel") (n := 1) [.int (nI 0)] (c_X4_toggleBehind l hP hq hw (show 0 ≤ 999 by omega)) hx hb hml hown hts hE hS (xw_recv hE hP (20, 0) rfl rfl) rfl rfl q_48 q_940 q_943 q_942 q_40 (by decide) rfl ⟨by rw [hRf]; decide, by rw [hRl]; decide⟩ hl.1 rfl (Nat.le_of_ble_eq_true rfl) dX4_digest_168 ⟨by rw [hRc]; decide, by rw [hRs]; decide⟩ (fun v H1 locs hp hS => ?_)
                    obtain ⟨hv, hh⟩ := hp; subst hv; subst hh
                    refine lv_istore_n (lv' := [(3, .int (ftS z (nI 0) (nE z))), (1, .long (dgP z (nI 0) (dgA z 409) (nN z))), (0, .ref (ad (20, 0)))]) hx hb dX4_digest_171 rfl hl (by decide) rfl (fun ls hl => ?_)
                    refine lv_iload_n hx hb dX4_digest_172 rfl (lv_at hl 0 rfl) ?_
                    refine lv_iconst (v := (-1)) hx hb dX4_digest_173 (by decide) ?_
                    refine lv_icmp_ne (tgt := 181) hx hb dX4_digest_174 (by decide) (fun c174 => ?_) (fun c174 => ?_)
                    · skip
                      obtain ⟨f, hf1, hf9, ef⟩ : ∃ f, 0 < f ∧ f ≤ 999 ∧ ftS z (nI 0) (nE z) = nI f := by rcases ft_P hw (t := 0) (by omega) with g | g; exact absurd g c174; exact g
                      rw [ef] at hl
                      refine lv_aload_n hx hb dX4_digest_181 rfl (lv_at hl 2 rfl) ?_
                      refine lv_lload_n hx hb dX4_digest_182 rfl (lv_at hl 1 rfl) ?_
                      refine lv_iload_n hx hb dX4_digest_183 rfl (lv_at hl 0 rfl) ?_
                      refine xw_callV (C := "NetlistBenchModel") (n := 2) [.long (dgP z (nI 0) (dgA z 409) (nN z)), .int (nI f)] (c_X4_into l hP hq hw hk (dgP z (nI 0) (dgA z 409) (nN z)) hf9) hx hb hml hown hts hE hS (xw_recv hE hP (20, 0) rfl rfl) rfl rfl q_48 q_966 q_969 q_968 q_41 (by decide) rfl ⟨by rw [hRf]; decide, by rw [hRl]; decide⟩ hl.1 rfl (Nat.le_of_ble_eq_true rfl) dX4_digest_184 ⟨by rw [hRc]; decide, by rw [hRs]; decide⟩ (fun v H1 locs hp hS => ?_)
                      obtain ⟨qp9, qf9, qm9, qr9, qi9, qn9, qu9, qd9, hv, hP⟩ := hp; subst hv
                      generalize H1 = H at hP hS ⊢
                      have eT : (0 : Int32) = 0 := rfl
                      exact xe_lret hQ hx hb hr hlocks hH hS (Nat.le_refl _) (Nat.le_refl _) (⟨_, rfl, fun _ => by rw [dgAll, if_neg (by rw [ef]; exact nI_pos (by omega)), ef], by rw [eT]; exact hP.R hq⟩) dX4_digest_187
                    · skip
                      refine lv_lload_n hx hb dX4_digest_177 rfl (lv_at hl 1 rfl) ?_
                      refine lv_goto (tgt := 187) hx hb dX4_digest_178 (by decide) ?_
                      have eT : (0 : Int32) = 0 := rfl
                      exact xe_lret hQ hx hb hr hlocks hH hS (Nat.le_refl _) (Nat.le_refl _) (⟨_, rfl, fun _ => by rw [dgAll, if_pos (by rw [c174]; decide)], by rw [eT]; exact hP.R hq⟩) dX4_digest_187
                  · skip
                    have c79 := ni_nle (a := (nE z)) (b := i) (by omega) (by omega) c79
                    have h6t := hw.t6 (i := i) (by omega)
                    refine lv_iconst (v := nI 0) hx hb dX4_digest_82 (by decide) ?_
                    refine lv_istore (lv' := [(4, .int (nI 0)), (3, .int (nI i)), (1, .long (dgE z (dgN z (dgC z 409 4) (nN z)) i)), (0, .ref (ad (20, 0)))]) hx hb dX4_digest_83 hl (by decide) rfl (fun ls hl => ?_)
                    have K85 : ∀ (nn : Nat), ∀ (k : Nat), (k ≤ 6) → 6 - k < nn → ∀ (H : Heap) (locs : List Loc) (ls : Array Slot), xW D A ad (wU fB (wR y ad (nI 0) w qp qm qr qi qn qf qu qd) fO) H → va_S A Hs H locs → lv_has ls 5 [(4, .int (nI k)), (3, .int (nI i)), (1, .long (dgT z i (dgE z (dgN z (dgC z 409 4) (nN z)) i) k)), (0, .ref (ad (20, 0)))] → W p l e R s m args below meth c H locs 0 0 Q (F0 m 85 ls []) := by
                      intro nn
                      induction nn with
                      | zero => intro k h6 h; exact absurd h (Nat.not_lt_zero _)
                      | succ nn ih85 =>
                        intro k h6 hn85 H locs ls hP hS hl
                        refine lv_iload hx hb dX4_digest_85 (lv_at hl 0 rfl) ?_
                        refine lv_bipush (v := nI 6) hx hb dX4_digest_87 (by decide) ?_
                        refine lv_icmp_ge (tgt := 113) hx hb dX4_digest_89 (by decide) (fun c89 => ?_) (fun c89 => ?_)
                        · skip
                          have c89 := ni_le (a := 6) (b := k) (by omega) (by omega) c89
                          rw [show k = 6 by omega] at hl
                          refine lv_iconst (v := nI 0) hx hb dX4_digest_113 (by decide) ?_
                          refine lv_istore (lv' := [(4, .int (nI 0)), (3, .int (nI i)), (1, .long (dgT z i (dgE z (dgN z (dgC z 409 4) (nN z)) i) 6)), (0, .ref (ad (20, 0)))]) hx hb dX4_digest_114 hl (by decide) rfl (fun ls hl => ?_)
                          have K116 : ∀ (nn : Nat), ∀ (k : Nat), (k ≤ cT z i) → cT z i - k < nn → ∀ (H : Heap) (locs : List Loc) (ls : Array Slot), xW D A ad (wU fB (wR y ad (nI 0) w qp qm qr qi qn qf qu qd) fO) H → va_S A Hs H locs → lv_has ls 5 [(4, .int (nI k)), (3, .int (nI i)), (1, .long (dgM z i (dgT z i (dgE z (dgN z (dgC z 409 4) (nN z)) i) 6) k)), (0, .ref (ad (20, 0)))] → W p l e R s m args below meth c H locs 0 0 Q (F0 m 116 ls []) := by
                            intro nn
                            induction nn with
                            | zero => intro k hkt h; exact absurd h (Nat.not_lt_zero _)
                            | succ nn ih116 =>
                              intro k hkt hn116 H locs ls hP hS hl
                              refine lv_iload hx hb dX4_digest_116 (lv_at hl 0 rfl) ?_
                              refine lv_aload_n hx hb dX4_digest_118 rfl (lv_at hl 3 rfl) ?_
                              refine fg_X4_toggles hx hb hts hown hE hP q_738 dX4_digest_119 ?_
                              refine lv_iload_n hx hb dX4_digest_122 rfl (lv_at hl 1 rfl) ?_
                              refine al_toggles hx hb hE hP (j := i) (by omega) dX4_digest_123 ?_
                              refine xt_i (hq.t hw (by first | assumption | omega)) ?_
                              refine lv_icmp_ge (tgt := 153) hx hb dX4_digest_124 (by decide) (fun c124 => ?_) (fun c124 => ?_)
                              · skip
                                have c124 := ni_le (a := (cT z i)) (b := k) (by omega) (by omega) c124
                                rw [show k = cT z i by omega] at hl
                                refine lv_iinc (v := nI (i + 1)) (lv' := [(3, .int (nI (i + 1))), (4, .int (nI (cT z i))), (1, .long (dgM z i (dgT z i (dgE z (dgN z (dgC z 409 4) (nN z)) i) 6) (cT z i))), (0, .ref (ad (20, 0)))]) hx hb dX4_digest_153 hl (k := 1) rfl (nI_1 _) (by decide) rfl (fun ls hl => ?_)
                                refine lv_goto (tgt := 74) hx hb dX4_digest_156 (by decide) ?_
                                exact ih74 (i + 1) (by omega) (by omega) _ _ _ hP hS (lv_sub hl [0, 2, 3] rfl)
                              · skip
                                have c124 := ni_nle (a := (cT z i)) (b := k) (by omega) (by omega) c124
                                refine lv_lload_n hx hb dX4_digest_127 rfl (lv_at hl 2 rfl) ?_
                                refine lv_ldc2 hx hb hown (hts _ q_965) dX4_digest_128 ?_
                                refine lv_lmul hx hb dX4_digest_131 ?_
                                refine lv_aload_n hx hb dX4_digest_132 rfl (lv_at hl 3 rfl) ?_
                                refine fg_X4_toggleTimes hx hb hts hown hE hP q_739 dX4_digest_133 ?_
                                refine lv_bipush (v := nI 6) hx hb dX4_digest_136 (by decide) ?_
                                refine lv_iload_n hx hb dX4_digest_138 rfl (lv_at hl 1 rfl) ?_
                                refine lv_imul hx hb dX4_digest_139 ?_
                                refine xt_i (pk_mul 6 i) ?_
                                refine lv_iload hx hb dX4_digest_140 (lv_at hl 0 rfl) ?_
                                refine lv_iadd hx hb dX4_digest_142 ?_
                                refine xt_i (nI_add (6 * i) k) ?_
                                refine al_toggleTimes hx hb hE hP (j := (6 * i) + k) (by omega) dX4_digest_143 ?_
                                refine xt_i (w := tT z (6 * i + k)) (hq.m (j := i) (k := k) (by first | assumption | omega) (by first | assumption | omega)) ?_
                                refine lv_i2l (v := (tT z (6 * i + k)).toInt64) hx hb dX4_digest_144 rfl ?_
                                refine lv_ladd hx hb dX4_digest_145 ?_
                                refine lv_lstore_n (lv' := [(1, .long (((dgM z i (dgT z i (dgE z (dgN z (dgC z 409 4) (nN z)) i) 6) k) * 31) + ((tT z (6 * i + k)).toInt64))), (4, .int (nI k)), (3, .int (nI i)), (0, .ref (ad (20, 0)))]) hx hb dX4_digest_146 rfl hl (by decide) rfl (fun ls hl => ?_)
                                refine lv_iinc (v := nI (k + 1)) (lv' := [(4, .int (nI (k + 1))), (1, .long (((dgM z i (dgT z i (dgE z (dgN z (dgC z 409 4) (nN z)) i) 6) k) * 31) + ((tT z (6 * i + k)).toInt64))), (3, .int (nI i)), (0, .ref (ad (20, 0)))]) hx hb dX4_digest_147 hl (k := 1) rfl (nI_1 _) (by decide) rfl (fun ls hl => ?_)
                                refine lv_goto (tgt := 116) hx hb dX4_digest_150 (by decide) ?_
                                exact ih116 (k + 1) (by omega) (by omega) _ _ _ hP hS (lv_sub hl [0, 2, 1, 3] rfl)
                          exact K116 _ 0 (by omega) (Nat.lt_succ_self _) _ _ _ hP hS (lv_sub hl [0, 1, 2, 3] rfl)
                        · skip
                          have c89 := ni_nle (a := 6) (b := k) (by omega) (by omega) c89
                          refine lv_lload_n hx hb dX4_digest_92 rfl (lv_at hl 2 rfl) ?_
                          refine lv_ldc2 hx hb hown (hts _ q_965) dX4_digest_93 ?_
                          refine lv_lmul hx hb dX4_digest_96 ?_
                          refine lv_aload_n hx hb dX4_digest_97 rfl (lv_at hl 3 rfl) ?_
                          refine lv_iload_n hx hb dX4_digest_98 rfl (lv_at hl 1 rfl) ?_
                          refine lv_iload hx hb dX4_digest_99 (lv_at hl 0 rfl) ?_
                          refine xw_callV (C := "NetlistBenchModel") (n := 2) [.int (nI i), .int (nI k)] (c_X4_elementTold l hP hq hw (by omega) (by omega)) hx hb hml hown hts hE hS (xw_recv hE hP (20, 0) rfl rfl) rfl rfl q_48 q_849 q_852 q_851 q_30 (by decide) rfl ⟨by rw [hRf]; decide, by rw [hRl]; decide⟩ hl.1 rfl (Nat.le_of_ble_eq_true rfl) dX4_digest_101 ⟨by rw [hRc]; decide, by rw [hRs]; decide⟩ (fun v H1 locs hp hS => ?_)
                          obtain ⟨hv, hh⟩ := hp; subst hv; subst hh
                          refine lv_i2l (v := (trt z i k).toInt64) hx hb dX4_digest_104 rfl ?_
                          refine lv_ladd hx hb dX4_digest_105 ?_
                          refine lv_lstore_n (lv' := [(1, .long (((dgT z i (dgE z (dgN z (dgC z 409 4) (nN z)) i) k) * 31) + ((trt z i k).toInt64))), (4, .int (nI k)), (3, .int (nI i)), (0, .ref (ad (20, 0)))]) hx hb dX4_digest_106 rfl hl (by decide) rfl (fun ls hl => ?_)
                          refine lv_iinc (v := nI (k + 1)) (lv' := [(4, .int (nI (k + 1))), (1, .long (((dgT z i (dgE z (dgN z (dgC z 409 4) (nN z)) i) k) * 31) + ((trt z i k).toInt64))), (3, .int (nI i)), (0, .ref (ad (20, 0)))]) hx hb dX4_digest_107 hl (k := 1) rfl (nI_1 _) (by decide) rfl (fun ls hl => ?_)
                          refine lv_goto (tgt := 85) hx hb dX4_digest_110 (by decide) ?_
                          exact ih85 (k + 1) (by omega) (by omega) _ _ _ hP hS (lv_sub hl [0, 2, 1, 3] rfl)
                    exact K85 _ 0 (by omega) (Nat.lt_succ_self _) _ _ _ hP hS (lv_sub hl [0, 1, 2, 3] rfl)
              exact K74 _ 0 (by omega) (Nat.lt_succ_self _) _ _ _ hP hS (lv_sub hl [0, 1, 2] rfl)
            · skip
              have c42 := ni_nle (a := (nN z)) (b := i) (by omega) (by omega) c42
              refine lv_lload_n hx hb dX4_digest_45 rfl (lv_at hl 1 rfl) ?_
              refine lv_ldc2 hx hb hown (hts _ q_965) dX4_digest_46 ?_
              refine lv_lmul hx hb dX4_digest_49 ?_
              refine lv_aload_n hx hb dX4_digest_50 rfl (lv_at hl 2 rfl) ?_
              refine fg_X4_areRails hx hb hts hown hE hP q_730 dX4_digest_51 ?_
              refine lv_iload_n hx hb dX4_digest_54 rfl (lv_at hl 0 rfl) ?_
              refine al_areRails hx hb hE hP (j := i) (by omega) dX4_digest_55 ?_
              refine xt_i (hq.r (by first | assumption | omega)) ?_
              refine lv_if_eq (tgt := 63) hx hb dX4_digest_56 (by decide) (fun c56 => ?_) (fun c56 => ?_)
              · skip
                refine lv_lconst (v := 0) hx hb dX4_digest_63 (by decide) ?_
                refine lv_ladd hx hb dX4_digest_64 ?_
                refine lv_lstore_n (lv' := [(1, .long (((dgN z (dgC z 409 4) i) * 31) + 0)), (3, .int (nI i)), (0, .ref (ad (20, 0)))]) hx hb dX4_digest_65 rfl hl (by decide) rfl (fun ls hl => ?_)
                have e65 : ((dgN z (dgC z 409 4) i) * 31) + 0 = dgN z (dgC z 409 4) (i + 1) := by rw [dgN, if_pos c56]; rfl
                have hl : lv_has ls 5 [(1, .long (dgN z (dgC z 409 4) (i + 1))), (3, .int (nI i)), (0, .ref (ad (20, 0)))] := by rw [← e65]; exact hl
                refine lv_iinc (v := nI (i + 1)) (lv' := [(3, .int (nI (i + 1))), (1, .long (dgN z (dgC z 409 4) (i + 1))), (0, .ref (ad (20, 0)))]) hx hb dX4_digest_66 hl (k := 1) rfl (nI_1 _) (by decide) rfl (fun ls hl => ?_)
                refine lv_goto (tgt := 37) hx hb dX4_digest_69 (by decide) ?_
                exact ih37 (i + 1) (by omega) (by omega) _ _ _ hP hS (lv_sub hl [0, 1, 2] rfl)
              · skip
                refine lv_lconst (v := 1) hx hb dX4_digest_59 (by decide) ?_
                refine lv_goto (tgt := 64) hx hb dX4_digest_60 (by decide) ?_
                refine lv_ladd hx hb dX4_digest_64 ?_
                refine lv_lstore_n (lv' := [(1, .long (((dgN z (dgC z 409 4) i) * 31) + 1)), (3, .int (nI i)), (0, .ref (ad (20, 0)))]) hx hb dX4_digest_65 rfl hl (by decide) rfl (fun ls hl => ?_)
                have e65 : ((dgN z (dgC z 409 4) i) * 31) + 1 = dgN z (dgC z 409 4) (i + 1) := by rw [dgN, if_neg c56]; rfl
                have hl : lv_has ls 5 [(1, .long (dgN z (dgC z 409 4) (i + 1))), (3, .int (nI i)), (0, .ref (ad (20, 0)))] := by rw [← e65]; exact hl
                refine lv_iinc (v := nI (i + 1)) (lv' := [(3, .int (nI (i + 1))), (1, .long (dgN z (dgC z 409 4) (i + 1))), (0, .ref (ad (20, 0)))]) hx hb dX4_digest_66 hl (k := 1) rfl (nI_1 _) (by decide) rfl (fun ls hl => ?_)
                refine lv_goto (tgt := 37) hx hb dX4_digest_69 (by decide) ?_
                exact ih37 (i + 1) (by omega) (by omega) _ _ _ hP hS (lv_sub hl [0, 1, 2] rfl)
        exact K37 _ 0 (by omega) (Nat.lt_succ_self _) _ _ _ hP hS (lv_sub hl [0, 1, 2] rfl)
      · skip
        have c13 := ni_nle (a := 4) (b := k) (by omega) (by omega) c13
        refine lv_lload_n hx hb dX4_digest_16 rfl (lv_at hl 1 rfl) ?_
        refine lv_ldc2 hx hb hown (hts _ q_965) dX4_digest_17 ?_
        refine lv_lmul hx hb dX4_digest_20 ?_
        refine lv_aload_n hx hb dX4_digest_21 rfl (lv_at hl 2 rfl) ?_
        refine lv_iload_n hx hb dX4_digest_22 rfl (lv_at hl 0 rfl) ?_
        refine xw_callV (C := "NetlistBenchModel") (n := 1) [.int (nI k)] (c_X4_counted l hP hq hw (by omega)) hx hb hml hown hts hE hS (xw_recv hE hP (20, 0) rfl rfl) rfl rfl q_48 q_841 q_844 q_843 q_29 (by decide) rfl ⟨by rw [hRf]; decide, by rw [hRl]; decide⟩ hl.1 rfl (Nat.le_of_ble_eq_true rfl) dX4_digest_23 ⟨by rw [hRc]; decide, by rw [hRs]; decide⟩ (fun v H1 locs hp hS => ?_)
        obtain ⟨hv, hh⟩ := hp; subst hv; subst hh
        refine lv_i2l (v := (nI (cnt z k)).toInt64) hx hb dX4_digest_26 rfl ?_
        refine lv_ladd hx hb dX4_digest_27 ?_
        refine lv_lstore_n (lv' := [(1, .long (((dgC z 409 k) * 31) + ((nI (cnt z k)).toInt64))), (3, .int (nI k)), (0, .ref (ad (20, 0)))]) hx hb dX4_digest_28 rfl hl (by decide) rfl (fun ls hl => ?_)
        refine lv_iinc (v := nI (k + 1)) (lv' := [(3, .int (nI (k + 1))), (1, .long (((dgC z 409 k) * 31) + ((nI (cnt z k)).toInt64))), (0, .ref (ad (20, 0)))]) hx hb dX4_digest_29 hl (k := 1) rfl (nI_1 _) (by decide) rfl (fun ls hl => ?_)
        refine lv_goto (tgt := 11) hx hb dX4_digest_32 (by decide) ?_
        exact ih11 (k + 1) (by omega) (by omega) _ _ _ hP hS (lv_sub hl [0, 1, 2] rfl)
  exact K11 _ 0 (by omega) (Nat.lt_succ_self _) _ _ _ hP hS (lv_sub hl [0, 1, 2] rfl)
