set_option maxHeartbeats 4000000 in
set_option maxRecDepth 100000 in
theorem c_X4_counted (l : Launch) {D : va_G} {y : Nat → ClassId} {A : Nat → Prop} {ad : xL → Nat} {th : Int32} {w : xC} {qp : Nat → Int32} {qm : Nat → Int64} {qr : Nat → Int64} {qi : Nat → Int64} {qn : Nat → Int64} {qf : Nat → Int32} {qu : Int32} {qd : Int64} {fB fO : Nat → Nat → Option va_E} {Hs : Heap} (hP : xW D A ad (wU fB (wR y ad th w qp qm qr qi qn qf qu qd) fO) Hs) {z : xC} (hq : Rq z w) (hw : wf z) {k : Nat} (hk : k < 4) : Met l yX4_counted (.code yX4_counted cX4_counted 4 (some .int) :: WG) { frames := 0, cells := 0, slots := 0, locals := 0 } (xPc [.ref (ad (20, 0)), .int (nI k)] D y Hs) (xQ (fun v H1 => v = some (.int (nI (cnt z k))) ∧ Hs = H1) A) 0 0 A := by
  refine xM_go (by decide) (Nat.le_of_ble_eq_true rfl) (fun p e s m args below meth c ls R Q hx hb hr hlocks hml hown hts hH hE hnm hRf hRl hRc hRs hQ hS hl => ?_)
  have hRf : R.frames = 0 := hRf
  have hRl : R.locals = 0 := hRl
  have hRc : R.cells = 0 := hRc
  have hRs : R.slots = 0 := hRs
  have hl : lv_has ls 4 [(0, .ref (ad (20, 0))), (1, .int (nI k))] := hl
  have hN := hw.N
  have hE20 := hw.E
  refine lv_iconst (v := nI 0) hx hb dX4_counted_0 (by decide) ?_
  refine lv_istore_n (lv' := [(2, .int (nI 0)), (0, .ref (ad (20, 0))), (1, .int (nI k))]) hx hb dX4_counted_1 rfl hl (by decide) rfl (fun ls hl => ?_)
  refine lv_iload_n hx hb dX4_counted_2 rfl (lv_at hl 2 rfl) ?_
  refine lv_if_ne (tgt := 11) hx hb dX4_counted_3 (by decide) (fun c3 => ?_) (fun c3 => ?_)
  · skip
    have c3 := ni_ne (a := k) (b := 0) (by omega) (by omega) c3
    refine lv_iload_n hx hb dX4_counted_11 rfl (lv_at hl 2 rfl) ?_
    refine lv_iconst (v := nI 1) hx hb dX4_counted_12 (by decide) ?_
    refine lv_icmp_ne (tgt := 21) hx hb dX4_counted_13 (by decide) (fun c13 => ?_) (fun c13 => ?_)
    · skip
      have c13 := ni_ne (a := k) (b := 1) (by omega) (by omega) c13
      refine lv_iload_n hx hb dX4_counted_21 rfl (lv_at hl 2 rfl) ?_
      refine lv_iconst (v := nI 2) hx hb dX4_counted_22 (by decide) ?_
      refine lv_icmp_ne (tgt := 62) hx hb dX4_counted_23 (by decide) (fun c23 => ?_) (fun c23 => ?_)
      · skip
        have c23 := ni_ne (a := k) (b := 2) (by omega) (by omega) c23
        refine lv_iconst (v := nI 0) hx hb dX4_counted_62 (by decide) ?_
        refine lv_istore_n (lv' := [(3, .int (nI 0)), (2, .int (nI 0)), (0, .ref (ad (20, 0))), (1, .int (nI k))]) hx hb dX4_counted_63 rfl hl (by decide) rfl (fun ls hl => ?_)
        have K64 : ∀ (nn : Nat), ∀ (i : Nat), (i ≤ nE z) → nE z - i < nn → ∀ (locs : List Loc) (ls : Array Slot), va_S A Hs Hs locs → lv_has ls 4 [(3, .int (nI i)), (2, .int (nI (ctS z i))), (0, .ref (ad (20, 0)))] → W p l e R s m args below meth c Hs locs 0 0 Q (F0 m 64 ls []) := by
          intro nn
          induction nn with
          | zero => intro i hi h; exact absurd h (Nat.not_lt_zero _)
          | succ nn ih64 =>
            intro i hi hn64 locs ls hS hl
            refine lv_iload_n hx hb dX4_counted_64 rfl (lv_at hl 0 rfl) ?_
            refine lv_aload_n hx hb dX4_counted_65 rfl (lv_at hl 2 rfl) ?_
            refine fg_X4_elements hx hb hts hown hE hP q_732 dX4_counted_66 ?_
            refine xt_i (congrArg nI hq.E) ?_
            refine lv_icmp_ge (tgt := 87) hx hb dX4_counted_69 (by decide) (fun c69 => ?_) (fun c69 => ?_)
            · skip
              have c69 := ni_le (a := (nE z)) (b := i) (by omega) (by omega) c69
              refine lv_iload_n hx hb dX4_counted_87 rfl (lv_at hl 1 rfl) ?_
              exact xe_iret hQ hx hb hr hlocks hH hS (Nat.le_refl _) (Nat.le_refl _) (⟨by rw [show k = 3 by omega, show i = nE z by omega]; rfl, rfl⟩) dX4_counted_88
            · skip
              have c69 := ni_nle (a := (nE z)) (b := i) (by omega) (by omega) c69
              refine lv_iload_n hx hb dX4_counted_72 rfl (lv_at hl 1 rfl) ?_
              refine lv_aload_n hx hb dX4_counted_73 rfl (lv_at hl 2 rfl) ?_
              refine fg_X4_toggles hx hb hts hown hE hP q_738 dX4_counted_74 ?_
              refine lv_iload_n hx hb dX4_counted_77 rfl (lv_at hl 0 rfl) ?_
              refine al_toggles hx hb hE hP (j := i) (by omega) dX4_counted_78 ?_
              refine xt_i (hq.t hw (by first | assumption | omega)) ?_
              refine lv_iadd hx hb dX4_counted_79 ?_
              refine xt_i (w := nI (ctS z (i + 1))) (nI_add _ _) ?_
              refine lv_istore_n (lv' := [(2, .int (nI (ctS z (i + 1)))), (3, .int (nI i)), (0, .ref (ad (20, 0)))]) hx hb dX4_counted_80 rfl hl (by decide) rfl (fun ls hl => ?_)
              refine lv_iinc (v := nI (i + 1)) (lv' := [(3, .int (nI (i + 1))), (2, .int (nI (ctS z (i + 1)))), (0, .ref (ad (20, 0)))]) hx hb dX4_counted_81 hl (k := 1) rfl (nI_1 _) (by decide) rfl (fun ls hl => ?_)
              refine lv_goto (tgt := 64) hx hb dX4_counted_84 (by decide) ?_
              exact ih64 (i + 1) (by omega) (by omega) _ _ hS (lv_sub hl [0, 1, 2] rfl)
        exact K64 _ 0 (by omega) (Nat.lt_succ_self _) _ _ hS (lv_sub hl [0, 1, 2] rfl)
      · skip
        have c23 := ni_eq (a := k) (b := 2) (by omega) (by omega) c23
        refine lv_iconst (v := nI 0) hx hb dX4_counted_26 (by decide) ?_
        refine lv_istore_n (lv' := [(3, .int (nI 0)), (2, .int (nI 0)), (0, .ref (ad (20, 0))), (1, .int (nI k))]) hx hb dX4_counted_27 rfl hl (by decide) rfl (fun ls hl => ?_)
        have K28 : ∀ (nn : Nat), ∀ (i : Nat), (i ≤ nN z) → nN z - i < nn → ∀ (locs : List Loc) (ls : Array Slot), va_S A Hs Hs locs → lv_has ls 4 [(3, .int (nI i)), (2, .int (nI (crS z i))), (0, .ref (ad (20, 0)))] → W p l e R s m args below meth c Hs locs 0 0 Q (F0 m 28 ls []) := by
          intro nn
          induction nn with
          | zero => intro i hi h; exact absurd h (Nat.not_lt_zero _)
          | succ nn ih28 =>
            intro i hi hn28 locs ls hS hl
            refine lv_iload_n hx hb dX4_counted_28 rfl (lv_at hl 0 rfl) ?_
            refine lv_aload_n hx hb dX4_counted_29 rfl (lv_at hl 2 rfl) ?_
            refine fg_X4_nodes hx hb hts hown hE hP q_729 dX4_counted_30 ?_
            refine xt_i (congrArg nI hq.N) ?_
            refine lv_icmp_ge (tgt := 59) hx hb dX4_counted_33 (by decide) (fun c33 => ?_) (fun c33 => ?_)
            · skip
              have c33 := ni_le (a := (nN z)) (b := i) (by omega) (by omega) c33
              rw [show i = nN z by omega] at hl
              have e2 : crS z (nN z) = cnt z k := by rw [show k = 2 by omega]; rfl
              rw [e2] at hl
              refine lv_goto (tgt := 87) hx hb dX4_counted_59 (by decide) ?_
              refine lv_iload_n hx hb dX4_counted_87 rfl (lv_at hl 1 rfl) ?_
              exact xe_iret hQ hx hb hr hlocks hH hS (Nat.le_refl _) (Nat.le_refl _) (⟨rfl, rfl⟩) dX4_counted_88
            · skip
              have c33 := ni_nle (a := (nN z)) (b := i) (by omega) (by omega) c33
              refine lv_iload_n hx hb dX4_counted_36 rfl (lv_at hl 1 rfl) ?_
              refine lv_aload_n hx hb dX4_counted_37 rfl (lv_at hl 2 rfl) ?_
              refine fg_X4_areRails hx hb hts hown hE hP q_730 dX4_counted_38 ?_
              refine lv_iload_n hx hb dX4_counted_41 rfl (lv_at hl 0 rfl) ?_
              refine al_areRails hx hb hE hP (j := i) (by omega) dX4_counted_42 ?_
              refine xt_i (hq.r (by first | assumption | omega)) ?_
              refine lv_if_eq (tgt := 50) hx hb dX4_counted_43 (by decide) (fun c43 => ?_) (fun c43 => ?_)
              · skip
                refine lv_iconst (v := nI 0) hx hb dX4_counted_50 (by decide) ?_
                refine lv_iadd hx hb dX4_counted_51 ?_
                refine xt_i (w := nI (crS z (i + 1))) (by first | (rw [crS_0 c43]; exact nI_add _ 0) | (rw [crS_1 c43]; exact nI_add _ 1)) ?_
                refine lv_istore_n (lv' := [(2, .int (nI (crS z (i + 1)))), (3, .int (nI i)), (0, .ref (ad (20, 0)))]) hx hb dX4_counted_52 rfl hl (by decide) rfl (fun ls hl => ?_)
                refine lv_iinc (v := nI (i + 1)) (lv' := [(3, .int (nI (i + 1))), (2, .int (nI (crS z (i + 1)))), (0, .ref (ad (20, 0)))]) hx hb dX4_counted_53 hl (k := 1) rfl (nI_1 _) (by decide) rfl (fun ls hl => ?_)
                refine lv_goto (tgt := 28) hx hb dX4_counted_56 (by decide) ?_
                exact ih28 (i + 1) (by omega) (by omega) _ _ hS (lv_sub hl [0, 1, 2] rfl)
              · skip
                refine lv_iconst (v := nI 1) hx hb dX4_counted_46 (by decide) ?_
                refine lv_goto (tgt := 51) hx hb dX4_counted_47 (by decide) ?_
                refine lv_iadd hx hb dX4_counted_51 ?_
                refine xt_i (w := nI (crS z (i + 1))) (by first | (rw [crS_0 c43]; exact nI_add _ 0) | (rw [crS_1 c43]; exact nI_add _ 1)) ?_
                refine lv_istore_n (lv' := [(2, .int (nI (crS z (i + 1)))), (3, .int (nI i)), (0, .ref (ad (20, 0)))]) hx hb dX4_counted_52 rfl hl (by decide) rfl (fun ls hl => ?_)
                refine lv_iinc (v := nI (i + 1)) (lv' := [(3, .int (nI (i + 1))), (2, .int (nI (crS z (i + 1)))), (0, .ref (ad (20, 0)))]) hx hb dX4_counted_53 hl (k := 1) rfl (nI_1 _) (by decide) rfl (fun ls hl => ?_)
                refine lv_goto (tgt := 28) hx hb dX4_counted_56 (by decide) ?_
                exact ih28 (i + 1) (by omega) (by omega) _ _ hS (lv_sub hl [0, 1, 2] rfl)
        exact K28 _ 0 (by omega) (Nat.lt_succ_self _) _ _ hS (lv_sub hl [0, 1, 2] rfl)
    · skip
      have c13 := ni_eq (a := k) (b := 1) (by omega) (by omega) c13
      refine lv_aload_n hx hb dX4_counted_16 rfl (lv_at hl 1 rfl) ?_
      refine fg_X4_elements hx hb hts hown hE hP q_732 dX4_counted_17 ?_
      refine xt_i (congrArg nI hq.E) ?_
      exact xe_iret hQ hx hb hr hlocks hH hS (Nat.le_refl _) (Nat.le_refl _) (⟨by rw [show k = 1 by omega]; rfl, rfl⟩) dX4_counted_20
  · skip
    have c3 := ni_eq (a := k) (b := 0) (by omega) (by omega) c3
    refine lv_aload_n hx hb dX4_counted_6 rfl (lv_at hl 1 rfl) ?_
    refine fg_X4_nodes hx hb hts hown hE hP q_729 dX4_counted_7 ?_
    refine xt_i (congrArg nI hq.N) ?_
    exact xe_iret hQ hx hb hr hlocks hH hS (Nat.le_refl _) (Nat.le_refl _) (⟨by rw [show k = 0 by omega]; rfl, rfl⟩) dX4_counted_10

set_option maxHeartbeats 4000000 in
set_option maxRecDepth 100000 in
theorem c_X4_elementTold (l : Launch) {D : va_G} {y : Nat → ClassId} {A : Nat → Prop} {ad : xL → Nat} {th : Int32} {w : xC} {qp : Nat → Int32} {qm : Nat → Int64} {qr : Nat → Int64} {qi : Nat → Int64} {qn : Nat → Int64} {qf : Nat → Int32} {qu : Int32} {qd : Int64} {fB fO : Nat → Nat → Option va_E} {Hs : Heap} (hP : xW D A ad (wU fB (wR y ad th w qp qm qr qi qn qf qu qd) fO) Hs) {z : xC} (hq : Rq z w) (hw : wf z) {i k : Nat} (hi : i < nE z) (hk : k < 6) : Met l yX4_elementTold (.code yX4_elementTold cX4_elementTold 3 (some .int) :: WG) { frames := 0, cells := 0, slots := 0, locals := 0 } (xPc [.ref (ad (20, 0)), .int (nI i), .int (nI k)] D y Hs) (xQ (fun v H1 => v = some (.int (trt z i k)) ∧ Hs = H1) A) 0 0 A := by
  refine xM_go (by decide) (Nat.le_of_ble_eq_true rfl) (fun p e s m args below meth c ls R Q hx hb hr hlocks hml hown hts hH hE hnm hRf hRl hRc hRs hQ hS hl => ?_)
  have hRf : R.frames = 0 := hRf
  have hRl : R.locals = 0 := hRl
  have hRc : R.cells = 0 := hRc
  have hRs : R.slots = 0 := hRs
  have hl : lv_has ls 3 [(0, .ref (ad (20, 0))), (1, .int (nI i)), (2, .int (nI k))] := hl
  have hN := hw.N
  have hE20 := hw.E
  have hs := hw.s hi
  have ho := hw.o hi
  refine lv_iload_n hx hb dX4_elementTold_0 rfl (lv_at hl 2 rfl) ?_
  rcases (show k = 0 ∨ k = 1 ∨ k = 2 ∨ k = 3 ∨ k = 4 ∨ k = 5 by omega) with rfl | rfl | rfl | rfl | rfl | rfl
  · skip
    refine lv_tableIn (off := 35) (tgt := 36) hx hb dX4_elementTold_1 (by decide) (by decide) (by decide) (by decide) ?_
    refine lv_aload_n hx hb dX4_elementTold_36 rfl (lv_at hl 0 rfl) ?_
    refine fg_X4_areSources hx hb hts hown hE hP q_733 dX4_elementTold_37 ?_
    refine lv_iload_n hx hb dX4_elementTold_40 rfl (lv_at hl 1 rfl) ?_
    refine al_areSources hx hb hE hP (j := i) (by omega) dX4_elementTold_41 ?_
    refine xt_i (hq.s (by first | assumption | omega)) ?_
    refine lv_if_eq (tgt := 49) hx hb dX4_elementTold_42 (by decide) (fun c42 => ?_) (fun c42 => ?_)
    · skip
      refine lv_iconst (v := nI 0) hx hb dX4_elementTold_49 (by decide) ?_
      exact xe_iret hQ hx hb hr hlocks hH hS (Nat.le_refl _) (Nat.le_refl _) (⟨by rcases hs with h | h <;> rw [h] at c42 <;> first | exact absurd rfl c42 | (exact absurd c42 (by decide)) | (simp [trt, h]; try rfl), rfl⟩) dX4_elementTold_50
    · skip
      refine lv_iconst (v := nI 1) hx hb dX4_elementTold_45 (by decide) ?_
      refine lv_goto (tgt := 50) hx hb dX4_elementTold_46 (by decide) ?_
      exact xe_iret hQ hx hb hr hlocks hH hS (Nat.le_refl _) (Nat.le_refl _) (⟨by rcases hs with h | h <;> rw [h] at c42 <;> first | exact absurd rfl c42 | (exact absurd c42 (by decide)) | (simp [trt, h]; try rfl), rfl⟩) dX4_elementTold_50
  · skip
    refine lv_tableIn (off := 50) (tgt := 51) hx hb dX4_elementTold_1 (by decide) (by decide) (by decide) (by decide) ?_
    refine lv_aload_n hx hb dX4_elementTold_51 rfl (lv_at hl 0 rfl) ?_
    refine fg_X4_as hx hb hts hown hE hP q_734 dX4_elementTold_52 ?_
    refine lv_iload_n hx hb dX4_elementTold_55 rfl (lv_at hl 1 rfl) ?_
    refine al_as hx hb hE hP (j := i) (by omega) dX4_elementTold_56 ?_
    refine xt_i (hq.a hw (by first | assumption | omega)) ?_
    exact xe_iret hQ hx hb hr hlocks hH hS (Nat.le_refl _) (Nat.le_refl _) (⟨by rw [trt, hw.a hi], rfl⟩) dX4_elementTold_57
  · skip
    refine lv_tableIn (off := 57) (tgt := 58) hx hb dX4_elementTold_1 (by decide) (by decide) (by decide) (by decide) ?_
    refine lv_aload_n hx hb dX4_elementTold_58 rfl (lv_at hl 0 rfl) ?_
    refine fg_X4_bs hx hb hts hown hE hP q_735 dX4_elementTold_59 ?_
    refine lv_iload_n hx hb dX4_elementTold_62 rfl (lv_at hl 1 rfl) ?_
    refine al_bs hx hb hE hP (j := i) (by omega) dX4_elementTold_63 ?_
    refine xt_i (hq.b hw (by first | assumption | omega)) ?_
    exact xe_iret hQ hx hb hr hlocks hH hS (Nat.le_refl _) (Nat.le_refl _) (⟨by rw [trt, hw.b hi], rfl⟩) dX4_elementTold_64
  · skip
    refine lv_tableIn (off := 64) (tgt := 65) hx hb dX4_elementTold_1 (by decide) (by decide) (by decide) (by decide) ?_
    refine lv_aload_n hx hb dX4_elementTold_65 rfl (lv_at hl 0 rfl) ?_
    refine fg_X4_sizes hx hb hts hown hE hP q_736 dX4_elementTold_66 ?_
    refine lv_iload_n hx hb dX4_elementTold_69 rfl (lv_at hl 1 rfl) ?_
    refine al_sizes hx hb hE hP (j := i) (by omega) dX4_elementTold_70 ?_
    refine xt_i (hq.z (by first | assumption | omega)) ?_
    exact xe_iret hQ hx hb hr hlocks hH hS (Nat.le_refl _) (Nat.le_refl _) (⟨rfl, rfl⟩) dX4_elementTold_71
  · skip
    refine lv_tableIn (off := 71) (tgt := 72) hx hb dX4_elementTold_1 (by decide) (by decide) (by decide) (by decide) ?_
    refine lv_aload_n hx hb dX4_elementTold_72 rfl (lv_at hl 0 rfl) ?_
    refine fg_X4_areOn hx hb hts hown hE hP q_737 dX4_elementTold_73 ?_
    refine lv_iload_n hx hb dX4_elementTold_76 rfl (lv_at hl 1 rfl) ?_
    refine al_areOn hx hb hE hP (j := i) (by omega) dX4_elementTold_77 ?_
    refine xt_i (hq.o (by first | assumption | omega)) ?_
    refine lv_if_eq (tgt := 85) hx hb dX4_elementTold_78 (by decide) (fun c78 => ?_) (fun c78 => ?_)
    · skip
      refine lv_iconst (v := nI 0) hx hb dX4_elementTold_85 (by decide) ?_
      exact xe_iret hQ hx hb hr hlocks hH hS (Nat.le_refl _) (Nat.le_refl _) (⟨by rcases ho with h | h <;> rw [h] at c78 <;> first | exact absurd rfl c78 | (exact absurd c78 (by decide)) | (simp [trt, h]; try rfl), rfl⟩) dX4_elementTold_86
    · skip
      refine lv_iconst (v := nI 1) hx hb dX4_elementTold_81 (by decide) ?_
      refine lv_goto (tgt := 86) hx hb dX4_elementTold_82 (by decide) ?_
      exact xe_iret hQ hx hb hr hlocks hH hS (Nat.le_refl _) (Nat.le_refl _) (⟨by rcases ho with h | h <;> rw [h] at c78 <;> first | exact absurd rfl c78 | (exact absurd c78 (by decide)) | (simp [trt, h]; try rfl), rfl⟩) dX4_elementTold_86
  · skip
    refine lv_tableOut (tgt := 87) hx hb dX4_elementTold_1 (by decide) (by decide) ?_
    refine lv_aload_n hx hb dX4_elementTold_87 rfl (lv_at hl 0 rfl) ?_
    refine fg_X4_toggles hx hb hts hown hE hP q_738 dX4_elementTold_88 ?_
    refine lv_iload_n hx hb dX4_elementTold_91 rfl (lv_at hl 1 rfl) ?_
    refine al_toggles hx hb hE hP (j := i) (by omega) dX4_elementTold_92 ?_
    refine xt_i (hq.t hw (by first | assumption | omega)) ?_
    exact xe_iret hQ hx hb hr hlocks hH hS (Nat.le_refl _) (Nat.le_refl _) (⟨by show _ = some (Value.int (eT z i)); rw [hw.t hi], rfl⟩) dX4_elementTold_93

set_option maxHeartbeats 4000000 in
set_option maxRecDepth 100000 in
theorem c_X4_toggleBehind (l : Launch) {D : va_G} {y : Nat → ClassId} {A : Nat → Prop} {ad : xL → Nat} {th : Int32} {w : xC} {qp : Nat → Int32} {qm : Nat → Int64} {qr : Nat → Int64} {qi : Nat → Int64} {qn : Nat → Int64} {qf : Nat → Int32} {qu : Int32} {qd : Int64} {fB fO : Nat → Nat → Option va_E} {Hs : Heap} (hP : xW D A ad (wU fB (wR y ad th w qp qm qr qi qn qf qu qd) fO) Hs) {z : xC} (hq : Rq z w) (hw : wf z) {t : Nat} (ht : t ≤ 999) : Met l yX4_toggleBehind (.code yX4_toggleBehind cX4_toggleBehind 6 (some .int) :: WG) { frames := 0, cells := 0, slots := 0, locals := 0 } (xPc [.ref (ad (20, 0)), .int (nI t)] D y Hs) (xQ (fun v H1 => v = some (.int (ftS z (nI t) (nE z))) ∧ Hs = H1) A) 0 0 A := by
  refine xM_go (by decide) (Nat.le_of_ble_eq_true rfl) (fun p e s m args below meth c ls R Q hx hb hr hlocks hml hown hts hH hE hnm hRf hRl hRc hRs hQ hS hl => ?_)
  have hRf : R.frames = 0 := hRf
  have hRl : R.locals = 0 := hRl
  have hRc : R.cells = 0 := hRc
  have hRs : R.slots = 0 := hRs
  have hl : lv_has ls 6 [(0, .ref (ad (20, 0))), (1, .int (nI t))] := hl
  have hN := hw.N
  have hE20 := hw.E
  refine lv_iconst (v := (-1)) hx hb dX4_toggleBehind_0 (by decide) ?_
  refine lv_istore_n (lv' := [(2, .int ((-1))), (0, .ref (ad (20, 0))), (1, .int (nI t))]) hx hb dX4_toggleBehind_1 rfl hl (by decide) rfl (fun ls hl => ?_)
  refine lv_iconst (v := nI 0) hx hb dX4_toggleBehind_2 (by decide) ?_
  refine lv_istore_n (lv' := [(3, .int (nI 0)), (2, .int ((-1))), (0, .ref (ad (20, 0))), (1, .int (nI t))]) hx hb dX4_toggleBehind_3 rfl hl (by decide) rfl (fun ls hl => ?_)
  have K4 : ∀ (nn : Nat), ∀ (i : Nat), (i ≤ nE z) → nE z - i < nn → ∀ (locs : List Loc) (ls : Array Slot), va_S A Hs Hs locs → lv_has ls 6 [(3, .int (nI i)), (2, .int (fmS z (nI t) i)), (1, .int (nI t)), (0, .ref (ad (20, 0)))] → W p l e R s m args below meth c Hs locs 0 0 Q (F0 m 4 ls []) := by
    intro nn
    induction nn with
    | zero => intro i hi h; exact absurd h (Nat.not_lt_zero _)
    | succ nn ih4 =>
      intro i hi hn4 locs ls hS hl
      refine lv_iload_n hx hb dX4_toggleBehind_4 rfl (lv_at hl 0 rfl) ?_
      refine lv_aload_n hx hb dX4_toggleBehind_5 rfl (lv_at hl 3 rfl) ?_
      refine fg_X4_elements hx hb hts hown hE hP q_732 dX4_toggleBehind_6 ?_
      refine xt_i (congrArg nI hq.E) ?_
      refine lv_icmp_ge (tgt := 72) hx hb dX4_toggleBehind_9 (by decide) (fun c9 => ?_) (fun c9 => ?_)
      · skip
        have c9 := ni_le (a := (nE z)) (b := i) (by omega) (by omega) c9
        refine lv_iload_n hx hb dX4_toggleBehind_72 rfl (lv_at hl 1 rfl) ?_
        exact xe_iret hQ hx hb hr hlocks hH hS (Nat.le_refl _) (Nat.le_refl _) (⟨by rw [show i = nE z by omega, (fm_ft hw ht _ (Nat.le_refl _)).1], rfl⟩) dX4_toggleBehind_73
      · skip
        have c9 := ni_nle (a := (nE z)) (b := i) (by omega) (by omega) c9
        have h6 := hw.t6 (i := i) (by omega)
        refine lv_iconst (v := nI 0) hx hb dX4_toggleBehind_12 (by decide) ?_
        refine lv_istore (lv' := [(4, .int (nI 0)), (3, .int (nI i)), (2, .int (fmS z (nI t) i)), (1, .int (nI t)), (0, .ref (ad (20, 0)))]) hx hb dX4_toggleBehind_13 hl (by decide) rfl (fun ls hl => ?_)
        have K15 : ∀ (nn : Nat), ∀ (k : Nat), (k ≤ cT z i) → cT z i - k < nn → ∀ (locs : List Loc) (ls : Array Slot), va_S A Hs Hs locs → lv_has ls 6 [(4, .int (nI k)), (3, .int (nI i)), (2, .int (fmI z (nI t) i (fmS z (nI t) i) k)), (1, .int (nI t)), (0, .ref (ad (20, 0)))] → W p l e R s m args below meth c Hs locs 0 0 Q (F0 m 15 ls []) := by
          intro nn
          induction nn with
          | zero => intro k hk h; exact absurd h (Nat.not_lt_zero _)
          | succ nn ih15 =>
            intro k hk hn15 locs ls hS hl
            refine lv_iload hx hb dX4_toggleBehind_15 (lv_at hl 0 rfl) ?_
            refine lv_aload_n hx hb dX4_toggleBehind_17 rfl (lv_at hl 4 rfl) ?_
            refine fg_X4_toggles hx hb hts hown hE hP q_738 dX4_toggleBehind_18 ?_
            refine lv_iload_n hx hb dX4_toggleBehind_21 rfl (lv_at hl 1 rfl) ?_
            refine al_toggles hx hb hE hP (j := i) (by omega) dX4_toggleBehind_22 ?_
            refine xt_i (hq.t hw (by first | assumption | omega)) ?_
            refine lv_icmp_ge (tgt := 66) hx hb dX4_toggleBehind_23 (by decide) (fun c23 => ?_) (fun c23 => ?_)
            · skip
              have c23 := ni_le (a := (cT z i)) (b := k) (by omega) (by omega) c23
              have e66 : fmI z (nI t) i (fmS z (nI t) i) k = fmS z (nI t) (i + 1) := by rw [fmS, show cT z i = k by omega]
              have hl : lv_has ls 6 [(4, .int (nI k)), (3, .int (nI i)), (2, .int (fmS z (nI t) (i + 1))), (1, .int (nI t)), (0, .ref (ad (20, 0)))] := by rw [← e66]; exact hl
              refine lv_iinc (v := nI (i + 1)) (lv' := [(3, .int (nI (i + 1))), (4, .int (nI k)), (2, .int (fmS z (nI t) (i + 1))), (1, .int (nI t)), (0, .ref (ad (20, 0)))]) hx hb dX4_toggleBehind_66 hl (k := 1) rfl (nI_1 _) (by decide) rfl (fun ls hl => ?_)
              refine lv_goto (tgt := 4) hx hb dX4_toggleBehind_69 (by decide) ?_
              exact ih4 (i + 1) (by omega) (by omega) _ _ hS (lv_sub hl [0, 2, 3, 4] rfl)
            · skip
              have c23 := ni_nle (a := (cT z i)) (b := k) (by omega) (by omega) c23
              refine lv_aload_n hx hb dX4_toggleBehind_26 rfl (lv_at hl 4 rfl) ?_
              refine fg_X4_toggleTimes hx hb hts hown hE hP q_739 dX4_toggleBehind_27 ?_
              refine lv_bipush (v := nI 6) hx hb dX4_toggleBehind_30 (by decide) ?_
              refine lv_iload_n hx hb dX4_toggleBehind_32 rfl (lv_at hl 1 rfl) ?_
              refine lv_imul hx hb dX4_toggleBehind_33 ?_
              refine xt_i (pk_mul 6 i) ?_
              refine lv_iload hx hb dX4_toggleBehind_34 (lv_at hl 0 rfl) ?_
              refine lv_iadd hx hb dX4_toggleBehind_36 ?_
              refine xt_i (nI_add (6 * i) k) ?_
              refine al_toggleTimes hx hb hE hP (j := (6 * i) + k) (by omega) dX4_toggleBehind_37 ?_
              refine xt_i (w := tT z (6 * i + k)) (hq.m (j := i) (k := k) (by first | assumption | omega) (by first | assumption | omega)) ?_
              refine lv_istore (lv' := [(5, .int (tT z (6 * i + k))), (4, .int (nI k)), (3, .int (nI i)), (2, .int (fmI z (nI t) i (fmS z (nI t) i) k)), (1, .int (nI t)), (0, .ref (ad (20, 0)))]) hx hb dX4_toggleBehind_38 hl (by decide) rfl (fun ls hl => ?_)
              refine lv_iload hx hb dX4_toggleBehind_40 (lv_at hl 0 rfl) ?_
              refine lv_iload_n hx hb dX4_toggleBehind_42 rfl (lv_at hl 4 rfl) ?_
              refine lv_icmp_le (tgt := 60) hx hb dX4_toggleBehind_43 (by decide) (fun c43 => ?_) (fun c43 => ?_)
              · skip
                have e43 := fmI_0 (z := z) (t := nI t) (i := i) (f := fmS z (nI t) i) (k := k) (fun h => (Int32.not_lt.mpr c43) h)
                have hl : lv_has ls 6 [(4, .int (nI k)), (3, .int (nI i)), (2, .int (fmI z (nI t) i (fmS z (nI t) i) (k + 1))), (1, .int (nI t)), (0, .ref (ad (20, 0)))] := by rw [e43]; exact lv_sub hl [1, 2, 3, 4, 5] rfl
                refine lv_iinc (v := nI (k + 1)) (lv' := [(4, .int (nI (k + 1))), (3, .int (nI i)), (2, .int (fmI z (nI t) i (fmS z (nI t) i) (k + 1))), (1, .int (nI t)), (0, .ref (ad (20, 0)))]) hx hb dX4_toggleBehind_60 hl (k := 0) rfl (nI_1 _) (by decide) rfl (fun ls hl => ?_)
                refine lv_goto (tgt := 15) hx hb dX4_toggleBehind_63 (by decide) ?_
                exact ih15 (k + 1) (by omega) (by omega) _ _ hS (lv_sub hl [0, 1, 2, 3, 4] rfl)
              · skip
                refine lv_iload_n hx hb dX4_toggleBehind_46 rfl (lv_at hl 3 rfl) ?_
                refine lv_iconst (v := (-1)) hx hb dX4_toggleBehind_47 (by decide) ?_
                refine lv_icmp_eq (tgt := 57) hx hb dX4_toggleBehind_48 (by decide) (fun c48 => ?_) (fun c48 => ?_)
                · skip
                  refine lv_iload hx hb dX4_toggleBehind_57 (lv_at hl 0 rfl) ?_
                  refine lv_istore_n (lv' := [(2, .int (tT z (6 * i + k))), (5, .int (tT z (6 * i + k))), (4, .int (nI k)), (3, .int (nI i)), (1, .int (nI t)), (0, .ref (ad (20, 0)))]) hx hb dX4_toggleBehind_59 rfl hl (by decide) rfl (fun ls hl => ?_)
                  have e43 := fmI_1 (z := z) (t := nI t) (i := i) (f := fmS z (nI t) i) (k := k) (Int32.not_le.mp c43) (by first | exact Or.inl c48 | exact Or.inr (Int32.not_le.mp c54))
                  have hl : lv_has ls 6 [(2, .int (fmI z (nI t) i (fmS z (nI t) i) (k + 1))), (4, .int (nI k)), (3, .int (nI i)), (1, .int (nI t)), (0, .ref (ad (20, 0)))] := by rw [e43]; exact lv_sub hl [0, 2, 3, 4, 5] rfl
                  refine lv_iinc (v := nI (k + 1)) (lv' := [(4, .int (nI (k + 1))), (2, .int (fmI z (nI t) i (fmS z (nI t) i) (k + 1))), (3, .int (nI i)), (1, .int (nI t)), (0, .ref (ad (20, 0)))]) hx hb dX4_toggleBehind_60 hl (k := 1) rfl (nI_1 _) (by decide) rfl (fun ls hl => ?_)
                  refine lv_goto (tgt := 15) hx hb dX4_toggleBehind_63 (by decide) ?_
                  exact ih15 (k + 1) (by omega) (by omega) _ _ hS (lv_sub hl [0, 2, 1, 3, 4] rfl)
                · skip
                  refine lv_iload hx hb dX4_toggleBehind_51 (lv_at hl 0 rfl) ?_
                  refine lv_iload_n hx hb dX4_toggleBehind_53 rfl (lv_at hl 3 rfl) ?_
                  refine lv_icmp_ge (tgt := 60) hx hb dX4_toggleBehind_54 (by decide) (fun c54 => ?_) (fun c54 => ?_)
                  · skip
                    have e43 := fmI_2 (z := z) (t := nI t) (i := i) (f := fmS z (nI t) i) (k := k) (Int32.not_le.mp c43) (fun h => by rcases h with h | h; exact c48 h; exact (Int32.not_lt.mpr c54) h)
                    have hl : lv_has ls 6 [(4, .int (nI k)), (3, .int (nI i)), (2, .int (fmI z (nI t) i (fmS z (nI t) i) (k + 1))), (1, .int (nI t)), (0, .ref (ad (20, 0)))] := by rw [e43]; exact lv_sub hl [1, 2, 3, 4, 5] rfl
                    refine lv_iinc (v := nI (k + 1)) (lv' := [(4, .int (nI (k + 1))), (3, .int (nI i)), (2, .int (fmI z (nI t) i (fmS z (nI t) i) (k + 1))), (1, .int (nI t)), (0, .ref (ad (20, 0)))]) hx hb dX4_toggleBehind_60 hl (k := 0) rfl (nI_1 _) (by decide) rfl (fun ls hl => ?_)
                    refine lv_goto (tgt := 15) hx hb dX4_toggleBehind_63 (by decide) ?_
                    exact ih15 (k + 1) (by omega) (by omega) _ _ hS (lv_sub hl [0, 1, 2, 3, 4] rfl)
                  · skip
                    refine lv_iload hx hb dX4_toggleBehind_57 (lv_at hl 0 rfl) ?_
                    refine lv_istore_n (lv' := [(2, .int (tT z (6 * i + k))), (5, .int (tT z (6 * i + k))), (4, .int (nI k)), (3, .int (nI i)), (1, .int (nI t)), (0, .ref (ad (20, 0)))]) hx hb dX4_toggleBehind_59 rfl hl (by decide) rfl (fun ls hl => ?_)
                    have e43 := fmI_1 (z := z) (t := nI t) (i := i) (f := fmS z (nI t) i) (k := k) (Int32.not_le.mp c43) (by first | exact Or.inl c48 | exact Or.inr (Int32.not_le.mp c54))
                    have hl : lv_has ls 6 [(2, .int (fmI z (nI t) i (fmS z (nI t) i) (k + 1))), (4, .int (nI k)), (3, .int (nI i)), (1, .int (nI t)), (0, .ref (ad (20, 0)))] := by rw [e43]; exact lv_sub hl [0, 2, 3, 4, 5] rfl
                    refine lv_iinc (v := nI (k + 1)) (lv' := [(4, .int (nI (k + 1))), (2, .int (fmI z (nI t) i (fmS z (nI t) i) (k + 1))), (3, .int (nI i)), (1, .int (nI t)), (0, .ref (ad (20, 0)))]) hx hb dX4_toggleBehind_60 hl (k := 1) rfl (nI_1 _) (by decide) rfl (fun ls hl => ?_)
                    refine lv_goto (tgt := 15) hx hb dX4_toggleBehind_63 (by decide) ?_
                    exact ih15 (k + 1) (by omega) (by omega) _ _ hS (lv_sub hl [0, 2, 1, 3, 4] rfl)
        exact K15 _ 0 (by omega) (Nat.lt_succ_self _) _ _ hS (lv_sub hl [0, 1, 2, 3, 4] rfl)
  exact K4 _ 0 (by omega) (Nat.lt_succ_self _) _ _ hS (lv_sub hl [0, 1, 3, 2] rfl)

set_option maxHeartbeats 4000000 in
set_option maxRecDepth 100000 in
theorem c_X4_divisor (l : Launch) {D : va_G} {y : Nat → ClassId} {A : Nat → Prop}  {Hs : Heap} (a b : Int64) : Met l yX4_divisor (.code yX4_divisor cX4_divisor 10 (some .long) :: WG) { frames := 1, cells := 0, slots := 0, locals := 21 } (xPc [.long a, .long b] D y Hs) (xQ (fun v H1 => v = some (.long (gcdW (absL a) (absL b))) ∧ Hs = H1) A) 0 0 A := by
  refine xM_go (by decide) (Nat.le_of_ble_eq_true rfl) (fun p e s m args below meth c ls R Q hx hb hr hlocks hml hown hts hH hE hnm hRf hRl hRc hRs hQ hS hl => ?_)
  have hRf : R.frames = 1 := hRf
  have hRl : R.locals = 21 := hRl
  have hRc : R.cells = 0 := hRc
  have hRs : R.slots = 0 := hRs
  have hl : lv_has ls 10 [(0, .long a), (2, .long b)] := hl
  refine lv_lload_n hx hb dX4_divisor_0 rfl (lv_at hl 0 rfl) ?_
  refine xw_callS (n := 1) [.long a] (c_J9_abs_067f4 l a) hx hb hml hown hts hE hS rfl rfl q_55 q_915 q_287 q_286 (by decide) rfl ⟨by rw [hRf]; decide, by rw [hRl]; decide⟩ hl.1 rfl (Nat.le_of_ble_eq_true rfl) dX4_divisor_1 ⟨by rw [hRc]; decide, by rw [hRs]; decide⟩ (fun v H1 locs hp hS => ?_)
  obtain ⟨hv, hh⟩ := hp; subst hv; subst hh
  refine lv_lstore (lv' := [(4, .long (absL a)), (0, .long a), (2, .long b)]) hx hb dX4_divisor_4 hl (by decide) rfl (fun ls hl => ?_)
  refine lv_lload_n hx hb dX4_divisor_6 rfl (lv_at hl 2 rfl) ?_
  refine xw_callS (n := 1) [.long b] (c_J9_abs_067f4 l b) hx hb hml hown hts hE hS rfl rfl q_55 q_915 q_287 q_286 (by decide) rfl ⟨by rw [hRf]; decide, by rw [hRl]; decide⟩ hl.1 rfl (Nat.le_of_ble_eq_true rfl) dX4_divisor_7 ⟨by rw [hRc]; decide, by rw [hRs]; decide⟩ (fun v H1 locs hp hS => ?_)
  obtain ⟨hv, hh⟩ := hp; subst hv; subst hh
  refine lv_lstore (lv' := [(6, .long (absL b)), (4, .long (absL a)), (0, .long a), (2, .long b)]) hx hb dX4_divisor_10 hl (by decide) rfl (fun ls hl => ?_)
  have K12 : ∀ (nn : Nat), ∀ (u w : Int64), (gcdW u w = gcdW (absL a) (absL b)) → w.toInt.natAbs < nn → ∀ (locs : List Loc) (ls : Array Slot), va_S A Hs Hs locs → lv_has ls 10 [(6, .long w), (4, .long u), (2, .long b), (0, .long a)] → W p l e R s m args below meth c Hs locs 0 0 Q (F0 m 12 ls []) := by
    intro nn
    induction nn with
    | zero => intro u w hg h; exact absurd h (Nat.not_lt_zero _)
    | succ nn ih12 =>
      intro u w hg hn12 locs ls hS hl
      refine lv_lload hx hb dX4_divisor_12 (lv_at hl 0 rfl) ?_
      refine lv_lconst (v := 0) hx hb dX4_divisor_14 (by decide) ?_
      refine W.lcmp hx hb dX4_divisor_15 ?_
      refine lv_if_eq (tgt := 37) hx hb dX4_divisor_16 (by decide) (fun c16 => ?_) (fun c16 => ?_)
      · skip
        have c16 := (lg_cmp_eq _ _).mp c16
        refine lv_lload hx hb dX4_divisor_37 (lv_at hl 1 rfl) ?_
        exact xe_lret hQ hx hb hr hlocks hH hS (Nat.le_refl _) (Nat.le_refl _) (⟨by rw [← hg, c16, gcdW_0], rfl⟩) dX4_divisor_39
      · skip
        have c16 := mt (lg_cmp_eq _ _).mpr c16
        refine lv_lload hx hb dX4_divisor_19 (lv_at hl 1 rfl) ?_
        refine lv_lload hx hb dX4_divisor_21 (lv_at hl 0 rfl) ?_
        refine lv_lrem hx hb dX4_divisor_23 (c16) ?_
        refine lv_lstore (lv' := [(8, .long (u - u / w * w)), (6, .long w), (4, .long u), (2, .long b), (0, .long a)]) hx hb dX4_divisor_24 hl (by decide) rfl (fun ls hl => ?_)
        refine lv_lload hx hb dX4_divisor_26 (lv_at hl 1 rfl) ?_
        refine lv_lstore (lv' := [(4, .long w), (8, .long (u - u / w * w)), (6, .long w), (2, .long b), (0, .long a)]) hx hb dX4_divisor_28 hl (by decide) rfl (fun ls hl => ?_)
        refine lv_lload hx hb dX4_divisor_30 (lv_at hl 1 rfl) ?_
        refine lv_lstore (lv' := [(6, .long (u - u / w * w)), (4, .long w), (8, .long (u - u / w * w)), (2, .long b), (0, .long a)]) hx hb dX4_divisor_32 hl (by decide) rfl (fun ls hl => ?_)
        refine lv_goto (tgt := 12) hx hb dX4_divisor_34 (by decide) ?_
        exact ih12 w (u - u / w * w) (by rw [← hg, ← gcdW_s c16]) (by have := rem_lt u c16; omega) _ _ hS (lv_sub hl [0, 1, 3, 4] rfl)
  exact K12 _ (absL a) (absL b) rfl (Nat.lt_succ_self _) _ _ hS (lv_sub hl [0, 1, 3, 2] rfl)

set_option maxHeartbeats 4000000 in
set_option maxRecDepth 100000 in
theorem c_X4_part (l : Launch) {D : va_G} {y : Nat → ClassId} {A : Nat → Prop}  {Hs : Heap} (u w : Int64) (f : Int32) (h0 : ¬ gcdW (absL u) (absL w) = 0) : Met l yX4_part (.code yX4_part cX4_part 7 (some .long) :: WG) { frames := 2, cells := 0, slots := 0, locals := 50 } (xPc [.long u, .long w, .int f] D y Hs) (xQ (fun v H1 => v = some (.long (ptW u w f)) ∧ Hs = H1) A) 0 0 A := by
  refine xM_go (by decide) (Nat.le_of_ble_eq_true rfl) (fun p e s m args below meth c ls R Q hx hb hr hlocks hml hown hts hH hE hnm hRf hRl hRc hRs hQ hS hl => ?_)
  have hRf : R.frames = 2 := hRf
  have hRl : R.locals = 50 := hRl
  have hRc : R.cells = 0 := hRc
  have hRs : R.slots = 0 := hRs
  have hl : lv_has ls 7 [(0, .long u), (2, .long w), (4, .int f)] := hl
  refine lv_lload_n hx hb dX4_part_0 rfl (lv_at hl 0 rfl) ?_
  refine lv_lload_n hx hb dX4_part_1 rfl (lv_at hl 1 rfl) ?_
  refine xw_callS (n := 2) [.long u, .long w] (c_X4_divisor l u w) hx hb hml hown hts hE hS rfl rfl q_48 q_912 q_914 q_913 (by decide) rfl ⟨by rw [hRf]; decide, by rw [hRl]; decide⟩ hl.1 rfl (Nat.le_of_ble_eq_true rfl) dX4_part_2 ⟨by rw [hRc]; decide, by rw [hRs]; decide⟩ (fun v H1 locs hp hS => ?_)
  obtain ⟨hv, hh⟩ := hp; subst hv; subst hh
  refine lv_lstore (lv' := [(5, .long (gcdW (absL u) (absL w))), (0, .long u), (2, .long w), (4, .int f)]) hx hb dX4_part_5 hl (by decide) rfl (fun ls hl => ?_)
  refine lv_iload hx hb dX4_part_7 (lv_at hl 3 rfl) ?_
  refine lv_if_eq (tgt := 16) hx hb dX4_part_9 (by decide) (fun c9 => ?_) (fun c9 => ?_)
  · skip
    refine lv_lload_n hx hb dX4_part_16 rfl (lv_at hl 2 rfl) ?_
    refine lv_lload hx hb dX4_part_17 (lv_at hl 0 rfl) ?_
    refine lv_ldiv hx hb dX4_part_19 (h0) ?_
    exact xe_lret hQ hx hb hr hlocks hH hS (Nat.le_refl _) (Nat.le_refl _) (⟨by rw [ptW]; first | rw [if_pos c9] | rw [if_neg c9], rfl⟩) dX4_part_20
  · skip
    refine lv_lload_n hx hb dX4_part_12 rfl (lv_at hl 1 rfl) ?_
    refine lv_goto (tgt := 17) hx hb dX4_part_13 (by decide) ?_
    refine lv_lload hx hb dX4_part_17 (lv_at hl 0 rfl) ?_
    refine lv_ldiv hx hb dX4_part_19 (h0) ?_
    exact xe_lret hQ hx hb hr hlocks hH hS (Nat.le_refl _) (Nat.le_refl _) (⟨by rw [ptW]; first | rw [if_pos c9] | rw [if_neg c9], rfl⟩) dX4_part_20
