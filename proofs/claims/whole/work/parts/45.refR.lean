set_option maxHeartbeats 4000000 in
set_option maxRecDepth 100000 in
theorem c_X4_resistance (l : Launch) {D : va_G} {y : Nat → ClassId} {A : Nat → Prop} {ad : xL → Nat} {th : Int32} {w : xC} {qp : Nat → Int32} {qm : Nat → Int64} {qr : Nat → Int64} {qi : Nat → Int64} {qn : Nat → Int64} {qf : Nat → Int32} {qu : Int32} {qd : Int64} {fB fO : Nat → Nat → Option va_E} {Hs : Heap} (hP : xW D A ad (wU fB (wR y ad th w qp qm qr qi qn qf qu qd) fO) Hs) {z : xC} (hq : Rq z w) (hw : wf z) (hk : rOk z) (x1 x2 t f : Int32) : Met l yX4_resistance (.code yX4_resistance cX4_resistance 8 (some .long) :: WG) { frames := 3, cells := 0, slots := 0, locals := 76 } (xPc [.ref (ad (20, 0)), .int x1, .int x2, .int t, .int f] D y Hs) (xQ (fun v H1 => ∃ r, v = some (.long r) ∧ (tRst z x1 x2 t = 0 → r = rRst z x1 x2 t f) ∧ xRf D A y ad (z) fB fO (tRst z x1 x2 t) H1) A) 0 0 A := by
  refine xM_go (by decide) (Nat.le_of_ble_eq_true rfl) (fun p e s m args below meth c ls R Q hx hb hr hlocks hml hown hts hH hE hnm hRf hRl hRc hRs hQ hS hl => ?_)
  have hRf : R.frames = 3 := hRf
  have hRl : R.locals = 76 := hRl
  have hRc : R.cells = 0 := hRc
  have hRs : R.slots = 0 := hRs
  have hl : lv_has ls 8 [(0, .ref (ad (20, 0))), (1, .int x1), (2, .int x2), (3, .int t), (4, .int f)] := hl
  have hN := hw.N
  have hE20 := hw.E
  refine lv_aload_n hx hb dX4_resistance_0 rfl (lv_at hl 0 rfl) ?_
  refine lv_aload_n hx hb dX4_resistance_1 rfl (lv_at hl 0 rfl) ?_
  refine lv_iload_n hx hb dX4_resistance_2 rfl (lv_at hl 1 rfl) ?_
  refine xw_callV (C := "NetlistBenchModel") (n := 1) [.int x1] (c_X4_isNode l hP hq hw x1) hx hb hml hown hts hE hS (xw_recv hE hP (20, 0) rfl rfl) rfl rfl q_48 q_806 q_809 q_808 q_27 (by decide) rfl ⟨by rw [hRf]; decide, by rw [hRl]; decide⟩ hl.1 rfl (Nat.le_of_ble_eq_true rfl) dX4_resistance_3 ⟨by rw [hRc]; decide, by rw [hRs]; decide⟩ (fun v H1 locs hp hS => ?_)
  obtain ⟨hv, hh⟩ := hp; subst hv; subst hh
  refine lv_if_eq (tgt := 17) hx hb dX4_resistance_6 (by decide) (fun c6 => ?_) (fun c6 => ?_)
  · skip
    have c6 := b_f c6
    refine lv_iconst (v := nI 1) hx hb dX4_resistance_17 (by decide) ?_
    refine lv_goto (tgt := 51) hx hb dX4_resistance_18 (by decide) ?_
    refine fp_X4_thrown hx hb hts hown hE hS hP q_728 dX4_resistance_51 (fun H locs hP hS => ?_)
    refine lv_aload_n hx hb dX4_resistance_54 rfl (lv_at hl 0 rfl) ?_
    refine fg_X4_thrown hx hb hts hown hE hP q_728 dX4_resistance_55 ?_
    refine lv_if_eq (tgt := 63) hx hb dX4_resistance_58 (by decide) (fun c58 => ?_) (fun c58 => ?_)
    · skip
      have c58 := ni_eq (a := 1) (b := 0) (by omega) (by omega) c58
      exfalso; omega
    · skip
      have c58 := ni_ne (a := 1) (b := 0) (by omega) (by omega) c58
      refine lv_lconst (v := 0) hx hb dX4_resistance_61 (by decide) ?_
      have eT : tRst z x1 x2 t = nI 1 := by rw [tRst, if_pos c6]; rfl
      exact xe_lret hQ hx hb hr hlocks hH hS (Nat.le_refl _) (Nat.le_refl _) (⟨_, rfl, fun h => absurd (eT.symm.trans h) (by decide), by rw [eT]; exact hP.R hq⟩) dX4_resistance_62
  · skip
    have c6 := b_t c6
    obtain ⟨ja, hja, exja⟩ := nodeP_i hw c6
    subst exja
    refine lv_aload_n hx hb dX4_resistance_9 rfl (lv_at hl 0 rfl) ?_
    refine lv_iload_n hx hb dX4_resistance_10 rfl (lv_at hl 2 rfl) ?_
    refine xw_callV (C := "NetlistBenchModel") (n := 1) [.int x2] (c_X4_isNode l hP hq hw x2) hx hb hml hown hts hE hS (xw_recv hE hP (20, 0) rfl rfl) rfl rfl q_48 q_806 q_809 q_808 q_27 (by decide) rfl ⟨by rw [hRf]; decide, by rw [hRl]; decide⟩ hl.1 rfl (Nat.le_of_ble_eq_true rfl) dX4_resistance_11 ⟨by rw [hRc]; decide, by rw [hRs]; decide⟩ (fun v H1 locs hp hS => ?_)
    obtain ⟨hv, hh⟩ := hp; subst hv; subst hh
    refine lv_if_ne (tgt := 21) hx hb dX4_resistance_14 (by decide) (fun c14 => ?_) (fun c14 => ?_)
    · skip
      have c14 := b_t c14
      obtain ⟨jb, hjb, exjb⟩ := nodeP_i hw c14
      subst exjb
      refine lv_iload_n hx hb dX4_resistance_21 rfl (lv_at hl 3 rfl) ?_
      refine xw_callS (n := 1) [.int t] (c_X4_isTime l t) hx hb hml hown hts hE hS rfl rfl q_48 q_861 q_863 q_862 (by decide) rfl ⟨by rw [hRf]; decide, by rw [hRl]; decide⟩ hl.1 rfl (Nat.le_of_ble_eq_true rfl) dX4_resistance_22 ⟨by rw [hRc]; decide, by rw [hRs]; decide⟩ (fun v H1 locs hp hS => ?_)
      obtain ⟨hv, hh⟩ := hp; subst hv; subst hh
      refine lv_if_ne (tgt := 32) hx hb dX4_resistance_25 (by decide) (fun c25 => ?_) (fun c25 => ?_)
      · skip
        have c25 := b_t c25
        obtain ⟨tm, htm, ettm⟩ := timeP_i c25
        subst ettm
        refine lv_aload_n hx hb dX4_resistance_32 rfl (lv_at hl 0 rfl) ?_
        refine lv_iload_n hx hb dX4_resistance_33 rfl (lv_at hl 1 rfl) ?_
        refine lv_iload_n hx hb dX4_resistance_34 rfl (lv_at hl 3 rfl) ?_
        refine xw_callV (C := "NetlistBenchModel") (n := 2) [.int (nI ja), .int (nI tm)] (c_X4_group l hP hq hw (by omega) htm) hx hb hml hown hts hE hS (xw_recv hE hP (20, 0) rfl rfl) rfl rfl q_48 q_872 q_875 q_874 q_32 (by decide) rfl ⟨by rw [hRf]; decide, by rw [hRl]; decide⟩ hl.1 rfl (Nat.le_of_ble_eq_true rfl) dX4_resistance_35 ⟨by rw [hRc]; decide, by rw [hRs]; decide⟩ (fun v H1 locs hp hS => ?_)
        obtain ⟨hv, hh⟩ := hp; subst hv; subst hh
        have hg8 : gM z (nI tm) ja < 256 := gM_lt hw _ (by omega)
        refine lv_iload_n hx hb dX4_resistance_38 rfl (lv_at hl 2 rfl) ?_
        refine lv_ishr hx hb dX4_resistance_39 ?_
        refine lv_iconst (v := nI 1) hx hb dX4_resistance_40 (by decide) ?_
        refine lv_iand hx hb dX4_resistance_41 ?_
        refine lv_iconst (v := nI 1) hx hb dX4_resistance_42 (by decide) ?_
        refine lv_icmp_ne (tgt := 50) hx hb dX4_resistance_43 (by decide) (fun c43 => ?_) (fun c43 => ?_)
        · skip
          have b43 : gM z (nI tm) ja / 2 ^ jb % 2 = 0 := by have := mt (m_bit1 _ hg8 jb (by omega)).mpr c43; omega
          refine lv_iconst (v := nI 3) hx hb dX4_resistance_50 (by decide) ?_
          refine fp_X4_thrown hx hb hts hown hE hS hP q_728 dX4_resistance_51 (fun H locs hP hS => ?_)
          refine lv_aload_n hx hb dX4_resistance_54 rfl (lv_at hl 0 rfl) ?_
          refine fg_X4_thrown hx hb hts hown hE hP q_728 dX4_resistance_55 ?_
          refine lv_if_eq (tgt := 63) hx hb dX4_resistance_58 (by decide) (fun c58 => ?_) (fun c58 => ?_)
          · skip
            have c58 := ni_eq (a := 3) (b := 0) (by omega) (by omega) c58
            exfalso; omega
          · skip
            have c58 := ni_ne (a := 3) (b := 0) (by omega) (by omega) c58
            refine lv_lconst (v := 0) hx hb dX4_resistance_61 (by decide) ?_
            have eT : tRst z (nI ja) (nI jb) (nI tm) = nI 3 := by rw [tRst, if_neg (not_not_intro c6), if_neg (not_not_intro c14), if_neg (not_not_intro c25), cl_nI (by omega), cl_nI (by omega), if_pos b43]; rfl
            exact xe_lret hQ hx hb hr hlocks hH hS (Nat.le_refl _) (Nat.le_refl _) (⟨_, rfl, fun h => absurd (eT.symm.trans h) (by decide), by rw [eT]; exact hP.R hq⟩) dX4_resistance_62
        · skip
          have b43 : ¬ gM z (nI tm) ja / 2 ^ jb % 2 = 0 := by have := (m_bit1 _ hg8 jb (by omega)).mp c43; omega
          refine lv_iconst (v := nI 0) hx hb dX4_resistance_46 (by decide) ?_
          refine lv_goto (tgt := 51) hx hb dX4_resistance_47 (by decide) ?_
          refine fp_X4_thrown hx hb hts hown hE hS hP q_728 dX4_resistance_51 (fun H locs hP hS => ?_)
          refine lv_aload_n hx hb dX4_resistance_54 rfl (lv_at hl 0 rfl) ?_
          refine fg_X4_thrown hx hb hts hown hE hP q_728 dX4_resistance_55 ?_
          refine lv_if_eq (tgt := 63) hx hb dX4_resistance_58 (by decide) (fun c58 => ?_) (fun c58 => ?_)
          · skip
            have c58 := ni_eq (a := 0) (b := 0) (by omega) (by omega) c58
            refine lv_iload_n hx hb dX4_resistance_63 rfl (lv_at hl 1 rfl) ?_
            refine lv_iload_n hx hb dX4_resistance_64 rfl (lv_at hl 2 rfl) ?_
            refine lv_icmp_ne (tgt := 79) hx hb dX4_resistance_65 (by decide) (fun c65 => ?_) (fun c65 => ?_)
            · skip
              have c65 := ni_ne (a := ja) (b := jb) (by omega) (by omega) c65
              have hgg : gM z (nI tm) ja = gM z (nI tm) jb := (gM_eq hw (by omega) (by omega) (bt_1.mp (by omega))).symm
              refine lv_aload_n hx hb dX4_resistance_79 rfl (lv_at hl 0 rfl) ?_
              refine xw_callV (C := "NetlistBenchModel") (n := 0) [] (c_X4_clear l hP ) hx hb hml hown hts hE hS (xw_recv hE hP (20, 0) rfl rfl) rfl rfl q_48 q_896 q_899 q_898 q_36 (by decide) rfl ⟨by rw [hRf]; decide, by rw [hRl]; decide⟩ hl.1 rfl (Nat.le_of_ble_eq_true rfl) dX4_resistance_80 ⟨by rw [hRc]; decide, by rw [hRs]; decide⟩ (fun v H1 locs hp hS => ?_)
              obtain ⟨hv, hP⟩ := hp; subst hv
              generalize H1 = H at hP hS ⊢
              refine lv_aload_n hx hb dX4_resistance_83 rfl (lv_at hl 0 rfl) ?_
              refine lv_iload_n hx hb dX4_resistance_84 rfl (lv_at hl 1 rfl) ?_
              refine lv_iload_n hx hb dX4_resistance_85 rfl (lv_at hl 3 rfl) ?_
              refine xw_callV (C := "NetlistBenchModel") (n := 2) [.int (nI ja), .int (nI tm)] (c_X4_group l hP hq hw (by omega) htm) hx hb hml hown hts hE hS (xw_recv hE hP (20, 0) rfl rfl) rfl rfl q_48 q_872 q_875 q_874 q_32 (by decide) rfl ⟨by rw [hRf]; decide, by rw [hRl]; decide⟩ hl.1 rfl (Nat.le_of_ble_eq_true rfl) dX4_resistance_86 ⟨by rw [hRc]; decide, by rw [hRs]; decide⟩ (fun v H1 locs hp hS => ?_)
              obtain ⟨hv, hh⟩ := hp; subst hv; subst hh
              refine lv_istore (lv' := [(5, .int (nI (gM z (nI tm) ja))), (0, .ref (ad (20, 0))), (1, .int (nI ja)), (2, .int (nI jb)), (3, .int (nI tm)), (4, .int f)]) hx hb dX4_resistance_89 hl (by decide) rfl (fun ls hl => ?_)
              refine lv_iconst (v := nI 0) hx hb dX4_resistance_91 (by decide) ?_
              refine lv_istore (lv' := [(6, .int (nI 0)), (5, .int (nI (gM z (nI tm) ja))), (0, .ref (ad (20, 0))), (1, .int (nI ja)), (2, .int (nI jb)), (3, .int (nI tm)), (4, .int f)]) hx hb dX4_resistance_92 hl (by decide) rfl (fun ls hl => ?_)
              have K94 : ∀ (nn : Nat), ∀ (i : Nat), (i ≤ nN z) → nN z - i < nn → ∀ (H : Heap) (locs : List Loc) (ls : Array Slot), xW D A ad (wU fB (wR y ad (nI 0) w ((rsS (gM z (nI tm) ja) jb i).1) ((mQ (fun _ _ => 0))) ((fun _ => 0)) qi qn qf (nI ((rsS (gM z (nI tm) ja) jb i).2)) qd) fO) H → va_S A Hs H locs → lv_has ls 8 [(6, .int (nI i)), (5, .int (nI (gM z (nI tm) ja))), (1, .int (nI ja)), (2, .int (nI jb)), (3, .int (nI tm)), (4, .int f), (0, .ref (ad (20, 0)))] → W p l e R s m args below meth c H locs 0 0 Q (F0 m 94 ls []) := by
                intro nn
                induction nn with
                | zero => intro i hi h; exact absurd h (Nat.not_lt_zero _)
                | succ nn ih94 =>
                  intro i hi hn94 H locs ls hP hS hl
                  refine lv_iload hx hb dX4_resistance_94 (lv_at hl 0 rfl) ?_
                  refine lv_aload_n hx hb dX4_resistance_96 rfl (lv_at hl 6 rfl) ?_
                  refine fg_X4_nodes hx hb hts hown hE hP q_729 dX4_resistance_97 ?_
                  refine xt_i (congrArg nI hq.N) ?_
                  refine lv_icmp_ge (tgt := 149) hx hb dX4_resistance_100 (by decide) (fun c100 => ?_) (fun c100 => ?_)
                  · skip
                    have c100 := ni_le (a := (nN z)) (b := i) (by omega) (by omega) c100
                    have hrn : rN z (gM z (nI tm) ja) jb ≤ 7 := rN_7 hw _ hjb
                    have hpq : plQ (rP z (gM z (nI tm) ja) jb) (rN z (gM z (nI tm) ja) jb) := rs_pl _ _ _
                    refine lv_iconst (v := nI 0) hx hb dX4_resistance_149 (by decide) ?_
                    refine lv_istore (lv' := [(6, .int (nI 0)), (5, .int (nI (gM z (nI tm) ja))), (1, .int (nI ja)), (2, .int (nI jb)), (3, .int (nI tm)), (4, .int f), (0, .ref (ad (20, 0)))]) hx hb dX4_resistance_150 hl (by decide) rfl (fun ls hl => ?_)
                    have K152 : ∀ (nn : Nat), ∀ (i : Nat), (i ≤ nE z) → nE z - i < nn → ∀ (H : Heap) (locs : List Loc) (ls : Array Slot), xW D A ad (wU fB (wR y ad (nI 0) w (rP z (gM z (nI tm) ja) jb) (mQ (rsM z w (nI tm) (gM z (nI tm) ja) jb i).1) ((rsM z w (nI tm) (gM z (nI tm) ja) jb i).2) qi qn qf (nI (rN z (gM z (nI tm) ja) jb)) qd) fO) H → va_S A Hs H locs → lv_has ls 8 [(6, .int (nI i)), (5, .int (nI (gM z (nI tm) ja))), (1, .int (nI ja)), (2, .int (nI jb)), (3, .int (nI tm)), (4, .int f), (0, .ref (ad (20, 0)))] → W p l e R s m args below meth c H locs 0 0 Q (F0 m 152 ls []) := by
                      intro nn
                      induction nn with
                      | zero => intro i hi h; exact absurd h (Nat.not_lt_zero _)
                      | succ nn ih152 =>
                        intro i hi hn152 H locs ls hP hS hl
                        refine lv_iload hx hb dX4_resistance_152 (lv_at hl 0 rfl) ?_
                        refine lv_aload_n hx hb dX4_resistance_154 rfl (lv_at hl 6 rfl) ?_
                        refine fg_X4_elements hx hb hts hown hE hP q_732 dX4_resistance_155 ?_
                        refine xt_i (congrArg nI hq.E) ?_
                        refine lv_icmp_ge (tgt := 245) hx hb dX4_resistance_158 (by decide) (fun c158 => ?_) (fun c158 => ?_)
                        · skip
                          have c158 := ni_le (a := (nE z)) (b := i) (by omega) (by omega) c158
                          rw [show i = nE z by omega] at hP
                          refine lv_iconst (v := nI 0) hx hb dX4_resistance_245 (by decide) ?_
                          refine lv_istore (lv' := [(6, .int (nI 0)), (5, .int (nI (gM z (nI tm) ja))), (1, .int (nI ja)), (2, .int (nI jb)), (3, .int (nI tm)), (4, .int f), (0, .ref (ad (20, 0)))]) hx hb dX4_resistance_246 hl (by decide) rfl (fun ls hl => ?_)
                          have K248 : ∀ (nn : Nat), ∀ (k : Nat) (rr9 : Nat → Int64), (k ≤ rN z (gM z (nI tm) ja) jb) → (∀ r, r < k → rr9 r = if nI r = (rP z (gM z (nI tm) ja) jb) ja then 1 else 0) → rN z (gM z (nI tm) ja) jb - k < nn → ∀ (H : Heap) (locs : List Loc) (ls : Array Slot), xW D A ad (wU fB (wR y ad (nI 0) w (rP z (gM z (nI tm) ja) jb) (mQ (rsM z w (nI tm) (gM z (nI tm) ja) jb (nE z)).1) rr9 qi qn qf (nI (rN z (gM z (nI tm) ja) jb)) qd) fO) H → va_S A Hs H locs → lv_has ls 8 [(6, .int (nI k)), (1, .int (nI ja)), (2, .int (nI jb)), (3, .int (nI tm)), (4, .int f), (0, .ref (ad (20, 0)))] → W p l e R s m args below meth c H locs 0 0 Q (F0 m 248 ls []) := by
                            intro nn
                            induction nn with
                            | zero => intro k rr9 hk8 hrr h; exact absurd h (Nat.not_lt_zero _)
                            | succ nn ih248 =>
                              intro k rr9 hk8 hrr hn248 H locs ls hP hS hl
                              refine lv_iload hx hb dX4_resistance_248 (lv_at hl 0 rfl) ?_
                              refine lv_aload_n hx hb dX4_resistance_250 rfl (lv_at hl 5 rfl) ?_
                              refine fg_X4_unknown hx hb hts hown hE hP q_740 dX4_resistance_251 ?_
                              refine lv_icmp_ge (tgt := 286) hx hb dX4_resistance_254 (by decide) (fun c254 => ?_) (fun c254 => ?_)
                              · skip
                                have c254 := ni_le (a := (rN z (gM z (nI tm) ja) jb)) (b := k) (by omega) (by omega) c254
                                refine lv_aload_n hx hb dX4_resistance_286 rfl (lv_at hl 5 rfl) ?_
                                refine lv_iconst (v := (-1)) hx hb dX4_resistance_287 (by decide) ?_
                                refine xw_callV (C := "NetlistBenchModel") (n := 1) [.int ((-1))] (c_X4_determinant l hP hrn (-1)) hx hb hml hown hts hE hS (xw_recv hE hP (20, 0) rfl rfl) rfl rfl q_48 q_904 q_907 q_906 q_38 (by decide) rfl ⟨by rw [hRf]; decide, by rw [hRl]; decide⟩ hl.1 rfl (Nat.le_of_ble_eq_true rfl) dX4_resistance_288 ⟨by rw [hRc]; decide, by rw [hRs]; decide⟩ (fun v H1 locs hp hS => ?_)
                                obtain ⟨qj, hv, hP⟩ := hp; subst hv
                                generalize H1 = H at hP hS ⊢
                                refine xt_l (w := dm (dR z (nI tm) ja jb) (dN z (nI tm) jb) (2 ^ dN z (nI tm) jb - 1)) ((dm_rr hrn (fun r hr => hrr r (by omega)) _).trans (br_rd hw _ hja hjb hgg)) ?_
                                refine lv_lstore (lv' := [(6, .long (dm (dR z (nI tm) ja jb) (dN z (nI tm) jb) (2 ^ dN z (nI tm) jb - 1))), (1, .int (nI ja)), (2, .int (nI jb)), (3, .int (nI tm)), (4, .int f), (0, .ref (ad (20, 0)))]) hx hb dX4_resistance_291 hl (by decide) rfl (fun ls hl => ?_)
                                refine lv_aload_n hx hb dX4_resistance_293 rfl (lv_at hl 5 rfl) ?_
                                refine lv_aload_n hx hb dX4_resistance_294 rfl (lv_at hl 5 rfl) ?_
                                refine fg_X4_places hx hb hts hown hE hP q_741 dX4_resistance_295 ?_
                                refine lv_iload_n hx hb dX4_resistance_298 rfl (lv_at hl 1 rfl) ?_
                                refine al_qplaces hx hb hE hP (j := ja) (by omega) dX4_resistance_299 ?_
                                refine xw_callV (C := "NetlistBenchModel") (n := 1) [.int ((rP z (gM z (nI tm) ja) jb) ja)] (c_X4_determinant l hP hrn ((rP z (gM z (nI tm) ja) jb) ja)) hx hb hml hown hts hE hS (xw_recv hE hP (20, 0) rfl rfl) rfl rfl q_48 q_904 q_907 q_906 q_38 (by decide) rfl ⟨by rw [hRf]; decide, by rw [hRl]; decide⟩ hl.1 rfl (Nat.le_of_ble_eq_true rfl) dX4_resistance_300 ⟨by rw [hRc]; decide, by rw [hRs]; decide⟩ (fun v H1 locs hp hS => ?_)
                                obtain ⟨qj2, hv, hP⟩ := hp; subst hv
                                generalize H1 = H at hP hS ⊢
                                refine xt_l (w := upV (dP z (nI tm) jb) (fun _ => 0) (dm (dR z (nI tm) ja jb) (dN z (nI tm) jb)) (dN z (nI tm) jb) ja) ((dm_rr hrn (fun r hr => hrr r (by omega)) _).trans (br_rn hw _ hja hjb c65 hgg)) ?_
                                refine lv_lload hx hb dX4_resistance_303 (lv_at hl 0 rfl) ?_
                                refine lv_iload hx hb dX4_resistance_305 (lv_at hl 4 rfl) ?_
                                refine xw_callS (n := 3) [.long (upV (dP z (nI tm) jb) (fun _ => 0) (dm (dR z (nI tm) ja jb) (dN z (nI tm) jb)) (dN z (nI tm) jb) ja), .long (dm (dR z (nI tm) ja jb) (dN z (nI tm) jb) (2 ^ dN z (nI tm) jb - 1)), .int f] (c_X4_part l (upV (dP z (nI tm) jb) (fun _ => 0) (dm (dR z (nI tm) ja jb) (dN z (nI tm) jb)) (dN z (nI tm) jb) ja) (dm (dR z (nI tm) ja jb) (dN z (nI tm) jb) (2 ^ dN z (nI tm) jb - 1)) f (gcdW_ne (hk _ _ _ hja hjb hgg).1 (hk _ _ _ hja hjb hgg).2)) hx hb hml hown hts hE hS rfl rfl q_48 q_909 q_911 q_910 (by decide) rfl ⟨by rw [hRf]; decide, by rw [hRl]; decide⟩ hl.1 rfl (Nat.le_of_ble_eq_true rfl) dX4_resistance_307 ⟨by rw [hRc]; decide, by rw [hRs]; decide⟩ (fun v H1 locs hp hS => ?_)
                                obtain ⟨hv, hh⟩ := hp; subst hv; subst hh
                                refine xt_l (w := ptF (upV (dP z (nI tm) jb) (fun _ => 0) (dm (dR z (nI tm) ja jb) (dN z (nI tm) jb)) (dN z (nI tm) jb) ja) (dm (dR z (nI tm) ja jb) (dN z (nI tm) jb) (2 ^ dN z (nI tm) jb - 1)) f) (pt_eq (hk _ _ _ hja hjb hgg).1 (hk _ _ _ hja hjb hgg).2 f) ?_
                                have eT : tRst z (nI ja) (nI jb) (nI tm) = 0 := by rw [tRst, if_neg (not_not_intro c6), if_neg (not_not_intro c14), if_neg (not_not_intro c25), cl_nI (by omega), cl_nI (by omega), if_neg b43]
                                exact xe_lret hQ hx hb hr hlocks hH hS (Nat.le_refl _) (Nat.le_refl _) (⟨_, rfl, fun _ => by rw [rRst, cl_nI (by omega), cl_nI (by omega)], by rw [eT]; exact hP.R hq⟩) dX4_resistance_310
                              · skip
                                have c254 := ni_nle (a := (rN z (gM z (nI tm) ja) jb)) (b := k) (by omega) (by omega) c254
                                refine lv_aload_n hx hb dX4_resistance_257 rfl (lv_at hl 5 rfl) ?_
                                refine fg_X4_right hx hb hts hown hE hP q_743 dX4_resistance_258 ?_
                                refine lv_iload hx hb dX4_resistance_261 (lv_at hl 0 rfl) ?_
                                refine lv_iload hx hb dX4_resistance_263 (lv_at hl 0 rfl) ?_
                                refine lv_aload_n hx hb dX4_resistance_265 rfl (lv_at hl 5 rfl) ?_
                                refine fg_X4_places hx hb hts hown hE hP q_741 dX4_resistance_266 ?_
                                refine lv_iload_n hx hb dX4_resistance_269 rfl (lv_at hl 1 rfl) ?_
                                refine al_qplaces hx hb hE hP (j := ja) (by omega) dX4_resistance_270 ?_
                                refine lv_icmp_ne (tgt := 278) hx hb dX4_resistance_271 (by decide) (fun c271 => ?_) (fun c271 => ?_)
                                · skip
                                  refine lv_lconst (v := 0) hx hb dX4_resistance_278 (by decide) ?_
                                  refine as_right hx hb hE hS hP (j := k) (by omega) dX4_resistance_279 (fun H locs hP hS => ?_)
                                  refine lv_iinc (v := nI (k + 1)) (lv' := [(6, .int (nI (k + 1))), (1, .int (nI ja)), (2, .int (nI jb)), (3, .int (nI tm)), (4, .int f), (0, .ref (ad (20, 0)))]) hx hb dX4_resistance_280 hl (k := 0) rfl (nI_1 _) (by decide) rfl (fun ls hl => ?_)
                                  refine lv_goto (tgt := 248) hx hb dX4_resistance_283 (by decide) ?_
                                  exact ih248 (k + 1) (vp_updL rr9 k 0) (by omega) (updL_to hrr (by first | exact (if_pos c271).symm | exact (if_neg c271).symm)) (by omega) _ _ _ hP hS (lv_sub hl [0, 1, 2, 3, 4, 5] rfl)
                                · skip
                                  refine lv_lconst (v := 1) hx hb dX4_resistance_274 (by decide) ?_
                                  refine lv_goto (tgt := 279) hx hb dX4_resistance_275 (by decide) ?_
                                  refine as_right hx hb hE hS hP (j := k) (by omega) dX4_resistance_279 (fun H locs hP hS => ?_)
                                  refine lv_iinc (v := nI (k + 1)) (lv' := [(6, .int (nI (k + 1))), (1, .int (nI ja)), (2, .int (nI jb)), (3, .int (nI tm)), (4, .int f), (0, .ref (ad (20, 0)))]) hx hb dX4_resistance_280 hl (k := 0) rfl (nI_1 _) (by decide) rfl (fun ls hl => ?_)
                                  refine lv_goto (tgt := 248) hx hb dX4_resistance_283 (by decide) ?_
                                  exact ih248 (k + 1) (vp_updL rr9 k 1) (by omega) (updL_to hrr (by first | exact (if_pos c271).symm | exact (if_neg c271).symm)) (by omega) _ _ _ hP hS (lv_sub hl [0, 1, 2, 3, 4, 5] rfl)
                          exact K248 _ 0 ((rsM z w (nI tm) (gM z (nI tm) ja) jb (nE z)).2) (by omega) no_lt (Nat.lt_succ_self _) _ _ _ hP hS (lv_sub hl [0, 2, 3, 4, 5, 6] rfl)
                        · skip
                          have c158 := ni_nle (a := (nE z)) (b := i) (by omega) (by omega) c158
                          have ha8 : cA z i < nN z := hw.a8 (i := i) (by omega)
                          have hb8 : cB z i < nN z := hw.b8 (i := i) (by omega)
                          refine lv_aload_n hx hb dX4_resistance_161 rfl (lv_at hl 6 rfl) ?_
                          refine lv_iload hx hb dX4_resistance_162 (lv_at hl 0 rfl) ?_
                          refine lv_iload_n hx hb dX4_resistance_164 rfl (lv_at hl 4 rfl) ?_
                          refine xw_callV (C := "NetlistBenchModel") (n := 2) [.int (nI i), .int (nI tm)] (c_X4_conducts l hP hq hw (by omega) htm) hx hb hml hown hts hE hS (xw_recv hE hP (20, 0) rfl rfl) rfl rfl q_48 q_876 q_879 q_878 q_33 (by decide) rfl ⟨by rw [hRf]; decide, by rw [hRl]; decide⟩ hl.1 rfl (Nat.le_of_ble_eq_true rfl) dX4_resistance_165 ⟨by rw [hRc]; decide, by rw [hRs]; decide⟩ (fun v H1 locs hp hS => ?_)
                          obtain ⟨hv, hh⟩ := hp; subst hv; subst hh
                          refine lv_if_eq (tgt := 239) hx hb dX4_resistance_168 (by decide) (fun c168 => ?_) (fun c168 => ?_)
                          · skip
                            have c168 := b_f c168
                            refine lv_iinc (v := nI (i + 1)) (lv' := [(6, .int (nI (i + 1))), (5, .int (nI (gM z (nI tm) ja))), (1, .int (nI ja)), (2, .int (nI jb)), (3, .int (nI tm)), (4, .int f), (0, .ref (ad (20, 0)))]) hx hb dX4_resistance_239 hl (k := 0) rfl (nI_1 _) (by decide) rfl (fun ls hl => ?_)
                            refine lv_goto (tgt := 152) hx hb dX4_resistance_242 (by decide) ?_
                            exact ih152 (i + 1) (by omega) (by omega) _ _ _ (by first | (rw [rsM_0 (fun h => c168 h.1)]; exact hP) | (rw [rsM_0 (fun h => h.2 b183)]; exact hP) | (rw [rsM_1 c168 b183]; exact hP)) hS (lv_sub hl [0, 1, 2, 3, 4, 5, 6] rfl)
                          · skip
                            have c168 := b_t c168
                            refine lv_iload hx hb dX4_resistance_171 (lv_at hl 1 rfl) ?_
                            refine lv_aload_n hx hb dX4_resistance_173 rfl (lv_at hl 6 rfl) ?_
                            refine fg_X4_as hx hb hts hown hE hP q_734 dX4_resistance_174 ?_
                            refine lv_iload hx hb dX4_resistance_177 (lv_at hl 0 rfl) ?_
                            refine al_as hx hb hE hP (j := i) (by omega) dX4_resistance_179 ?_
                            refine xt_i (hq.a hw (by first | assumption | omega)) ?_
                            refine lv_ishr hx hb dX4_resistance_180 ?_
                            refine lv_iconst (v := nI 1) hx hb dX4_resistance_181 (by decide) ?_
                            refine lv_iand hx hb dX4_resistance_182 ?_
                            refine lv_if_ne (tgt := 189) hx hb dX4_resistance_183 (by decide) (fun c183 => ?_) (fun c183 => ?_)
                            · skip
                              have b183 : ¬ (gM z (nI tm) ja) / 2 ^ cA z i % 2 = 0 := mt (m_bit _ hg8 _ (by omega)).mpr c183
                              refine lv_aload_n hx hb dX4_resistance_189 rfl (lv_at hl 6 rfl) ?_
                              refine lv_aload_n hx hb dX4_resistance_190 rfl (lv_at hl 6 rfl) ?_
                              refine fg_X4_as hx hb hts hown hE hP q_734 dX4_resistance_191 ?_
                              refine lv_iload hx hb dX4_resistance_194 (lv_at hl 0 rfl) ?_
                              refine al_as hx hb hE hP (j := i) (by omega) dX4_resistance_196 ?_
                              refine xt_i (hq.a hw (by first | assumption | omega)) ?_
                              refine lv_aload_n hx hb dX4_resistance_197 rfl (lv_at hl 6 rfl) ?_
                              refine fg_X4_bs hx hb hts hown hE hP q_735 dX4_resistance_198 ?_
                              refine lv_iload hx hb dX4_resistance_201 (lv_at hl 0 rfl) ?_
                              refine al_bs hx hb hE hP (j := i) (by omega) dX4_resistance_203 ?_
                              refine xt_i (hq.b hw (by first | assumption | omega)) ?_
                              refine lv_aload_n hx hb dX4_resistance_204 rfl (lv_at hl 6 rfl) ?_
                              refine fg_X4_sizes hx hb hts hown hE hP q_736 dX4_resistance_205 ?_
                              refine lv_iload hx hb dX4_resistance_208 (lv_at hl 0 rfl) ?_
                              refine al_sizes hx hb hE hP (j := i) (by omega) dX4_resistance_210 ?_
                              refine xt_i (hq.z (by first | assumption | omega)) ?_
                              refine xw_callV (C := "NetlistBenchModel") (n := 3) [.int (nI (cA z i)), .int (nI (cB z i)), .int (eZ z i)] (c_X4_lay l hP (by omega) hpq (by omega) (by omega) (eZ z i)) hx hb hml hown hts hE hS (xw_recv hE hP (20, 0) rfl rfl) rfl rfl q_48 q_900 q_903 q_902 q_37 (by decide) rfl ⟨by rw [hRf]; decide, by rw [hRl]; decide⟩ hl.1 rfl (Nat.le_of_ble_eq_true rfl) dX4_resistance_211 ⟨by rw [hRc]; decide, by rw [hRs]; decide⟩ (fun v H1 locs hp hS => ?_)
                              obtain ⟨hv, hP⟩ := hp; subst hv
                              generalize H1 = H at hP hS ⊢
                              refine lv_aload_n hx hb dX4_resistance_214 rfl (lv_at hl 6 rfl) ?_
                              refine lv_aload_n hx hb dX4_resistance_215 rfl (lv_at hl 6 rfl) ?_
                              refine fg_X4_bs hx hb hts hown hE hP q_735 dX4_resistance_216 ?_
                              refine lv_iload hx hb dX4_resistance_219 (lv_at hl 0 rfl) ?_
                              refine al_bs hx hb hE hP (j := i) (by omega) dX4_resistance_221 ?_
                              refine xt_i (hq.b hw (by first | assumption | omega)) ?_
                              refine lv_aload_n hx hb dX4_resistance_222 rfl (lv_at hl 6 rfl) ?_
                              refine fg_X4_as hx hb hts hown hE hP q_734 dX4_resistance_223 ?_
                              refine lv_iload hx hb dX4_resistance_226 (lv_at hl 0 rfl) ?_
                              refine al_as hx hb hE hP (j := i) (by omega) dX4_resistance_228 ?_
                              refine xt_i (hq.a hw (by first | assumption | omega)) ?_
                              refine lv_aload_n hx hb dX4_resistance_229 rfl (lv_at hl 6 rfl) ?_
                              refine fg_X4_sizes hx hb hts hown hE hP q_736 dX4_resistance_230 ?_
                              refine lv_iload hx hb dX4_resistance_233 (lv_at hl 0 rfl) ?_
                              refine al_sizes hx hb hE hP (j := i) (by omega) dX4_resistance_235 ?_
                              refine xt_i (hq.z (by first | assumption | omega)) ?_
                              refine xw_callV (C := "NetlistBenchModel") (n := 3) [.int (nI (cB z i)), .int (nI (cA z i)), .int (eZ z i)] (c_X4_lay l hP (by omega) hpq (by omega) (by omega) (eZ z i)) hx hb hml hown hts hE hS (xw_recv hE hP (20, 0) rfl rfl) rfl rfl q_48 q_900 q_903 q_902 q_37 (by decide) rfl ⟨by rw [hRf]; decide, by rw [hRl]; decide⟩ hl.1 rfl (Nat.le_of_ble_eq_true rfl) dX4_resistance_236 ⟨by rw [hRc]; decide, by rw [hRs]; decide⟩ (fun v H1 locs hp hS => ?_)
                              obtain ⟨hv, hP⟩ := hp; subst hv
                              generalize H1 = H at hP hS ⊢
                              refine lv_iinc (v := nI (i + 1)) (lv' := [(6, .int (nI (i + 1))), (5, .int (nI (gM z (nI tm) ja))), (1, .int (nI ja)), (2, .int (nI jb)), (3, .int (nI tm)), (4, .int f), (0, .ref (ad (20, 0)))]) hx hb dX4_resistance_239 hl (k := 0) rfl (nI_1 _) (by decide) rfl (fun ls hl => ?_)
                              refine lv_goto (tgt := 152) hx hb dX4_resistance_242 (by decide) ?_
                              exact ih152 (i + 1) (by omega) (by omega) _ _ _ (by first | (rw [rsM_0 (fun h => c168 h.1)]; exact hP) | (rw [rsM_0 (fun h => h.2 b183)]; exact hP) | (rw [rsM_1 c168 b183]; exact hP)) hS (lv_sub hl [0, 1, 2, 3, 4, 5, 6] rfl)
                            · skip
                              have b183 : (gM z (nI tm) ja) / 2 ^ cA z i % 2 = 0 := (m_bit _ hg8 _ (by omega)).mp (Classical.not_not.mp (fun g => g c183))
                              refine lv_goto (tgt := 239) hx hb dX4_resistance_186 (by decide) ?_
                              refine lv_iinc (v := nI (i + 1)) (lv' := [(6, .int (nI (i + 1))), (5, .int (nI (gM z (nI tm) ja))), (1, .int (nI ja)), (2, .int (nI jb)), (3, .int (nI tm)), (4, .int f), (0, .ref (ad (20, 0)))]) hx hb dX4_resistance_239 hl (k := 0) rfl (nI_1 _) (by decide) rfl (fun ls hl => ?_)
                              refine lv_goto (tgt := 152) hx hb dX4_resistance_242 (by decide) ?_
                              exact ih152 (i + 1) (by omega) (by omega) _ _ _ (by first | (rw [rsM_0 (fun h => c168 h.1)]; exact hP) | (rw [rsM_0 (fun h => h.2 b183)]; exact hP) | (rw [rsM_1 c168 b183]; exact hP)) hS (lv_sub hl [0, 1, 2, 3, 4, 5, 6] rfl)
                    exact K152 _ 0 (by omega) (Nat.lt_succ_self _) _ _ _ (by rw [show i = nN z by omega] at hP; exact hP) hS (lv_sub hl [0, 1, 2, 3, 4, 5, 6] rfl)
                  · skip
                    have c100 := ni_nle (a := (nN z)) (b := i) (by omega) (by omega) c100
                    refine lv_iload hx hb dX4_resistance_103 (lv_at hl 1 rfl) ?_
                    refine lv_iload hx hb dX4_resistance_105 (lv_at hl 0 rfl) ?_
                    refine lv_ishr hx hb dX4_resistance_107 ?_
                    refine lv_iconst (v := nI 1) hx hb dX4_resistance_108 (by decide) ?_
                    refine lv_iand hx hb dX4_resistance_109 ?_
                    refine lv_if_eq (tgt := 143) hx hb dX4_resistance_110 (by decide) (fun c110 => ?_) (fun c110 => ?_)
                    · skip
                      have b110 : (gM z (nI tm) ja) / 2 ^ i % 2 = 0 := (m_bit _ hg8 i (by omega)).mp c110
                      refine lv_iinc (v := nI (i + 1)) (lv' := [(6, .int (nI (i + 1))), (5, .int (nI (gM z (nI tm) ja))), (1, .int (nI ja)), (2, .int (nI jb)), (3, .int (nI tm)), (4, .int f), (0, .ref (ad (20, 0)))]) hx hb dX4_resistance_143 hl (k := 0) rfl (nI_1 _) (by decide) rfl (fun ls hl => ?_)
                      refine lv_goto (tgt := 94) hx hb dX4_resistance_146 (by decide) ?_
                      exact ih94 (i + 1) (by omega) (by omega) _ _ _ (by first | (rw [rs_0 (Or.inl b110)]; exact hP) | (rw [rs_0 (Or.inr c116)]; exact hP) | (rw [rs_1 (by rintro (g | g); exact b110 g; exact c116 g)]; exact hP)) hS (lv_sub hl [0, 1, 2, 3, 4, 5, 6] rfl)
                    · skip
                      have b110 : ¬ (gM z (nI tm) ja) / 2 ^ i % 2 = 0 := mt (m_bit _ hg8 i (by omega)).mpr c110
                      refine lv_iload hx hb dX4_resistance_113 (lv_at hl 0 rfl) ?_
                      refine lv_iload_n hx hb dX4_resistance_115 rfl (lv_at hl 3 rfl) ?_
                      refine lv_icmp_ne (tgt := 122) hx hb dX4_resistance_116 (by decide) (fun c116 => ?_) (fun c116 => ?_)
                      · skip
                        have c116 := ni_ne (a := i) (b := jb) (by omega) (by omega) c116
                        have hrl := (rs_le (gM z (nI tm) ja) jb i).1
                        refine lv_aload_n hx hb dX4_resistance_122 rfl (lv_at hl 6 rfl) ?_
                        refine fg_X4_places hx hb hts hown hE hP q_741 dX4_resistance_123 ?_
                        refine lv_iload hx hb dX4_resistance_126 (lv_at hl 0 rfl) ?_
                        refine lv_aload_n hx hb dX4_resistance_128 rfl (lv_at hl 6 rfl) ?_
                        refine fg_X4_unknown hx hb hts hown hE hP q_740 dX4_resistance_129 ?_
                        refine as_qplaces hx hb hE hS hP (j := i) (by omega) dX4_resistance_132 (fun H locs hP hS => ?_)
                        refine lv_aload_n hx hb dX4_resistance_133 rfl (lv_at hl 6 rfl) ?_
                        refine lv_dup hx hb dX4_resistance_134 rfl ?_
                        refine fg_X4_unknown hx hb hts hown hE hP q_740 dX4_resistance_135 ?_
                        refine lv_iconst (v := nI 1) hx hb dX4_resistance_138 (by decide) ?_
                        refine lv_iadd hx hb dX4_resistance_139 ?_
                        refine xt_i (nI_add ((rsS (gM z (nI tm) ja) jb i).2) 1) ?_
                        refine fp_X4_unknown hx hb hts hown hE hS hP q_740 dX4_resistance_140 (fun H locs hP hS => ?_)
                        refine lv_iinc (v := nI (i + 1)) (lv' := [(6, .int (nI (i + 1))), (5, .int (nI (gM z (nI tm) ja))), (1, .int (nI ja)), (2, .int (nI jb)), (3, .int (nI tm)), (4, .int f), (0, .ref (ad (20, 0)))]) hx hb dX4_resistance_143 hl (k := 0) rfl (nI_1 _) (by decide) rfl (fun ls hl => ?_)
                        refine lv_goto (tgt := 94) hx hb dX4_resistance_146 (by decide) ?_
                        exact ih94 (i + 1) (by omega) (by omega) _ _ _ (by first | (rw [rs_0 (Or.inl b110)]; exact hP) | (rw [rs_0 (Or.inr c116)]; exact hP) | (rw [rs_1 (by rintro (g | g); exact b110 g; exact c116 g)]; exact hP)) hS (lv_sub hl [0, 1, 2, 3, 4, 5, 6] rfl)
                      · skip
                        have c116 := ni_eq (a := i) (b := jb) (by omega) (by omega) c116
                        refine lv_goto (tgt := 143) hx hb dX4_resistance_119 (by decide) ?_
                        refine lv_iinc (v := nI (i + 1)) (lv' := [(6, .int (nI (i + 1))), (5, .int (nI (gM z (nI tm) ja))), (1, .int (nI ja)), (2, .int (nI jb)), (3, .int (nI tm)), (4, .int f), (0, .ref (ad (20, 0)))]) hx hb dX4_resistance_143 hl (k := 0) rfl (nI_1 _) (by decide) rfl (fun ls hl => ?_)
                        refine lv_goto (tgt := 94) hx hb dX4_resistance_146 (by decide) ?_
                        exact ih94 (i + 1) (by omega) (by omega) _ _ _ (by first | (rw [rs_0 (Or.inl b110)]; exact hP) | (rw [rs_0 (Or.inr c116)]; exact hP) | (rw [rs_1 (by rintro (g | g); exact b110 g; exact c116 g)]; exact hP)) hS (lv_sub hl [0, 1, 2, 3, 4, 5, 6] rfl)
              exact K94 _ 0 (by omega) (Nat.lt_succ_self _) _ _ _ hP hS (lv_sub hl [0, 1, 3, 4, 5, 6, 2] rfl)
            · skip
              have c65 := ni_eq (a := ja) (b := jb) (by omega) (by omega) c65
              refine lv_iload hx hb dX4_resistance_68 (lv_at hl 4 rfl) ?_
              refine lv_if_eq (tgt := 77) hx hb dX4_resistance_70 (by decide) (fun c70 => ?_) (fun c70 => ?_)
              · skip
                refine lv_lconst (v := 1) hx hb dX4_resistance_77 (by decide) ?_
                have eT : tRst z (nI ja) (nI jb) (nI tm) = 0 := by rw [tRst, if_neg (not_not_intro c6), if_neg (not_not_intro c14), if_neg (not_not_intro c25), cl_nI (by omega), cl_nI (by omega), if_neg b43]
                exact xe_lret hQ hx hb hr hlocks hH hS (Nat.le_refl _) (Nat.le_refl _) (⟨_, rfl, fun _ => by rw [c65, rst_same hw hk hjb, if_pos c70], by rw [eT]; exact hP.R hq⟩) dX4_resistance_78
              · skip
                refine lv_lconst (v := 0) hx hb dX4_resistance_73 (by decide) ?_
                refine lv_goto (tgt := 78) hx hb dX4_resistance_74 (by decide) ?_
                have eT : tRst z (nI ja) (nI jb) (nI tm) = 0 := by rw [tRst, if_neg (not_not_intro c6), if_neg (not_not_intro c14), if_neg (not_not_intro c25), cl_nI (by omega), cl_nI (by omega), if_neg b43]
                exact xe_lret hQ hx hb hr hlocks hH hS (Nat.le_refl _) (Nat.le_refl _) (⟨_, rfl, fun _ => by rw [c65, rst_same hw hk hjb, if_neg c70], by rw [eT]; exact hP.R hq⟩) dX4_resistance_78
          · skip
            have c58 := ni_ne (a := 0) (b := 0) (by omega) (by omega) c58
            exfalso; omega
      · skip
        have c25 := b_f c25
        refine lv_iconst (v := nI 2) hx hb dX4_resistance_28 (by decide) ?_
        refine lv_goto (tgt := 51) hx hb dX4_resistance_29 (by decide) ?_
        refine fp_X4_thrown hx hb hts hown hE hS hP q_728 dX4_resistance_51 (fun H locs hP hS => ?_)
        refine lv_aload_n hx hb dX4_resistance_54 rfl (lv_at hl 0 rfl) ?_
        refine fg_X4_thrown hx hb hts hown hE hP q_728 dX4_resistance_55 ?_
        refine lv_if_eq (tgt := 63) hx hb dX4_resistance_58 (by decide) (fun c58 => ?_) (fun c58 => ?_)
        · skip
          have c58 := ni_eq (a := 2) (b := 0) (by omega) (by omega) c58
          exfalso; omega
        · skip
          have c58 := ni_ne (a := 2) (b := 0) (by omega) (by omega) c58
          refine lv_lconst (v := 0) hx hb dX4_resistance_61 (by decide) ?_
          have eT : tRst z (nI ja) (nI jb) t = nI 2 := by rw [tRst, if_neg (not_not_intro c6), if_neg (not_not_intro c14), if_pos c25]; rfl
          exact xe_lret hQ hx hb hr hlocks hH hS (Nat.le_refl _) (Nat.le_refl _) (⟨_, rfl, fun h => absurd (eT.symm.trans h) (by decide), by rw [eT]; exact hP.R hq⟩) dX4_resistance_62
    · skip
      have c14 := b_f c14
      refine lv_iconst (v := nI 1) hx hb dX4_resistance_17 (by decide) ?_
      refine lv_goto (tgt := 51) hx hb dX4_resistance_18 (by decide) ?_
      refine fp_X4_thrown hx hb hts hown hE hS hP q_728 dX4_resistance_51 (fun H locs hP hS => ?_)
      refine lv_aload_n hx hb dX4_resistance_54 rfl (lv_at hl 0 rfl) ?_
      refine fg_X4_thrown hx hb hts hown hE hP q_728 dX4_resistance_55 ?_
      refine lv_if_eq (tgt := 63) hx hb dX4_resistance_58 (by decide) (fun c58 => ?_) (fun c58 => ?_)
      · skip
        have c58 := ni_eq (a := 1) (b := 0) (by omega) (by omega) c58
        exfalso; omega
      · skip
        have c58 := ni_ne (a := 1) (b := 0) (by omega) (by omega) c58
        refine lv_lconst (v := 0) hx hb dX4_resistance_61 (by decide) ?_
        have eT : tRst z (nI ja) x2 t = nI 1 := by rw [tRst, if_neg (not_not_intro c6), if_pos c14]; rfl
        exact xe_lret hQ hx hb hr hlocks hH hS (Nat.le_refl _) (Nat.le_refl _) (⟨_, rfl, fun h => absurd (eT.symm.trans h) (by decide), by rw [eT]; exact hP.R hq⟩) dX4_resistance_62
