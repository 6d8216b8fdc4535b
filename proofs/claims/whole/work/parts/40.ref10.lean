set_option maxHeartbeats 4000000 in
set_option maxRecDepth 100000 in
theorem c_X4_probe (l : Launch) {D : va_G} {y : Nat → ClassId} {A : Nat → Prop} {ad : xL → Nat} {th : Int32} {w : xC} {qp : Nat → Int32} {qm : Nat → Int64} {qr : Nat → Int64} {qi : Nat → Int64} {qn : Nat → Int64} {qf : Nat → Int32} {qu : Int32} {qd : Int64} {fB fO : Nat → Nat → Option va_E} {Hs : Heap} (hP : xW D A ad (wU fB (wR y ad th w qp qm qr qi qn qf qu qd) fO) Hs) {z : xC} (hq : Rq z w) (hw : wf z) (hk : nOk z) (x f q m1 : Int32) : Met l yX4_probe (.code yX4_probe cX4_probe 12 (some .int) :: WG) { frames := 128, cells := 0, slots := 0, locals := 4470 } (xPc [.ref (ad (20, 0)), .int x, .int f, .int q, .int m1] D y Hs) (xQ (fun v H1 => ∃ r, v = some (.int r) ∧ (tPrb z x f q = 0 → r = rPrb z x f q m1) ∧ xRf D A y ad (z) fB fO (tPrb z x f q) H1) A) 0 0 A := by
  refine xM_go (by decide) (Nat.le_of_ble_eq_true rfl) (fun p e s m args below meth c ls R Q hx hb hr hlocks hml hown hts hH hE hnm hRf hRl hRc hRs hQ hS hl => ?_)
  have hRf : R.frames = 128 := hRf
  have hRl : R.locals = 4470 := hRl
  have hRc : R.cells = 0 := hRc
  have hRs : R.slots = 0 := hRs
  have hl : lv_has ls 12 [(0, .ref (ad (20, 0))), (1, .int x), (2, .int f), (3, .int q), (4, .int m1)] := hl
  have hN := hw.N
  have hE20 := hw.E
  refine lv_aload_n hx hb dX4_probe_0 rfl (lv_at hl 0 rfl) ?_
  refine lv_iconst (v := nI 0) hx hb dX4_probe_1 (by decide) ?_
  refine fp_X4_thrown hx hb hts hown hE hS hP q_728 dX4_probe_2 (fun H locs hP hS => ?_)
  refine lv_aload_n hx hb dX4_probe_5 rfl (lv_at hl 0 rfl) ?_
  refine lv_iload_n hx hb dX4_probe_6 rfl (lv_at hl 1 rfl) ?_
  refine xw_callV (C := "NetlistBenchModel") (n := 1) [.int x] (c_X4_isNode l hP hq hw x) hx hb hml hown hts hE hS (xw_recv hE hP (20, 0) rfl rfl) rfl rfl q_48 q_806 q_809 q_808 q_27 (by decide) rfl ⟨by rw [hRf]; decide, by rw [hRl]; decide⟩ hl.1 rfl (Nat.le_of_ble_eq_true rfl) dX4_probe_7 ⟨by rw [hRc]; decide, by rw [hRs]; decide⟩ (fun v H1 locs hp hS => ?_)
  obtain ⟨hv, hh⟩ := hp; subst hv; subst hh
  refine lv_if_ne (tgt := 19) hx hb dX4_probe_10 (by decide) (fun c10 => ?_) (fun c10 => ?_)
  · skip
    have c10 := b_t c10
    obtain ⟨j, hj, exj⟩ := nodeP_i hw c10
    subst exj
    refine lv_iload_n hx hb dX4_probe_19 rfl (lv_at hl 2 rfl) ?_
    refine xw_callS (n := 1) [.int f] (c_X4_isTime l f) hx hb hml hown hts hE hS rfl rfl q_48 q_861 q_863 q_862 (by decide) rfl ⟨by rw [hRf]; decide, by rw [hRl]; decide⟩ hl.1 rfl (Nat.le_of_ble_eq_true rfl) dX4_probe_20 ⟨by rw [hRc]; decide, by rw [hRs]; decide⟩ (fun v H1 locs hp hS => ?_)
    obtain ⟨hv, hh⟩ := hp; subst hv; subst hh
    refine lv_if_eq (tgt := 38) hx hb dX4_probe_23 (by decide) (fun c23 => ?_) (fun c23 => ?_)
    · skip
      have c23 := b_f c23
      refine lv_aload_n hx hb dX4_probe_38 rfl (lv_at hl 0 rfl) ?_
      refine lv_iconst (v := nI 2) hx hb dX4_probe_39 (by decide) ?_
      refine xw_callV (C := "NetlistBenchModel") (n := 1) [.int (nI 2)] (c_X4_fail l hP (nI 2)) hx hb hml hown hts hE hS (xw_recv hE hP (20, 0) rfl rfl) rfl rfl q_48 q_798 q_801 q_800 q_26 (by decide) rfl ⟨by rw [hRf]; decide, by rw [hRl]; decide⟩ hl.1 rfl (Nat.le_of_ble_eq_true rfl) dX4_probe_40 ⟨by rw [hRc]; decide, by rw [hRs]; decide⟩ (fun v H1 locs hp hS => ?_)
      obtain ⟨hv, hP⟩ := hp; subst hv
      generalize H1 = H at hP hS ⊢
      have eT : tPrb z (nI j) f q = (nI 2) := by rw [tPrb, if_neg (not_not_intro c10), if_pos c23]; rfl
      exact xe_iret hQ hx hb hr hlocks hH hS (Nat.le_refl _) (Nat.le_refl _) (⟨_, rfl, fun h => absurd (eT.symm.trans h) (by decide), by rw [eT]; exact hP.R hq⟩) dX4_probe_43
    · skip
      have c23 := b_t c23
      obtain ⟨tf, htf, ettf⟩ := timeP_i c23
      subst ettf
      refine lv_iload_n hx hb dX4_probe_26 rfl (lv_at hl 3 rfl) ?_
      refine xw_callS (n := 1) [.int q] (c_X4_isTime l q) hx hb hml hown hts hE hS rfl rfl q_48 q_861 q_863 q_862 (by decide) rfl ⟨by rw [hRf]; decide, by rw [hRl]; decide⟩ hl.1 rfl (Nat.le_of_ble_eq_true rfl) dX4_probe_27 ⟨by rw [hRc]; decide, by rw [hRs]; decide⟩ (fun v H1 locs hp hS => ?_)
      obtain ⟨hv, hh⟩ := hp; subst hv; subst hh
      refine lv_if_eq (tgt := 38) hx hb dX4_probe_30 (by decide) (fun c30 => ?_) (fun c30 => ?_)
      · skip
        have c30 := b_f c30
        refine lv_aload_n hx hb dX4_probe_38 rfl (lv_at hl 0 rfl) ?_
        refine lv_iconst (v := nI 2) hx hb dX4_probe_39 (by decide) ?_
        refine xw_callV (C := "NetlistBenchModel") (n := 1) [.int (nI 2)] (c_X4_fail l hP (nI 2)) hx hb hml hown hts hE hS (xw_recv hE hP (20, 0) rfl rfl) rfl rfl q_48 q_798 q_801 q_800 q_26 (by decide) rfl ⟨by rw [hRf]; decide, by rw [hRl]; decide⟩ hl.1 rfl (Nat.le_of_ble_eq_true rfl) dX4_probe_40 ⟨by rw [hRc]; decide, by rw [hRs]; decide⟩ (fun v H1 locs hp hS => ?_)
        obtain ⟨hv, hP⟩ := hp; subst hv
        generalize H1 = H at hP hS ⊢
        have eT : tPrb z (nI j) (nI tf) q = (nI 2) := by rw [tPrb, if_neg (not_not_intro c10), if_neg (not_not_intro c23), if_pos c30]; rfl
        exact xe_iret hQ hx hb hr hlocks hH hS (Nat.le_refl _) (Nat.le_refl _) (⟨_, rfl, fun h => absurd (eT.symm.trans h) (by decide), by rw [eT]; exact hP.R hq⟩) dX4_probe_43
      · skip
        have c30 := b_t c30
        obtain ⟨tq, htq, ettq⟩ := timeP_i c30
        subst ettq
        refine lv_iload_n hx hb dX4_probe_33 rfl (lv_at hl 3 rfl) ?_
        refine lv_iload_n hx hb dX4_probe_34 rfl (lv_at hl 2 rfl) ?_
        refine lv_icmp_ge (tgt := 44) hx hb dX4_probe_35 (by decide) (fun c35 => ?_) (fun c35 => ?_)
        · skip
          have c35 := ni_le (a := tf) (b := tq) (by omega) (by omega) c35
          refine lv_iconst (v := (-1)) hx hb dX4_probe_44 (by decide) ?_
          refine lv_istore (lv' := [(5, .int ((-1))), (0, .ref (ad (20, 0))), (1, .int (nI j)), (2, .int (nI tf)), (3, .int (nI tq)), (4, .int m1)]) hx hb dX4_probe_45 hl (by decide) rfl (fun ls hl => ?_)
          refine lv_lconst (v := 0) hx hb dX4_probe_47 (by decide) ?_
          refine lv_lstore (lv' := [(6, .long 0), (5, .int ((-1))), (0, .ref (ad (20, 0))), (1, .int (nI j)), (2, .int (nI tf)), (3, .int (nI tq)), (4, .int m1)]) hx hb dX4_probe_48 hl (by decide) rfl (fun ls hl => ?_)
          refine lv_lconst (v := 1) hx hb dX4_probe_50 (by decide) ?_
          refine lv_lstore (lv' := [(8, .long 1), (6, .long 0), (5, .int ((-1))), (0, .ref (ad (20, 0))), (1, .int (nI j)), (2, .int (nI tf)), (3, .int (nI tq)), (4, .int m1)]) hx hb dX4_probe_51 hl (by decide) rfl (fun ls hl => ?_)
          refine lv_iload_n hx hb dX4_probe_53 rfl (lv_at hl 5 rfl) ?_
          refine lv_istore (lv' := [(10, .int (nI tf)), (8, .long 1), (6, .long 0), (5, .int ((-1))), (0, .ref (ad (20, 0))), (1, .int (nI j)), (2, .int (nI tf)), (3, .int (nI tq)), (4, .int m1)]) hx hb dX4_probe_54 hl (by decide) rfl (fun ls hl => ?_)
          have K56 : ∀ (nn : Nat), ∀ (k : Nat) (t2 best : Int32) (u3 w3 : Int64) (qp qf : Nat → Int32) (qm qr qi qn : Nat → Int64) (qu : Int32) (qd : Int64), (k ≤ 1000) → (t2 = -1 ∨ ∃ tt, k ≤ tt ∧ tt ≤ 999 ∧ t2 = nI tt) → (best = -1 ∨ ∃ b, b ≤ 999 ∧ best = nI b) → (0 < w3) → (prS z j (nI tq) m1 (1000 - k) t2 best u3 w3 = prS z j (nI tq) m1 1000 (nI tf) (-1) 0 1) → 1000 - k < nn → ∀ (H : Heap) (locs : List Loc) (ls : Array Slot), xW D A ad (wU fB (wR y ad (nI 0) w qp qm qr qi qn qf qu qd) fO) H → va_S A Hs H locs → lv_has ls 12 [(10, .int t2), (8, .long w3), (6, .long u3), (5, .int best), (4, .int m1), (3, .int (nI tq)), (1, .int (nI j)), (0, .ref (ad (20, 0)))] → W p l e R s m args below meth c H locs 0 0 Q (F0 m 56 ls []) := by
            intro nn
            induction nn with
            | zero => intro k t2 best u3 w3 qp qf qm qr qi qn qu qd hk9 ht2 hbst hw3 hpr h; exact absurd h (Nat.not_lt_zero _)
            | succ nn ih56 =>
              intro k t2 best u3 w3 qp qf qm qr qi qn qu qd hk9 ht2 hbst hw3 hpr hn56 H locs ls hP hS hl
              refine lv_iload hx hb dX4_probe_56 (lv_at hl 0 rfl) ?_
              refine lv_iconst (v := (-1)) hx hb dX4_probe_58 (by decide) ?_
              refine lv_icmp_eq (tgt := 172) hx hb dX4_probe_59 (by decide) (fun c59 => ?_) (fun c59 => ?_)
              · skip
                refine lv_iload hx hb dX4_probe_172 (lv_at hl 3 rfl) ?_
                have eT : tPrb z (nI j) (nI tf) (nI tq) = 0 := by rw [tPrb, if_neg (not_not_intro c10), if_neg (not_not_intro c23), if_neg (not_not_intro c30), if_neg (nI_nlt c35 (by omega))]
                exact xe_iret hQ hx hb hr hlocks hH hS (Nat.le_refl _) (Nat.le_refl _) (⟨_, rfl, fun _ => by rw [rPrb, cl_nI (by omega), ← hpr]; exact (prS_e (Or.inl (by rw [c59]; decide))).symm, by rw [eT]; exact hP.R hq⟩) dX4_probe_174
              · skip
                obtain ⟨tt, hk1, htt, et2⟩ := ht2.resolve_left c59
                subst et2
                refine lv_iload hx hb dX4_probe_62 (lv_at hl 0 rfl) ?_
                refine lv_iload_n hx hb dX4_probe_64 rfl (lv_at hl 5 rfl) ?_
                refine lv_icmp_gt (tgt := 172) hx hb dX4_probe_65 (by decide) (fun c65 => ?_) (fun c65 => ?_)
                · skip
                  have c65 := ni_lt (a := tq) (b := tt) (by omega) (by omega) c65
                  refine lv_iload hx hb dX4_probe_172 (lv_at hl 3 rfl) ?_
                  have eT : tPrb z (nI j) (nI tf) (nI tq) = 0 := by rw [tPrb, if_neg (not_not_intro c10), if_neg (not_not_intro c23), if_neg (not_not_intro c30), if_neg (nI_nlt c35 (by omega))]
                  exact xe_iret hQ hx hb hr hlocks hH hS (Nat.le_refl _) (Nat.le_refl _) (⟨_, rfl, fun _ => by rw [rPrb, cl_nI (by omega), ← hpr]; exact (prS_e (Or.inr (nI_lt c65 (by omega)))).symm, by rw [eT]; exact hP.R hq⟩) dX4_probe_174
                · skip
                  have c65 := ni_nlt (a := tq) (b := tt) (by omega) (by omega) c65
                  have hnt : ¬ (nI tt < 0 ∨ nI tq < nI tt) := fun h => by rcases h with h | h; exact nI_pos (by omega) h; exact nI_nlt (a := tq) (b := tt) (by omega) (by omega) h
                  refine lv_aload_n hx hb dX4_probe_68 rfl (lv_at hl 7 rfl) ?_
                  refine lv_iload_n hx hb dX4_probe_69 rfl (lv_at hl 6 rfl) ?_
                  refine lv_iload hx hb dX4_probe_70 (lv_at hl 0 rfl) ?_
                  refine xw_callV (C := "NetlistBenchModel") (n := 2) [.int (nI j), .int (nI tt)] (c_X4_floatsAt l hP hq hw (by omega) htt) hx hb hml hown hts hE hS (xw_recv hE hP (20, 0) rfl rfl) rfl rfl q_48 q_884 q_887 q_886 q_34 (by decide) rfl ⟨by rw [hRf]; decide, by rw [hRl]; decide⟩ hl.1 rfl (Nat.le_of_ble_eq_true rfl) dX4_probe_72 ⟨by rw [hRc]; decide, by rw [hRs]; decide⟩ (fun v H1 locs hp hS => ?_)
                  obtain ⟨hv, hh⟩ := hp; subst hv; subst hh
                  refine lv_if_eq (tgt := 81) hx hb dX4_probe_75 (by decide) (fun c75 => ?_) (fun c75 => ?_)
                  · skip
                    refine lv_aload_n hx hb dX4_probe_81 rfl (lv_at hl 7 rfl) ?_
                    refine lv_iload hx hb dX4_probe_82 (lv_at hl 0 rfl) ?_
                    refine xw_callV (C := "NetlistBenchModel") (n := 1) [.int (nI tt)] (c_X4_solve l hP hq hw htt) hx hb hml hown hts hE hS (xw_recv hE hP (20, 0) rfl rfl) rfl rfl q_48 q_892 q_895 q_894 q_35 (by decide) rfl ⟨by rw [hRf]; decide, by rw [hRl]; decide⟩ hl.1 rfl (Nat.le_of_ble_eq_true rfl) dX4_probe_84 ⟨by rw [hRc]; decide, by rw [hRs]; decide⟩ (fun v H1 locs hp hS => ?_)
                    obtain ⟨qp9, qf9, qm9, qr9, qi9, qn9, qu9, hv, hnu, hP⟩ := hp; subst hv
                    generalize H1 = H at hP hS ⊢
                    refine lv_iload hx hb dX4_probe_87 (lv_at hl 3 rfl) ?_
                    refine lv_iconst (v := (-1)) hx hb dX4_probe_89 (by decide) ?_
                    refine lv_icmp_ne (tgt := 97) hx hb dX4_probe_90 (by decide) (fun c90 => ?_) (fun c90 => ?_)
                    · skip
                      have hbn : ¬ best < 0 := by rcases hbst with e | ⟨b, _, e⟩; exact absurd e c90; rw [e]; exact nI_pos (by omega)
                      refine lv_aload_n hx hb dX4_probe_97 rfl (lv_at hl 7 rfl) ?_
                      refine fg_X4_numerators hx hb hts hown hE hP q_746 dX4_probe_98 ?_
                      refine lv_iload_n hx hb dX4_probe_101 rfl (lv_at hl 6 rfl) ?_
                      refine al_numerators hx hb hE hP (j := j) (by omega) dX4_probe_102 ?_
                      refine xt_l (w := num z (nI tt) j) (((hnu j (by omega)).1.trans (br_nu hq hw _ (by omega) c75))) ?_
                      refine lv_aload_n hx hb dX4_probe_103 rfl (lv_at hl 7 rfl) ?_
                      refine fg_X4_denominator hx hb hts hown hE hP q_745 dX4_probe_104 ?_
                      refine xt_l (w := den z (nI tt)) (br_de hw _) ?_
                      refine lv_lload hx hb dX4_probe_107 (lv_at hl 2 rfl) ?_
                      refine lv_lload hx hb dX4_probe_109 (lv_at hl 1 rfl) ?_
                      refine xw_callS (n := 4) [.long (num z (nI tt) j), .long (den z (nI tt)), .long u3, .long w3] (c_X4_compared l 126 (num z (nI tt) j) (den z (nI tt)) u3 w3 (cpI_top (hk _).1 hw3)) hx hb hml hown hts hE hS rfl rfl q_48 q_948 q_950 q_949 (by decide) rfl ⟨by rw [hRf]; decide, by rw [hRl]; decide⟩ hl.1 rfl (Nat.le_of_ble_eq_true rfl) dX4_probe_111 ⟨by rw [hRc]; decide, by rw [hRs]; decide⟩ (fun v H1 locs hp hS => ?_)
                      obtain ⟨hv, hh⟩ := hp; subst hv; subst hh
                      refine xt_i (w := cfS 200 (num z (nI tt) j) (den z (nI tt)) u3 w3 1) (cp_top (hk _).1 hw3) ?_
                      refine lv_istore (lv' := [(11, .int (cfS 200 (num z (nI tt) j) (den z (nI tt)) u3 w3 1)), (10, .int (nI tt)), (8, .long w3), (6, .long u3), (5, .int best), (4, .int m1), (3, .int (nI tq)), (1, .int (nI j)), (0, .ref (ad (20, 0)))]) hx hb dX4_probe_114 hl (by decide) rfl (fun ls hl => ?_)
                      refine lv_iload hx hb dX4_probe_116 (lv_at hl 4 rfl) ?_
                      refine lv_iconst (v := (-1)) hx hb dX4_probe_118 (by decide) ?_
                      refine lv_icmp_eq (tgt := 143) hx hb dX4_probe_119 (by decide) (fun c119 => ?_) (fun c119 => ?_)
                      · skip
                        exact absurd c119 c90
                      · skip
                        refine lv_iload hx hb dX4_probe_122 (lv_at hl 5 rfl) ?_
                        refine lv_if_eq (tgt := 135) hx hb dX4_probe_124 (by decide) (fun c124 => ?_) (fun c124 => ?_)
                        · skip
                          refine lv_iload hx hb dX4_probe_135 (lv_at hl 0 rfl) ?_
                          refine lv_if_lt (tgt := 143) hx hb dX4_probe_137 (by decide) (fun c137 => ?_) (fun c137 => ?_)
                          · skip
                            refine lv_iload hx hb dX4_probe_143 (lv_at hl 1 rfl) ?_
                            refine lv_istore (lv' := [(5, .int (nI tt)), (11, .int (cfS 200 (num z (nI tt) j) (den z (nI tt)) u3 w3 1)), (10, .int (nI tt)), (8, .long w3), (6, .long u3), (4, .int m1), (3, .int (nI tq)), (1, .int (nI j)), (0, .ref (ad (20, 0)))]) hx hb dX4_probe_145 hl (by decide) rfl (fun ls hl => ?_)
                            refine lv_aload_n hx hb dX4_probe_147 rfl (lv_at hl 8 rfl) ?_
                            refine fg_X4_numerators hx hb hts hown hE hP q_746 dX4_probe_148 ?_
                            refine lv_iload_n hx hb dX4_probe_151 rfl (lv_at hl 7 rfl) ?_
                            refine al_numerators hx hb hE hP (j := j) (by omega) dX4_probe_152 ?_
                            refine xt_l (w := num z (nI tt) j) (((hnu j (by omega)).1.trans (br_nu hq hw _ (by omega) c75))) ?_
                            refine lv_lstore (lv' := [(6, .long (num z (nI tt) j)), (5, .int (nI tt)), (11, .int (cfS 200 (num z (nI tt) j) (den z (nI tt)) u3 w3 1)), (10, .int (nI tt)), (8, .long w3), (4, .int m1), (3, .int (nI tq)), (1, .int (nI j)), (0, .ref (ad (20, 0)))]) hx hb dX4_probe_153 hl (by decide) rfl (fun ls hl => ?_)
                            refine lv_aload_n hx hb dX4_probe_155 rfl (lv_at hl 8 rfl) ?_
                            refine fg_X4_denominator hx hb hts hown hE hP q_745 dX4_probe_156 ?_
                            refine xt_l (w := den z (nI tt)) (br_de hw _) ?_
                            refine lv_lstore (lv' := [(8, .long (den z (nI tt))), (6, .long (num z (nI tt) j)), (5, .int (nI tt)), (11, .int (cfS 200 (num z (nI tt) j) (den z (nI tt)) u3 w3 1)), (10, .int (nI tt)), (4, .int m1), (3, .int (nI tq)), (1, .int (nI j)), (0, .ref (ad (20, 0)))]) hx hb dX4_probe_159 hl (by decide) rfl (fun ls hl => ?_)
                            have K161 : ∀ (b3 : Int32) (u4 w4 : Int64) (qp qf : Nat → Int32) (qm qr qi qn : Nat → Int64) (qu : Int32) (qd : Int64), (prS z j (nI tq) m1 ((1000 - (k + 1)) + 1) (nI tt) best u3 w3 = prS z j (nI tq) m1 (1000 - (k + 1)) (ftS z (nI tt) (nE z)) b3 u4 w4) → (b3 = -1 ∨ ∃ b, b ≤ 999 ∧ b3 = nI b) → (0 < w4) → ∀ (H : Heap) (locs : List Loc) (ls : Array Slot), xW D A ad (wU fB (wR y ad (nI 0) w qp qm qr qi qn qf qu qd) fO) H → va_S A Hs H locs → lv_has ls 12 [(10, .int (nI tt)), (8, .long w4), (6, .long u4), (5, .int b3), (4, .int m1), (3, .int (nI tq)), (1, .int (nI j)), (0, .ref (ad (20, 0)))] → W p l e R s m args below meth c H locs 0 0 Q (F0 m 161 ls []) := by
                              intro b3 u4 w4 qp qf qm qr qi qn qu qd h161 hb3 hw4 H locs ls hP hS hl
                              refine lv_aload_n hx hb dX4_probe_161 rfl (lv_at hl 7 rfl) ?_
                              refine lv_iload hx hb dX4_probe_162 (lv_at hl 0 rfl) ?_
                              refine xw_callV (C := "NetlistBenchModel") (n := 1) [.int (nI tt)] (c_X4_toggleBehind l hP hq hw htt) hx hb hml hown hts hE hS (xw_recv hE hP (20, 0) rfl rfl) rfl rfl q_48 q_940 q_943 q_942 q_40 (by decide) rfl ⟨by rw [hRf]; decide, by rw [hRl]; decide⟩ hl.1 rfl (Nat.le_of_ble_eq_true rfl) dX4_probe_164 ⟨by rw [hRc]; decide, by rw [hRs]; decide⟩ (fun v H1 locs hp hS => ?_)
                              obtain ⟨hv, hh⟩ := hp; subst hv; subst hh
                              refine lv_istore (lv' := [(10, .int (ftS z (nI tt) (nE z))), (8, .long w4), (6, .long u4), (5, .int b3), (4, .int m1), (3, .int (nI tq)), (1, .int (nI j)), (0, .ref (ad (20, 0)))]) hx hb dX4_probe_167 hl (by decide) rfl (fun ls hl => ?_)
                              refine lv_goto (tgt := 56) hx hb dX4_probe_169 (by decide) ?_
                              exact ih56 (k + 1) (ftS z (nI tt) (nE z)) b3 u4 w4 qp qf qm qr qi qn qu qd (by omega) (by rcases ft_P hw htt with g | ⟨k2, a, b, e⟩; exact Or.inl g; exact Or.inr ⟨k2, by omega, b, e⟩) hb3 hw4 (by rw [← hpr, show 1000 - k = (1000 - (k + 1)) + 1 by omega]; exact h161.symm) (by omega) _ _ _ hP hS (lv_sub hl [0, 1, 2, 3, 4, 5, 6, 7] rfl)
                            exact K161 (nI tt) (num z (nI tt) j) (den z (nI tt)) qp9 qf9 qm9 qr9 qi9 qn9 qu9 (deR z w (nI tt)) (prS_t hnt ⟨c75, Or.inr (by rw [if_pos c124]; first | exact c137 | exact Int32.not_le.mp c137)⟩) (Or.inr ⟨tt, htt, rfl⟩) (hk _).1 _ _ _ hP hS (lv_sub hl [4, 0, 1, 2, 5, 6, 7, 8] rfl)
                          · skip
                            refine lv_goto (tgt := 161) hx hb dX4_probe_140 (by decide) ?_
                            have K161 : ∀ (b3 : Int32) (u4 w4 : Int64) (qp qf : Nat → Int32) (qm qr qi qn : Nat → Int64) (qu : Int32) (qd : Int64), (prS z j (nI tq) m1 ((1000 - (k + 1)) + 1) (nI tt) best u3 w3 = prS z j (nI tq) m1 (1000 - (k + 1)) (ftS z (nI tt) (nE z)) b3 u4 w4) → (b3 = -1 ∨ ∃ b, b ≤ 999 ∧ b3 = nI b) → (0 < w4) → ∀ (H : Heap) (locs : List Loc) (ls : Array Slot), xW D A ad (wU fB (wR y ad (nI 0) w qp qm qr qi qn qf qu qd) fO) H → va_S A Hs H locs → lv_has ls 12 [(10, .int (nI tt)), (8, .long w4), (6, .long u4), (5, .int b3), (4, .int m1), (3, .int (nI tq)), (1, .int (nI j)), (0, .ref (ad (20, 0)))] → W p l e R s m args below meth c H locs 0 0 Q (F0 m 161 ls []) := by
                              intro b3 u4 w4 qp qf qm qr qi qn qu qd h161 hb3 hw4 H locs ls hP hS hl
                              refine lv_aload_n hx hb dX4_probe_161 rfl (lv_at hl 7 rfl) ?_
                              refine lv_iload hx hb dX4_probe_162 (lv_at hl 0 rfl) ?_
                              refine xw_callV (C := "NetlistBenchModel") (n := 1) [.int (nI tt)] (c_X4_toggleBehind l hP hq hw htt) hx hb hml hown hts hE hS (xw_recv hE hP (20, 0) rfl rfl) rfl rfl q_48 q_940 q_943 q_942 q_40 (by decide) rfl ⟨by rw [hRf]; decide, by rw [hRl]; decide⟩ hl.1 rfl (Nat.le_of_ble_eq_true rfl) dX4_probe_164 ⟨by rw [hRc]; decide, by rw [hRs]; decide⟩ (fun v H1 locs hp hS => ?_)
                              obtain ⟨hv, hh⟩ := hp; subst hv; subst hh
                              refine lv_istore (lv' := [(10, .int (ftS z (nI tt) (nE z))), (8, .long w4), (6, .long u4), (5, .int b3), (4, .int m1), (3, .int (nI tq)), (1, .int (nI j)), (0, .ref (ad (20, 0)))]) hx hb dX4_probe_167 hl (by decide) rfl (fun ls hl => ?_)
                              refine lv_goto (tgt := 56) hx hb dX4_probe_169 (by decide) ?_
                              exact ih56 (k + 1) (ftS z (nI tt) (nE z)) b3 u4 w4 qp qf qm qr qi qn qu qd (by omega) (by rcases ft_P hw htt with g | ⟨k2, a, b, e⟩; exact Or.inl g; exact Or.inr ⟨k2, by omega, b, e⟩) hb3 hw4 (by rw [← hpr, show 1000 - k = (1000 - (k + 1)) + 1 by omega]; exact h161.symm) (by omega) _ _ _ hP hS (lv_sub hl [0, 1, 2, 3, 4, 5, 6, 7] rfl)
                            exact K161 best u3 w3 qp9 qf9 qm9 qr9 qi9 qn9 qu9 (deR z w (nI tt)) (prS_k hnt (fun h => by rcases h.2 with a | a; exact hbn a; rw [if_pos c124] at a; first | exact c137 a | exact (Int32.not_lt.mpr c137) a)) hbst hw3 _ _ _ hP hS (lv_sub hl [1, 2, 3, 4, 5, 6, 7, 8] rfl)
                        · skip
                          refine lv_iload hx hb dX4_probe_127 (lv_at hl 0 rfl) ?_
                          refine lv_if_gt (tgt := 143) hx hb dX4_probe_129 (by decide) (fun c129 => ?_) (fun c129 => ?_)
                          · skip
                            refine lv_iload hx hb dX4_probe_143 (lv_at hl 1 rfl) ?_
                            refine lv_istore (lv' := [(5, .int (nI tt)), (11, .int (cfS 200 (num z (nI tt) j) (den z (nI tt)) u3 w3 1)), (10, .int (nI tt)), (8, .long w3), (6, .long u3), (4, .int m1), (3, .int (nI tq)), (1, .int (nI j)), (0, .ref (ad (20, 0)))]) hx hb dX4_probe_145 hl (by decide) rfl (fun ls hl => ?_)
                            refine lv_aload_n hx hb dX4_probe_147 rfl (lv_at hl 8 rfl) ?_
                            refine fg_X4_numerators hx hb hts hown hE hP q_746 dX4_probe_148 ?_
                            refine lv_iload_n hx hb dX4_probe_151 rfl (lv_at hl 7 rfl) ?_
                            refine al_numerators hx hb hE hP (j := j) (by omega) dX4_probe_152 ?_
                            refine xt_l (w := num z (nI tt) j) (((hnu j (by omega)).1.trans (br_nu hq hw _ (by omega) c75))) ?_
                            refine lv_lstore (lv' := [(6, .long (num z (nI tt) j)), (5, .int (nI tt)), (11, .int (cfS 200 (num z (nI tt) j) (den z (nI tt)) u3 w3 1)), (10, .int (nI tt)), (8, .long w3), (4, .int m1), (3, .int (nI tq)), (1, .int (nI j)), (0, .ref (ad (20, 0)))]) hx hb dX4_probe_153 hl (by decide) rfl (fun ls hl => ?_)
                            refine lv_aload_n hx hb dX4_probe_155 rfl (lv_at hl 8 rfl) ?_
                            refine fg_X4_denominator hx hb hts hown hE hP q_745 dX4_probe_156 ?_
                            refine xt_l (w := den z (nI tt)) (br_de hw _) ?_
                            refine lv_lstore (lv' := [(8, .long (den z (nI tt))), (6, .long (num z (nI tt) j)), (5, .int (nI tt)), (11, .int (cfS 200 (num z (nI tt) j) (den z (nI tt)) u3 w3 1)), (10, .int (nI tt)), (4, .int m1), (3, .int (nI tq)), (1, .int (nI j)), (0, .ref (ad (20, 0)))]) hx hb dX4_probe_159 hl (by decide) rfl (fun ls hl => ?_)
                            have K161 : ∀ (b3 : Int32) (u4 w4 : Int64) (qp qf : Nat → Int32) (qm qr qi qn : Nat → Int64) (qu : Int32) (qd : Int64), (prS z j (nI tq) m1 ((1000 - (k + 1)) + 1) (nI tt) best u3 w3 = prS z j (nI tq) m1 (1000 - (k + 1)) (ftS z (nI tt) (nE z)) b3 u4 w4) → (b3 = -1 ∨ ∃ b, b ≤ 999 ∧ b3 = nI b) → (0 < w4) → ∀ (H : Heap) (locs : List Loc) (ls : Array Slot), xW D A ad (wU fB (wR y ad (nI 0) w qp qm qr qi qn qf qu qd) fO) H → va_S A Hs H locs → lv_has ls 12 [(10, .int (nI tt)), (8, .long w4), (6, .long u4), (5, .int b3), (4, .int m1), (3, .int (nI tq)), (1, .int (nI j)), (0, .ref (ad (20, 0)))] → W p l e R s m args below meth c H locs 0 0 Q (F0 m 161 ls []) := by
                              intro b3 u4 w4 qp qf qm qr qi qn qu qd h161 hb3 hw4 H locs ls hP hS hl
                              refine lv_aload_n hx hb dX4_probe_161 rfl (lv_at hl 7 rfl) ?_
                              refine lv_iload hx hb dX4_probe_162 (lv_at hl 0 rfl) ?_
                              refine xw_callV (C := "NetlistBenchModel") (n := 1) [.int (nI tt)] (c_X4_toggleBehind l hP hq hw htt) hx hb hml hown hts hE hS (xw_recv hE hP (20, 0) rfl rfl) rfl rfl q_48 q_940 q_943 q_942 q_40 (by decide) rfl ⟨by rw [hRf]; decide, by rw [hRl]; decide⟩ hl.1 rfl (Nat.le_of_ble_eq_true rfl) dX4_probe_164 ⟨by rw [hRc]; decide, by rw [hRs]; decide⟩ (fun v H1 locs hp hS => ?_)
                              obtain ⟨hv, hh⟩ := hp; subst hv; subst hh
                              refine lv_istore (lv' := [(10, .int (ftS z (nI tt) (nE z))), (8, .long w4), (6, .long u4), (5, .int b3), (4, .int m1), (3, .int (nI tq)), (1, .int (nI j)), (0, .ref (ad (20, 0)))]) hx hb dX4_probe_167 hl (by decide) rfl (fun ls hl => ?_)
                              refine lv_goto (tgt := 56) hx hb dX4_probe_169 (by decide) ?_
                              exact ih56 (k + 1) (ftS z (nI tt) (nE z)) b3 u4 w4 qp qf qm qr qi qn qu qd (by omega) (by rcases ft_P hw htt with g | ⟨k2, a, b, e⟩; exact Or.inl g; exact Or.inr ⟨k2, by omega, b, e⟩) hb3 hw4 (by rw [← hpr, show 1000 - k = (1000 - (k + 1)) + 1 by omega]; exact h161.symm) (by omega) _ _ _ hP hS (lv_sub hl [0, 1, 2, 3, 4, 5, 6, 7] rfl)
                            exact K161 (nI tt) (num z (nI tt) j) (den z (nI tt)) qp9 qf9 qm9 qr9 qi9 qn9 qu9 (deR z w (nI tt)) (prS_t hnt ⟨c75, Or.inr (by rw [if_neg c124]; first | exact c129 | exact Int32.not_le.mp c129)⟩) (Or.inr ⟨tt, htt, rfl⟩) (hk _).1 _ _ _ hP hS (lv_sub hl [4, 0, 1, 2, 5, 6, 7, 8] rfl)
                          · skip
                            refine lv_goto (tgt := 161) hx hb dX4_probe_132 (by decide) ?_
                            have K161 : ∀ (b3 : Int32) (u4 w4 : Int64) (qp qf : Nat → Int32) (qm qr qi qn : Nat → Int64) (qu : Int32) (qd : Int64), (prS z j (nI tq) m1 ((1000 - (k + 1)) + 1) (nI tt) best u3 w3 = prS z j (nI tq) m1 (1000 - (k + 1)) (ftS z (nI tt) (nE z)) b3 u4 w4) → (b3 = -1 ∨ ∃ b, b ≤ 999 ∧ b3 = nI b) → (0 < w4) → ∀ (H : Heap) (locs : List Loc) (ls : Array Slot), xW D A ad (wU fB (wR y ad (nI 0) w qp qm qr qi qn qf qu qd) fO) H → va_S A Hs H locs → lv_has ls 12 [(10, .int (nI tt)), (8, .long w4), (6, .long u4), (5, .int b3), (4, .int m1), (3, .int (nI tq)), (1, .int (nI j)), (0, .ref (ad (20, 0)))] → W p l e R s m args below meth c H locs 0 0 Q (F0 m 161 ls []) := by
                              intro b3 u4 w4 qp qf qm qr qi qn qu qd h161 hb3 hw4 H locs ls hP hS hl
                              refine lv_aload_n hx hb dX4_probe_161 rfl (lv_at hl 7 rfl) ?_
                              refine lv_iload hx hb dX4_probe_162 (lv_at hl 0 rfl) ?_
                              refine xw_callV (C := "NetlistBenchModel") (n := 1) [.int (nI tt)] (c_X4_toggleBehind l hP hq hw htt) hx hb hml hown hts hE hS (xw_recv hE hP (20, 0) rfl rfl) rfl rfl q_48 q_940 q_943 q_942 q_40 (by decide) rfl ⟨by rw [hRf]; decide, by rw [hRl]; decide⟩ hl.1 rfl (Nat.le_of_ble_eq_true rfl) dX4_probe_164 ⟨by rw [hRc]; decide, by rw [hRs]; decide⟩ (fun v H1 locs hp hS => ?_)
                              obtain ⟨hv, hh⟩ := hp; subst hv; subst hh
                              refine lv_istore (lv' := [(10, .int (ftS z (nI tt) (nE z))), (8, .long w4), (6, .long u4), (5, .int b3), (4, .int m1), (3, .int (nI tq)), (1, .int (nI j)), (0, .ref (ad (20, 0)))]) hx hb dX4_probe_167 hl (by decide) rfl (fun ls hl => ?_)
                              refine lv_goto (tgt := 56) hx hb dX4_probe_169 (by decide) ?_
                              exact ih56 (k + 1) (ftS z (nI tt) (nE z)) b3 u4 w4 qp qf qm qr qi qn qu qd (by omega) (by rcases ft_P hw htt with g | ⟨k2, a, b, e⟩; exact Or.inl g; exact Or.inr ⟨k2, by omega, b, e⟩) hb3 hw4 (by rw [← hpr, show 1000 - k = (1000 - (k + 1)) + 1 by omega]; exact h161.symm) (by omega) _ _ _ hP hS (lv_sub hl [0, 1, 2, 3, 4, 5, 6, 7] rfl)
                            exact K161 best u3 w3 qp9 qf9 qm9 qr9 qi9 qn9 qu9 (deR z w (nI tt)) (prS_k hnt (fun h => by rcases h.2 with a | a; exact hbn a; rw [if_neg c124] at a; first | exact c129 a | exact (Int32.not_lt.mpr c129) a)) hbst hw3 _ _ _ hP hS (lv_sub hl [1, 2, 3, 4, 5, 6, 7, 8] rfl)
                    · skip
                      refine lv_iconst (v := nI 1) hx hb dX4_probe_93 (by decide) ?_
                      refine lv_goto (tgt := 114) hx hb dX4_probe_94 (by decide) ?_
                      refine lv_istore (lv' := [(11, .int (nI 1)), (10, .int (nI tt)), (8, .long w3), (6, .long u3), (5, .int best), (4, .int m1), (3, .int (nI tq)), (1, .int (nI j)), (0, .ref (ad (20, 0)))]) hx hb dX4_probe_114 hl (by decide) rfl (fun ls hl => ?_)
                      refine lv_iload hx hb dX4_probe_116 (lv_at hl 4 rfl) ?_
                      refine lv_iconst (v := (-1)) hx hb dX4_probe_118 (by decide) ?_
                      refine lv_icmp_eq (tgt := 143) hx hb dX4_probe_119 (by decide) (fun c119 => ?_) (fun c119 => ?_)
                      · skip
                        refine lv_iload hx hb dX4_probe_143 (lv_at hl 1 rfl) ?_
                        refine lv_istore (lv' := [(5, .int (nI tt)), (11, .int (nI 1)), (10, .int (nI tt)), (8, .long w3), (6, .long u3), (4, .int m1), (3, .int (nI tq)), (1, .int (nI j)), (0, .ref (ad (20, 0)))]) hx hb dX4_probe_145 hl (by decide) rfl (fun ls hl => ?_)
                        refine lv_aload_n hx hb dX4_probe_147 rfl (lv_at hl 8 rfl) ?_
                        refine fg_X4_numerators hx hb hts hown hE hP q_746 dX4_probe_148 ?_
                        refine lv_iload_n hx hb dX4_probe_151 rfl (lv_at hl 7 rfl) ?_
                        refine al_numerators hx hb hE hP (j := j) (by omega) dX4_probe_152 ?_
                        refine xt_l (w := num z (nI tt) j) (((hnu j (by omega)).1.trans (br_nu hq hw _ (by omega) c75))) ?_
                        refine lv_lstore (lv' := [(6, .long (num z (nI tt) j)), (5, .int (nI tt)), (11, .int (nI 1)), (10, .int (nI tt)), (8, .long w3), (4, .int m1), (3, .int (nI tq)), (1, .int (nI j)), (0, .ref (ad (20, 0)))]) hx hb dX4_probe_153 hl (by decide) rfl (fun ls hl => ?_)
                        refine lv_aload_n hx hb dX4_probe_155 rfl (lv_at hl 8 rfl) ?_
                        refine fg_X4_denominator hx hb hts hown hE hP q_745 dX4_probe_156 ?_
                        refine xt_l (w := den z (nI tt)) (br_de hw _) ?_
                        refine lv_lstore (lv' := [(8, .long (den z (nI tt))), (6, .long (num z (nI tt) j)), (5, .int (nI tt)), (11, .int (nI 1)), (10, .int (nI tt)), (4, .int m1), (3, .int (nI tq)), (1, .int (nI j)), (0, .ref (ad (20, 0)))]) hx hb dX4_probe_159 hl (by decide) rfl (fun ls hl => ?_)
                        have K161 : ∀ (b3 : Int32) (u4 w4 : Int64) (qp qf : Nat → Int32) (qm qr qi qn : Nat → Int64) (qu : Int32) (qd : Int64), (prS z j (nI tq) m1 ((1000 - (k + 1)) + 1) (nI tt) best u3 w3 = prS z j (nI tq) m1 (1000 - (k + 1)) (ftS z (nI tt) (nE z)) b3 u4 w4) → (b3 = -1 ∨ ∃ b, b ≤ 999 ∧ b3 = nI b) → (0 < w4) → ∀ (H : Heap) (locs : List Loc) (ls : Array Slot), xW D A ad (wU fB (wR y ad (nI 0) w qp qm qr qi qn qf qu qd) fO) H → va_S A Hs H locs → lv_has ls 12 [(10, .int (nI tt)), (8, .long w4), (6, .long u4), (5, .int b3), (4, .int m1), (3, .int (nI tq)), (1, .int (nI j)), (0, .ref (ad (20, 0)))] → W p l e R s m args below meth c H locs 0 0 Q (F0 m 161 ls []) := by
                          intro b3 u4 w4 qp qf qm qr qi qn qu qd h161 hb3 hw4 H locs ls hP hS hl
                          refine lv_aload_n hx hb dX4_probe_161 rfl (lv_at hl 7 rfl) ?_
                          refine lv_iload hx hb dX4_probe_162 (lv_at hl 0 rfl) ?_
                          refine xw_callV (C := "NetlistBenchModel") (n := 1) [.int (nI tt)] (c_X4_toggleBehind l hP hq hw htt) hx hb hml hown hts hE hS (xw_recv hE hP (20, 0) rfl rfl) rfl rfl q_48 q_940 q_943 q_942 q_40 (by decide) rfl ⟨by rw [hRf]; decide, by rw [hRl]; decide⟩ hl.1 rfl (Nat.le_of_ble_eq_true rfl) dX4_probe_164 ⟨by rw [hRc]; decide, by rw [hRs]; decide⟩ (fun v H1 locs hp hS => ?_)
                          obtain ⟨hv, hh⟩ := hp; subst hv; subst hh
                          refine lv_istore (lv' := [(10, .int (ftS z (nI tt) (nE z))), (8, .long w4), (6, .long u4), (5, .int b3), (4, .int m1), (3, .int (nI tq)), (1, .int (nI j)), (0, .ref (ad (20, 0)))]) hx hb dX4_probe_167 hl (by decide) rfl (fun ls hl => ?_)
                          refine lv_goto (tgt := 56) hx hb dX4_probe_169 (by decide) ?_
                          exact ih56 (k + 1) (ftS z (nI tt) (nE z)) b3 u4 w4 qp qf qm qr qi qn qu qd (by omega) (by rcases ft_P hw htt with g | ⟨k2, a, b, e⟩; exact Or.inl g; exact Or.inr ⟨k2, by omega, b, e⟩) hb3 hw4 (by rw [← hpr, show 1000 - k = (1000 - (k + 1)) + 1 by omega]; exact h161.symm) (by omega) _ _ _ hP hS (lv_sub hl [0, 1, 2, 3, 4, 5, 6, 7] rfl)
                        exact K161 (nI tt) (num z (nI tt) j) (den z (nI tt)) qp9 qf9 qm9 qr9 qi9 qn9 qu9 (deR z w (nI tt)) (prS_t hnt ⟨c75, Or.inl (by rw [c90]; decide)⟩) (Or.inr ⟨tt, htt, rfl⟩) (hk _).1 _ _ _ hP hS (lv_sub hl [4, 0, 1, 2, 5, 6, 7, 8] rfl)
                      · skip
                        exact absurd c90 c119
                  · skip
                    refine lv_goto (tgt := 161) hx hb dX4_probe_78 (by decide) ?_
                    have K161 : ∀ (b3 : Int32) (u4 w4 : Int64) (qp qf : Nat → Int32) (qm qr qi qn : Nat → Int64) (qu : Int32) (qd : Int64), (prS z j (nI tq) m1 ((1000 - (k + 1)) + 1) (nI tt) best u3 w3 = prS z j (nI tq) m1 (1000 - (k + 1)) (ftS z (nI tt) (nE z)) b3 u4 w4) → (b3 = -1 ∨ ∃ b, b ≤ 999 ∧ b3 = nI b) → (0 < w4) → ∀ (H : Heap) (locs : List Loc) (ls : Array Slot), xW D A ad (wU fB (wR y ad (nI 0) w qp qm qr qi qn qf qu qd) fO) H → va_S A Hs H locs → lv_has ls 12 [(10, .int (nI tt)), (8, .long w4), (6, .long u4), (5, .int b3), (4, .int m1), (3, .int (nI tq)), (1, .int (nI j)), (0, .ref (ad (20, 0)))] → W p l e R s m args below meth c H locs 0 0 Q (F0 m 161 ls []) := by
                      intro b3 u4 w4 qp qf qm qr qi qn qu qd h161 hb3 hw4 H locs ls hP hS hl
                      refine lv_aload_n hx hb dX4_probe_161 rfl (lv_at hl 7 rfl) ?_
                      refine lv_iload hx hb dX4_probe_162 (lv_at hl 0 rfl) ?_
                      refine xw_callV (C := "NetlistBenchModel") (n := 1) [.int (nI tt)] (c_X4_toggleBehind l hP hq hw htt) hx hb hml hown hts hE hS (xw_recv hE hP (20, 0) rfl rfl) rfl rfl q_48 q_940 q_943 q_942 q_40 (by decide) rfl ⟨by rw [hRf]; decide, by rw [hRl]; decide⟩ hl.1 rfl (Nat.le_of_ble_eq_true rfl) dX4_probe_164 ⟨by rw [hRc]; decide, by rw [hRs]; decide⟩ (fun v H1 locs hp hS => ?_)
                      obtain ⟨hv, hh⟩ := hp; subst hv; subst hh
                      refine lv_istore (lv' := [(10, .int (ftS z (nI tt) (nE z))), (8, .long w4), (6, .long u4), (5, .int b3), (4, .int m1), (3, .int (nI tq)), (1, .int (nI j)), (0, .ref (ad (20, 0)))]) hx hb dX4_probe_167 hl (by decide) rfl (fun ls hl => ?_)
                      refine lv_goto (tgt := 56) hx hb dX4_probe_169 (by decide) ?_
                      exact ih56 (k + 1) (ftS z (nI tt) (nE z)) b3 u4 w4 qp qf qm qr qi qn qu qd (by omega) (by rcases ft_P hw htt with g | ⟨k2, a, b, e⟩; exact Or.inl g; exact Or.inr ⟨k2, by omega, b, e⟩) hb3 hw4 (by rw [← hpr, show 1000 - k = (1000 - (k + 1)) + 1 by omega]; exact h161.symm) (by omega) _ _ _ hP hS (lv_sub hl [0, 1, 2, 3, 4, 5, 6, 7] rfl)
                    exact K161 best u3 w3 qp qf qm qr qi qn qu qd (prS_k hnt (fun h => c75 h.1)) hbst hw3 _ _ _ hP hS (lv_sub hl [0, 1, 2, 3, 4, 5, 6, 7] rfl)
          exact K56 _ 0 (nI tf) (-1) 0 1 qp qf qm qr qi qn qu qd (by omega) (Or.inr ⟨tf, by omega, by omega, rfl⟩) (Or.inl rfl) (by decide) rfl (Nat.lt_succ_self _) _ _ _ hP hS (lv_sub hl [0, 1, 2, 3, 8, 7, 5, 4] rfl)
        · skip
          have c35 := ni_nle (a := tf) (b := tq) (by omega) (by omega) c35
          refine lv_aload_n hx hb dX4_probe_38 rfl (lv_at hl 0 rfl) ?_
          refine lv_iconst (v := nI 2) hx hb dX4_probe_39 (by decide) ?_
          refine xw_callV (C := "NetlistBenchModel") (n := 1) [.int (nI 2)] (c_X4_fail l hP (nI 2)) hx hb hml hown hts hE hS (xw_recv hE hP (20, 0) rfl rfl) rfl rfl q_48 q_798 q_801 q_800 q_26 (by decide) rfl ⟨by rw [hRf]; decide, by rw [hRl]; decide⟩ hl.1 rfl (Nat.le_of_ble_eq_true rfl) dX4_probe_40 ⟨by rw [hRc]; decide, by rw [hRs]; decide⟩ (fun v H1 locs hp hS => ?_)
          obtain ⟨hv, hP⟩ := hp; subst hv
          generalize H1 = H at hP hS ⊢
          have eT : tPrb z (nI j) (nI tf) (nI tq) = (nI 2) := by rw [tPrb, if_neg (not_not_intro c10), if_neg (not_not_intro c23), if_neg (not_not_intro c30), if_pos (nI_lt c35 (by omega))]; rfl
          exact xe_iret hQ hx hb hr hlocks hH hS (Nat.le_refl _) (Nat.le_refl _) (⟨_, rfl, fun h => absurd (eT.symm.trans h) (by decide), by rw [eT]; exact hP.R hq⟩) dX4_probe_43
  · skip
    have c10 := b_f c10
    refine lv_aload_n hx hb dX4_probe_13 rfl (lv_at hl 0 rfl) ?_
    refine lv_iconst (v := nI 1) hx hb dX4_probe_14 (by decide) ?_
    refine xw_callV (C := "NetlistBenchModel") (n := 1) [.int (nI 1)] (c_X4_fail l hP (nI 1)) hx hb hml hown hts hE hS (xw_recv hE hP (20, 0) rfl rfl) rfl rfl q_48 q_798 q_801 q_800 q_26 (by decide) rfl ⟨by rw [hRf]; decide, by rw [hRl]; decide⟩ hl.1 rfl (Nat.le_of_ble_eq_true rfl) dX4_probe_15 ⟨by rw [hRc]; decide, by rw [hRs]; decide⟩ (fun v H1 locs hp hS => ?_)
    obtain ⟨hv, hP⟩ := hp; subst hv
    generalize H1 = H at hP hS ⊢
    have eT : tPrb z x f q = (nI 1) := by rw [tPrb, if_pos c10]; rfl
    exact xe_iret hQ hx hb hr hlocks hH hS (Nat.le_refl _) (Nat.le_refl _) (⟨_, rfl, fun h => absurd (eT.symm.trans h) (by decide), by rw [eT]; exact hP.R hq⟩) dX4_probe_18
