set_option maxHeartbeats 4000000 in
set_option maxRecDepth 100000 in
theorem c_X4_toggle (l : Launch) {D : va_G} {y : Nat → ClassId} {A : Nat → Prop} {ad : xL → Nat} {th : Int32} {w : xC} {qp : Nat → Int32} {qm : Nat → Int64} {qr : Nat → Int64} {qi : Nat → Int64} {qn : Nat → Int64} {qf : Nat → Int32} {qu : Int32} {qd : Int64} {fB fO : Nat → Nat → Option va_E} {Hs : Heap} (hP : xW D A ad (wU fB (wR y ad th w qp qm qr qi qn qf qu qd) fO) Hs) {z : xC} (hq : Rq z w) (hw : wf z) (x t : Int32) : Met l yX4_toggle (.code yX4_toggle cX4_toggle 7 (some .int) :: WG) { frames := 2, cells := 0, slots := 0, locals := 120 } (xPc [.ref (ad (20, 0)), .int x, .int t] D y Hs) (xQ (fun v H1 => ∃ r, v = some (.int r) ∧ (tTog z x t = 0 → r = eT (zTog z (clN x) t) (clN x)) ∧ xRf D A y ad (if tTog z x t = 0 then zTog z (clN x) t else z) fB fO (tTog z x t) H1) A) 0 0 A := by
  refine xM_go (by decide) (Nat.le_of_ble_eq_true rfl) (fun p e s m args below meth c ls R Q hx hb hr hlocks hml hown hts hH hE hnm hRf hRl hRc hRs hQ hS hl => ?_)
  have hRf : R.frames = 2 := hRf
  have hRl : R.locals = 120 := hRl
  have hRc : R.cells = 0 := hRc
  have hRs : R.slots = 0 := hRs
  have hl : lv_has ls 7 [(0, .ref (ad (20, 0))), (1, .int x), (2, .int t)] := hl
  have hN := hw.N
  have hE20 := hw.E
  refine lv_aload_n hx hb dX4_toggle_0 rfl (lv_at hl 0 rfl) ?_
  refine lv_iconst (v := nI 0) hx hb dX4_toggle_1 (by decide) ?_
  refine fp_X4_thrown hx hb hts hown hE hS hP q_728 dX4_toggle_2 (fun H locs hP hS => ?_)
  refine lv_aload_n hx hb dX4_toggle_5 rfl (lv_at hl 0 rfl) ?_
  refine lv_iload_n hx hb dX4_toggle_6 rfl (lv_at hl 1 rfl) ?_
  refine xw_callV (C := "NetlistBenchModel") (n := 1) [.int x] (c_X4_isElement l hP hq hw x) hx hb hml hown hts hE hS (xw_recv hE hP (20, 0) rfl rfl) rfl rfl q_48 q_824 q_827 q_826 q_28 (by decide) rfl ⟨by rw [hRf]; decide, by rw [hRl]; decide⟩ hl.1 rfl (Nat.le_of_ble_eq_true rfl) dX4_toggle_7 ⟨by rw [hRc]; decide, by rw [hRs]; decide⟩ (fun v H1 locs hp hS => ?_)
  obtain ⟨hv, hh⟩ := hp; subst hv; subst hh
  refine lv_if_ne (tgt := 19) hx hb dX4_toggle_10 (by decide) (fun c10 => ?_) (fun c10 => ?_)
  · skip
    have c10 := b_t c10
    obtain ⟨j, hj, exj⟩ := elP_i hw c10
    subst exj
    refine lv_iload_n hx hb dX4_toggle_19 rfl (lv_at hl 2 rfl) ?_
    refine lv_iconst (v := nI 1) hx hb dX4_toggle_20 (by decide) ?_
    refine lv_sipush (v := nI 999) hx hb dX4_toggle_21 (by decide) ?_
    refine xw_callS (n := 3) [.int t, .int (nI 1), .int (nI 999)] (c_X4_isIn l t (nI 1) (nI 999)) hx hb hml hown hts hE hS rfl rfl q_48 q_810 q_812 q_811 (by decide) rfl ⟨by rw [hRf]; decide, by rw [hRl]; decide⟩ hl.1 rfl (Nat.le_of_ble_eq_true rfl) dX4_toggle_24 ⟨by rw [hRc]; decide, by rw [hRs]; decide⟩ (fun v H1 locs hp hS => ?_)
    obtain ⟨hv, hh⟩ := hp; subst hv; subst hh
    refine lv_if_ne (tgt := 36) hx hb dX4_toggle_27 (by decide) (fun c27 => ?_) (fun c27 => ?_)
    · skip
      have c27 := b_t c27
      have h1t : nI 1 ≤ t := Int32.not_lt.mp (fun h => c27 (Or.inl h))
      have h9t : t ≤ nI 999 := Int32.not_lt.mp (fun h => c27 (Or.inr h))
      obtain ⟨tv, hv9, et⟩ := nI_of2 (n := 999) (M := nI 999) (by decide) (fun h => by have a := Int32.le_iff_toInt_le.mp h1t; have b := Int32.lt_iff_toInt_lt.mp h; have e1 : (nI 1).toInt = 1 := (by decide); have e0 : (0 : Int32).toInt = 0 := (by decide); omega) h9t
      subst et
      have ht6 := hw.t6 hj
      have hso : tmOk z j := (hw.el hj).2.2.2.2.2.2.1
      refine lv_bipush (v := nI 6) hx hb dX4_toggle_36 (by decide) ?_
      refine lv_iload_n hx hb dX4_toggle_38 rfl (lv_at hl 1 rfl) ?_
      refine lv_imul hx hb dX4_toggle_39 ?_
      refine xt_i (pk_mul 6 j) ?_
      refine lv_istore_n (lv' := [(3, .int (nI (6 * j))), (0, .ref (ad (20, 0))), (1, .int (nI j)), (2, .int (nI tv))]) hx hb dX4_toggle_40 rfl hl (by decide) rfl (fun ls hl => ?_)
      refine lv_aload_n hx hb dX4_toggle_41 rfl (lv_at hl 1 rfl) ?_
      refine fg_X4_toggles hx hb hts hown hE hP q_738 dX4_toggle_42 ?_
      refine lv_iload_n hx hb dX4_toggle_45 rfl (lv_at hl 2 rfl) ?_
      refine al_toggles hx hb hE hP (j := j) (by omega) dX4_toggle_46 ?_
      refine xt_i (hq.t hw (by first | assumption | omega)) ?_
      refine lv_istore (lv' := [(4, .int (nI (cT z j))), (3, .int (nI (6 * j))), (0, .ref (ad (20, 0))), (1, .int (nI j)), (2, .int (nI tv))]) hx hb dX4_toggle_47 hl (by decide) rfl (fun ls hl => ?_)
      refine lv_iconst (v := nI 0) hx hb dX4_toggle_49 (by decide) ?_
      refine lv_istore (lv' := [(5, .int (nI 0)), (4, .int (nI (cT z j))), (3, .int (nI (6 * j))), (0, .ref (ad (20, 0))), (1, .int (nI j)), (2, .int (nI tv))]) hx hb dX4_toggle_50 hl (by decide) rfl (fun ls hl => ?_)
      have K52 : ∀ (nn : Nat), ∀ (k : Nat), (k ≤ cT z j) → (tb z j (nI tv) k = k) → cT z j - k < nn → ∀ (H : Heap) (locs : List Loc) (ls : Array Slot), xW D A ad (wU fB (wR y ad (nI 0) w qp qm qr qi qn qf qu qd) fO) H → va_S A Hs H locs → lv_has ls 7 [(5, .int (nI k)), (4, .int (nI (cT z j))), (3, .int (nI (6 * j))), (2, .int (nI tv)), (1, .int (nI j)), (0, .ref (ad (20, 0)))] → W p l e R s m args below meth c H locs 0 0 Q (F0 m 52 ls []) := by
        intro nn
        induction nn with
        | zero => intro k hk htk h; exact absurd h (Nat.not_lt_zero _)
        | succ nn ih52 =>
          intro k hk htk hn52 H locs ls hP hS hl
          refine lv_iload hx hb dX4_toggle_52 (lv_at hl 0 rfl) ?_
          refine lv_iload hx hb dX4_toggle_54 (lv_at hl 1 rfl) ?_
          refine lv_icmp_ge (tgt := 78) hx hb dX4_toggle_56 (by decide) (fun c56 => ?_) (fun c56 => ?_)
          · skip
            have c56 := ni_le (a := (cT z j)) (b := k) (by omega) (by omega) c56
            have K78 : ∀ (p9 : Nat), (p9 ≤ cT z j) → (tb z j (nI tv) p9 = p9) → (p9 < cT z j → nI tv ≤ tT z (6 * j + p9)) → ∀ (H : Heap) (locs : List Loc) (ls : Array Slot), xW D A ad (wU fB (wR y ad (nI 0) w qp qm qr qi qn qf qu qd) fO) H → va_S A Hs H locs → lv_has ls 7 [(5, .int (nI p9)), (4, .int (nI (cT z j))), (3, .int (nI (6 * j))), (2, .int (nI tv)), (1, .int (nI j)), (0, .ref (ad (20, 0)))] → W p l e R s m args below meth c H locs 0 0 Q (F0 m 78 ls []) := by
              intro p9 hp9 htbp hle H locs ls hP hS hl
              have htb := tb_stop hso hp9 htbp hle
              refine lv_iload hx hb dX4_toggle_78 (lv_at hl 0 rfl) ?_
              refine lv_iload hx hb dX4_toggle_80 (lv_at hl 1 rfl) ?_
              refine lv_icmp_ge (tgt := 102) hx hb dX4_toggle_82 (by decide) (fun c82 => ?_) (fun c82 => ?_)
              · skip
                have c82 := ni_le (a := (cT z j)) (b := p9) (by omega) (by omega) c82
                refine lv_iconst (v := nI 0) hx hb dX4_toggle_102 (by decide) ?_
                refine lv_istore (lv' := [(6, .int (nI 0)), (5, .int (nI p9)), (4, .int (nI (cT z j))), (3, .int (nI (6 * j))), (2, .int (nI tv)), (1, .int (nI j)), (0, .ref (ad (20, 0)))]) hx hb dX4_toggle_103 hl (by decide) rfl (fun ls hl => ?_)
                have hh : ¬ hasP z j (nI tv) := fun h => by have g := (has_iff hv9 hso htb htbp hle hp9).mp h; omega
                refine lv_iload hx hb dX4_toggle_105 (lv_at hl 0 rfl) ?_
                refine lv_if_ne (tgt := 123) hx hb dX4_toggle_107 (by decide) (fun c107 => ?_) (fun c107 => ?_)
                · skip
                  have c107 := ni_ne (a := 0) (b := 0) (by omega) (by omega) c107
                  exfalso; omega
                · skip
                  have c107 := ni_eq (a := 0) (b := 0) (by omega) (by omega) c107
                  refine lv_iload hx hb dX4_toggle_110 (lv_at hl 2 rfl) ?_
                  refine lv_bipush (v := nI 6) hx hb dX4_toggle_112 (by decide) ?_
                  refine lv_icmp_ne (tgt := 123) hx hb dX4_toggle_114 (by decide) (fun c114 => ?_) (fun c114 => ?_)
                  · skip
                    have c114 := ni_ne (a := (cT z j)) (b := 6) (by omega) (by omega) c114
                    refine lv_iload hx hb dX4_toggle_123 (lv_at hl 0 rfl) ?_
                    refine lv_if_eq (tgt := 169) hx hb dX4_toggle_125 (by decide) (fun c125 => ?_) (fun c125 => ?_)
                    · skip
                      have c125 := ni_eq (a := 0) (b := 0) (by omega) (by omega) c125
                      refine lv_aload_n hx hb dX4_toggle_169 rfl (lv_at hl 6 rfl) ?_
                      refine fg_X4_toggleTimes hx hb hts hown hE hP q_739 dX4_toggle_170 ?_
                      refine lv_iload_n hx hb dX4_toggle_173 rfl (lv_at hl 3 rfl) ?_
                      refine lv_iload hx hb dX4_toggle_174 (lv_at hl 1 rfl) ?_
                      refine lv_iadd hx hb dX4_toggle_176 ?_
                      refine xt_i (nI_add (6 * j) p9) ?_
                      refine lv_aload_n hx hb dX4_toggle_177 rfl (lv_at hl 6 rfl) ?_
                      refine fg_X4_toggleTimes hx hb hts hown hE hP q_739 dX4_toggle_178 ?_
                      refine lv_iload_n hx hb dX4_toggle_181 rfl (lv_at hl 3 rfl) ?_
                      refine lv_iload hx hb dX4_toggle_182 (lv_at hl 1 rfl) ?_
                      refine lv_iadd hx hb dX4_toggle_184 ?_
                      refine xt_i (nI_add (6 * j) p9) ?_
                      refine lv_iconst (v := nI 1) hx hb dX4_toggle_185 (by decide) ?_
                      refine lv_iadd hx hb dX4_toggle_186 ?_
                      refine xt_i (nI_add ((6 * j) + p9) 1) ?_
                      refine lv_iload hx hb dX4_toggle_187 (lv_at hl 2 rfl) ?_
                      refine lv_iload hx hb dX4_toggle_189 (lv_at hl 1 rfl) ?_
                      refine lv_isub hx hb dX4_toggle_191 ?_
                      refine xt_i (w := nI (cT z j - p9)) (pk_sub (by omega)) ?_
                      refine cp_tt hx hb (hml.trans hl.1.symm) hown hts q_836 q_443 q_442 q_57 hE hS hP (sp := (6 * j) + p9) (dp := ((6 * j) + p9) + 1) (n := cT z j - p9) (by omega) (by omega) (by rw [hRf]; decide) (by rw [hRl]; decide) dX4_toggle_192 (fun H locs hP hS => ?_)
                      refine lv_aload_n hx hb dX4_toggle_195 rfl (lv_at hl 6 rfl) ?_
                      refine fg_X4_toggleTimes hx hb hts hown hE hP q_739 dX4_toggle_196 ?_
                      refine lv_iload_n hx hb dX4_toggle_199 rfl (lv_at hl 3 rfl) ?_
                      refine lv_iload hx hb dX4_toggle_200 (lv_at hl 1 rfl) ?_
                      refine lv_iadd hx hb dX4_toggle_202 ?_
                      refine xt_i (nI_add (6 * j) p9) ?_
                      refine lv_iload_n hx hb dX4_toggle_203 rfl (lv_at hl 4 rfl) ?_
                      refine as_toggleTimes hx hb hE hS hP (j := (6 * j) + p9) (by omega) dX4_toggle_204 (fun H locs hP hS => ?_)
                      refine lv_aload_n hx hb dX4_toggle_205 rfl (lv_at hl 6 rfl) ?_
                      refine fg_X4_toggles hx hb hts hown hE hP q_738 dX4_toggle_206 ?_
                      refine lv_iload_n hx hb dX4_toggle_209 rfl (lv_at hl 5 rfl) ?_
                      refine lv_dup2_11 hx hb dX4_toggle_210 rfl rfl ?_
                      refine al_toggles hx hb hE hP (j := j) (by omega) dX4_toggle_211 ?_
                      refine xt_i (w := nI (cT z j)) (hq.t hw hj) ?_
                      refine lv_iconst (v := nI 1) hx hb dX4_toggle_212 (by decide) ?_
                      refine lv_iadd hx hb dX4_toggle_213 ?_
                      refine xt_i (nI_add (cT z j) 1) ?_
                      refine as_toggles hx hb hE hS hP (j := j) (by omega) dX4_toggle_214 (fun H locs hP hS => ?_)
                      refine lv_aload_n hx hb dX4_toggle_215 rfl (lv_at hl 6 rfl) ?_
                      refine fg_X4_toggles hx hb hts hown hE hP q_738 dX4_toggle_216 ?_
                      refine lv_iload_n hx hb dX4_toggle_219 rfl (lv_at hl 5 rfl) ?_
                      refine al_toggles hx hb hE hP (j := j) (by omega) dX4_toggle_220 ?_
                      refine xt_i (w := nI (cT z j + 1)) (if_pos rfl) ?_
                      have eT : tTog z (nI j) (nI tv) = 0 := by rw [tTog, if_neg (not_not_intro c10), if_neg (not_not_intro ⟨h1t, h9t⟩), cl_nI (by omega), if_neg (fun h => c114 h.2)]
                      exact xe_iret hQ hx hb hr hlocks hH hS (Nat.le_refl _) (Nat.le_refl _) (⟨_, rfl, fun _ => by rw [cl_nI (by omega), zTog, if_neg hh]; exact (show upd _ j (nI (cT z j + 1)) j = nI (cT z j + 1) from if_pos rfl).symm, by rw [eT, if_pos rfl]; exact (by rw [cl_nI (by omega), zTog, if_neg hh]; exact hP.R (rq_put hq hw hj htb hp9 (by omega)))⟩) dX4_toggle_221
                    · skip
                      have c125 := ni_ne (a := 0) (b := 0) (by omega) (by omega) c125
                      exfalso; omega
                  · skip
                    have c114 := ni_eq (a := (cT z j)) (b := 6) (by omega) (by omega) c114
                    refine lv_aload_n hx hb dX4_toggle_117 rfl (lv_at hl 6 rfl) ?_
                    refine lv_iconst (v := nI 3) hx hb dX4_toggle_118 (by decide) ?_
                    refine xw_callV (C := "NetlistBenchModel") (n := 1) [.int (nI 3)] (c_X4_fail l hP (nI 3)) hx hb hml hown hts hE hS (xw_recv hE hP (20, 0) rfl rfl) rfl rfl q_48 q_798 q_801 q_800 q_26 (by decide) rfl ⟨by rw [hRf]; decide, by rw [hRl]; decide⟩ hl.1 rfl (Nat.le_of_ble_eq_true rfl) dX4_toggle_119 ⟨by rw [hRc]; decide, by rw [hRs]; decide⟩ (fun v H1 locs hp hS => ?_)
                    obtain ⟨hv, hP⟩ := hp; subst hv
                    generalize H1 = H at hP hS ⊢
                    have eT : tTog z (nI j) (nI tv) = (nI 3) := by rw [tTog, if_neg (not_not_intro c10), if_neg (not_not_intro ⟨h1t, h9t⟩), cl_nI (by omega), if_pos ⟨hh, c114⟩]; rfl
                    exact xe_iret hQ hx hb hr hlocks hH hS (Nat.le_refl _) (Nat.le_refl _) (⟨_, rfl, fun h => absurd (eT.symm.trans h) (by decide), by rw [eT, if_neg (by decide)]; exact hP.R hq⟩) dX4_toggle_122
              · skip
                have c82 := ni_nle (a := (cT z j)) (b := p9) (by omega) (by omega) c82
                refine lv_aload_n hx hb dX4_toggle_85 rfl (lv_at hl 5 rfl) ?_
                refine fg_X4_toggleTimes hx hb hts hown hE hP q_739 dX4_toggle_86 ?_
                refine lv_iload_n hx hb dX4_toggle_89 rfl (lv_at hl 2 rfl) ?_
                refine lv_iload hx hb dX4_toggle_90 (lv_at hl 0 rfl) ?_
                refine lv_iadd hx hb dX4_toggle_92 ?_
                refine xt_i (nI_add (6 * j) p9) ?_
                refine al_toggleTimes hx hb hE hP (j := (6 * j) + p9) (by omega) dX4_toggle_93 ?_
                refine xt_i (w := tT z (6 * j + p9)) (hq.m (j := j) (k := p9) (by first | assumption | omega) (by first | assumption | omega)) ?_
                refine lv_iload_n hx hb dX4_toggle_94 rfl (lv_at hl 3 rfl) ?_
                refine lv_icmp_ne (tgt := 102) hx hb dX4_toggle_95 (by decide) (fun c95 => ?_) (fun c95 => ?_)
                · skip
                  refine lv_iconst (v := nI 0) hx hb dX4_toggle_102 (by decide) ?_
                  refine lv_istore (lv' := [(6, .int (nI 0)), (5, .int (nI p9)), (4, .int (nI (cT z j))), (3, .int (nI (6 * j))), (2, .int (nI tv)), (1, .int (nI j)), (0, .ref (ad (20, 0)))]) hx hb dX4_toggle_103 hl (by decide) rfl (fun ls hl => ?_)
                  have hh : ¬ hasP z j (nI tv) := fun h => c95 ((has_iff hv9 hso htb htbp hle hp9).mp h).2
                  refine lv_iload hx hb dX4_toggle_105 (lv_at hl 0 rfl) ?_
                  refine lv_if_ne (tgt := 123) hx hb dX4_toggle_107 (by decide) (fun c107 => ?_) (fun c107 => ?_)
                  · skip
                    have c107 := ni_ne (a := 0) (b := 0) (by omega) (by omega) c107
                    exfalso; omega
                  · skip
                    have c107 := ni_eq (a := 0) (b := 0) (by omega) (by omega) c107
                    refine lv_iload hx hb dX4_toggle_110 (lv_at hl 2 rfl) ?_
                    refine lv_bipush (v := nI 6) hx hb dX4_toggle_112 (by decide) ?_
                    refine lv_icmp_ne (tgt := 123) hx hb dX4_toggle_114 (by decide) (fun c114 => ?_) (fun c114 => ?_)
                    · skip
                      have c114 := ni_ne (a := (cT z j)) (b := 6) (by omega) (by omega) c114
                      refine lv_iload hx hb dX4_toggle_123 (lv_at hl 0 rfl) ?_
                      refine lv_if_eq (tgt := 169) hx hb dX4_toggle_125 (by decide) (fun c125 => ?_) (fun c125 => ?_)
                      · skip
                        have c125 := ni_eq (a := 0) (b := 0) (by omega) (by omega) c125
                        refine lv_aload_n hx hb dX4_toggle_169 rfl (lv_at hl 6 rfl) ?_
                        refine fg_X4_toggleTimes hx hb hts hown hE hP q_739 dX4_toggle_170 ?_
                        refine lv_iload_n hx hb dX4_toggle_173 rfl (lv_at hl 3 rfl) ?_
                        refine lv_iload hx hb dX4_toggle_174 (lv_at hl 1 rfl) ?_
                        refine lv_iadd hx hb dX4_toggle_176 ?_
                        refine xt_i (nI_add (6 * j) p9) ?_
                        refine lv_aload_n hx hb dX4_toggle_177 rfl (lv_at hl 6 rfl) ?_
                        refine fg_X4_toggleTimes hx hb hts hown hE hP q_739 dX4_toggle_178 ?_
                        refine lv_iload_n hx hb dX4_toggle_181 rfl (lv_at hl 3 rfl) ?_
                        refine lv_iload hx hb dX4_toggle_182 (lv_at hl 1 rfl) ?_
                        refine lv_iadd hx hb dX4_toggle_184 ?_
                        refine xt_i (nI_add (6 * j) p9) ?_
                        refine lv_iconst (v := nI 1) hx hb dX4_toggle_185 (by decide) ?_
                        refine lv_iadd hx hb dX4_toggle_186 ?_
                        refine xt_i (nI_add ((6 * j) + p9) 1) ?_
                        refine lv_iload hx hb dX4_toggle_187 (lv_at hl 2 rfl) ?_
                        refine lv_iload hx hb dX4_toggle_189 (lv_at hl 1 rfl) ?_
                        refine lv_isub hx hb dX4_toggle_191 ?_
                        refine xt_i (w := nI (cT z j - p9)) (pk_sub (by omega)) ?_
                        refine cp_tt hx hb (hml.trans hl.1.symm) hown hts q_836 q_443 q_442 q_57 hE hS hP (sp := (6 * j) + p9) (dp := ((6 * j) + p9) + 1) (n := cT z j - p9) (by omega) (by omega) (by rw [hRf]; decide) (by rw [hRl]; decide) dX4_toggle_192 (fun H locs hP hS => ?_)
                        refine lv_aload_n hx hb dX4_toggle_195 rfl (lv_at hl 6 rfl) ?_
                        refine fg_X4_toggleTimes hx hb hts hown hE hP q_739 dX4_toggle_196 ?_
                        refine lv_iload_n hx hb dX4_toggle_199 rfl (lv_at hl 3 rfl) ?_
                        refine lv_iload hx hb dX4_toggle_200 (lv_at hl 1 rfl) ?_
                        refine lv_iadd hx hb dX4_toggle_202 ?_
                        refine xt_i (nI_add (6 * j) p9) ?_
                        refine lv_iload_n hx hb dX4_toggle_203 rfl (lv_at hl 4 rfl) ?_
                        refine as_toggleTimes hx hb hE hS hP (j := (6 * j) + p9) (by omega) dX4_toggle_204 (fun H locs hP hS => ?_)
                        refine lv_aload_n hx hb dX4_toggle_205 rfl (lv_at hl 6 rfl) ?_
                        refine fg_X4_toggles hx hb hts hown hE hP q_738 dX4_toggle_206 ?_
                        refine lv_iload_n hx hb dX4_toggle_209 rfl (lv_at hl 5 rfl) ?_
                        refine lv_dup2_11 hx hb dX4_toggle_210 rfl rfl ?_
                        refine al_toggles hx hb hE hP (j := j) (by omega) dX4_toggle_211 ?_
                        refine xt_i (w := nI (cT z j)) (hq.t hw hj) ?_
                        refine lv_iconst (v := nI 1) hx hb dX4_toggle_212 (by decide) ?_
                        refine lv_iadd hx hb dX4_toggle_213 ?_
                        refine xt_i (nI_add (cT z j) 1) ?_
                        refine as_toggles hx hb hE hS hP (j := j) (by omega) dX4_toggle_214 (fun H locs hP hS => ?_)
                        refine lv_aload_n hx hb dX4_toggle_215 rfl (lv_at hl 6 rfl) ?_
                        refine fg_X4_toggles hx hb hts hown hE hP q_738 dX4_toggle_216 ?_
                        refine lv_iload_n hx hb dX4_toggle_219 rfl (lv_at hl 5 rfl) ?_
                        refine al_toggles hx hb hE hP (j := j) (by omega) dX4_toggle_220 ?_
                        refine xt_i (w := nI (cT z j + 1)) (if_pos rfl) ?_
                        have eT : tTog z (nI j) (nI tv) = 0 := by rw [tTog, if_neg (not_not_intro c10), if_neg (not_not_intro ⟨h1t, h9t⟩), cl_nI (by omega), if_neg (fun h => c114 h.2)]
                        exact xe_iret hQ hx hb hr hlocks hH hS (Nat.le_refl _) (Nat.le_refl _) (⟨_, rfl, fun _ => by rw [cl_nI (by omega), zTog, if_neg hh]; exact (show upd _ j (nI (cT z j + 1)) j = nI (cT z j + 1) from if_pos rfl).symm, by rw [eT, if_pos rfl]; exact (by rw [cl_nI (by omega), zTog, if_neg hh]; exact hP.R (rq_put hq hw hj htb hp9 (by omega)))⟩) dX4_toggle_221
                      · skip
                        have c125 := ni_ne (a := 0) (b := 0) (by omega) (by omega) c125
                        exfalso; omega
                    · skip
                      have c114 := ni_eq (a := (cT z j)) (b := 6) (by omega) (by omega) c114
                      refine lv_aload_n hx hb dX4_toggle_117 rfl (lv_at hl 6 rfl) ?_
                      refine lv_iconst (v := nI 3) hx hb dX4_toggle_118 (by decide) ?_
                      refine xw_callV (C := "NetlistBenchModel") (n := 1) [.int (nI 3)] (c_X4_fail l hP (nI 3)) hx hb hml hown hts hE hS (xw_recv hE hP (20, 0) rfl rfl) rfl rfl q_48 q_798 q_801 q_800 q_26 (by decide) rfl ⟨by rw [hRf]; decide, by rw [hRl]; decide⟩ hl.1 rfl (Nat.le_of_ble_eq_true rfl) dX4_toggle_119 ⟨by rw [hRc]; decide, by rw [hRs]; decide⟩ (fun v H1 locs hp hS => ?_)
                      obtain ⟨hv, hP⟩ := hp; subst hv
                      generalize H1 = H at hP hS ⊢
                      have eT : tTog z (nI j) (nI tv) = (nI 3) := by rw [tTog, if_neg (not_not_intro c10), if_neg (not_not_intro ⟨h1t, h9t⟩), cl_nI (by omega), if_pos ⟨hh, c114⟩]; rfl
                      exact xe_iret hQ hx hb hr hlocks hH hS (Nat.le_refl _) (Nat.le_refl _) (⟨_, rfl, fun h => absurd (eT.symm.trans h) (by decide), by rw [eT, if_neg (by decide)]; exact hP.R hq⟩) dX4_toggle_122
                · skip
                  refine lv_iconst (v := nI 1) hx hb dX4_toggle_98 (by decide) ?_
                  refine lv_goto (tgt := 103) hx hb dX4_toggle_99 (by decide) ?_
                  refine lv_istore (lv' := [(6, .int (nI 1)), (5, .int (nI p9)), (4, .int (nI (cT z j))), (3, .int (nI (6 * j))), (2, .int (nI tv)), (1, .int (nI j)), (0, .ref (ad (20, 0)))]) hx hb dX4_toggle_103 hl (by decide) rfl (fun ls hl => ?_)
                  have hh : hasP z j (nI tv) := (has_iff hv9 hso htb htbp hle hp9).mpr ⟨c82, c95⟩
                  refine lv_iload hx hb dX4_toggle_105 (lv_at hl 0 rfl) ?_
                  refine lv_if_ne (tgt := 123) hx hb dX4_toggle_107 (by decide) (fun c107 => ?_) (fun c107 => ?_)
                  · skip
                    have c107 := ni_ne (a := 1) (b := 0) (by omega) (by omega) c107
                    refine lv_iload hx hb dX4_toggle_123 (lv_at hl 0 rfl) ?_
                    refine lv_if_eq (tgt := 169) hx hb dX4_toggle_125 (by decide) (fun c125 => ?_) (fun c125 => ?_)
                    · skip
                      have c125 := ni_eq (a := 1) (b := 0) (by omega) (by omega) c125
                      exfalso; omega
                    · skip
                      have c125 := ni_ne (a := 1) (b := 0) (by omega) (by omega) c125
                      refine lv_aload_n hx hb dX4_toggle_128 rfl (lv_at hl 6 rfl) ?_
                      refine fg_X4_toggleTimes hx hb hts hown hE hP q_739 dX4_toggle_129 ?_
                      refine lv_iload_n hx hb dX4_toggle_132 rfl (lv_at hl 3 rfl) ?_
                      refine lv_iload hx hb dX4_toggle_133 (lv_at hl 1 rfl) ?_
                      refine lv_iadd hx hb dX4_toggle_135 ?_
                      refine xt_i (nI_add (6 * j) p9) ?_
                      refine lv_iconst (v := nI 1) hx hb dX4_toggle_136 (by decide) ?_
                      refine lv_iadd hx hb dX4_toggle_137 ?_
                      refine xt_i (nI_add ((6 * j) + p9) 1) ?_
                      refine lv_aload_n hx hb dX4_toggle_138 rfl (lv_at hl 6 rfl) ?_
                      refine fg_X4_toggleTimes hx hb hts hown hE hP q_739 dX4_toggle_139 ?_
                      refine lv_iload_n hx hb dX4_toggle_142 rfl (lv_at hl 3 rfl) ?_
                      refine lv_iload hx hb dX4_toggle_143 (lv_at hl 1 rfl) ?_
                      refine lv_iadd hx hb dX4_toggle_145 ?_
                      refine xt_i (nI_add (6 * j) p9) ?_
                      refine lv_iload hx hb dX4_toggle_146 (lv_at hl 2 rfl) ?_
                      refine lv_iconst (v := nI 1) hx hb dX4_toggle_148 (by decide) ?_
                      refine lv_isub hx hb dX4_toggle_149 ?_
                      refine xt_i (w := nI (cT z j - 1)) (pk_sub (by omega)) ?_
                      refine lv_iload hx hb dX4_toggle_150 (lv_at hl 1 rfl) ?_
                      refine lv_isub hx hb dX4_toggle_152 ?_
                      refine xt_i (w := nI (cT z j - 1 - p9)) (pk_sub (by omega)) ?_
                      refine cp_tt hx hb (hml.trans hl.1.symm) hown hts q_836 q_443 q_442 q_57 hE hS hP (sp := ((6 * j) + p9) + 1) (dp := (6 * j) + p9) (n := cT z j - 1 - p9) (by omega) (by omega) (by rw [hRf]; decide) (by rw [hRl]; decide) dX4_toggle_153 (fun H locs hP hS => ?_)
                      refine lv_aload_n hx hb dX4_toggle_156 rfl (lv_at hl 6 rfl) ?_
                      refine fg_X4_toggles hx hb hts hown hE hP q_738 dX4_toggle_157 ?_
                      refine lv_iload_n hx hb dX4_toggle_160 rfl (lv_at hl 5 rfl) ?_
                      refine lv_dup2_11 hx hb dX4_toggle_161 rfl rfl ?_
                      refine al_toggles hx hb hE hP (j := j) (by omega) dX4_toggle_162 ?_
                      refine xt_i (w := nI (cT z j)) (hq.t hw hj) ?_
                      refine lv_iconst (v := nI 1) hx hb dX4_toggle_163 (by decide) ?_
                      refine lv_isub hx hb dX4_toggle_164 ?_
                      refine xt_i (w := nI (cT z j - 1)) (pk_sub (by omega)) ?_
                      refine as_toggles hx hb hE hS hP (j := j) (by omega) dX4_toggle_165 (fun H locs hP hS => ?_)
                      refine lv_goto (tgt := 215) hx hb dX4_toggle_166 (by decide) ?_
                      refine lv_aload_n hx hb dX4_toggle_215 rfl (lv_at hl 6 rfl) ?_
                      refine fg_X4_toggles hx hb hts hown hE hP q_738 dX4_toggle_216 ?_
                      refine lv_iload_n hx hb dX4_toggle_219 rfl (lv_at hl 5 rfl) ?_
                      refine al_toggles hx hb hE hP (j := j) (by omega) dX4_toggle_220 ?_
                      refine xt_i (w := nI (cT z j - 1)) (if_pos rfl) ?_
                      have eT : tTog z (nI j) (nI tv) = 0 := by rw [tTog, if_neg (not_not_intro c10), if_neg (not_not_intro ⟨h1t, h9t⟩), cl_nI (by omega), if_neg (fun h => h.1 hh)]
                      exact xe_iret hQ hx hb hr hlocks hH hS (Nat.le_refl _) (Nat.le_refl _) (⟨_, rfl, fun _ => by rw [cl_nI (by omega), zTog, if_pos hh]; exact (show upd _ j (nI (cT z j - 1)) j = nI (cT z j - 1) from if_pos rfl).symm, by rw [eT, if_pos rfl]; exact (by rw [cl_nI (by omega), zTog, if_pos hh]; exact hP.R (rq_drp hq hw hj htb c82))⟩) dX4_toggle_221
                  · skip
                    have c107 := ni_eq (a := 1) (b := 0) (by omega) (by omega) c107
                    exfalso; omega
            exact K78 k (by omega) htk (fun h => absurd h (by omega)) _ _ _ hP hS (lv_sub hl [0, 1, 2, 3, 4, 5] rfl)
          · skip
            have c56 := ni_nle (a := (cT z j)) (b := k) (by omega) (by omega) c56
            refine lv_aload_n hx hb dX4_toggle_59 rfl (lv_at hl 5 rfl) ?_
            refine fg_X4_toggleTimes hx hb hts hown hE hP q_739 dX4_toggle_60 ?_
            refine lv_iload_n hx hb dX4_toggle_63 rfl (lv_at hl 2 rfl) ?_
            refine lv_iload hx hb dX4_toggle_64 (lv_at hl 0 rfl) ?_
            refine lv_iadd hx hb dX4_toggle_66 ?_
            refine xt_i (nI_add (6 * j) k) ?_
            refine al_toggleTimes hx hb hE hP (j := (6 * j) + k) (by omega) dX4_toggle_67 ?_
            refine xt_i (w := tT z (6 * j + k)) (hq.m (j := j) (k := k) (by first | assumption | omega) (by first | assumption | omega)) ?_
            refine lv_iload_n hx hb dX4_toggle_68 rfl (lv_at hl 3 rfl) ?_
            refine lv_icmp_ge (tgt := 78) hx hb dX4_toggle_69 (by decide) (fun c69 => ?_) (fun c69 => ?_)
            · skip
              have K78 : ∀ (p9 : Nat), (p9 ≤ cT z j) → (tb z j (nI tv) p9 = p9) → (p9 < cT z j → nI tv ≤ tT z (6 * j + p9)) → ∀ (H : Heap) (locs : List Loc) (ls : Array Slot), xW D A ad (wU fB (wR y ad (nI 0) w qp qm qr qi qn qf qu qd) fO) H → va_S A Hs H locs → lv_has ls 7 [(5, .int (nI p9)), (4, .int (nI (cT z j))), (3, .int (nI (6 * j))), (2, .int (nI tv)), (1, .int (nI j)), (0, .ref (ad (20, 0)))] → W p l e R s m args below meth c H locs 0 0 Q (F0 m 78 ls []) := by
                intro p9 hp9 htbp hle H locs ls hP hS hl
                have htb := tb_stop hso hp9 htbp hle
                refine lv_iload hx hb dX4_toggle_78 (lv_at hl 0 rfl) ?_
                refine lv_iload hx hb dX4_toggle_80 (lv_at hl 1 rfl) ?_
                refine lv_icmp_ge (tgt := 102) hx hb dX4_toggle_82 (by decide) (fun c82 => ?_) (fun c82 => ?_)
                · skip
                  have c82 := ni_le (a := (cT z j)) (b := p9) (by omega) (by omega) c82
                  refine lv_iconst (v := nI 0) hx hb dX4_toggle_102 (by decide) ?_
                  refine lv_istore (lv' := [(6, .int (nI 0)), (5, .int (nI p9)), (4, .int (nI (cT z j))), (3, .int (nI (6 * j))), (2, .int (nI tv)), (1, .int (nI j)), (0, .ref (ad (20, 0)))]) hx hb dX4_toggle_103 hl (by decide) rfl (fun ls hl => ?_)
                  have hh : ¬ hasP z j (nI tv) := fun h => by have g := (has_iff hv9 hso htb htbp hle hp9).mp h; omega
                  refine lv_iload hx hb dX4_toggle_105 (lv_at hl 0 rfl) ?_
                  refine lv_if_ne (tgt := 123) hx hb dX4_toggle_107 (by decide) (fun c107 => ?_) (fun c107 => ?_)
                  · skip
                    have c107 := ni_ne (a := 0) (b := 0) (by omega) (by omega) c107
                    exfalso; omega
                  · skip
                    have c107 := ni_eq (a := 0) (b := 0) (by omega) (by omega) c107
                    refine lv_iload hx hb dX4_toggle_110 (lv_at hl 2 rfl) ?_
                    refine lv_bipush (v := nI 6) hx hb dX4_toggle_112 (by decide) ?_
                    refine lv_icmp_ne (tgt := 123) hx hb dX4_toggle_114 (by decide) (fun c114 => ?_) (fun c114 => ?_)
                    · skip
                      have c114 := ni_ne (a := (cT z j)) (b := 6) (by omega) (by omega) c114
                      refine lv_iload hx hb dX4_toggle_123 (lv_at hl 0 rfl) ?_
                      refine lv_if_eq (tgt := 169) hx hb dX4_toggle_125 (by decide) (fun c125 => ?_) (fun c125 => ?_)
                      · skip
                        have c125 := ni_eq (a := 0) (b := 0) (by omega) (by omega) c125
                        refine lv_aload_n hx hb dX4_toggle_169 rfl (lv_at hl 6 rfl) ?_
                        refine fg_X4_toggleTimes hx hb hts hown hE hP q_739 dX4_toggle_170 ?_
                        refine lv_iload_n hx hb dX4_toggle_173 rfl (lv_at hl 3 rfl) ?_
                        refine lv_iload hx hb dX4_toggle_174 (lv_at hl 1 rfl) ?_
                        refine lv_iadd hx hb dX4_toggle_176 ?_
                        refine xt_i (nI_add (6 * j) p9) ?_
                        refine lv_aload_n hx hb dX4_toggle_177 rfl (lv_at hl 6 rfl) ?_
                        refine fg_X4_toggleTimes hx hb hts hown hE hP q_739 dX4_toggle_178 ?_
                        refine lv_iload_n hx hb dX4_toggle_181 rfl (lv_at hl 3 rfl) ?_
                        refine lv_iload hx hb dX4_toggle_182 (lv_at hl 1 rfl) ?_
                        refine lv_iadd hx hb dX4_toggle_184 ?_
                        refine xt_i (nI_add (6 * j) p9) ?_
                        refine lv_iconst (v := nI 1) hx hb dX4_toggle_185 (by decide) ?_
                        refine lv_iadd hx hb dX4_toggle_186 ?_
                        refine xt_i (nI_add ((6 * j) + p9) 1) ?_
                        refine lv_iload hx hb dX4_toggle_187 (lv_at hl 2 rfl) ?_
                        refine lv_iload hx hb dX4_toggle_189 (lv_at hl 1 rfl) ?_
                        refine lv_isub hx hb dX4_toggle_191 ?_
                        refine xt_i (w := nI (cT z j - p9)) (pk_sub (by omega)) ?_
                        refine cp_tt hx hb (hml.trans hl.1.symm) hown hts q_836 q_443 q_442 q_57 hE hS hP (sp := (6 * j) + p9) (dp := ((6 * j) + p9) + 1) (n := cT z j - p9) (by omega) (by omega) (by rw [hRf]; decide) (by rw [hRl]; decide) dX4_toggle_192 (fun H locs hP hS => ?_)
                        refine lv_aload_n hx hb dX4_toggle_195 rfl (lv_at hl 6 rfl) ?_
                        refine fg_X4_toggleTimes hx hb hts hown hE hP q_739 dX4_toggle_196 ?_
                        refine lv_iload_n hx hb dX4_toggle_199 rfl (lv_at hl 3 rfl) ?_
                        refine lv_iload hx hb dX4_toggle_200 (lv_at hl 1 rfl) ?_
                        refine lv_iadd hx hb dX4_toggle_202 ?_
                        refine xt_i (nI_add (6 * j) p9) ?_
                        refine lv_iload_n hx hb dX4_toggle_203 rfl (lv_at hl 4 rfl) ?_
                        refine as_toggleTimes hx hb hE hS hP (j := (6 * j) + p9) (by omega) dX4_toggle_204 (fun H locs hP hS => ?_)
                        refine lv_aload_n hx hb dX4_toggle_205 rfl (lv_at hl 6 rfl) ?_
                        refine fg_X4_toggles hx hb hts hown hE hP q_738 dX4_toggle_206 ?_
                        refine lv_iload_n hx hb dX4_toggle_209 rfl (lv_at hl 5 rfl) ?_
                        refine lv_dup2_11 hx hb dX4_toggle_210 rfl rfl ?_
                        refine al_toggles hx hb hE hP (j := j) (by omega) dX4_toggle_211 ?_
                        refine xt_i (w := nI (cT z j)) (hq.t hw hj) ?_
                        refine lv_iconst (v := nI 1) hx hb dX4_toggle_212 (by decide) ?_
                        refine lv_iadd hx hb dX4_toggle_213 ?_
                        refine xt_i (nI_add (cT z j) 1) ?_
                        refine as_toggles hx hb hE hS hP (j := j) (by omega) dX4_toggle_214 (fun H locs hP hS => ?_)
                        refine lv_aload_n hx hb dX4_toggle_215 rfl (lv_at hl 6 rfl) ?_
                        refine fg_X4_toggles hx hb hts hown hE hP q_738 dX4_toggle_216 ?_
                        refine lv_iload_n hx hb dX4_toggle_219 rfl (lv_at hl 5 rfl) ?_
                        refine al_toggles hx hb hE hP (j := j) (by omega) dX4_toggle_220 ?_
                        refine xt_i (w := nI (cT z j + 1)) (if_pos rfl) ?_
                        have eT : tTog z (nI j) (nI tv) = 0 := by rw [tTog, if_neg (not_not_intro c10), if_neg (not_not_intro ⟨h1t, h9t⟩), cl_nI (by omega), if_neg (fun h => c114 h.2)]
                        exact xe_iret hQ hx hb hr hlocks hH hS (Nat.le_refl _) (Nat.le_refl _) (⟨_, rfl, fun _ => by rw [cl_nI (by omega), zTog, if_neg hh]; exact (show upd _ j (nI (cT z j + 1)) j = nI (cT z j + 1) from if_pos rfl).symm, by rw [eT, if_pos rfl]; exact (by rw [cl_nI (by omega), zTog, if_neg hh]; exact hP.R (rq_put hq hw hj htb hp9 (by omega)))⟩) dX4_toggle_221
                      · skip
                        have c125 := ni_ne (a := 0) (b := 0) (by omega) (by omega) c125
                        exfalso; omega
                    · skip
                      have c114 := ni_eq (a := (cT z j)) (b := 6) (by omega) (by omega) c114
                      refine lv_aload_n hx hb dX4_toggle_117 rfl (lv_at hl 6 rfl) ?_
                      refine lv_iconst (v := nI 3) hx hb dX4_toggle_118 (by decide) ?_
                      refine xw_callV (C := "NetlistBenchModel") (n := 1) [.int (nI 3)] (c_X4_fail l hP (nI 3)) hx hb hml hown hts hE hS (xw_recv hE hP (20, 0) rfl rfl) rfl rfl q_48 q_798 q_801 q_800 q_26 (by decide) rfl ⟨by rw [hRf]; decide, by rw [hRl]; decide⟩ hl.1 rfl (Nat.le_of_ble_eq_true rfl) dX4_toggle_119 ⟨by rw [hRc]; decide, by rw [hRs]; decide⟩ (fun v H1 locs hp hS => ?_)
                      obtain ⟨hv, hP⟩ := hp; subst hv
                      generalize H1 = H at hP hS ⊢
                      have eT : tTog z (nI j) (nI tv) = (nI 3) := by rw [tTog, if_neg (not_not_intro c10), if_neg (not_not_intro ⟨h1t, h9t⟩), cl_nI (by omega), if_pos ⟨hh, c114⟩]; rfl
                      exact xe_iret hQ hx hb hr hlocks hH hS (Nat.le_refl _) (Nat.le_refl _) (⟨_, rfl, fun h => absurd (eT.symm.trans h) (by decide), by rw [eT, if_neg (by decide)]; exact hP.R hq⟩) dX4_toggle_122
                · skip
                  have c82 := ni_nle (a := (cT z j)) (b := p9) (by omega) (by omega) c82
                  refine lv_aload_n hx hb dX4_toggle_85 rfl (lv_at hl 5 rfl) ?_
                  refine fg_X4_toggleTimes hx hb hts hown hE hP q_739 dX4_toggle_86 ?_
                  refine lv_iload_n hx hb dX4_toggle_89 rfl (lv_at hl 2 rfl) ?_
                  refine lv_iload hx hb dX4_toggle_90 (lv_at hl 0 rfl) ?_
                  refine lv_iadd hx hb dX4_toggle_92 ?_
                  refine xt_i (nI_add (6 * j) p9) ?_
                  refine al_toggleTimes hx hb hE hP (j := (6 * j) + p9) (by omega) dX4_toggle_93 ?_
                  refine xt_i (w := tT z (6 * j + p9)) (hq.m (j := j) (k := p9) (by first | assumption | omega) (by first | assumption | omega)) ?_
                  refine lv_iload_n hx hb dX4_toggle_94 rfl (lv_at hl 3 rfl) ?_
                  refine lv_icmp_ne (tgt := 102) hx hb dX4_toggle_95 (by decide) (fun c95 => ?_) (fun c95 => ?_)
                  · skip
                    refine lv_iconst (v := nI 0) hx hb dX4_toggle_102 (by decide) ?_
                    refine lv_istore (lv' := [(6, .int (nI 0)), (5, .int (nI p9)), (4, .int (nI (cT z j))), (3, .int (nI (6 * j))), (2, .int (nI tv)), (1, .int (nI j)), (0, .ref (ad (20, 0)))]) hx hb dX4_toggle_103 hl (by decide) rfl (fun ls hl => ?_)
                    have hh : ¬ hasP z j (nI tv) := fun h => c95 ((has_iff hv9 hso htb htbp hle hp9).mp h).2
                    refine lv_iload hx hb dX4_toggle_105 (lv_at hl 0 rfl) ?_
                    refine lv_if_ne (tgt := 123) hx hb dX4_toggle_107 (by decide) (fun c107 => ?_) (fun c107 => ?_)
                    · skip
                      have c107 := ni_ne (a := 0) (b := 0) (by omega) (by omega) c107
                      exfalso; omega
                    · skip
                      have c107 := ni_eq (a := 0) (b := 0) (by omega) (by omega) c107
                      refine lv_iload hx hb dX4_toggle_110 (lv_at hl 2 rfl) ?_
                      refine lv_bipush (v := nI 6) hx hb dX4_toggle_112 (by decide) ?_
                      refine lv_icmp_ne (tgt := 123) hx hb dX4_toggle_114 (by decide) (fun c114 => ?_) (fun c114 => ?_)
                      · skip
                        have c114 := ni_ne (a := (cT z j)) (b := 6) (by omega) (by omega) c114
                        refine lv_iload hx hb dX4_toggle_123 (lv_at hl 0 rfl) ?_
                        refine lv_if_eq (tgt := 169) hx hb dX4_toggle_125 (by decide) (fun c125 => ?_) (fun c125 => ?_)
                        · skip
                          have c125 := ni_eq (a := 0) (b := 0) (by omega) (by omega) c125
                          refine lv_aload_n hx hb dX4_toggle_169 rfl (lv_at hl 6 rfl) ?_
                          refine fg_X4_toggleTimes hx hb hts hown hE hP q_739 dX4_toggle_170 ?_
                          refine lv_iload_n hx hb dX4_toggle_173 rfl (lv_at hl 3 rfl) ?_
                          refine lv_iload hx hb dX4_toggle_174 (lv_at hl 1 rfl) ?_
                          refine lv_iadd hx hb dX4_toggle_176 ?_
                          refine xt_i (nI_add (6 * j) p9) ?_
                          refine lv_aload_n hx hb dX4_toggle_177 rfl (lv_at hl 6 rfl) ?_
                          refine fg_X4_toggleTimes hx hb hts hown hE hP q_739 dX4_toggle_178 ?_
                          refine lv_iload_n hx hb dX4_toggle_181 rfl (lv_at hl 3 rfl) ?_
                          refine lv_iload hx hb dX4_toggle_182 (lv_at hl 1 rfl) ?_
                          refine lv_iadd hx hb dX4_toggle_184 ?_
                          refine xt_i (nI_add (6 * j) p9) ?_
                          refine lv_iconst (v := nI 1) hx hb dX4_toggle_185 (by decide) ?_
                          refine lv_iadd hx hb dX4_toggle_186 ?_
                          refine xt_i (nI_add ((6 * j) + p9) 1) ?_
                          refine lv_iload hx hb dX4_toggle_187 (lv_at hl 2 rfl) ?_
                          refine lv_iload hx hb dX4_toggle_189 (lv_at hl 1 rfl) ?_
                          refine lv_isub hx hb dX4_toggle_191 ?_
                          refine xt_i (w := nI (cT z j - p9)) (pk_sub (by omega)) ?_
                          refine cp_tt hx hb (hml.trans hl.1.symm) hown hts q_836 q_443 q_442 q_57 hE hS hP (sp := (6 * j) + p9) (dp := ((6 * j) + p9) + 1) (n := cT z j - p9) (by omega) (by omega) (by rw [hRf]; decide) (by rw [hRl]; decide) dX4_toggle_192 (fun H locs hP hS => ?_)
                          refine lv_aload_n hx hb dX4_toggle_195 rfl (lv_at hl 6 rfl) ?_
                          refine fg_X4_toggleTimes hx hb hts hown hE hP q_739 dX4_toggle_196 ?_
                          refine lv_iload_n hx hb dX4_toggle_199 rfl (lv_at hl 3 rfl) ?_
                          refine lv_iload hx hb dX4_toggle_200 (lv_at hl 1 rfl) ?_
                          refine lv_iadd hx hb dX4_toggle_202 ?_
                          refine xt_i (nI_add (6 * j) p9) ?_
                          refine lv_iload_n hx hb dX4_toggle_203 rfl (lv_at hl 4 rfl) ?_
                          refine as_toggleTimes hx hb hE hS hP (j := (6 * j) + p9) (by omega) dX4_toggle_204 (fun H locs hP hS => ?_)
                          refine lv_aload_n hx hb dX4_toggle_205 rfl (lv_at hl 6 rfl) ?_
                          refine fg_X4_toggles hx hb hts hown hE hP q_738 dX4_toggle_206 ?_
                          refine lv_iload_n hx hb dX4_toggle_209 rfl (lv_at hl 5 rfl) ?_
                          refine lv_dup2_11 hx hb dX4_toggle_210 rfl rfl ?_
                          refine al_toggles hx hb hE hP (j := j) (by omega) dX4_toggle_211 ?_
                          refine xt_i (w := nI (cT z j)) (hq.t hw hj) ?_
                          refine lv_iconst (v := nI 1) hx hb dX4_toggle_212 (by decide) ?_
                          refine lv_iadd hx hb dX4_toggle_213 ?_
                          refine xt_i (nI_add (cT z j) 1) ?_
                          refine as_toggles hx hb hE hS hP (j := j) (by omega) dX4_toggle_214 (fun H locs hP hS => ?_)
                          refine lv_aload_n hx hb dX4_toggle_215 rfl (lv_at hl 6 rfl) ?_
                          refine fg_X4_toggles hx hb hts hown hE hP q_738 dX4_toggle_216 ?_
                          refine lv_iload_n hx hb dX4_toggle_219 rfl (lv_at hl 5 rfl) ?_
                          refine al_toggles hx hb hE hP (j := j) (by omega) dX4_toggle_220 ?_
                          refine xt_i (w := nI (cT z j + 1)) (if_pos rfl) ?_
                          have eT : tTog z (nI j) (nI tv) = 0 := by rw [tTog, if_neg (not_not_intro c10), if_neg (not_not_intro ⟨h1t, h9t⟩), cl_nI (by omega), if_neg (fun h => c114 h.2)]
                          exact xe_iret hQ hx hb hr hlocks hH hS (Nat.le_refl _) (Nat.le_refl _) (⟨_, rfl, fun _ => by rw [cl_nI (by omega), zTog, if_neg hh]; exact (show upd _ j (nI (cT z j + 1)) j = nI (cT z j + 1) from if_pos rfl).symm, by rw [eT, if_pos rfl]; exact (by rw [cl_nI (by omega), zTog, if_neg hh]; exact hP.R (rq_put hq hw hj htb hp9 (by omega)))⟩) dX4_toggle_221
                        · skip
                          have c125 := ni_ne (a := 0) (b := 0) (by omega) (by omega) c125
                          exfalso; omega
                      · skip
                        have c114 := ni_eq (a := (cT z j)) (b := 6) (by omega) (by omega) c114
                        refine lv_aload_n hx hb dX4_toggle_117 rfl (lv_at hl 6 rfl) ?_
                        refine lv_iconst (v := nI 3) hx hb dX4_toggle_118 (by decide) ?_
                        refine xw_callV (C := "NetlistBenchModel") (n := 1) [.int (nI 3)] (c_X4_fail l hP (nI 3)) hx hb hml hown hts hE hS (xw_recv hE hP (20, 0) rfl rfl) rfl rfl q_48 q_798 q_801 q_800 q_26 (by decide) rfl ⟨by rw [hRf]; decide, by rw [hRl]; decide⟩ hl.1 rfl (Nat.le_of_ble_eq_true rfl) dX4_toggle_119 ⟨by rw [hRc]; decide, by rw [hRs]; decide⟩ (fun v H1 locs hp hS => ?_)
                        obtain ⟨hv, hP⟩ := hp; subst hv
                        generalize H1 = H at hP hS ⊢
                        have eT : tTog z (nI j) (nI tv) = (nI 3) := by rw [tTog, if_neg (not_not_intro c10), if_neg (not_not_intro ⟨h1t, h9t⟩), cl_nI (by omega), if_pos ⟨hh, c114⟩]; rfl
                        exact xe_iret hQ hx hb hr hlocks hH hS (Nat.le_refl _) (Nat.le_refl _) (⟨_, rfl, fun h => absurd (eT.symm.trans h) (by decide), by rw [eT, if_neg (by decide)]; exact hP.R hq⟩) dX4_toggle_122
                  · skip
                    refine lv_iconst (v := nI 1) hx hb dX4_toggle_98 (by decide) ?_
                    refine lv_goto (tgt := 103) hx hb dX4_toggle_99 (by decide) ?_
                    refine lv_istore (lv' := [(6, .int (nI 1)), (5, .int (nI p9)), (4, .int (nI (cT z j))), (3, .int (nI (6 * j))), (2, .int (nI tv)), (1, .int (nI j)), (0, .ref (ad (20, 0)))]) hx hb dX4_toggle_103 hl (by decide) rfl (fun ls hl => ?_)
                    have hh : hasP z j (nI tv) := (has_iff hv9 hso htb htbp hle hp9).mpr ⟨c82, c95⟩
                    refine lv_iload hx hb dX4_toggle_105 (lv_at hl 0 rfl) ?_
                    refine lv_if_ne (tgt := 123) hx hb dX4_toggle_107 (by decide) (fun c107 => ?_) (fun c107 => ?_)
                    · skip
                      have c107 := ni_ne (a := 1) (b := 0) (by omega) (by omega) c107
                      refine lv_iload hx hb dX4_toggle_123 (lv_at hl 0 rfl) ?_
                      refine lv_if_eq (tgt := 169) hx hb dX4_toggle_125 (by decide) (fun c125 => ?_) (fun c125 => ?_)
                      · skip
                        have c125 := ni_eq (a := 1) (b := 0) (by omega) (by omega) c125
                        exfalso; omega
                      · skip
                        have c125 := ni_ne (a := 1) (b := 0) (by omega) (by omega) c125
                        refine lv_aload_n hx hb dX4_toggle_128 rfl (lv_at hl 6 rfl) ?_
                        refine fg_X4_toggleTimes hx hb hts hown hE hP q_739 dX4_toggle_129 ?_
                        refine lv_iload_n hx hb dX4_toggle_132 rfl (lv_at hl 3 rfl) ?_
                        refine lv_iload hx hb dX4_toggle_133 (lv_at hl 1 rfl) ?_
                        refine lv_iadd hx hb dX4_toggle_135 ?_
                        refine xt_i (nI_add (6 * j) p9) ?_
                        refine lv_iconst (v := nI 1) hx hb dX4_toggle_136 (by decide) ?_
                        refine lv_iadd hx hb dX4_toggle_137 ?_
                        refine xt_i (nI_add ((6 * j) + p9) 1) ?_
                        refine lv_aload_n hx hb dX4_toggle_138 rfl (lv_at hl 6 rfl) ?_
                        refine fg_X4_toggleTimes hx hb hts hown hE hP q_739 dX4_toggle_139 ?_
                        refine lv_iload_n hx hb dX4_toggle_142 rfl (lv_at hl 3 rfl) ?_
                        refine lv_iload hx hb dX4_toggle_143 (lv_at hl 1 rfl) ?_
                        refine lv_iadd hx hb dX4_toggle_145 ?_
                        refine xt_i (nI_add (6 * j) p9) ?_
                        refine lv_iload hx hb dX4_toggle_146 (lv_at hl 2 rfl) ?_
                        refine lv_iconst (v := nI 1) hx hb dX4_toggle_148 (by decide) ?_
                        refine lv_isub hx hb dX4_toggle_149 ?_
                        refine xt_i (w := nI (cT z j - 1)) (pk_sub (by omega)) ?_
                        refine lv_iload hx hb dX4_toggle_150 (lv_at hl 1 rfl) ?_
                        refine lv_isub hx hb dX4_toggle_152 ?_
                        refine xt_i (w := nI (cT z j - 1 - p9)) (pk_sub (by omega)) ?_
                        refine cp_tt hx hb (hml.trans hl.1.symm) hown hts q_836 q_443 q_442 q_57 hE hS hP (sp := ((6 * j) + p9) + 1) (dp := (6 * j) + p9) (n := cT z j - 1 - p9) (by omega) (by omega) (by rw [hRf]; decide) (by rw [hRl]; decide) dX4_toggle_153 (fun H locs hP hS => ?_)
                        refine lv_aload_n hx hb dX4_toggle_156 rfl (lv_at hl 6 rfl) ?_
                        refine fg_X4_toggles hx hb hts hown hE hP q_738 dX4_toggle_157 ?_
                        refine lv_iload_n hx hb dX4_toggle_160 rfl (lv_at hl 5 rfl) ?_
                        refine lv_dup2_11 hx hb dX4_toggle_161 rfl rfl ?_
                        refine al_toggles hx hb hE hP (j := j) (by omega) dX4_toggle_162 ?_
                        refine xt_i (w := nI (cT z j)) (hq.t hw hj) ?_
                        refine lv_iconst (v := nI 1) hx hb dX4_toggle_163 (by decide) ?_
                        refine lv_isub hx hb dX4_toggle_164 ?_
                        refine xt_i (w := nI (cT z j - 1)) (pk_sub (by omega)) ?_
                        refine as_toggles hx hb hE hS hP (j := j) (by omega) dX4_toggle_165 (fun H locs hP hS => ?_)
                        refine lv_goto (tgt := 215) hx hb dX4_toggle_166 (by decide) ?_
                        refine lv_aload_n hx hb dX4_toggle_215 rfl (lv_at hl 6 rfl) ?_
                        refine fg_X4_toggles hx hb hts hown hE hP q_738 dX4_toggle_216 ?_
                        refine lv_iload_n hx hb dX4_toggle_219 rfl (lv_at hl 5 rfl) ?_
                        refine al_toggles hx hb hE hP (j := j) (by omega) dX4_toggle_220 ?_
                        refine xt_i (w := nI (cT z j - 1)) (if_pos rfl) ?_
                        have eT : tTog z (nI j) (nI tv) = 0 := by rw [tTog, if_neg (not_not_intro c10), if_neg (not_not_intro ⟨h1t, h9t⟩), cl_nI (by omega), if_neg (fun h => h.1 hh)]
                        exact xe_iret hQ hx hb hr hlocks hH hS (Nat.le_refl _) (Nat.le_refl _) (⟨_, rfl, fun _ => by rw [cl_nI (by omega), zTog, if_pos hh]; exact (show upd _ j (nI (cT z j - 1)) j = nI (cT z j - 1) from if_pos rfl).symm, by rw [eT, if_pos rfl]; exact (by rw [cl_nI (by omega), zTog, if_pos hh]; exact hP.R (rq_drp hq hw hj htb c82))⟩) dX4_toggle_221
                    · skip
                      have c107 := ni_eq (a := 1) (b := 0) (by omega) (by omega) c107
                      exfalso; omega
              exact K78 k (by omega) htk (fun _ => c69) _ _ _ hP hS (lv_sub hl [0, 1, 2, 3, 4, 5] rfl)
            · skip
              refine lv_iinc (v := nI (k + 1)) (lv' := [(5, .int (nI (k + 1))), (4, .int (nI (cT z j))), (3, .int (nI (6 * j))), (2, .int (nI tv)), (1, .int (nI j)), (0, .ref (ad (20, 0)))]) hx hb dX4_toggle_72 hl (k := 0) rfl (nI_1 _) (by decide) rfl (fun ls hl => ?_)
              refine lv_goto (tgt := 52) hx hb dX4_toggle_75 (by decide) ?_
              exact ih52 (k + 1) (by omega) (by rw [tb_s1 c69, htk]) (by omega) _ _ _ hP hS (lv_sub hl [0, 1, 2, 3, 4, 5] rfl)
      exact K52 _ 0 (by omega) rfl (Nat.lt_succ_self _) _ _ _ hP hS (lv_sub hl [0, 1, 2, 5, 4, 3] rfl)
    · skip
      have c27 := b_f c27
      refine lv_aload_n hx hb dX4_toggle_30 rfl (lv_at hl 0 rfl) ?_
      refine lv_iconst (v := nI 2) hx hb dX4_toggle_31 (by decide) ?_
      refine xw_callV (C := "NetlistBenchModel") (n := 1) [.int (nI 2)] (c_X4_fail l hP (nI 2)) hx hb hml hown hts hE hS (xw_recv hE hP (20, 0) rfl rfl) rfl rfl q_48 q_798 q_801 q_800 q_26 (by decide) rfl ⟨by rw [hRf]; decide, by rw [hRl]; decide⟩ hl.1 rfl (Nat.le_of_ble_eq_true rfl) dX4_toggle_32 ⟨by rw [hRc]; decide, by rw [hRs]; decide⟩ (fun v H1 locs hp hS => ?_)
      obtain ⟨hv, hP⟩ := hp; subst hv
      generalize H1 = H at hP hS ⊢
      have eT : tTog z (nI j) t = (nI 2) := by rw [tTog, if_neg (not_not_intro c10), if_pos (fun h => c27 (by rintro (g | g); exact Int32.not_lt.mpr h.1 g; exact Int32.not_lt.mpr h.2 g))]; rfl
      exact xe_iret hQ hx hb hr hlocks hH hS (Nat.le_refl _) (Nat.le_refl _) (⟨_, rfl, fun h => absurd (eT.symm.trans h) (by decide), by rw [eT, if_neg (by decide)]; exact hP.R hq⟩) dX4_toggle_35
  · skip
    have c10 := b_f c10
    refine lv_aload_n hx hb dX4_toggle_13 rfl (lv_at hl 0 rfl) ?_
    refine lv_iconst (v := nI 1) hx hb dX4_toggle_14 (by decide) ?_
    refine xw_callV (C := "NetlistBenchModel") (n := 1) [.int (nI 1)] (c_X4_fail l hP (nI 1)) hx hb hml hown hts hE hS (xw_recv hE hP (20, 0) rfl rfl) rfl rfl q_48 q_798 q_801 q_800 q_26 (by decide) rfl ⟨by rw [hRf]; decide, by rw [hRl]; decide⟩ hl.1 rfl (Nat.le_of_ble_eq_true rfl) dX4_toggle_15 ⟨by rw [hRc]; decide, by rw [hRs]; decide⟩ (fun v H1 locs hp hS => ?_)
    obtain ⟨hv, hP⟩ := hp; subst hv
    generalize H1 = H at hP hS ⊢
    have eT : tTog z x t = (nI 1) := by rw [tTog, if_pos c10]; rfl
    exact xe_iret hQ hx hb hr hlocks hH hS (Nat.le_refl _) (Nat.le_refl _) (⟨_, rfl, fun h => absurd (eT.symm.trans h) (by decide), by rw [eT, if_neg (by decide)]; exact hP.R hq⟩) dX4_toggle_18
