set_option maxHeartbeats 4000000 in
set_option maxRecDepth 100000 in
theorem c_X4_solve (l : Launch) {D : va_G} {y : Nat → ClassId} {A : Nat → Prop} {ad : xL → Nat} {th : Int32} {w : xC} {qp : Nat → Int32} {qm : Nat → Int64} {qr : Nat → Int64} {qi : Nat → Int64} {qn : Nat → Int64} {qf : Nat → Int32} {qu : Int32} {qd : Int64} {fB fO : Nat → Nat → Option va_E} {Hs : Heap} (hP : xW D A ad (wU fB (wR y ad th w qp qm qr qi qn qf qu qd) fO) Hs) {z : xC} (hq : Rq z w) (hw : wf z) {t : Nat} (ht : t ≤ 999) : Met l yX4_solve (.code yX4_solve cX4_solve 3 none :: WG) { frames := 4, cells := 0, slots := 0, locals := 95 } (xPc [.ref (ad (20, 0)), .int (nI t)] D y Hs) (xQ (fun v H1 => ∃ (qp qf : Nat → Int32) (qm qr qi qn : Nat → Int64) (qu : Int32), v = none ∧ (∀ j, j < nN z → qn j = nuR z w (nI t) j ∧ qf j = aflI z (gM z (nI t) j)) ∧ xW D A ad (wU fB (wR y ad th w qp qm qr qi qn qf qu (deR z w (nI t))) fO) H1) A) 0 0 A := by
  refine xM_go (by decide) (Nat.le_of_ble_eq_true rfl) (fun p e s m args below meth c ls R Q hx hb hr hlocks hml hown hts hH hE hnm hRf hRl hRc hRs hQ hS hl => ?_)
  have hRf : R.frames = 4 := hRf
  have hRl : R.locals = 95 := hRl
  have hRc : R.cells = 0 := hRc
  have hRs : R.slots = 0 := hRs
  have hl : lv_has ls 3 [(0, .ref (ad (20, 0))), (1, .int (nI t))] := hl
  have hN := hw.N
  have hE20 := hw.E
  have h7 := uN_7 hw (nI t)
  have hpq := uP_ok z (nI t)
  refine lv_aload_n hx hb dX4_solve_0 rfl (lv_at hl 0 rfl) ?_
  refine xw_callV (C := "NetlistBenchModel") (n := 0) [] (c_X4_clear l hP ) hx hb hml hown hts hE hS (xw_recv hE hP (20, 0) rfl rfl) rfl rfl q_48 q_896 q_899 q_898 q_36 (by decide) rfl ⟨by rw [hRf]; decide, by rw [hRl]; decide⟩ hl.1 rfl (Nat.le_of_ble_eq_true rfl) dX4_solve_1 ⟨by rw [hRc]; decide, by rw [hRs]; decide⟩ (fun v H1 locs hp hS => ?_)
  obtain ⟨hv, hP⟩ := hp; subst hv
  generalize H1 = H at hP hS ⊢
  refine lv_iconst (v := nI 0) hx hb dX4_solve_4 (by decide) ?_
  refine lv_istore_n (lv' := [(2, .int (nI 0)), (0, .ref (ad (20, 0))), (1, .int (nI t))]) hx hb dX4_solve_5 rfl hl (by decide) rfl (fun ls hl => ?_)
  have K6 : ∀ (nn : Nat), ∀ (i : Nat) (qf : Nat → Int32), (i ≤ nN z) → (∀ j, j < i → qf j = aflI z (gM z (nI t) j)) → nN z - i < nn → ∀ (H : Heap) (locs : List Loc) (ls : Array Slot), xW D A ad (wU fB (wR y ad th w ((usS z (nI t) i).1) ((mQ (fun _ _ => 0))) ((fun _ => 0)) qi qn qf (nI ((usS z (nI t) i).2)) qd) fO) H → va_S A Hs H locs → lv_has ls 3 [(2, .int (nI i)), (1, .int (nI t)), (0, .ref (ad (20, 0)))] → W p l e R s m args below meth c H locs 0 0 Q (F0 m 6 ls []) := by
    intro nn
    induction nn with
    | zero => intro i qf hi hqf h; exact absurd h (Nat.not_lt_zero _)
    | succ nn ih6 =>
      intro i qf hi hqf hn6 H locs ls hP hS hl
      refine lv_iload_n hx hb dX4_solve_6 rfl (lv_at hl 0 rfl) ?_
      refine lv_aload_n hx hb dX4_solve_7 rfl (lv_at hl 2 rfl) ?_
      refine fg_X4_nodes hx hb hts hown hE hP q_729 dX4_solve_8 ?_
      refine xt_i (congrArg nI hq.N) ?_
      refine lv_icmp_ge (tgt := 73) hx hb dX4_solve_11 (by decide) (fun c11 => ?_) (fun c11 => ?_)
      · skip
        have c11 := ni_le (a := (nN z)) (b := i) (by omega) (by omega) c11
        have hqe : ∀ j, j < nN z → qf j = aflI z (gM z (nI t) j) := fun j hj => hqf j (by omega)
        refine lv_iconst (v := nI 0) hx hb dX4_solve_73 (by decide) ?_
        refine lv_istore_n (lv' := [(2, .int (nI 0)), (1, .int (nI t)), (0, .ref (ad (20, 0)))]) hx hb dX4_solve_74 rfl hl (by decide) rfl (fun ls hl => ?_)
        have K75 : ∀ (nn : Nat), ∀ (i : Nat), (i ≤ nE z) → nE z - i < nn → ∀ (H : Heap) (locs : List Loc) (ls : Array Slot), xW D A ad (wU fB (wR y ad th w (uP z (nI t)) (mQ (asS z w (nI t) i).1) ((asS z w (nI t) i).2) qi qn qf (nI (uN z (nI t))) qd) fO) H → va_S A Hs H locs → lv_has ls 3 [(2, .int (nI i)), (1, .int (nI t)), (0, .ref (ad (20, 0)))] → W p l e R s m args below meth c H locs 0 0 Q (F0 m 75 ls []) := by
          intro nn
          induction nn with
          | zero => intro i hi h; exact absurd h (Nat.not_lt_zero _)
          | succ nn ih75 =>
            intro i hi hn75 H locs ls hP hS hl
            refine lv_iload_n hx hb dX4_solve_75 rfl (lv_at hl 0 rfl) ?_
            refine lv_aload_n hx hb dX4_solve_76 rfl (lv_at hl 2 rfl) ?_
            refine fg_X4_elements hx hb hts hown hE hP q_732 dX4_solve_77 ?_
            refine xt_i (congrArg nI hq.E) ?_
            refine lv_icmp_ge (tgt := 239) hx hb dX4_solve_80 (by decide) (fun c80 => ?_) (fun c80 => ?_)
            · skip
              have c80 := ni_le (a := (nE z)) (b := i) (by omega) (by omega) c80
              rw [show i = nE z by omega] at hP
              refine lv_aload_n hx hb dX4_solve_239 rfl (lv_at hl 2 rfl) ?_
              refine lv_aload_n hx hb dX4_solve_240 rfl (lv_at hl 2 rfl) ?_
              refine lv_iconst (v := (-1)) hx hb dX4_solve_241 (by decide) ?_
              refine xw_callV (C := "NetlistBenchModel") (n := 1) [.int ((-1))] (c_X4_determinant l hP h7 (-1)) hx hb hml hown hts hE hS (xw_recv hE hP (20, 0) rfl rfl) rfl rfl q_48 q_904 q_907 q_906 q_38 (by decide) rfl ⟨by rw [hRf]; decide, by rw [hRl]; decide⟩ hl.1 rfl (Nat.le_of_ble_eq_true rfl) dX4_solve_242 ⟨by rw [hRc]; decide, by rw [hRs]; decide⟩ (fun v H1 locs hp hS => ?_)
              obtain ⟨qj, hv, hP⟩ := hp; subst hv
              generalize H1 = H at hP hS ⊢
              refine xt_l (w := deR z w (nI t)) (rfl) ?_
              refine fp_X4_denominator hx hb hts hown hE hS hP q_745 dX4_solve_245 (fun H locs hP hS => ?_)
              refine lv_iconst (v := nI 0) hx hb dX4_solve_248 (by decide) ?_
              refine lv_istore_n (lv' := [(2, .int (nI 0)), (1, .int (nI t)), (0, .ref (ad (20, 0)))]) hx hb dX4_solve_249 rfl hl (by decide) rfl (fun ls hl => ?_)
              have K250 : ∀ (nn : Nat), ∀ (i : Nat) (qi qn : Nat → Int64), (i ≤ nN z) → (∀ j, j < i → qn j = nuR z w (nI t) j) → nN z - i < nn → ∀ (H : Heap) (locs : List Loc) (ls : Array Slot), xW D A ad (wU fB (wR y ad th w (uP z (nI t)) (mQ (aM z w (nI t))) (aR z w (nI t)) qi qn qf (nI (uN z (nI t))) (deR z w (nI t))) fO) H → va_S A Hs H locs → lv_has ls 3 [(2, .int (nI i)), (1, .int (nI t)), (0, .ref (ad (20, 0)))] → W p l e R s m args below meth c H locs 0 0 Q (F0 m 250 ls []) := by
                intro nn
                induction nn with
                | zero => intro i qi qn hi hqn h; exact absurd h (Nat.not_lt_zero _)
                | succ nn ih250 =>
                  intro i qi qn hi hqn hn250 H locs ls hP hS hl
                  refine lv_iload_n hx hb dX4_solve_250 rfl (lv_at hl 0 rfl) ?_
                  refine lv_aload_n hx hb dX4_solve_251 rfl (lv_at hl 2 rfl) ?_
                  refine fg_X4_nodes hx hb hts hown hE hP q_729 dX4_solve_252 ?_
                  refine xt_i (congrArg nI hq.N) ?_
                  refine lv_icmp_ge (tgt := 317) hx hb dX4_solve_255 (by decide) (fun c255 => ?_) (fun c255 => ?_)
                  · skip
                    have c255 := ni_le (a := (nN z)) (b := i) (by omega) (by omega) c255
                    exact xe_vret hQ hx hb hr hlocks hH hS (Nat.le_refl _) (Nat.le_refl _) (⟨_, _, _, _, _, _, _, rfl, fun j hj => ⟨hqn j (by omega), hqe j hj⟩, hP⟩) dX4_solve_317
                  · skip
                    have c255 := ni_nle (a := (nN z)) (b := i) (by omega) (by omega) c255
                    refine lv_aload_n hx hb dX4_solve_258 rfl (lv_at hl 2 rfl) ?_
                    refine fg_X4_numerators hx hb hts hown hE hP q_746 dX4_solve_259 ?_
                    refine lv_iload_n hx hb dX4_solve_262 rfl (lv_at hl 0 rfl) ?_
                    refine lv_aload_n hx hb dX4_solve_263 rfl (lv_at hl 2 rfl) ?_
                    refine fg_X4_areFloating hx hb hts hown hE hP q_747 dX4_solve_264 ?_
                    refine lv_iload_n hx hb dX4_solve_267 rfl (lv_at hl 0 rfl) ?_
                    refine al_areFloating hx hb hE hP (j := i) (by omega) dX4_solve_268 ?_
                    refine xt_i (w := aflI z (gM z (nI t) i)) (hqe i (by omega)) ?_
                    refine lv_if_eq (tgt := 276) hx hb dX4_solve_269 (by decide) (fun c269 => ?_) (fun c269 => ?_)
                    · skip
                      refine lv_aload_n hx hb dX4_solve_276 rfl (lv_at hl 2 rfl) ?_
                      refine fg_X4_areRails hx hb hts hown hE hP q_730 dX4_solve_277 ?_
                      refine lv_iload_n hx hb dX4_solve_280 rfl (lv_at hl 0 rfl) ?_
                      refine al_areRails hx hb hE hP (j := i) (by omega) dX4_solve_281 ?_
                      refine xt_i (hq.r (by first | assumption | omega)) ?_
                      refine lv_if_eq (tgt := 300) hx hb dX4_solve_282 (by decide) (fun c282 => ?_) (fun c282 => ?_)
                      · skip
                        refine lv_aload_n hx hb dX4_solve_300 rfl (lv_at hl 2 rfl) ?_
                        refine lv_aload_n hx hb dX4_solve_301 rfl (lv_at hl 2 rfl) ?_
                        refine fg_X4_places hx hb hts hown hE hP q_741 dX4_solve_302 ?_
                        refine lv_iload_n hx hb dX4_solve_305 rfl (lv_at hl 0 rfl) ?_
                        refine al_qplaces hx hb hE hP (j := i) (by omega) dX4_solve_306 ?_
                        refine xw_callV (C := "NetlistBenchModel") (n := 1) [.int ((uP z (nI t)) i)] (c_X4_determinant l hP h7 (uP z (nI t) i)) hx hb hml hown hts hE hS (xw_recv hE hP (20, 0) rfl rfl) rfl rfl q_48 q_904 q_907 q_906 q_38 (by decide) rfl ⟨by rw [hRf]; decide, by rw [hRl]; decide⟩ hl.1 rfl (Nat.le_of_ble_eq_true rfl) dX4_solve_307 ⟨by rw [hRc]; decide, by rw [hRs]; decide⟩ (fun v H1 locs hp hS => ?_)
                        obtain ⟨qj2, hv, hP⟩ := hp; subst hv
                        generalize H1 = H at hP hS ⊢
                        refine as_numerators hx hb hE hS hP (j := i) (by omega) dX4_solve_310 (fun H locs hP hS => ?_)
                        refine lv_iinc (v := nI (i + 1)) (lv' := [(2, .int (nI (i + 1))), (1, .int (nI t)), (0, .ref (ad (20, 0)))]) hx hb dX4_solve_311 hl (k := 0) rfl (nI_1 _) (by decide) rfl (fun ls hl => ?_)
                        refine lv_goto (tgt := 250) hx hb dX4_solve_314 (by decide) ?_
                        exact ih250 (i + 1) qj2 (vp_updL qn i (dm (eQ (aM z w (nI t)) (aR z w (nI t)) (uP z (nI t) i)) (uN z (nI t)) (2 ^ uN z (nI t) - 1))) (by omega) (updL_to hqn (by first | (rw [nuR, if_pos c269, if_pos c282]) | (rw [nuR, if_pos c269, if_neg c282]) | (rw [nuR, if_neg c269]))) (by omega) _ _ _ hP hS (lv_sub hl [0, 1, 2] rfl)
                      · skip
                        refine lv_aload_n hx hb dX4_solve_285 rfl (lv_at hl 2 rfl) ?_
                        refine fg_X4_railPotentials hx hb hts hown hE hP q_731 dX4_solve_286 ?_
                        refine lv_iload_n hx hb dX4_solve_289 rfl (lv_at hl 0 rfl) ?_
                        refine al_railPotentials hx hb hE hP (j := i) (by omega) dX4_solve_290 ?_
                        refine lv_i2l (v := (nP w i).toInt64) hx hb dX4_solve_291 rfl ?_
                        refine lv_aload_n hx hb dX4_solve_292 rfl (lv_at hl 2 rfl) ?_
                        refine fg_X4_denominator hx hb hts hown hE hP q_745 dX4_solve_293 ?_
                        refine lv_lmul hx hb dX4_solve_296 ?_
                        refine lv_goto (tgt := 310) hx hb dX4_solve_297 (by decide) ?_
                        refine as_numerators hx hb hE hS hP (j := i) (by omega) dX4_solve_310 (fun H locs hP hS => ?_)
                        refine lv_iinc (v := nI (i + 1)) (lv' := [(2, .int (nI (i + 1))), (1, .int (nI t)), (0, .ref (ad (20, 0)))]) hx hb dX4_solve_311 hl (k := 0) rfl (nI_1 _) (by decide) rfl (fun ls hl => ?_)
                        refine lv_goto (tgt := 250) hx hb dX4_solve_314 (by decide) ?_
                        exact ih250 (i + 1) qi (vp_updL qn i (((nP w i).toInt64) * (deR z w (nI t)))) (by omega) (updL_to hqn (by first | (rw [nuR, if_pos c269, if_pos c282]) | (rw [nuR, if_pos c269, if_neg c282]) | (rw [nuR, if_neg c269]))) (by omega) _ _ _ hP hS (lv_sub hl [0, 1, 2] rfl)
                    · skip
                      refine lv_lconst (v := 0) hx hb dX4_solve_272 (by decide) ?_
                      refine lv_goto (tgt := 310) hx hb dX4_solve_273 (by decide) ?_
                      refine as_numerators hx hb hE hS hP (j := i) (by omega) dX4_solve_310 (fun H locs hP hS => ?_)
                      refine lv_iinc (v := nI (i + 1)) (lv' := [(2, .int (nI (i + 1))), (1, .int (nI t)), (0, .ref (ad (20, 0)))]) hx hb dX4_solve_311 hl (k := 0) rfl (nI_1 _) (by decide) rfl (fun ls hl => ?_)
                      refine lv_goto (tgt := 250) hx hb dX4_solve_314 (by decide) ?_
                      exact ih250 (i + 1) qi (vp_updL qn i 0) (by omega) (updL_to hqn (by first | (rw [nuR, if_pos c269, if_pos c282]) | (rw [nuR, if_pos c269, if_neg c282]) | (rw [nuR, if_neg c269]))) (by omega) _ _ _ hP hS (lv_sub hl [0, 1, 2] rfl)
              exact K250 _ 0 qj qn (by omega) no_lt (Nat.lt_succ_self _) _ _ _ hP hS (lv_sub hl [0, 1, 2] rfl)
            · skip
              have c80 := ni_nle (a := (nE z)) (b := i) (by omega) (by omega) c80
              have ha8 : cA z i < nN z := hw.a8 (i := i) (by omega)
              have hb8 : cB z i < nN z := hw.b8 (i := i) (by omega)
              refine lv_aload_n hx hb dX4_solve_83 rfl (lv_at hl 2 rfl) ?_
              refine lv_iload_n hx hb dX4_solve_84 rfl (lv_at hl 0 rfl) ?_
              refine lv_iload_n hx hb dX4_solve_85 rfl (lv_at hl 1 rfl) ?_
              refine xw_callV (C := "NetlistBenchModel") (n := 2) [.int (nI i), .int (nI t)] (c_X4_isOnAt l hP hq hw (by omega) ht) hx hb hml hown hts hE hS (xw_recv hE hP (20, 0) rfl rfl) rfl rfl q_48 q_864 q_867 q_866 q_31 (by decide) rfl ⟨by rw [hRf]; decide, by rw [hRl]; decide⟩ hl.1 rfl (Nat.le_of_ble_eq_true rfl) dX4_solve_86 ⟨by rw [hRc]; decide, by rw [hRs]; decide⟩ (fun v H1 locs hp hS => ?_)
              obtain ⟨hv, hh⟩ := hp; subst hv; subst hh
              refine lv_if_ne (tgt := 95) hx hb dX4_solve_89 (by decide) (fun c89 => ?_) (fun c89 => ?_)
              · skip
                refine lv_aload_n hx hb dX4_solve_95 rfl (lv_at hl 2 rfl) ?_
                refine fg_X4_areSources hx hb hts hown hE hP q_733 dX4_solve_96 ?_
                refine lv_iload_n hx hb dX4_solve_99 rfl (lv_at hl 0 rfl) ?_
                refine al_areSources hx hb hE hP (j := i) (by omega) dX4_solve_100 ?_
                refine xt_i (hq.s (by first | assumption | omega)) ?_
                refine lv_if_ne (tgt := 151) hx hb dX4_solve_101 (by decide) (fun c101 => ?_) (fun c101 => ?_)
                · skip
                  refine lv_aload_n hx hb dX4_solve_151 rfl (lv_at hl 2 rfl) ?_
                  refine fg_X4_places hx hb hts hown hE hP q_741 dX4_solve_152 ?_
                  refine lv_aload_n hx hb dX4_solve_155 rfl (lv_at hl 2 rfl) ?_
                  refine fg_X4_as hx hb hts hown hE hP q_734 dX4_solve_156 ?_
                  refine lv_iload_n hx hb dX4_solve_159 rfl (lv_at hl 0 rfl) ?_
                  refine al_as hx hb hE hP (j := i) (by omega) dX4_solve_160 ?_
                  refine xt_i (hq.a hw (by first | assumption | omega)) ?_
                  refine al_qplaces hx hb hE hP (j := cA z i) (by omega) dX4_solve_161 ?_
                  refine lv_iconst (v := (-1)) hx hb dX4_solve_162 (by decide) ?_
                  refine lv_icmp_eq (tgt := 192) hx hb dX4_solve_163 (by decide) (fun c163 => ?_) (fun c163 => ?_)
                  · skip
                    rw [show (asS z w (nI t) i).2 = frS (asS z w (nI t) i).2 (uP z (nI t)) (cA z i) (eZ z i).toInt64 from (if_pos c163).symm] at hP
                    refine lv_aload_n hx hb dX4_solve_192 rfl (lv_at hl 2 rfl) ?_
                    refine fg_X4_places hx hb hts hown hE hP q_741 dX4_solve_193 ?_
                    refine lv_aload_n hx hb dX4_solve_196 rfl (lv_at hl 2 rfl) ?_
                    refine fg_X4_bs hx hb hts hown hE hP q_735 dX4_solve_197 ?_
                    refine lv_iload_n hx hb dX4_solve_200 rfl (lv_at hl 0 rfl) ?_
                    refine al_bs hx hb hE hP (j := i) (by omega) dX4_solve_201 ?_
                    refine xt_i (hq.b hw (by first | assumption | omega)) ?_
                    refine al_qplaces hx hb hE hP (j := cB z i) (by omega) dX4_solve_202 ?_
                    refine lv_iconst (v := (-1)) hx hb dX4_solve_203 (by decide) ?_
                    refine lv_icmp_eq (tgt := 233) hx hb dX4_solve_204 (by decide) (fun c204 => ?_) (fun c204 => ?_)
                    · skip
                      rw [show frS (asS z w (nI t) i).2 (uP z (nI t)) (cA z i) (eZ z i).toInt64 = frA (frS (asS z w (nI t) i).2 (uP z (nI t)) (cA z i) (eZ z i).toInt64) (uP z (nI t)) (cB z i) (eZ z i).toInt64 from (if_pos c204).symm] at hP
                      refine lv_iinc (v := nI (i + 1)) (lv' := [(2, .int (nI (i + 1))), (1, .int (nI t)), (0, .ref (ad (20, 0)))]) hx hb dX4_solve_233 hl (k := 0) rfl (nI_1 _) (by decide) rfl (fun ls hl => ?_)
                      refine lv_goto (tgt := 75) hx hb dX4_solve_236 (by decide) ?_
                      exact ih75 (i + 1) (by omega) (by omega) _ _ _ (by first | (rw [as_off c89]; exact hP) | (rw [as_con c89 c101]; exact hP) | (rw [as_src c89 c101]; exact hP)) hS (lv_sub hl [0, 1, 2] rfl)
                    · skip
                      obtain ⟨k2, hk2, ek2, ck2⟩ := hpq.at (j := cB z i) (by omega) c204 (by omega)
                      refine lv_aload_n hx hb dX4_solve_207 rfl (lv_at hl 2 rfl) ?_
                      refine fg_X4_right hx hb hts hown hE hP q_743 dX4_solve_208 ?_
                      refine lv_aload_n hx hb dX4_solve_211 rfl (lv_at hl 2 rfl) ?_
                      refine fg_X4_places hx hb hts hown hE hP q_741 dX4_solve_212 ?_
                      refine lv_aload_n hx hb dX4_solve_215 rfl (lv_at hl 2 rfl) ?_
                      refine fg_X4_bs hx hb hts hown hE hP q_735 dX4_solve_216 ?_
                      refine lv_iload_n hx hb dX4_solve_219 rfl (lv_at hl 0 rfl) ?_
                      refine al_bs hx hb hE hP (j := i) (by omega) dX4_solve_220 ?_
                      refine xt_i (hq.b hw (by first | assumption | omega)) ?_
                      refine al_qplaces hx hb hE hP (j := cB z i) (by omega) dX4_solve_221 ?_
                      refine xt_i (w := nI k2) (ek2) ?_
                      refine lv_dup2_11 hx hb dX4_solve_222 rfl rfl ?_
                      refine al_right hx hb hE hP (j := k2) (by omega) dX4_solve_223 ?_
                      refine lv_aload_n hx hb dX4_solve_224 rfl (lv_at hl 2 rfl) ?_
                      refine fg_X4_sizes hx hb hts hown hE hP q_736 dX4_solve_225 ?_
                      refine lv_iload_n hx hb dX4_solve_228 rfl (lv_at hl 0 rfl) ?_
                      refine al_sizes hx hb hE hP (j := i) (by omega) dX4_solve_229 ?_
                      refine xt_i (hq.z (by first | assumption | omega)) ?_
                      refine lv_i2l (v := (eZ z i).toInt64) hx hb dX4_solve_230 rfl ?_
                      refine lv_ladd hx hb dX4_solve_231 ?_
                      refine as_right hx hb hE hS hP (j := k2) (by omega) dX4_solve_232 (fun H locs hP hS => ?_)
                      rw [show vp_updL (frS (asS z w (nI t) i).2 (uP z (nI t)) (cA z i) (eZ z i).toInt64) k2 ((frS (asS z w (nI t) i).2 (uP z (nI t)) (cA z i) (eZ z i).toInt64) k2 + (eZ z i).toInt64) = frA (frS (asS z w (nI t) i).2 (uP z (nI t)) (cA z i) (eZ z i).toInt64) (uP z (nI t)) (cB z i) (eZ z i).toInt64 by rw [frA, if_neg c204, ck2]] at hP
                      refine lv_iinc (v := nI (i + 1)) (lv' := [(2, .int (nI (i + 1))), (1, .int (nI t)), (0, .ref (ad (20, 0)))]) hx hb dX4_solve_233 hl (k := 0) rfl (nI_1 _) (by decide) rfl (fun ls hl => ?_)
                      refine lv_goto (tgt := 75) hx hb dX4_solve_236 (by decide) ?_
                      exact ih75 (i + 1) (by omega) (by omega) _ _ _ (by first | (rw [as_off c89]; exact hP) | (rw [as_con c89 c101]; exact hP) | (rw [as_src c89 c101]; exact hP)) hS (lv_sub hl [0, 1, 2] rfl)
                  · skip
                    obtain ⟨k, hk, ek, ck⟩ := hpq.at (j := cA z i) (by omega) c163 (by omega)
                    refine lv_aload_n hx hb dX4_solve_166 rfl (lv_at hl 2 rfl) ?_
                    refine fg_X4_right hx hb hts hown hE hP q_743 dX4_solve_167 ?_
                    refine lv_aload_n hx hb dX4_solve_170 rfl (lv_at hl 2 rfl) ?_
                    refine fg_X4_places hx hb hts hown hE hP q_741 dX4_solve_171 ?_
                    refine lv_aload_n hx hb dX4_solve_174 rfl (lv_at hl 2 rfl) ?_
                    refine fg_X4_as hx hb hts hown hE hP q_734 dX4_solve_175 ?_
                    refine lv_iload_n hx hb dX4_solve_178 rfl (lv_at hl 0 rfl) ?_
                    refine al_as hx hb hE hP (j := i) (by omega) dX4_solve_179 ?_
                    refine xt_i (hq.a hw (by first | assumption | omega)) ?_
                    refine al_qplaces hx hb hE hP (j := cA z i) (by omega) dX4_solve_180 ?_
                    refine xt_i (w := nI k) (ek) ?_
                    refine lv_dup2_11 hx hb dX4_solve_181 rfl rfl ?_
                    refine al_right hx hb hE hP (j := k) (by omega) dX4_solve_182 ?_
                    refine lv_aload_n hx hb dX4_solve_183 rfl (lv_at hl 2 rfl) ?_
                    refine fg_X4_sizes hx hb hts hown hE hP q_736 dX4_solve_184 ?_
                    refine lv_iload_n hx hb dX4_solve_187 rfl (lv_at hl 0 rfl) ?_
                    refine al_sizes hx hb hE hP (j := i) (by omega) dX4_solve_188 ?_
                    refine xt_i (hq.z (by first | assumption | omega)) ?_
                    refine lv_i2l (v := (eZ z i).toInt64) hx hb dX4_solve_189 rfl ?_
                    refine lv_lsub hx hb dX4_solve_190 ?_
                    refine as_right hx hb hE hS hP (j := k) (by omega) dX4_solve_191 (fun H locs hP hS => ?_)
                    rw [show vp_updL (asS z w (nI t) i).2 k ((asS z w (nI t) i).2 k - (eZ z i).toInt64) = frS (asS z w (nI t) i).2 (uP z (nI t)) (cA z i) (eZ z i).toInt64 by rw [frS, if_neg c163, ck]] at hP
                    refine lv_aload_n hx hb dX4_solve_192 rfl (lv_at hl 2 rfl) ?_
                    refine fg_X4_places hx hb hts hown hE hP q_741 dX4_solve_193 ?_
                    refine lv_aload_n hx hb dX4_solve_196 rfl (lv_at hl 2 rfl) ?_
                    refine fg_X4_bs hx hb hts hown hE hP q_735 dX4_solve_197 ?_
                    refine lv_iload_n hx hb dX4_solve_200 rfl (lv_at hl 0 rfl) ?_
                    refine al_bs hx hb hE hP (j := i) (by omega) dX4_solve_201 ?_
                    refine xt_i (hq.b hw (by first | assumption | omega)) ?_
                    refine al_qplaces hx hb hE hP (j := cB z i) (by omega) dX4_solve_202 ?_
                    refine lv_iconst (v := (-1)) hx hb dX4_solve_203 (by decide) ?_
                    refine lv_icmp_eq (tgt := 233) hx hb dX4_solve_204 (by decide) (fun c204 => ?_) (fun c204 => ?_)
                    · skip
                      rw [show frS (asS z w (nI t) i).2 (uP z (nI t)) (cA z i) (eZ z i).toInt64 = frA (frS (asS z w (nI t) i).2 (uP z (nI t)) (cA z i) (eZ z i).toInt64) (uP z (nI t)) (cB z i) (eZ z i).toInt64 from (if_pos c204).symm] at hP
                      refine lv_iinc (v := nI (i + 1)) (lv' := [(2, .int (nI (i + 1))), (1, .int (nI t)), (0, .ref (ad (20, 0)))]) hx hb dX4_solve_233 hl (k := 0) rfl (nI_1 _) (by decide) rfl (fun ls hl => ?_)
                      refine lv_goto (tgt := 75) hx hb dX4_solve_236 (by decide) ?_
                      exact ih75 (i + 1) (by omega) (by omega) _ _ _ (by first | (rw [as_off c89]; exact hP) | (rw [as_con c89 c101]; exact hP) | (rw [as_src c89 c101]; exact hP)) hS (lv_sub hl [0, 1, 2] rfl)
                    · skip
                      obtain ⟨k2, hk2, ek2, ck2⟩ := hpq.at (j := cB z i) (by omega) c204 (by omega)
                      refine lv_aload_n hx hb dX4_solve_207 rfl (lv_at hl 2 rfl) ?_
                      refine fg_X4_right hx hb hts hown hE hP q_743 dX4_solve_208 ?_
                      refine lv_aload_n hx hb dX4_solve_211 rfl (lv_at hl 2 rfl) ?_
                      refine fg_X4_places hx hb hts hown hE hP q_741 dX4_solve_212 ?_
                      refine lv_aload_n hx hb dX4_solve_215 rfl (lv_at hl 2 rfl) ?_
                      refine fg_X4_bs hx hb hts hown hE hP q_735 dX4_solve_216 ?_
                      refine lv_iload_n hx hb dX4_solve_219 rfl (lv_at hl 0 rfl) ?_
                      refine al_bs hx hb hE hP (j := i) (by omega) dX4_solve_220 ?_
                      refine xt_i (hq.b hw (by first | assumption | omega)) ?_
                      refine al_qplaces hx hb hE hP (j := cB z i) (by omega) dX4_solve_221 ?_
                      refine xt_i (w := nI k2) (ek2) ?_
                      refine lv_dup2_11 hx hb dX4_solve_222 rfl rfl ?_
                      refine al_right hx hb hE hP (j := k2) (by omega) dX4_solve_223 ?_
                      refine lv_aload_n hx hb dX4_solve_224 rfl (lv_at hl 2 rfl) ?_
                      refine fg_X4_sizes hx hb hts hown hE hP q_736 dX4_solve_225 ?_
                      refine lv_iload_n hx hb dX4_solve_228 rfl (lv_at hl 0 rfl) ?_
                      refine al_sizes hx hb hE hP (j := i) (by omega) dX4_solve_229 ?_
                      refine xt_i (hq.z (by first | assumption | omega)) ?_
                      refine lv_i2l (v := (eZ z i).toInt64) hx hb dX4_solve_230 rfl ?_
                      refine lv_ladd hx hb dX4_solve_231 ?_
                      refine as_right hx hb hE hS hP (j := k2) (by omega) dX4_solve_232 (fun H locs hP hS => ?_)
                      rw [show vp_updL (frS (asS z w (nI t) i).2 (uP z (nI t)) (cA z i) (eZ z i).toInt64) k2 ((frS (asS z w (nI t) i).2 (uP z (nI t)) (cA z i) (eZ z i).toInt64) k2 + (eZ z i).toInt64) = frA (frS (asS z w (nI t) i).2 (uP z (nI t)) (cA z i) (eZ z i).toInt64) (uP z (nI t)) (cB z i) (eZ z i).toInt64 by rw [frA, if_neg c204, ck2]] at hP
                      refine lv_iinc (v := nI (i + 1)) (lv' := [(2, .int (nI (i + 1))), (1, .int (nI t)), (0, .ref (ad (20, 0)))]) hx hb dX4_solve_233 hl (k := 0) rfl (nI_1 _) (by decide) rfl (fun ls hl => ?_)
                      refine lv_goto (tgt := 75) hx hb dX4_solve_236 (by decide) ?_
                      exact ih75 (i + 1) (by omega) (by omega) _ _ _ (by first | (rw [as_off c89]; exact hP) | (rw [as_con c89 c101]; exact hP) | (rw [as_src c89 c101]; exact hP)) hS (lv_sub hl [0, 1, 2] rfl)
                · skip
                  refine lv_aload_n hx hb dX4_solve_104 rfl (lv_at hl 2 rfl) ?_
                  refine lv_aload_n hx hb dX4_solve_105 rfl (lv_at hl 2 rfl) ?_
                  refine fg_X4_as hx hb hts hown hE hP q_734 dX4_solve_106 ?_
                  refine lv_iload_n hx hb dX4_solve_109 rfl (lv_at hl 0 rfl) ?_
                  refine al_as hx hb hE hP (j := i) (by omega) dX4_solve_110 ?_
                  refine xt_i (hq.a hw (by first | assumption | omega)) ?_
                  refine lv_aload_n hx hb dX4_solve_111 rfl (lv_at hl 2 rfl) ?_
                  refine fg_X4_bs hx hb hts hown hE hP q_735 dX4_solve_112 ?_
                  refine lv_iload_n hx hb dX4_solve_115 rfl (lv_at hl 0 rfl) ?_
                  refine al_bs hx hb hE hP (j := i) (by omega) dX4_solve_116 ?_
                  refine xt_i (hq.b hw (by first | assumption | omega)) ?_
                  refine lv_aload_n hx hb dX4_solve_117 rfl (lv_at hl 2 rfl) ?_
                  refine fg_X4_sizes hx hb hts hown hE hP q_736 dX4_solve_118 ?_
                  refine lv_iload_n hx hb dX4_solve_121 rfl (lv_at hl 0 rfl) ?_
                  refine al_sizes hx hb hE hP (j := i) (by omega) dX4_solve_122 ?_
                  refine xt_i (hq.z (by first | assumption | omega)) ?_
                  refine xw_callV (C := "NetlistBenchModel") (n := 3) [.int (nI (cA z i)), .int (nI (cB z i)), .int (eZ z i)] (c_X4_lay l hP (by omega) hpq (by omega) (by omega) (eZ z i)) hx hb hml hown hts hE hS (xw_recv hE hP (20, 0) rfl rfl) rfl rfl q_48 q_900 q_903 q_902 q_37 (by decide) rfl ⟨by rw [hRf]; decide, by rw [hRl]; decide⟩ hl.1 rfl (Nat.le_of_ble_eq_true rfl) dX4_solve_123 ⟨by rw [hRc]; decide, by rw [hRs]; decide⟩ (fun v H1 locs hp hS => ?_)
                  obtain ⟨hv, hP⟩ := hp; subst hv
                  generalize H1 = H at hP hS ⊢
                  refine lv_aload_n hx hb dX4_solve_126 rfl (lv_at hl 2 rfl) ?_
                  refine lv_aload_n hx hb dX4_solve_127 rfl (lv_at hl 2 rfl) ?_
                  refine fg_X4_bs hx hb hts hown hE hP q_735 dX4_solve_128 ?_
                  refine lv_iload_n hx hb dX4_solve_131 rfl (lv_at hl 0 rfl) ?_
                  refine al_bs hx hb hE hP (j := i) (by omega) dX4_solve_132 ?_
                  refine xt_i (hq.b hw (by first | assumption | omega)) ?_
                  refine lv_aload_n hx hb dX4_solve_133 rfl (lv_at hl 2 rfl) ?_
                  refine fg_X4_as hx hb hts hown hE hP q_734 dX4_solve_134 ?_
                  refine lv_iload_n hx hb dX4_solve_137 rfl (lv_at hl 0 rfl) ?_
                  refine al_as hx hb hE hP (j := i) (by omega) dX4_solve_138 ?_
                  refine xt_i (hq.a hw (by first | assumption | omega)) ?_
                  refine lv_aload_n hx hb dX4_solve_139 rfl (lv_at hl 2 rfl) ?_
                  refine fg_X4_sizes hx hb hts hown hE hP q_736 dX4_solve_140 ?_
                  refine lv_iload_n hx hb dX4_solve_143 rfl (lv_at hl 0 rfl) ?_
                  refine al_sizes hx hb hE hP (j := i) (by omega) dX4_solve_144 ?_
                  refine xt_i (hq.z (by first | assumption | omega)) ?_
                  refine xw_callV (C := "NetlistBenchModel") (n := 3) [.int (nI (cB z i)), .int (nI (cA z i)), .int (eZ z i)] (c_X4_lay l hP (by omega) hpq (by omega) (by omega) (eZ z i)) hx hb hml hown hts hE hS (xw_recv hE hP (20, 0) rfl rfl) rfl rfl q_48 q_900 q_903 q_902 q_37 (by decide) rfl ⟨by rw [hRf]; decide, by rw [hRl]; decide⟩ hl.1 rfl (Nat.le_of_ble_eq_true rfl) dX4_solve_145 ⟨by rw [hRc]; decide, by rw [hRs]; decide⟩ (fun v H1 locs hp hS => ?_)
                  obtain ⟨hv, hP⟩ := hp; subst hv
                  generalize H1 = H at hP hS ⊢
                  refine lv_goto (tgt := 233) hx hb dX4_solve_148 (by decide) ?_
                  refine lv_iinc (v := nI (i + 1)) (lv' := [(2, .int (nI (i + 1))), (1, .int (nI t)), (0, .ref (ad (20, 0)))]) hx hb dX4_solve_233 hl (k := 0) rfl (nI_1 _) (by decide) rfl (fun ls hl => ?_)
                  refine lv_goto (tgt := 75) hx hb dX4_solve_236 (by decide) ?_
                  exact ih75 (i + 1) (by omega) (by omega) _ _ _ (by first | (rw [as_off c89]; exact hP) | (rw [as_con c89 c101]; exact hP) | (rw [as_src c89 c101]; exact hP)) hS (lv_sub hl [0, 1, 2] rfl)
              · skip
                refine lv_goto (tgt := 233) hx hb dX4_solve_92 (by decide) ?_
                refine lv_iinc (v := nI (i + 1)) (lv' := [(2, .int (nI (i + 1))), (1, .int (nI t)), (0, .ref (ad (20, 0)))]) hx hb dX4_solve_233 hl (k := 0) rfl (nI_1 _) (by decide) rfl (fun ls hl => ?_)
                refine lv_goto (tgt := 75) hx hb dX4_solve_236 (by decide) ?_
                exact ih75 (i + 1) (by omega) (by omega) _ _ _ (by first | (rw [as_off c89]; exact hP) | (rw [as_con c89 c101]; exact hP) | (rw [as_src c89 c101]; exact hP)) hS (lv_sub hl [0, 1, 2] rfl)
        exact K75 _ 0 (by omega) (Nat.lt_succ_self _) _ _ _ (by rw [show i = nN z by omega] at hP; exact hP) hS (lv_sub hl [0, 1, 2] rfl)
      · skip
        have c11 := ni_nle (a := (nN z)) (b := i) (by omega) (by omega) c11
        skip
        refine lv_aload_n hx hb dX4_solve_14 rfl (lv_at hl 2 rfl) ?_
        refine fg_X4_areFloating hx hb hts hown hE hP q_747 dX4_solve_15 ?_
        refine lv_iload_n hx hb dX4_solve_18 rfl (lv_at hl 0 rfl) ?_
        refine lv_aload_n hx hb dX4_solve_19 rfl (lv_at hl 2 rfl) ?_
        refine lv_iload_n hx hb dX4_solve_20 rfl (lv_at hl 0 rfl) ?_
        refine lv_iload_n hx hb dX4_solve_21 rfl (lv_at hl 1 rfl) ?_
        refine xw_callV (C := "NetlistBenchModel") (n := 2) [.int (nI i), .int (nI t)] (c_X4_floatsAt l hP hq hw (by omega) ht) hx hb hml hown hts hE hS (xw_recv hE hP (20, 0) rfl rfl) rfl rfl q_48 q_884 q_887 q_886 q_34 (by decide) rfl ⟨by rw [hRf]; decide, by rw [hRl]; decide⟩ hl.1 rfl (Nat.le_of_ble_eq_true rfl) dX4_solve_22 ⟨by rw [hRc]; decide, by rw [hRs]; decide⟩ (fun v H1 locs hp hS => ?_)
        obtain ⟨hv, hh⟩ := hp; subst hv; subst hh
        refine as_areFloating hx hb hE hS hP (j := i) (by omega) (aflI_01 _ _) dX4_solve_25 (fun H locs hP hS => ?_)
        have hafl := aflI_01 z (gM z (nI t) i)
        refine lv_aload_n hx hb dX4_solve_26 rfl (lv_at hl 2 rfl) ?_
        refine fg_X4_areFloating hx hb hts hown hE hP q_747 dX4_solve_27 ?_
        refine lv_iload_n hx hb dX4_solve_30 rfl (lv_at hl 0 rfl) ?_
        refine al_areFloating hx hb hE hP (j := i) (by omega) dX4_solve_31 ?_
        refine xt_i (w := aflI z (gM z (nI t) i)) (by simp [upd]) ?_
        refine lv_if_ne (tgt := 67) hx hb dX4_solve_32 (by decide) (fun c32 => ?_) (fun c32 => ?_)
        · skip
          refine lv_iinc (v := nI (i + 1)) (lv' := [(2, .int (nI (i + 1))), (1, .int (nI t)), (0, .ref (ad (20, 0)))]) hx hb dX4_solve_67 hl (k := 0) rfl (nI_1 _) (by decide) rfl (fun ls hl => ?_)
          refine lv_goto (tgt := 6) hx hb dX4_solve_70 (by decide) ?_
          exact ih6 (i + 1) (upd qf i (aflI z (gM z (nI t) i))) (by omega) (upd_to hqf rfl) (by omega) _ _ _ (by first | (rw [usS_1 c32 c41]; exact hP) | (rw [usS_0 (fun h => c32 h.1)]; exact hP) | (rw [usS_0 (fun h => c41 h.2)]; exact hP)) hS (lv_sub hl [0, 1, 2] rfl)
        · skip
          refine lv_aload_n hx hb dX4_solve_35 rfl (lv_at hl 2 rfl) ?_
          refine fg_X4_areRails hx hb hts hown hE hP q_730 dX4_solve_36 ?_
          refine lv_iload_n hx hb dX4_solve_39 rfl (lv_at hl 0 rfl) ?_
          refine al_areRails hx hb hE hP (j := i) (by omega) dX4_solve_40 ?_
          refine xt_i (hq.r (by first | assumption | omega)) ?_
          refine lv_if_eq (tgt := 47) hx hb dX4_solve_41 (by decide) (fun c41 => ?_) (fun c41 => ?_)
          · skip
            refine lv_aload_n hx hb dX4_solve_47 rfl (lv_at hl 2 rfl) ?_
            refine fg_X4_places hx hb hts hown hE hP q_741 dX4_solve_48 ?_
            refine lv_iload_n hx hb dX4_solve_51 rfl (lv_at hl 0 rfl) ?_
            refine lv_aload_n hx hb dX4_solve_52 rfl (lv_at hl 2 rfl) ?_
            refine fg_X4_unknown hx hb hts hown hE hP q_740 dX4_solve_53 ?_
            refine as_qplaces hx hb hE hS hP (j := i) (by omega) dX4_solve_56 (fun H locs hP hS => ?_)
            refine lv_aload_n hx hb dX4_solve_57 rfl (lv_at hl 2 rfl) ?_
            refine lv_dup hx hb dX4_solve_58 rfl ?_
            refine fg_X4_unknown hx hb hts hown hE hP q_740 dX4_solve_59 ?_
            refine lv_iconst (v := nI 1) hx hb dX4_solve_62 (by decide) ?_
            refine lv_iadd hx hb dX4_solve_63 ?_
            refine xt_i (nI_add ((usS z (nI t) i).2) 1) ?_
            refine fp_X4_unknown hx hb hts hown hE hS hP q_740 dX4_solve_64 (fun H locs hP hS => ?_)
            refine lv_iinc (v := nI (i + 1)) (lv' := [(2, .int (nI (i + 1))), (1, .int (nI t)), (0, .ref (ad (20, 0)))]) hx hb dX4_solve_67 hl (k := 0) rfl (nI_1 _) (by decide) rfl (fun ls hl => ?_)
            refine lv_goto (tgt := 6) hx hb dX4_solve_70 (by decide) ?_
            exact ih6 (i + 1) (upd qf i (aflI z (gM z (nI t) i))) (by omega) (upd_to hqf rfl) (by omega) _ _ _ (by first | (rw [usS_1 c32 c41]; exact hP) | (rw [usS_0 (fun h => c32 h.1)]; exact hP) | (rw [usS_0 (fun h => c41 h.2)]; exact hP)) hS (lv_sub hl [0, 1, 2] rfl)
          · skip
            refine lv_goto (tgt := 67) hx hb dX4_solve_44 (by decide) ?_
            refine lv_iinc (v := nI (i + 1)) (lv' := [(2, .int (nI (i + 1))), (1, .int (nI t)), (0, .ref (ad (20, 0)))]) hx hb dX4_solve_67 hl (k := 0) rfl (nI_1 _) (by decide) rfl (fun ls hl => ?_)
            refine lv_goto (tgt := 6) hx hb dX4_solve_70 (by decide) ?_
            exact ih6 (i + 1) (upd qf i (aflI z (gM z (nI t) i))) (by omega) (upd_to hqf rfl) (by omega) _ _ _ (by first | (rw [usS_1 c32 c41]; exact hP) | (rw [usS_0 (fun h => c32 h.1)]; exact hP) | (rw [usS_0 (fun h => c41 h.2)]; exact hP)) hS (lv_sub hl [0, 1, 2] rfl)
  exact K6 _ 0 qf (by omega) no_lt (Nat.lt_succ_self _) _ _ _ hP hS (lv_sub hl [0, 2, 1] rfl)
