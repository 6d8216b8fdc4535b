set_option maxHeartbeats 4000000 in
set_option maxRecDepth 100000 in
theorem c_X3_drive (l : Launch) {D : va_G} {y : Nat → ClassId} {A : Nat → Prop} {ad : xL → Nat} {bl : xM} {z : xC} {g : Nat → Int32} {pl : Nat → Int32} {kn : Nat → Int64} {rw : Nat → Nat → Int64} {mi : Nat → Int64} {un : Int32} {fR fO : Nat → Nat → Option va_E} {Hs : Heap} (hP : xW D A ad (wU (wB y ad bl z g pl kn rw mi un) fR fO) Hs) (t : Int32) (hg : g = sG z t) (hz : bOk bl z) {a b : Nat} (ha : a < 8) (hb8 : b < 8) : Met l yX3_drive (.code yX3_drive cX3_drive 5 none :: WG) { frames := 4, cells := 0, slots := 0, locals := 87 } (xPc [.ref (ad (0, 0)), .int (nI a), .int (nI b), .int t] D y Hs) (xQ (fun v H1 => v = none ∧ ∃ mi' : Nat → Int64, miOk mi' (dR z t a b) (dN z t b) ∧ xW D A ad (wU (wB y ad bl z ((sG z t)) ((dP z t b)) ((fun _ => 0)) ((dR z t a b)) mi' ((nI (dN z t b)))) fR fO) H1) A) 0 0 A := by
  refine xM_go (by decide) (Nat.le_of_ble_eq_true rfl) (fun p e s m args below meth c ls R Q hx hb hr hlocks hml hown hts hH hE hnm hRf hRl hRc hRs hQ hS hl => ?_)
  have hRf : R.frames = 4 := hRf
  have hRl : R.locals = 87 := hRl
  have hRc : R.cells = 0 := hRc
  have hRs : R.slots = 0 := hRs
  have hl : lv_has ls 5 [(0, .ref (ad (0, 0))), (1, .int (nI a)), (2, .int (nI b)), (3, .int t)] := hl
  have hw := hz.w
  have hN := hw.N
  have hE20 := hw.E
  subst hg
  have hn7 := (drS_le (gM z t b) b (nN z)).1
  have hok : plOk (dP z t b) (dN z t b) := (drS_le (gM z t b) b (nN z)).2
  have hn7 : dN z t b ≤ 7 := hn7
  have hmb := gM_lt hw t hb8
  refine lv_aload_n hx hb dX3_drive_0 rfl (lv_at hl 0 rfl) ?_
  refine fg_X3_equations hx hb hts hown hE hP q_127 dX3_drive_1 ?_
  refine xw_callV (C := "NetlistBench$Equations") (n := 0) [] (c_X1_clear l hP ) hx hb hml hown hts hE hS (xw_recv hE hP (6, 0) rfl rfl) rfl rfl q_47 q_221 q_224 q_222 q_223 (by decide) rfl ⟨by rw [hRf]; decide, by rw [hRl]; decide⟩ hl.1 rfl (Nat.le_of_ble_eq_true rfl) dX3_drive_4 ⟨by rw [hRc]; decide, by rw [hRs]; decide⟩ (fun v H1 locs hp hS => ?_)
  obtain ⟨hv, hP⟩ := hp; subst hv
  generalize H1 = H at hP hS ⊢
  refine lv_iconst (v := nI 0) hx hb dX3_drive_7 (by decide) ?_
  refine lv_istore (lv' := [(4, .int (nI 0)), (0, .ref (ad (0, 0))), (1, .int (nI a)), (2, .int (nI b)), (3, .int t)]) hx hb dX3_drive_8 hl (by decide) rfl (fun ls hl => ?_)
  have K10 : ∀ (nn : Nat), ∀ (i : Nat), (i ≤ nN z) → nN z - i < nn → ∀ (H : Heap) (locs : List Loc) (ls : Array Slot), xW D A ad (wU (wB y ad bl z ((sG z t)) ((drS (gM z t b) b i).1) ((fun _ => 0)) ((fun _ _ => 0)) mi (nI (drS (gM z t b) b i).2)) fR fO) H → va_S A Hs H locs → lv_has ls 5 [(4, .int (nI i)), (3, .int t), (2, .int (nI b)), (1, .int (nI a)), (0, .ref (ad (0, 0)))] → W p l e R s m args below meth c H locs 0 0 Q (F0 m 10 ls []) := by
    intro nn
    induction nn with
    | zero => intro i hi h; exact absurd h (Nat.not_lt_zero _)
    | succ nn ih10 =>
      intro i hi hn10 H locs ls hP hS hl
      refine lv_iload hx hb dX3_drive_10 (lv_at hl 0 rfl) ?_
      refine lv_aload_n hx hb dX3_drive_12 rfl (lv_at hl 4 rfl) ?_
      refine fg_X3_nodes hx hb hts hown hE hP q_124 dX3_drive_13 ?_
      refine xw_callV (C := "java/util/ArrayList") (n := 0) [] (c_size_nodes l hP ) hx hb hml hown hts hE hS (xw_recv hE hP (1, 0) rfl rfl) rfl rfl q_46 q_150 q_153 q_151 q_152 (by decide) rfl ⟨by rw [hRf]; decide, by rw [hRl]; decide⟩ hl.1 rfl (Nat.le_of_ble_eq_true rfl) dX3_drive_16 ⟨by rw [hRc]; decide, by rw [hRs]; decide⟩ (fun v H1 locs hp hS => ?_)
      obtain ⟨hv, hh⟩ := hp; subst hv; subst hh
      refine lv_icmp_ge (tgt := 57) hx hb dX3_drive_19 (by decide) (fun c19 => ?_) (fun c19 => ?_)
      · skip
        have c19 := ni_le (a := (nN z)) (b := i) (by omega) (by omega) c19
        have hP := hP.ct (show _ = (wU (wB y ad bl z ((sG z t)) ((dP z t b)) ((fun _ => 0)) ((fun _ _ => 0)) mi ((nI (dN z t b)))) fR fO) by rw [show i = nN z by omega]; rfl)
        refine lv_aload_n hx hb dX3_drive_57 rfl (lv_at hl 4 rfl) ?_
        refine fg_X3_equations hx hb hts hown hE hP q_127 dX3_drive_58 ?_
        refine lv_iload_n hx hb dX3_drive_61 rfl (lv_at hl 3 rfl) ?_
        refine lv_lconst (v := 1) hx hb dX3_drive_62 (by decide) ?_
        refine xw_callV (C := "NetlistBench$Equations") (n := 2) [.int (nI a), .long 1] (c_X1_bring l hP (by omega) hok ha 1) hx hb hml hown hts hE hS (xw_recv hE hP (6, 0) rfl rfl) rfl rfl q_47 q_237 q_240 q_238 q_239 (by decide) rfl ⟨by rw [hRf]; decide, by rw [hRl]; decide⟩ hl.1 rfl (Nat.le_of_ble_eq_true rfl) dX3_drive_63 ⟨by rw [hRc]; decide, by rw [hRs]; decide⟩ (fun v H1 locs hp hS => ?_)
        obtain ⟨hv, hP⟩ := hp; subst hv
        generalize H1 = H at hP hS ⊢
        refine lv_aload_n hx hb dX3_drive_66 rfl (lv_at hl 4 rfl) ?_
        refine lv_iload_n hx hb dX3_drive_67 rfl (lv_at hl 1 rfl) ?_
        refine xw_callV (C := "NetlistBench") (n := 1) [.int t] (c_X3_conduct l hP (by omega) hok hz t) hx hb hml hown hts hE hS (xw_recv hE hP (0, 0) rfl rfl) rfl rfl q_43 q_241 q_244 q_243 q_10 (by decide) rfl ⟨by rw [hRf]; decide, by rw [hRl]; decide⟩ hl.1 rfl (Nat.le_of_ble_eq_true rfl) dX3_drive_68 ⟨by rw [hRc]; decide, by rw [hRs]; decide⟩ (fun v H1 locs hp hS => ?_)
        obtain ⟨hv, hP⟩ := hp; subst hv
        generalize H1 = H at hP hS ⊢
        refine lv_aload_n hx hb dX3_drive_71 rfl (lv_at hl 4 rfl) ?_
        refine fg_X3_equations hx hb hts hown hE hP q_127 dX3_drive_72 ?_
        refine xw_callV (C := "NetlistBench$Equations") (n := 0) [] (c_X1_solve l hP (by omega)) hx hb hml hown hts hE hS (xw_recv hE hP (6, 0) rfl rfl) rfl rfl q_47 q_253 q_256 q_254 q_255 (by decide) rfl ⟨by rw [hRf]; decide, by rw [hRl]; decide⟩ hl.1 rfl (Nat.le_of_ble_eq_true rfl) dX3_drive_75 ⟨by rw [hRc]; decide, by rw [hRs]; decide⟩ (fun v H1 locs hp hS => ?_)
        obtain ⟨hv, mi', hmi, hP⟩ := hp; subst hv
        generalize H1 = H at hP hS ⊢
        exact xe_vret hQ hx hb hr hlocks hH hS (Nat.le_refl _) (Nat.le_refl _) (⟨rfl, mi', hmi, hP⟩) dX3_drive_78
      · skip
        have c19 := ni_nle (a := (nN z)) (b := i) (by omega) (by omega) c19
        have hle := drS_le (gM z t b) b i
        refine lv_iload hx hb dX3_drive_22 (lv_at hl 0 rfl) ?_
        refine lv_iload_n hx hb dX3_drive_24 rfl (lv_at hl 2 rfl) ?_
        refine lv_icmp_eq (tgt := 51) hx hb dX3_drive_25 (by decide) (fun c25 => ?_) (fun c25 => ?_)
        · skip
          have c25 := ni_eq (a := i) (b := b) (by omega) (by omega) c25
          refine lv_iinc (v := nI (i + 1)) (lv' := [(4, .int (nI (i + 1))), (3, .int t), (2, .int (nI b)), (1, .int (nI a)), (0, .ref (ad (0, 0)))]) hx hb dX3_drive_51 hl (k := 0) rfl (nI_1 _) (by decide) rfl (fun ls hl => ?_)
          refine lv_goto (tgt := 10) hx hb dX3_drive_54 (by decide) ?_
          exact ih10 (i + 1) (by omega) (by omega) _ _ _ (hP.ct (by first | rw [drS_b c25] | rw [drS_o c25 c39] | rw [drS_s c25 c39])) hS (lv_sub hl [0, 1, 2, 3, 4] rfl)
        · skip
          have c25 := ni_ne (a := i) (b := b) (by omega) (by omega) c25
          refine lv_aload_n hx hb dX3_drive_28 rfl (lv_at hl 4 rfl) ?_
          refine fg_X3_groups hx hb hts hown hE hP q_126 dX3_drive_29 ?_
          refine lv_iload_n hx hb dX3_drive_32 rfl (lv_at hl 2 rfl) ?_
          refine al_groups hx hb hE hP (j := b) (by omega) dX3_drive_33 ?_
          refine xt_i (w := nI (gM z t b)) (rfl) ?_
          refine lv_iload hx hb dX3_drive_34 (lv_at hl 0 rfl) ?_
          refine xw_callS (n := 2) [.int (nI (gM z t b)), .int (nI i)] (c_X3_contains l (nI (gM z t b)) i) hx hb hml hown hts hE hS rfl rfl q_43 q_218 q_220 q_219 (by decide) rfl ⟨by rw [hRf]; decide, by rw [hRl]; decide⟩ hl.1 rfl (Nat.le_of_ble_eq_true rfl) dX3_drive_36 ⟨by rw [hRc]; decide, by rw [hRs]; decide⟩ (fun v H1 locs hp hS => ?_)
          obtain ⟨hv, hh⟩ := hp; subst hv; subst hh
          refine lv_if_eq (tgt := 51) hx hb dX3_drive_39 (by decide) (fun c39 => ?_) (fun c39 => ?_)
          · skip
            have c39 := m_bitT hmb (by omega) c39
            refine lv_iinc (v := nI (i + 1)) (lv' := [(4, .int (nI (i + 1))), (3, .int t), (2, .int (nI b)), (1, .int (nI a)), (0, .ref (ad (0, 0)))]) hx hb dX3_drive_51 hl (k := 0) rfl (nI_1 _) (by decide) rfl (fun ls hl => ?_)
            refine lv_goto (tgt := 10) hx hb dX3_drive_54 (by decide) ?_
            exact ih10 (i + 1) (by omega) (by omega) _ _ _ (hP.ct (by first | rw [drS_b c25] | rw [drS_o c25 c39] | rw [drS_s c25 c39])) hS (lv_sub hl [0, 1, 2, 3, 4] rfl)
          · skip
            have c39 := m_bitF hmb (by omega) c39
            refine lv_aload_n hx hb dX3_drive_42 rfl (lv_at hl 4 rfl) ?_
            refine fg_X3_equations hx hb hts hown hE hP q_127 dX3_drive_43 ?_
            refine lv_iload hx hb dX3_drive_46 (lv_at hl 0 rfl) ?_
            refine xw_callV (C := "NetlistBench$Equations") (n := 1) [.int (nI i)] (c_X1_seek l hP hle.1 (by omega)) hx hb hml hown hts hE hS (xw_recv hE hP (6, 0) rfl rfl) rfl rfl q_47 q_233 q_236 q_234 q_235 (by decide) rfl ⟨by rw [hRf]; decide, by rw [hRl]; decide⟩ hl.1 rfl (Nat.le_of_ble_eq_true rfl) dX3_drive_48 ⟨by rw [hRc]; decide, by rw [hRs]; decide⟩ (fun v H1 locs hp hS => ?_)
            obtain ⟨hv, hP⟩ := hp; subst hv
            generalize H1 = H at hP hS ⊢
            refine lv_iinc (v := nI (i + 1)) (lv' := [(4, .int (nI (i + 1))), (3, .int t), (2, .int (nI b)), (1, .int (nI a)), (0, .ref (ad (0, 0)))]) hx hb dX3_drive_51 hl (k := 0) rfl (nI_1 _) (by decide) rfl (fun ls hl => ?_)
            refine lv_goto (tgt := 10) hx hb dX3_drive_54 (by decide) ?_
            exact ih10 (i + 1) (by omega) (by omega) _ _ _ (hP.ct (by first | rw [drS_b c25] | rw [drS_o c25 c39] | rw [drS_s c25 c39])) hS (lv_sub hl [0, 1, 2, 3, 4] rfl)
  exact K10 _ 0 (by omega) (Nat.lt_succ_self _) _ _ _ hP hS (lv_sub hl [0, 4, 3, 2, 1] rfl)

set_option maxHeartbeats 4000000 in
set_option maxRecDepth 100000 in
theorem c_X3_flowOut (l : Launch) {D : va_G} {y : Nat → ClassId} {A : Nat → Prop} {ad : xL → Nat} {n : Nat} {bl : xM} {z : xC} {g : Nat → Int32} {pl : Nat → Int32} {kn : Nat → Int64} {rw : Nat → Nat → Int64} {mi : Nat → Int64} {fR fO : Nat → Nat → Option va_E} {Hs : Heap} (hP : xW D A ad (wU (wB y ad bl z g pl kn rw mi (nI n)) fR fO) Hs) (hn : n ≤ 7) (hpl : plOk pl n) (hz : bOk bl z) {i j : Nat} (hi : i < nE z) (hj : j < 8) : Met l yX3_flowOut (.code yX3_flowOut cX3_flowOut 5 (some .long) :: WG) { frames := 3, cells := 0, slots := 0, locals := 64 } (xPc [.ref (ad (0, 0)), .ref (ad (13, i)), .int (nI j)] D y Hs) (xQ (fun v H1 => v = some (.long (flw z (upV pl kn mi n) (mi (2 ^ n - 1)) i j)) ∧ Hs = H1) A) 0 0 A := by
  refine xM_go (by decide) (Nat.le_of_ble_eq_true rfl) (fun p e s m args below meth c ls R Q hx hb hr hlocks hml hown hts hH hE hnm hRf hRl hRc hRs hQ hS hl => ?_)
  have hRf : R.frames = 3 := hRf
  have hRl : R.locals = 64 := hRl
  have hRc : R.cells = 0 := hRc
  have hRs : R.slots = 0 := hRs
  have hl : lv_has ls 5 [(0, .ref (ad (0, 0))), (1, .ref (ad (13, i))), (2, .int (nI j))] := hl
  have hw := hz.w
  have hN := hw.N
  have hE20 := hw.E
  have ha8 := hw.a8 hi
  have hb8 := hw.b8 hi
  refine lv_iload_n hx hb dX3_flowOut_0 rfl (lv_at hl 2 rfl) ?_
  refine lv_aload_n hx hb dX3_flowOut_1 rfl (lv_at hl 1 rfl) ?_
  refine fg_X0_a (i := i) (by first | assumption | omega) hx hb hts hown hE hP q_511 dX3_flowOut_2 ?_
  refine xt_i (w := nI (cA z i)) (hw.a hi) ?_
  refine lv_icmp_eq (tgt := 18) hx hb dX3_flowOut_5 (by decide) (fun c5 => ?_) (fun c5 => ?_)
  · skip
    have c5 := ni_eq (a := j) (b := (cA z i)) (by omega) (by omega) c5
    have K18 : (¬ (¬ j = cA z i ∧ ¬ j = cB z i)) → ∀ (locs : List Loc) (ls : Array Slot), va_S A Hs Hs locs → lv_has ls 5 [(2, .int (nI j)), (1, .ref (ad (13, i))), (0, .ref (ad (0, 0)))] → W p l e R s m args below meth c Hs locs 0 0 Q (F0 m 18 ls []) := by
      intro  h18 locs ls hS hl
      refine lv_aload_n hx hb dX3_flowOut_18 rfl (lv_at hl 1 rfl) ?_
      refine fg_X0_isSource (i := i) (by first | assumption | omega) hx hb hts hown hE hP q_509 dX3_flowOut_19 ?_
      refine lv_if_eq (tgt := 41) hx hb dX3_flowOut_22 (by decide) (fun c22 => ?_) (fun c22 => ?_)
      · skip
        refine lv_aload_n hx hb dX3_flowOut_41 rfl (lv_at hl 1 rfl) ?_
        refine fg_X0_size (i := i) (by first | assumption | omega) hx hb hts hown hE hP q_515 dX3_flowOut_42 ?_
        refine lv_i2l (v := (eZ z i).toInt64) hx hb dX3_flowOut_45 rfl ?_
        refine lv_aload_n hx hb dX3_flowOut_46 rfl (lv_at hl 2 rfl) ?_
        refine fg_X3_equations hx hb hts hown hE hP q_127 dX3_flowOut_47 ?_
        refine lv_aload_n hx hb dX3_flowOut_50 rfl (lv_at hl 1 rfl) ?_
        refine fg_X0_a (i := i) (by first | assumption | omega) hx hb hts hown hE hP q_511 dX3_flowOut_51 ?_
        refine xt_i (w := nI (cA z i)) (hw.a hi) ?_
        refine xw_callV (C := "NetlistBench$Equations") (n := 1) [.int (nI (cA z i))] (c_X1_upper l hP (by omega) hpl (by omega)) hx hb hml hown hts hE hS (xw_recv hE hP (6, 0) rfl rfl) rfl rfl q_47 q_273 q_276 q_274 q_275 (by decide) rfl ⟨by rw [hRf]; decide, by rw [hRl]; decide⟩ hl.1 rfl (Nat.le_of_ble_eq_true rfl) dX3_flowOut_54 ⟨by rw [hRc]; decide, by rw [hRs]; decide⟩ (fun v H1 locs hp hS => ?_)
        obtain ⟨hv, hh⟩ := hp; subst hv; subst hh
        refine lv_aload_n hx hb dX3_flowOut_57 rfl (lv_at hl 2 rfl) ?_
        refine fg_X3_equations hx hb hts hown hE hP q_127 dX3_flowOut_58 ?_
        refine lv_aload_n hx hb dX3_flowOut_61 rfl (lv_at hl 1 rfl) ?_
        refine fg_X0_b (i := i) (by first | assumption | omega) hx hb hts hown hE hP q_513 dX3_flowOut_62 ?_
        refine xt_i (w := nI (cB z i)) (hw.b hi) ?_
        refine xw_callV (C := "NetlistBench$Equations") (n := 1) [.int (nI (cB z i))] (c_X1_upper l hP (by omega) hpl (by omega)) hx hb hml hown hts hE hS (xw_recv hE hP (6, 0) rfl rfl) rfl rfl q_47 q_273 q_276 q_274 q_275 (by decide) rfl ⟨by rw [hRf]; decide, by rw [hRl]; decide⟩ hl.1 rfl (Nat.le_of_ble_eq_true rfl) dX3_flowOut_65 ⟨by rw [hRc]; decide, by rw [hRs]; decide⟩ (fun v H1 locs hp hS => ?_)
        obtain ⟨hv, hh⟩ := hp; subst hv; subst hh
        refine lv_lsub hx hb dX3_flowOut_68 ?_
        refine lv_lmul hx hb dX3_flowOut_69 ?_
        refine lv_lstore_n (lv' := [(3, .long (((eZ z i).toInt64) * ((upV pl kn mi n (cA z i)) - (upV pl kn mi n (cB z i))))), (2, .int (nI j)), (1, .ref (ad (13, i))), (0, .ref (ad (0, 0)))]) hx hb dX3_flowOut_70 rfl hl (by decide) rfl (fun ls hl => ?_)
        refine lv_iload_n hx hb dX3_flowOut_71 rfl (lv_at hl 1 rfl) ?_
        refine lv_aload_n hx hb dX3_flowOut_72 rfl (lv_at hl 2 rfl) ?_
        refine fg_X0_a (i := i) (by first | assumption | omega) hx hb hts hown hE hP q_511 dX3_flowOut_73 ?_
        refine xt_i (w := nI (cA z i)) (hw.a hi) ?_
        refine lv_icmp_ne (tgt := 83) hx hb dX3_flowOut_76 (by decide) (fun c76 => ?_) (fun c76 => ?_)
        · skip
          have c76 := ni_ne (a := j) (b := (cA z i)) (by omega) (by omega) c76
          refine lv_lload_n hx hb dX3_flowOut_83 rfl (lv_at hl 0 rfl) ?_
          refine lv_lneg hx hb dX3_flowOut_84 ?_
          exact xe_lret hQ hx hb hr hlocks hH hS (Nat.le_refl _) (Nat.le_refl _) (⟨by rw [flw_2 h18 c76]; first | (rw [if_pos c22]; done) | (rw [if_neg c22]; done), rfl⟩) dX3_flowOut_85
        · skip
          have c76 := ni_eq (a := j) (b := (cA z i)) (by omega) (by omega) c76
          refine lv_lload_n hx hb dX3_flowOut_79 rfl (lv_at hl 0 rfl) ?_
          refine lv_goto (tgt := 85) hx hb dX3_flowOut_80 (by decide) ?_
          exact xe_lret hQ hx hb hr hlocks hH hS (Nat.le_refl _) (Nat.le_refl _) (⟨by rw [flw_1 h18 c76]; first | (rw [if_pos c22]; done) | (rw [if_neg c22]; done), rfl⟩) dX3_flowOut_85
      · skip
        refine lv_aload_n hx hb dX3_flowOut_25 rfl (lv_at hl 1 rfl) ?_
        refine fg_X0_size (i := i) (by first | assumption | omega) hx hb hts hown hE hP q_515 dX3_flowOut_26 ?_
        refine lv_i2l (v := (eZ z i).toInt64) hx hb dX3_flowOut_29 rfl ?_
        refine lv_aload_n hx hb dX3_flowOut_30 rfl (lv_at hl 2 rfl) ?_
        refine fg_X3_equations hx hb hts hown hE hP q_127 dX3_flowOut_31 ?_
        refine xw_callV (C := "NetlistBench$Equations") (n := 0) [] (c_X1_lower l hP (by omega)) hx hb hml hown hts hE hS (xw_recv hE hP (6, 0) rfl rfl) rfl rfl q_47 q_281 q_280 q_278 q_279 (by decide) rfl ⟨by rw [hRf]; decide, by rw [hRl]; decide⟩ hl.1 rfl (Nat.le_of_ble_eq_true rfl) dX3_flowOut_34 ⟨by rw [hRc]; decide, by rw [hRs]; decide⟩ (fun v H1 locs hp hS => ?_)
        obtain ⟨hv, hh⟩ := hp; subst hv; subst hh
        refine lv_lmul hx hb dX3_flowOut_37 ?_
        refine lv_goto (tgt := 70) hx hb dX3_flowOut_38 (by decide) ?_
        refine lv_lstore_n (lv' := [(3, .long (((eZ z i).toInt64) * (mi (2 ^ n - 1)))), (2, .int (nI j)), (1, .ref (ad (13, i))), (0, .ref (ad (0, 0)))]) hx hb dX3_flowOut_70 rfl hl (by decide) rfl (fun ls hl => ?_)
        refine lv_iload_n hx hb dX3_flowOut_71 rfl (lv_at hl 1 rfl) ?_
        refine lv_aload_n hx hb dX3_flowOut_72 rfl (lv_at hl 2 rfl) ?_
        refine fg_X0_a (i := i) (by first | assumption | omega) hx hb hts hown hE hP q_511 dX3_flowOut_73 ?_
        refine xt_i (w := nI (cA z i)) (hw.a hi) ?_
        refine lv_icmp_ne (tgt := 83) hx hb dX3_flowOut_76 (by decide) (fun c76 => ?_) (fun c76 => ?_)
        · skip
          have c76 := ni_ne (a := j) (b := (cA z i)) (by omega) (by omega) c76
          refine lv_lload_n hx hb dX3_flowOut_83 rfl (lv_at hl 0 rfl) ?_
          refine lv_lneg hx hb dX3_flowOut_84 ?_
          exact xe_lret hQ hx hb hr hlocks hH hS (Nat.le_refl _) (Nat.le_refl _) (⟨by rw [flw_2 h18 c76]; first | (rw [if_pos c22]; done) | (rw [if_neg c22]; done), rfl⟩) dX3_flowOut_85
        · skip
          have c76 := ni_eq (a := j) (b := (cA z i)) (by omega) (by omega) c76
          refine lv_lload_n hx hb dX3_flowOut_79 rfl (lv_at hl 0 rfl) ?_
          refine lv_goto (tgt := 85) hx hb dX3_flowOut_80 (by decide) ?_
          exact xe_lret hQ hx hb hr hlocks hH hS (Nat.le_refl _) (Nat.le_refl _) (⟨by rw [flw_1 h18 c76]; first | (rw [if_pos c22]; done) | (rw [if_neg c22]; done), rfl⟩) dX3_flowOut_85
    exact K18 (fun h => by first | exact h.1 c5 | exact h.2 c13) _ _ hS (lv_sub hl [2, 1, 0] rfl)
  · skip
    have c5 := ni_ne (a := j) (b := (cA z i)) (by omega) (by omega) c5
    refine lv_iload_n hx hb dX3_flowOut_8 rfl (lv_at hl 2 rfl) ?_
    refine lv_aload_n hx hb dX3_flowOut_9 rfl (lv_at hl 1 rfl) ?_
    refine fg_X0_b (i := i) (by first | assumption | omega) hx hb hts hown hE hP q_513 dX3_flowOut_10 ?_
    refine xt_i (w := nI (cB z i)) (hw.b hi) ?_
    refine lv_icmp_eq (tgt := 18) hx hb dX3_flowOut_13 (by decide) (fun c13 => ?_) (fun c13 => ?_)
    · skip
      have c13 := ni_eq (a := j) (b := (cB z i)) (by omega) (by omega) c13
      have K18 : (¬ (¬ j = cA z i ∧ ¬ j = cB z i)) → ∀ (locs : List Loc) (ls : Array Slot), va_S A Hs Hs locs → lv_has ls 5 [(2, .int (nI j)), (1, .ref (ad (13, i))), (0, .ref (ad (0, 0)))] → W p l e R s m args below meth c Hs locs 0 0 Q (F0 m 18 ls []) := by
        intro  h18 locs ls hS hl
        refine lv_aload_n hx hb dX3_flowOut_18 rfl (lv_at hl 1 rfl) ?_
        refine fg_X0_isSource (i := i) (by first | assumption | omega) hx hb hts hown hE hP q_509 dX3_flowOut_19 ?_
        refine lv_if_eq (tgt := 41) hx hb dX3_flowOut_22 (by decide) (fun c22 => ?_) (fun c22 => ?_)
        · skip
          refine lv_aload_n hx hb dX3_flowOut_41 rfl (lv_at hl 1 rfl) ?_
          refine fg_X0_size (i := i) (by first | assumption | omega) hx hb hts hown hE hP q_515 dX3_flowOut_42 ?_
          refine lv_i2l (v := (eZ z i).toInt64) hx hb dX3_flowOut_45 rfl ?_
          refine lv_aload_n hx hb dX3_flowOut_46 rfl (lv_at hl 2 rfl) ?_
          refine fg_X3_equations hx hb hts hown hE hP q_127 dX3_flowOut_47 ?_
          refine lv_aload_n hx hb dX3_flowOut_50 rfl (lv_at hl 1 rfl) ?_
          refine fg_X0_a (i := i) (by first | assumption | omega) hx hb hts hown hE hP q_511 dX3_flowOut_51 ?_
          refine xt_i (w := nI (cA z i)) (hw.a hi) ?_
          refine xw_callV (C := "NetlistBench$Equations") (n := 1) [.int (nI (cA z i))] (c_X1_upper l hP (by omega) hpl (by omega)) hx hb hml hown hts hE hS (xw_recv hE hP (6, 0) rfl rfl) rfl rfl q_47 q_273 q_276 q_274 q_275 (by decide) rfl ⟨by rw [hRf]; decide, by rw [hRl]; decide⟩ hl.1 rfl (Nat.le_of_ble_eq_true rfl) dX3_flowOut_54 ⟨by rw [hRc]; decide, by rw [hRs]; decide⟩ (fun v H1 locs hp hS => ?_)
          obtain ⟨hv, hh⟩ := hp; subst hv; subst hh
          refine lv_aload_n hx hb dX3_flowOut_57 rfl (lv_at hl 2 rfl) ?_
          refine fg_X3_equations hx hb hts hown hE hP q_127 dX3_flowOut_58 ?_
          refine lv_aload_n hx hb dX3_flowOut_61 rfl (lv_at hl 1 rfl) ?_
          refine fg_X0_b (i := i) (by first | assumption | omega) hx hb hts hown hE hP q_513 dX3_flowOut_62 ?_
          refine xt_i (w := nI (cB z i)) (hw.b hi) ?_
          refine xw_callV (C := "NetlistBench$Equations") (n := 1) [.int (nI (cB z i))] (c_X1_upper l hP (by omega) hpl (by omega)) hx hb hml hown hts hE hS (xw_recv hE hP (6, 0) rfl rfl) rfl rfl q_47 q_273 q_276 q_274 q_275 (by decide) rfl ⟨by rw [hRf]; decide, by rw [hRl]; decide⟩ hl.1 rfl (Nat.le_of_ble_eq_true rfl) dX3_flowOut_65 ⟨by rw [hRc]; decide, by rw [hRs]; decide⟩ (fun v H1 locs hp hS => ?_)
          obtain ⟨hv, hh⟩ := hp; subst hv; subst hh
          refine lv_lsub hx hb dX3_flowOut_68 ?_
          refine lv_lmul hx hb dX3_flowOut_69 ?_
          refine lv_lstore_n (lv' := [(3, .long (((eZ z i).toInt64) * ((upV pl kn mi n (cA z i)) - (upV pl kn mi n (cB z i))))), (2, .int (nI j)), (1, .ref (ad (13, i))), (0, .ref (ad (0, 0)))]) hx hb dX3_flowOut_70 rfl hl (by decide) rfl (fun ls hl => ?_)
          refine lv_iload_n hx hb dX3_flowOut_71 rfl (lv_at hl 1 rfl) ?_
          refine lv_aload_n hx hb dX3_flowOut_72 rfl (lv_at hl 2 rfl) ?_
          refine fg_X0_a (i := i) (by first | assumption | omega) hx hb hts hown hE hP q_511 dX3_flowOut_73 ?_
          refine xt_i (w := nI (cA z i)) (hw.a hi) ?_
          refine lv_icmp_ne (tgt := 83) hx hb dX3_flowOut_76 (by decide) (fun c76 => ?_) (fun c76 => ?_)
          · skip
            have c76 := ni_ne (a := j) (b := (cA z i)) (by omega) (by omega) c76
            refine lv_lload_n hx hb dX3_flowOut_83 rfl (lv_at hl 0 rfl) ?_
            refine lv_lneg hx hb dX3_flowOut_84 ?_
            exact xe_lret hQ hx hb hr hlocks hH hS (Nat.le_refl _) (Nat.le_refl _) (⟨by rw [flw_2 h18 c76]; first | (rw [if_pos c22]; done) | (rw [if_neg c22]; done), rfl⟩) dX3_flowOut_85
          · skip
            have c76 := ni_eq (a := j) (b := (cA z i)) (by omega) (by omega) c76
            refine lv_lload_n hx hb dX3_flowOut_79 rfl (lv_at hl 0 rfl) ?_
            refine lv_goto (tgt := 85) hx hb dX3_flowOut_80 (by decide) ?_
            exact xe_lret hQ hx hb hr hlocks hH hS (Nat.le_refl _) (Nat.le_refl _) (⟨by rw [flw_1 h18 c76]; first | (rw [if_pos c22]; done) | (rw [if_neg c22]; done), rfl⟩) dX3_flowOut_85
        · skip
          refine lv_aload_n hx hb dX3_flowOut_25 rfl (lv_at hl 1 rfl) ?_
          refine fg_X0_size (i := i) (by first | assumption | omega) hx hb hts hown hE hP q_515 dX3_flowOut_26 ?_
          refine lv_i2l (v := (eZ z i).toInt64) hx hb dX3_flowOut_29 rfl ?_
          refine lv_aload_n hx hb dX3_flowOut_30 rfl (lv_at hl 2 rfl) ?_
          refine fg_X3_equations hx hb hts hown hE hP q_127 dX3_flowOut_31 ?_
          refine xw_callV (C := "NetlistBench$Equations") (n := 0) [] (c_X1_lower l hP (by omega)) hx hb hml hown hts hE hS (xw_recv hE hP (6, 0) rfl rfl) rfl rfl q_47 q_281 q_280 q_278 q_279 (by decide) rfl ⟨by rw [hRf]; decide, by rw [hRl]; decide⟩ hl.1 rfl (Nat.le_of_ble_eq_true rfl) dX3_flowOut_34 ⟨by rw [hRc]; decide, by rw [hRs]; decide⟩ (fun v H1 locs hp hS => ?_)
          obtain ⟨hv, hh⟩ := hp; subst hv; subst hh
          refine lv_lmul hx hb dX3_flowOut_37 ?_
          refine lv_goto (tgt := 70) hx hb dX3_flowOut_38 (by decide) ?_
          refine lv_lstore_n (lv' := [(3, .long (((eZ z i).toInt64) * (mi (2 ^ n - 1)))), (2, .int (nI j)), (1, .ref (ad (13, i))), (0, .ref (ad (0, 0)))]) hx hb dX3_flowOut_70 rfl hl (by decide) rfl (fun ls hl => ?_)
          refine lv_iload_n hx hb dX3_flowOut_71 rfl (lv_at hl 1 rfl) ?_
          refine lv_aload_n hx hb dX3_flowOut_72 rfl (lv_at hl 2 rfl) ?_
          refine fg_X0_a (i := i) (by first | assumption | omega) hx hb hts hown hE hP q_511 dX3_flowOut_73 ?_
          refine xt_i (w := nI (cA z i)) (hw.a hi) ?_
          refine lv_icmp_ne (tgt := 83) hx hb dX3_flowOut_76 (by decide) (fun c76 => ?_) (fun c76 => ?_)
          · skip
            have c76 := ni_ne (a := j) (b := (cA z i)) (by omega) (by omega) c76
            refine lv_lload_n hx hb dX3_flowOut_83 rfl (lv_at hl 0 rfl) ?_
            refine lv_lneg hx hb dX3_flowOut_84 ?_
            exact xe_lret hQ hx hb hr hlocks hH hS (Nat.le_refl _) (Nat.le_refl _) (⟨by rw [flw_2 h18 c76]; first | (rw [if_pos c22]; done) | (rw [if_neg c22]; done), rfl⟩) dX3_flowOut_85
          · skip
            have c76 := ni_eq (a := j) (b := (cA z i)) (by omega) (by omega) c76
            refine lv_lload_n hx hb dX3_flowOut_79 rfl (lv_at hl 0 rfl) ?_
            refine lv_goto (tgt := 85) hx hb dX3_flowOut_80 (by decide) ?_
            exact xe_lret hQ hx hb hr hlocks hH hS (Nat.le_refl _) (Nat.le_refl _) (⟨by rw [flw_1 h18 c76]; first | (rw [if_pos c22]; done) | (rw [if_neg c22]; done), rfl⟩) dX3_flowOut_85
      exact K18 (fun h => by first | exact h.1 c5 | exact h.2 c13) _ _ hS (lv_sub hl [2, 1, 0] rfl)
    · skip
      have c13 := ni_ne (a := j) (b := (cB z i)) (by omega) (by omega) c13
      refine lv_lconst (v := 0) hx hb dX3_flowOut_16 (by decide) ?_
      exact xe_lret hQ hx hb hr hlocks hH hS (Nat.le_refl _) (Nat.le_refl _) (⟨by rw [flw_0 ⟨c5, c13⟩], rfl⟩) dX3_flowOut_17

set_option maxHeartbeats 4000000 in
set_option maxRecDepth 100000 in
theorem c_X3_isFirstOfLevel (l : Launch) {D : va_G} {y : Nat → ClassId} {A : Nat → Prop} {ad : xL → Nat} {n : Nat} {bl : xM} {z : xC} {g : Nat → Int32} {pl : Nat → Int32} {kn : Nat → Int64} {rw : Nat → Nat → Int64} {mi : Nat → Int64} {fR fO : Nat → Nat → Option va_E} {Hs : Heap} (hP : xW D A ad (wU (wB y ad bl z g pl kn rw mi (nI n)) fR fO) Hs) (hn : n ≤ 7) (hpl : plOk pl n) {m8 : Nat → Nat} (hg : g = fun j => nI (m8 j)) (hm : ∀ j, j < 8 → m8 j < 256) (hz : bOk bl z) {j : Nat} (hj : j < 8) : Met l yX3_isFirstOfLevel (.code yX3_isFirstOfLevel cX3_isFirstOfLevel 3 (some .boolean) :: WG) { frames := 4, cells := 0, slots := 0, locals := 86 } (xPc [.ref (ad (0, 0)), .int (nI j)] D y Hs) (xQ (fun v H1 => v = some (.int (if lvF z m8 (upV pl kn mi n) j j = true then nI 1 else nI 0)) ∧ Hs = H1) A) 0 0 A := by
  refine xM_go (by decide) (Nat.le_of_ble_eq_true rfl) (fun p e s m args below meth c ls R Q hx hb hr hlocks hml hown hts hH hE hnm hRf hRl hRc hRs hQ hS hl => ?_)
  have hRf : R.frames = 4 := hRf
  have hRl : R.locals = 86 := hRl
  have hRc : R.cells = 0 := hRc
  have hRs : R.slots = 0 := hRs
  have hl : lv_has ls 3 [(0, .ref (ad (0, 0))), (1, .int (nI j))] := hl
  have hw := hz.w
  have hN := hw.N
  have hE20 := hw.E
  refine lv_iconst (v := nI 0) hx hb dX3_isFirstOfLevel_0 (by decide) ?_
  refine lv_istore_n (lv' := [(2, .int (nI 0)), (0, .ref (ad (0, 0))), (1, .int (nI j))]) hx hb dX3_isFirstOfLevel_1 rfl hl (by decide) rfl (fun ls hl => ?_)
  have K2 : ∀ (nn : Nat), ∀ (o : Nat), (o ≤ j) → (lvF z m8 (upV pl kn mi n) j o = true) → j - o < nn → ∀ (locs : List Loc) (ls : Array Slot), va_S A Hs Hs locs → lv_has ls 3 [(2, .int (nI o)), (1, .int (nI j)), (0, .ref (ad (0, 0)))] → W p l e R s m args below meth c Hs locs 0 0 Q (F0 m 2 ls []) := by
    intro nn
    induction nn with
    | zero => intro o ho hf h; exact absurd h (Nat.not_lt_zero _)
    | succ nn ih2 =>
      intro o ho hf hn2 locs ls hS hl
      refine lv_iload_n hx hb dX3_isFirstOfLevel_2 rfl (lv_at hl 0 rfl) ?_
      refine lv_iload_n hx hb dX3_isFirstOfLevel_3 rfl (lv_at hl 1 rfl) ?_
      refine lv_icmp_ge (tgt := 43) hx hb dX3_isFirstOfLevel_4 (by decide) (fun c4 => ?_) (fun c4 => ?_)
      · skip
        have c4 := ni_le (a := j) (b := o) (by omega) (by omega) c4
        refine lv_iconst (v := nI 1) hx hb dX3_isFirstOfLevel_43 (by decide) ?_
        exact xe_zret hQ hx hb hr hlocks hH hS (by first | assumption | decide | omega) (Nat.le_refl _) (Nat.le_refl _) (⟨by rw [show lvF z m8 (upV pl kn mi n) j j = true by rw [← hf]; congr 1; omega]; rfl, rfl⟩) dX3_isFirstOfLevel_44
      · skip
        have c4 := ni_nle (a := j) (b := o) (by omega) (by omega) c4
        refine lv_aload_n hx hb dX3_isFirstOfLevel_7 rfl (lv_at hl 2 rfl) ?_
        refine lv_iload_n hx hb dX3_isFirstOfLevel_8 rfl (lv_at hl 0 rfl) ?_
        refine xw_callV (C := "NetlistBench") (n := 1) [.int (nI o)] (c_X3_isAfloat l hP (m8 := m8) hg hm hz (by omega)) hx hb hml hown hts hE hS (xw_recv hE hP (0, 0) rfl rfl) rfl rfl q_43 q_229 q_232 q_231 q_9 (by decide) rfl ⟨by rw [hRf]; decide, by rw [hRl]; decide⟩ hl.1 rfl (Nat.le_of_ble_eq_true rfl) dX3_isFirstOfLevel_9 ⟨by rw [hRc]; decide, by rw [hRs]; decide⟩ (fun v H1 locs hp hS => ?_)
        obtain ⟨hv, hh⟩ := hp; subst hv; subst hh
        refine lv_if_ne (tgt := 37) hx hb dX3_isFirstOfLevel_12 (by decide) (fun c12 => ?_) (fun c12 => ?_)
        · skip
          refine lv_iinc (v := nI (o + 1)) (lv' := [(2, .int (nI (o + 1))), (1, .int (nI j)), (0, .ref (ad (0, 0)))]) hx hb dX3_isFirstOfLevel_37 hl (k := 0) rfl (nI_1 _) (by decide) rfl (fun ls hl => ?_)
          refine lv_goto (tgt := 2) hx hb dX3_isFirstOfLevel_40 (by decide) ?_
          exact ih2 (o + 1) (by omega) (by first | exact lvF_1 hf (Or.inl c12) | exact lvF_1 hf (Or.inr c32)) (by omega) _ _ hS (lv_sub hl [0, 1, 2] rfl)
        · skip
          refine lv_aload_n hx hb dX3_isFirstOfLevel_15 rfl (lv_at hl 2 rfl) ?_
          refine fg_X3_equations hx hb hts hown hE hP q_127 dX3_isFirstOfLevel_16 ?_
          refine lv_iload_n hx hb dX3_isFirstOfLevel_19 rfl (lv_at hl 0 rfl) ?_
          refine xw_callV (C := "NetlistBench$Equations") (n := 1) [.int (nI o)] (c_X1_upper l hP (by omega) hpl (by omega)) hx hb hml hown hts hE hS (xw_recv hE hP (6, 0) rfl rfl) rfl rfl q_47 q_273 q_276 q_274 q_275 (by decide) rfl ⟨by rw [hRf]; decide, by rw [hRl]; decide⟩ hl.1 rfl (Nat.le_of_ble_eq_true rfl) dX3_isFirstOfLevel_20 ⟨by rw [hRc]; decide, by rw [hRs]; decide⟩ (fun v H1 locs hp hS => ?_)
          obtain ⟨hv, hh⟩ := hp; subst hv; subst hh
          refine lv_aload_n hx hb dX3_isFirstOfLevel_23 rfl (lv_at hl 2 rfl) ?_
          refine fg_X3_equations hx hb hts hown hE hP q_127 dX3_isFirstOfLevel_24 ?_
          refine lv_iload_n hx hb dX3_isFirstOfLevel_27 rfl (lv_at hl 1 rfl) ?_
          refine xw_callV (C := "NetlistBench$Equations") (n := 1) [.int (nI j)] (c_X1_upper l hP (by omega) hpl (by omega)) hx hb hml hown hts hE hS (xw_recv hE hP (6, 0) rfl rfl) rfl rfl q_47 q_273 q_276 q_274 q_275 (by decide) rfl ⟨by rw [hRf]; decide, by rw [hRl]; decide⟩ hl.1 rfl (Nat.le_of_ble_eq_true rfl) dX3_isFirstOfLevel_28 ⟨by rw [hRc]; decide, by rw [hRs]; decide⟩ (fun v H1 locs hp hS => ?_)
          obtain ⟨hv, hh⟩ := hp; subst hv; subst hh
          refine W.lcmp hx hb dX3_isFirstOfLevel_31 ?_
          refine lv_if_ne (tgt := 37) hx hb dX3_isFirstOfLevel_32 (by decide) (fun c32 => ?_) (fun c32 => ?_)
          · skip
            have c32 := mt (lg_cmp_eq _ _).mpr c32
            refine lv_iinc (v := nI (o + 1)) (lv' := [(2, .int (nI (o + 1))), (1, .int (nI j)), (0, .ref (ad (0, 0)))]) hx hb dX3_isFirstOfLevel_37 hl (k := 0) rfl (nI_1 _) (by decide) rfl (fun ls hl => ?_)
            refine lv_goto (tgt := 2) hx hb dX3_isFirstOfLevel_40 (by decide) ?_
            exact ih2 (o + 1) (by omega) (by first | exact lvF_1 hf (Or.inl c12) | exact lvF_1 hf (Or.inr c32)) (by omega) _ _ hS (lv_sub hl [0, 1, 2] rfl)
          · skip
            have c32 := (lg_cmp_eq _ _).mp c32
            refine lv_iconst (v := nI 0) hx hb dX3_isFirstOfLevel_35 (by decide) ?_
            exact xe_zret hQ hx hb hr hlocks hH hS (by first | assumption | decide | omega) (Nat.le_refl _) (Nat.le_refl _) (⟨by rw [lvF_0 c12 c32 j (by omega)]; rfl, rfl⟩) dX3_isFirstOfLevel_36
  exact K2 _ 0 (by omega) rfl (Nat.lt_succ_self _) _ _ hS (lv_sub hl [0, 2, 1] rfl)

set_option maxHeartbeats 4000000 in
set_option maxRecDepth 100000 in
theorem c_X3_firstToggleBehind (l : Launch) {D : va_G} {y : Nat → ClassId} {A : Nat → Prop} {ad : xL → Nat} {bl : xM} {z : xC} {g : Nat → Int32} {pl : Nat → Int32} {kn : Nat → Int64} {rw : Nat → Nat → Int64} {mi : Nat → Int64} {un : Int32} {fR fO : Nat → Nat → Option va_E} {Hs : Heap} (hP : xW D A ad (wU (wB y ad bl z g pl kn rw mi un) fR fO) Hs) (hz : bOk bl z) (t : Int32) : Met l yX3_firstToggleBehind (.code yX3_firstToggleBehind cX3_firstToggleBehind 5 (some .int) :: WG) { frames := 3, cells := 0, slots := 0, locals := 64 } (xPc [.ref (ad (0, 0)), .int t] D y Hs) (xQ (fun v H1 => v = some (.int (ftS z t (nE z))) ∧ Hs = H1) A) 0 0 A := by
  refine xM_go (by decide) (Nat.le_of_ble_eq_true rfl) (fun p e s m args below meth c ls R Q hx hb hr hlocks hml hown hts hH hE hnm hRf hRl hRc hRs hQ hS hl => ?_)
  have hRf : R.frames = 3 := hRf
  have hRl : R.locals = 64 := hRl
  have hRc : R.cells = 0 := hRc
  have hRs : R.slots = 0 := hRs
  have hl : lv_has ls 5 [(0, .ref (ad (0, 0))), (1, .int t)] := hl
  have hw := hz.w
  have hN := hw.N
  have hE20 := hw.E
  refine lv_iconst (v := (-1)) hx hb dX3_firstToggleBehind_0 (by decide) ?_
  refine lv_istore_n (lv' := [(2, .int ((-1))), (0, .ref (ad (0, 0))), (1, .int t)]) hx hb dX3_firstToggleBehind_1 rfl hl (by decide) rfl (fun ls hl => ?_)
  refine lv_iconst (v := nI 0) hx hb dX3_firstToggleBehind_2 (by decide) ?_
  refine lv_istore_n (lv' := [(3, .int (nI 0)), (2, .int ((-1))), (0, .ref (ad (0, 0))), (1, .int t)]) hx hb dX3_firstToggleBehind_3 rfl hl (by decide) rfl (fun ls hl => ?_)
  have K4 : ∀ (nn : Nat), ∀ (i : Nat), (i ≤ nE z) → nE z - i < nn → ∀ (locs : List Loc) (ls : Array Slot), va_S A Hs Hs locs → lv_has ls 5 [(3, .int (nI i)), (2, .int (ftS z t i)), (1, .int t), (0, .ref (ad (0, 0)))] → W p l e R s m args below meth c Hs locs 0 0 Q (F0 m 4 ls []) := by
    intro nn
    induction nn with
    | zero => intro i hi h; exact absurd h (Nat.not_lt_zero _)
    | succ nn ih4 =>
      intro i hi hn4 locs ls hS hl
      refine lv_iload_n hx hb dX3_firstToggleBehind_4 rfl (lv_at hl 0 rfl) ?_
      refine lv_aload_n hx hb dX3_firstToggleBehind_5 rfl (lv_at hl 3 rfl) ?_
      refine fg_X3_elements hx hb hts hown hE hP q_125 dX3_firstToggleBehind_6 ?_
      refine xw_callV (C := "java/util/ArrayList") (n := 0) [] (c_size_elements l hP ) hx hb hml hown hts hE hS (xw_recv hE hP (3, 0) rfl rfl) rfl rfl q_46 q_150 q_153 q_151 q_152 (by decide) rfl ⟨by rw [hRf]; decide, by rw [hRl]; decide⟩ hl.1 rfl (Nat.le_of_ble_eq_true rfl) dX3_firstToggleBehind_9 ⟨by rw [hRc]; decide, by rw [hRs]; decide⟩ (fun v H1 locs hp hS => ?_)
      obtain ⟨hv, hh⟩ := hp; subst hv; subst hh
      refine lv_icmp_ge (tgt := 56) hx hb dX3_firstToggleBehind_12 (by decide) (fun c12 => ?_) (fun c12 => ?_)
      · skip
        have c12 := ni_le (a := (nE z)) (b := i) (by omega) (by omega) c12
        refine lv_iload_n hx hb dX3_firstToggleBehind_56 rfl (lv_at hl 1 rfl) ?_
        exact xe_iret hQ hx hb hr hlocks hH hS (Nat.le_refl _) (Nat.le_refl _) (⟨by rw [show nE z = i by omega], rfl⟩) dX3_firstToggleBehind_57
      · skip
        have c12 := ni_nle (a := (nE z)) (b := i) (by omega) (by omega) c12
        refine lv_aload_n hx hb dX3_firstToggleBehind_15 rfl (lv_at hl 3 rfl) ?_
        refine fg_X3_elements hx hb hts hown hE hP q_125 dX3_firstToggleBehind_16 ?_
        refine lv_iload_n hx hb dX3_firstToggleBehind_19 rfl (lv_at hl 0 rfl) ?_
        refine xw_callV (C := "java/util/ArrayList") (n := 1) [.int (nI i)] (c_get_elements l hP hz (by omega)) hx hb hml hown hts hE hS (xw_recv hE hP (3, 0) rfl rfl) rfl rfl q_46 q_158 q_161 q_159 q_160 (by decide) rfl ⟨by rw [hRf]; decide, by rw [hRl]; decide⟩ hl.1 rfl (Nat.le_of_ble_eq_true rfl) dX3_firstToggleBehind_20 ⟨by rw [hRc]; decide, by rw [hRs]; decide⟩ (fun v H1 locs hp hS => ?_)
        obtain ⟨hv, hh⟩ := hp; subst hv; subst hh
        refine xc_el (i := i) hx hb hts hown hE hP (by first | assumption | omega) q_177 dX3_firstToggleBehind_23 ?_
        refine lv_iload_n hx hb dX3_firstToggleBehind_26 rfl (lv_at hl 2 rfl) ?_
        refine xw_callV (C := "NetlistBench$Element") (n := 1) [.int t] (c_X0_toggleBehind l hP hw (by omega) t) hx hb hml hown hts hE hS (xr_el hE hP (by first | assumption | omega)) rfl rfl q_62 q_295 q_298 q_296 q_297 (by decide) rfl ⟨by rw [hRf]; decide, by rw [hRl]; decide⟩ hl.1 rfl (Nat.le_of_ble_eq_true rfl) dX3_firstToggleBehind_27 ⟨by rw [hRc]; decide, by rw [hRs]; decide⟩ (fun v H1 locs hp hS => ?_)
        obtain ⟨hv, hh⟩ := hp; subst hv; subst hh
        refine lv_istore (lv' := [(4, .int (tgb z i t)), (3, .int (nI i)), (2, .int (ftS z t i)), (1, .int t), (0, .ref (ad (0, 0)))]) hx hb dX3_firstToggleBehind_30 hl (by decide) rfl (fun ls hl => ?_)
        refine lv_iload hx hb dX3_firstToggleBehind_32 (lv_at hl 0 rfl) ?_
        refine xt_i (w := tgb z i t) (rfl) ?_
        refine lv_if_lt (tgt := 50) hx hb dX3_firstToggleBehind_34 (by decide) (fun c34 => ?_) (fun c34 => ?_)
        · skip
          rw [show ftS z t i = ftS z t (i + 1) from (ftS_0 c34).symm] at hl
          refine lv_iinc (v := nI (i + 1)) (lv' := [(3, .int (nI (i + 1))), (4, .int (tgb z i t)), (2, .int (ftS z t (i + 1))), (1, .int t), (0, .ref (ad (0, 0)))]) hx hb dX3_firstToggleBehind_50 hl (k := 1) rfl (nI_1 _) (by decide) rfl (fun ls hl => ?_)
          refine lv_goto (tgt := 4) hx hb dX3_firstToggleBehind_53 (by decide) ?_
          exact ih4 (i + 1) (by omega) (by omega) _ _ hS (lv_sub hl [0, 2, 3, 4] rfl)
        · skip
          refine lv_iload_n hx hb dX3_firstToggleBehind_37 rfl (lv_at hl 2 rfl) ?_
          refine lv_if_lt (tgt := 47) hx hb dX3_firstToggleBehind_38 (by decide) (fun c38 => ?_) (fun c38 => ?_)
          · skip
            refine lv_iload hx hb dX3_firstToggleBehind_47 (lv_at hl 0 rfl) ?_
            refine lv_istore_n (lv' := [(2, .int (tgb z i t)), (4, .int (tgb z i t)), (3, .int (nI i)), (1, .int t), (0, .ref (ad (0, 0)))]) hx hb dX3_firstToggleBehind_49 rfl hl (by decide) rfl (fun ls hl => ?_)
            rw [show tgb z i t = ftS z t (i + 1) from by first | exact (ftS_1 c34 c38).symm | exact (ftS_3 c34 c38 c44).symm] at hl
            refine lv_iinc (v := nI (i + 1)) (lv' := [(3, .int (nI (i + 1))), (2, .int (ftS z t (i + 1))), (4, .int (ftS z t (i + 1))), (1, .int t), (0, .ref (ad (0, 0)))]) hx hb dX3_firstToggleBehind_50 hl (k := 2) rfl (nI_1 _) (by decide) rfl (fun ls hl => ?_)
            refine lv_goto (tgt := 4) hx hb dX3_firstToggleBehind_53 (by decide) ?_
            exact ih4 (i + 1) (by omega) (by omega) _ _ hS (lv_sub hl [0, 1, 3, 4] rfl)
          · skip
            refine lv_iload hx hb dX3_firstToggleBehind_41 (lv_at hl 0 rfl) ?_
            refine lv_iload_n hx hb dX3_firstToggleBehind_43 rfl (lv_at hl 2 rfl) ?_
            refine lv_icmp_ge (tgt := 50) hx hb dX3_firstToggleBehind_44 (by decide) (fun c44 => ?_) (fun c44 => ?_)
            · skip
              rw [show ftS z t i = ftS z t (i + 1) from (ftS_2 c34 c38 c44).symm] at hl
              refine lv_iinc (v := nI (i + 1)) (lv' := [(3, .int (nI (i + 1))), (4, .int (tgb z i t)), (2, .int (ftS z t (i + 1))), (1, .int t), (0, .ref (ad (0, 0)))]) hx hb dX3_firstToggleBehind_50 hl (k := 1) rfl (nI_1 _) (by decide) rfl (fun ls hl => ?_)
              refine lv_goto (tgt := 4) hx hb dX3_firstToggleBehind_53 (by decide) ?_
              exact ih4 (i + 1) (by omega) (by omega) _ _ hS (lv_sub hl [0, 2, 3, 4] rfl)
            · skip
              refine lv_iload hx hb dX3_firstToggleBehind_47 (lv_at hl 0 rfl) ?_
              refine lv_istore_n (lv' := [(2, .int (tgb z i t)), (4, .int (tgb z i t)), (3, .int (nI i)), (1, .int t), (0, .ref (ad (0, 0)))]) hx hb dX3_firstToggleBehind_49 rfl hl (by decide) rfl (fun ls hl => ?_)
              rw [show tgb z i t = ftS z t (i + 1) from by first | exact (ftS_1 c34 c38).symm | exact (ftS_3 c34 c38 c44).symm] at hl
              refine lv_iinc (v := nI (i + 1)) (lv' := [(3, .int (nI (i + 1))), (2, .int (ftS z t (i + 1))), (4, .int (ftS z t (i + 1))), (1, .int t), (0, .ref (ad (0, 0)))]) hx hb dX3_firstToggleBehind_50 hl (k := 2) rfl (nI_1 _) (by decide) rfl (fun ls hl => ?_)
              refine lv_goto (tgt := 4) hx hb dX3_firstToggleBehind_53 (by decide) ?_
              exact ih4 (i + 1) (by omega) (by omega) _ _ hS (lv_sub hl [0, 1, 3, 4] rfl)
  exact K4 _ 0 (by omega) (Nat.lt_succ_self _) _ _ hS (lv_sub hl [0, 1, 3, 2] rfl)

set_option maxHeartbeats 4000000 in
set_option maxRecDepth 100000 in
theorem c_X3_countRails (l : Launch) {D : va_G} {y : Nat → ClassId} {A : Nat → Prop} {ad : xL → Nat} {bl : xM} {z : xC} {g : Nat → Int32} {pl : Nat → Int32} {kn : Nat → Int64} {rw : Nat → Nat → Int64} {mi : Nat → Int64} {un : Int32} {fR fO : Nat → Nat → Option va_E} {Hs : Heap} (hP : xW D A ad (wU (wB y ad bl z g pl kn rw mi un) fR fO) Hs) (hz : bOk bl z) : Met l yX3_countRails (.code yX3_countRails cX3_countRails 3 (some .int) :: WG) { frames := 3, cells := 0, slots := 0, locals := 64 } (xPc [.ref (ad (0, 0))] D y Hs) (xQ (fun v H1 => v = some (.int (nI (crS z (nN z)))) ∧ Hs = H1) A) 0 0 A := by
  refine xM_go (by decide) (Nat.le_of_ble_eq_true rfl) (fun p e s m args below meth c ls R Q hx hb hr hlocks hml hown hts hH hE hnm hRf hRl hRc hRs hQ hS hl => ?_)
  have hRf : R.frames = 3 := hRf
  have hRl : R.locals = 64 := hRl
  have hRc : R.cells = 0 := hRc
  have hRs : R.slots = 0 := hRs
  have hl : lv_has ls 3 [(0, .ref (ad (0, 0)))] := hl
  have hw := hz.w
  have hN := hw.N
  have hE20 := hw.E
  refine lv_iconst (v := nI 0) hx hb dX3_countRails_0 (by decide) ?_
  refine lv_istore_n (lv' := [(1, .int (nI 0)), (0, .ref (ad (0, 0)))]) hx hb dX3_countRails_1 rfl hl (by decide) rfl (fun ls hl => ?_)
  refine lv_iconst (v := nI 0) hx hb dX3_countRails_2 (by decide) ?_
  refine lv_istore_n (lv' := [(2, .int (nI 0)), (1, .int (nI 0)), (0, .ref (ad (0, 0)))]) hx hb dX3_countRails_3 rfl hl (by decide) rfl (fun ls hl => ?_)
  have K4 : ∀ (nn : Nat), ∀ (i : Nat), (i ≤ nN z) → nN z - i < nn → ∀ (locs : List Loc) (ls : Array Slot), va_S A Hs Hs locs → lv_has ls 3 [(2, .int (nI i)), (1, .int (nI (crS z i))), (0, .ref (ad (0, 0)))] → W p l e R s m args below meth c Hs locs 0 0 Q (F0 m 4 ls []) := by
    intro nn
    induction nn with
    | zero => intro i hi h; exact absurd h (Nat.not_lt_zero _)
    | succ nn ih4 =>
      intro i hi hn4 locs ls hS hl
      refine lv_iload_n hx hb dX3_countRails_4 rfl (lv_at hl 0 rfl) ?_
      refine lv_aload_n hx hb dX3_countRails_5 rfl (lv_at hl 2 rfl) ?_
      refine fg_X3_nodes hx hb hts hown hE hP q_124 dX3_countRails_6 ?_
      refine xw_callV (C := "java/util/ArrayList") (n := 0) [] (c_size_nodes l hP ) hx hb hml hown hts hE hS (xw_recv hE hP (1, 0) rfl rfl) rfl rfl q_46 q_150 q_153 q_151 q_152 (by decide) rfl ⟨by rw [hRf]; decide, by rw [hRl]; decide⟩ hl.1 rfl (Nat.le_of_ble_eq_true rfl) dX3_countRails_9 ⟨by rw [hRc]; decide, by rw [hRs]; decide⟩ (fun v H1 locs hp hS => ?_)
      obtain ⟨hv, hh⟩ := hp; subst hv; subst hh
      refine lv_icmp_ge (tgt := 41) hx hb dX3_countRails_12 (by decide) (fun c12 => ?_) (fun c12 => ?_)
      · skip
        have c12 := ni_le (a := (nN z)) (b := i) (by omega) (by omega) c12
        refine lv_iload_n hx hb dX3_countRails_41 rfl (lv_at hl 1 rfl) ?_
        exact xe_iret hQ hx hb hr hlocks hH hS (Nat.le_refl _) (Nat.le_refl _) (⟨by rw [show nN z = i by omega], rfl⟩) dX3_countRails_42
      · skip
        have c12 := ni_nle (a := (nN z)) (b := i) (by omega) (by omega) c12
        refine lv_aload_n hx hb dX3_countRails_15 rfl (lv_at hl 2 rfl) ?_
        refine fg_X3_nodes hx hb hts hown hE hP q_124 dX3_countRails_16 ?_
        refine lv_iload_n hx hb dX3_countRails_19 rfl (lv_at hl 0 rfl) ?_
        refine xw_callV (C := "java/util/ArrayList") (n := 1) [.int (nI i)] (c_get_nodes l hP hz (by omega)) hx hb hml hown hts hE hS (xw_recv hE hP (1, 0) rfl rfl) rfl rfl q_46 q_158 q_161 q_159 q_160 (by decide) rfl ⟨by rw [hRf]; decide, by rw [hRl]; decide⟩ hl.1 rfl (Nat.le_of_ble_eq_true rfl) dX3_countRails_20 ⟨by rw [hRc]; decide, by rw [hRs]; decide⟩ (fun v H1 locs hp hS => ?_)
        obtain ⟨hv, hh⟩ := hp; subst hv; subst hh
        refine xc_nd (i := i) hx hb hts hown hE hP (by first | assumption | omega) q_172 dX3_countRails_23 ?_
        refine fg_X2_isRail (i := i) (by first | assumption | omega) hx hb hts hown hE hP q_382 dX3_countRails_26 ?_
        refine lv_if_eq (tgt := 35) hx hb dX3_countRails_29 (by decide) (fun c29 => ?_) (fun c29 => ?_)
        · skip
          rw [show crS z i = crS z (i + 1) from (crS_0 c29).symm] at hl
          refine lv_iinc (v := nI (i + 1)) (lv' := [(2, .int (nI (i + 1))), (1, .int (nI (crS z (i + 1)))), (0, .ref (ad (0, 0)))]) hx hb dX3_countRails_35 hl (k := 0) rfl (nI_1 _) (by decide) rfl (fun ls hl => ?_)
          refine lv_goto (tgt := 4) hx hb dX3_countRails_38 (by decide) ?_
          exact ih4 (i + 1) (by omega) (by omega) _ _ hS (lv_sub hl [0, 1, 2] rfl)
        · skip
          refine lv_iinc (v := nI (crS z (i + 1))) (lv' := [(1, .int (nI (crS z (i + 1)))), (2, .int (nI i)), (0, .ref (ad (0, 0)))]) hx hb dX3_countRails_32 hl (k := 1) rfl (by rw [crS_1 c29]; exact nI_1 _) (by decide) rfl (fun ls hl => ?_)
          refine lv_iinc (v := nI (i + 1)) (lv' := [(2, .int (nI (i + 1))), (1, .int (nI (crS z (i + 1)))), (0, .ref (ad (0, 0)))]) hx hb dX3_countRails_35 hl (k := 1) rfl (nI_1 _) (by decide) rfl (fun ls hl => ?_)
          refine lv_goto (tgt := 4) hx hb dX3_countRails_38 (by decide) ?_
          exact ih4 (i + 1) (by omega) (by omega) _ _ hS (lv_sub hl [0, 1, 2] rfl)
  exact K4 _ 0 (by omega) (Nat.lt_succ_self _) _ _ hS (lv_sub hl [0, 1, 2] rfl)

set_option maxHeartbeats 4000000 in
set_option maxRecDepth 100000 in
theorem c_X3_countToggles (l : Launch) {D : va_G} {y : Nat → ClassId} {A : Nat → Prop} {ad : xL → Nat} {bl : xM} {z : xC} {g : Nat → Int32} {pl : Nat → Int32} {kn : Nat → Int64} {rw : Nat → Nat → Int64} {mi : Nat → Int64} {un : Int32} {fR fO : Nat → Nat → Option va_E} {Hs : Heap} (hP : xW D A ad (wU (wB y ad bl z g pl kn rw mi un) fR fO) Hs) (hz : bOk bl z) : Met l yX3_countToggles (.code yX3_countToggles cX3_countToggles 3 (some .int) :: WG) { frames := 3, cells := 0, slots := 0, locals := 64 } (xPc [.ref (ad (0, 0))] D y Hs) (xQ (fun v H1 => v = some (.int (nI (ctS z (nE z)))) ∧ Hs = H1) A) 0 0 A := by
  refine xM_go (by decide) (Nat.le_of_ble_eq_true rfl) (fun p e s m args below meth c ls R Q hx hb hr hlocks hml hown hts hH hE hnm hRf hRl hRc hRs hQ hS hl => ?_)
  have hRf : R.frames = 3 := hRf
  have hRl : R.locals = 64 := hRl
  have hRc : R.cells = 0 := hRc
  have hRs : R.slots = 0 := hRs
  have hl : lv_has ls 3 [(0, .ref (ad (0, 0)))] := hl
  have hw := hz.w
  have hN := hw.N
  have hE20 := hw.E
  refine lv_iconst (v := nI 0) hx hb dX3_countToggles_0 (by decide) ?_
  refine lv_istore_n (lv' := [(1, .int (nI 0)), (0, .ref (ad (0, 0)))]) hx hb dX3_countToggles_1 rfl hl (by decide) rfl (fun ls hl => ?_)
  refine lv_iconst (v := nI 0) hx hb dX3_countToggles_2 (by decide) ?_
  refine lv_istore_n (lv' := [(2, .int (nI 0)), (1, .int (nI 0)), (0, .ref (ad (0, 0)))]) hx hb dX3_countToggles_3 rfl hl (by decide) rfl (fun ls hl => ?_)
  have K4 : ∀ (nn : Nat), ∀ (i : Nat), (i ≤ nE z) → nE z - i < nn → ∀ (locs : List Loc) (ls : Array Slot), va_S A Hs Hs locs → lv_has ls 3 [(2, .int (nI i)), (1, .int (nI (ctS z i))), (0, .ref (ad (0, 0)))] → W p l e R s m args below meth c Hs locs 0 0 Q (F0 m 4 ls []) := by
    intro nn
    induction nn with
    | zero => intro i hi h; exact absurd h (Nat.not_lt_zero _)
    | succ nn ih4 =>
      intro i hi hn4 locs ls hS hl
      refine lv_iload_n hx hb dX3_countToggles_4 rfl (lv_at hl 0 rfl) ?_
      refine lv_aload_n hx hb dX3_countToggles_5 rfl (lv_at hl 2 rfl) ?_
      refine fg_X3_elements hx hb hts hown hE hP q_125 dX3_countToggles_6 ?_
      refine xw_callV (C := "java/util/ArrayList") (n := 0) [] (c_size_elements l hP ) hx hb hml hown hts hE hS (xw_recv hE hP (3, 0) rfl rfl) rfl rfl q_46 q_150 q_153 q_151 q_152 (by decide) rfl ⟨by rw [hRf]; decide, by rw [hRl]; decide⟩ hl.1 rfl (Nat.le_of_ble_eq_true rfl) dX3_countToggles_9 ⟨by rw [hRc]; decide, by rw [hRs]; decide⟩ (fun v H1 locs hp hS => ?_)
      obtain ⟨hv, hh⟩ := hp; subst hv; subst hh
      refine lv_icmp_ge (tgt := 38) hx hb dX3_countToggles_12 (by decide) (fun c12 => ?_) (fun c12 => ?_)
      · skip
        have c12 := ni_le (a := (nE z)) (b := i) (by omega) (by omega) c12
        refine lv_iload_n hx hb dX3_countToggles_38 rfl (lv_at hl 1 rfl) ?_
        exact xe_iret hQ hx hb hr hlocks hH hS (Nat.le_refl _) (Nat.le_refl _) (⟨by rw [show nE z = i by omega], rfl⟩) dX3_countToggles_39
      · skip
        have c12 := ni_nle (a := (nE z)) (b := i) (by omega) (by omega) c12
        refine lv_iload_n hx hb dX3_countToggles_15 rfl (lv_at hl 1 rfl) ?_
        refine lv_aload_n hx hb dX3_countToggles_16 rfl (lv_at hl 2 rfl) ?_
        refine fg_X3_elements hx hb hts hown hE hP q_125 dX3_countToggles_17 ?_
        refine lv_iload_n hx hb dX3_countToggles_20 rfl (lv_at hl 0 rfl) ?_
        refine xw_callV (C := "java/util/ArrayList") (n := 1) [.int (nI i)] (c_get_elements l hP hz (by omega)) hx hb hml hown hts hE hS (xw_recv hE hP (3, 0) rfl rfl) rfl rfl q_46 q_158 q_161 q_159 q_160 (by decide) rfl ⟨by rw [hRf]; decide, by rw [hRl]; decide⟩ hl.1 rfl (Nat.le_of_ble_eq_true rfl) dX3_countToggles_21 ⟨by rw [hRc]; decide, by rw [hRs]; decide⟩ (fun v H1 locs hp hS => ?_)
        obtain ⟨hv, hh⟩ := hp; subst hv; subst hh
        refine xc_el (i := i) hx hb hts hown hE hP (by first | assumption | omega) q_177 dX3_countToggles_24 ?_
        refine fg_X0_toggles (i := i) (by first | assumption | omega) hx hb hts hown hE hP q_519 dX3_countToggles_27 ?_
        refine xt_i (w := nI (cT z i)) (hw.t (by omega)) ?_
        refine lv_iadd hx hb dX3_countToggles_30 ?_
        refine xt_i (w := nI (ctS z (i + 1))) (nI_add _ _) ?_
        refine lv_istore_n (lv' := [(1, .int (nI (ctS z (i + 1)))), (2, .int (nI i)), (0, .ref (ad (0, 0)))]) hx hb dX3_countToggles_31 rfl hl (by decide) rfl (fun ls hl => ?_)
        refine lv_iinc (v := nI (i + 1)) (lv' := [(2, .int (nI (i + 1))), (1, .int (nI (ctS z (i + 1)))), (0, .ref (ad (0, 0)))]) hx hb dX3_countToggles_32 hl (k := 1) rfl (nI_1 _) (by decide) rfl (fun ls hl => ?_)
        refine lv_goto (tgt := 4) hx hb dX3_countToggles_35 (by decide) ?_
        exact ih4 (i + 1) (by omega) (by omega) _ _ hS (lv_sub hl [0, 1, 2] rfl)
  exact K4 _ 0 (by omega) (Nat.lt_succ_self _) _ _ hS (lv_sub hl [0, 1, 2] rfl)

set_option maxHeartbeats 4000000 in
set_option maxRecDepth 100000 in
theorem c_X3_countOf (l : Launch) {D : va_G} {y : Nat → ClassId} {A : Nat → Prop} {ad : xL → Nat} {bl : xM} {z : xC} {g : Nat → Int32} {pl : Nat → Int32} {kn : Nat → Int64} {rw : Nat → Nat → Int64} {mi : Nat → Int64} {un : Int32} {fR fO : Nat → Nat → Option va_E} {Hs : Heap} (hP : xW D A ad (wU (wB y ad bl z g pl kn rw mi un) fR fO) Hs) (hz : bOk bl z) {k : Nat} (hk : k < 4) : Met l yX3_countOf (.code yX3_countOf cX3_countOf 2 (some .int) :: WG) { frames := 4, cells := 0, slots := 0, locals := 86 } (xPc [.ref (ad (0, 0)), .int (nI k)] D y Hs) (xQ (fun v H1 => v = some (.int (nI (cnt z k))) ∧ Hs = H1) A) 0 0 A := by
  refine xM_go (by decide) (Nat.le_of_ble_eq_true rfl) (fun p e s m args below meth c ls R Q hx hb hr hlocks hml hown hts hH hE hnm hRf hRl hRc hRs hQ hS hl => ?_)
  have hRf : R.frames = 4 := hRf
  have hRl : R.locals = 86 := hRl
  have hRc : R.cells = 0 := hRc
  have hRs : R.slots = 0 := hRs
  have hl : lv_has ls 2 [(0, .ref (ad (0, 0))), (1, .int (nI k))] := hl
  have hw := hz.w
  have hN := hw.N
  have hE20 := hw.E
  refine lv_iload_n hx hb dX3_countOf_0 rfl (lv_at hl 1 rfl) ?_
  rcases (show k = 0 ∨ k = 1 ∨ k = 2 ∨ k = 3 by omega) with rfl | rfl | rfl | rfl
  · skip
    refine lv_tableIn (off := 27) (tgt := 28) hx hb dX3_countOf_1 (by decide) (by decide) (by decide) (by decide) ?_
    refine lv_aload_n hx hb dX3_countOf_28 rfl (lv_at hl 0 rfl) ?_
    refine fg_X3_nodes hx hb hts hown hE hP q_124 dX3_countOf_29 ?_
    refine xw_callV (C := "java/util/ArrayList") (n := 0) [] (c_size_nodes l hP ) hx hb hml hown hts hE hS (xw_recv hE hP (1, 0) rfl rfl) rfl rfl q_46 q_150 q_153 q_151 q_152 (by decide) rfl ⟨by rw [hRf]; decide, by rw [hRl]; decide⟩ hl.1 rfl (Nat.le_of_ble_eq_true rfl) dX3_countOf_32 ⟨by rw [hRc]; decide, by rw [hRs]; decide⟩ (fun v H1 locs hp hS => ?_)
    obtain ⟨hv, hh⟩ := hp; subst hv; subst hh
    exact xe_iret hQ hx hb hr hlocks hH hS (Nat.le_refl _) (Nat.le_refl _) (⟨rfl, rfl⟩) dX3_countOf_35
  · skip
    refine lv_tableIn (off := 35) (tgt := 36) hx hb dX3_countOf_1 (by decide) (by decide) (by decide) (by decide) ?_
    refine lv_aload_n hx hb dX3_countOf_36 rfl (lv_at hl 0 rfl) ?_
    refine fg_X3_elements hx hb hts hown hE hP q_125 dX3_countOf_37 ?_
    refine xw_callV (C := "java/util/ArrayList") (n := 0) [] (c_size_elements l hP ) hx hb hml hown hts hE hS (xw_recv hE hP (3, 0) rfl rfl) rfl rfl q_46 q_150 q_153 q_151 q_152 (by decide) rfl ⟨by rw [hRf]; decide, by rw [hRl]; decide⟩ hl.1 rfl (Nat.le_of_ble_eq_true rfl) dX3_countOf_40 ⟨by rw [hRc]; decide, by rw [hRs]; decide⟩ (fun v H1 locs hp hS => ?_)
    obtain ⟨hv, hh⟩ := hp; subst hv; subst hh
    exact xe_iret hQ hx hb hr hlocks hH hS (Nat.le_refl _) (Nat.le_refl _) (⟨rfl, rfl⟩) dX3_countOf_43
  · skip
    refine lv_tableIn (off := 43) (tgt := 44) hx hb dX3_countOf_1 (by decide) (by decide) (by decide) (by decide) ?_
    refine lv_aload_n hx hb dX3_countOf_44 rfl (lv_at hl 0 rfl) ?_
    refine xw_callV (C := "NetlistBench") (n := 0) [] (c_X3_countRails l hP hz) hx hb hml hown hts hE hS (xw_recv hE hP (0, 0) rfl rfl) rfl rfl q_43 q_154 q_157 q_156 q_2 (by decide) rfl ⟨by rw [hRf]; decide, by rw [hRl]; decide⟩ hl.1 rfl (Nat.le_of_ble_eq_true rfl) dX3_countOf_45 ⟨by rw [hRc]; decide, by rw [hRs]; decide⟩ (fun v H1 locs hp hS => ?_)
    obtain ⟨hv, hh⟩ := hp; subst hv; subst hh
    exact xe_iret hQ hx hb hr hlocks hH hS (Nat.le_refl _) (Nat.le_refl _) (⟨rfl, rfl⟩) dX3_countOf_48
  · skip
    refine lv_tableOut (tgt := 49) hx hb dX3_countOf_1 (by decide) (by decide) ?_
    refine lv_aload_n hx hb dX3_countOf_49 rfl (lv_at hl 0 rfl) ?_
    refine xw_callV (C := "NetlistBench") (n := 0) [] (c_X3_countToggles l hP hz) hx hb hml hown hts hE hS (xw_recv hE hP (0, 0) rfl rfl) rfl rfl q_43 q_173 q_176 q_175 q_3 (by decide) rfl ⟨by rw [hRf]; decide, by rw [hRl]; decide⟩ hl.1 rfl (Nat.le_of_ble_eq_true rfl) dX3_countOf_50 ⟨by rw [hRc]; decide, by rw [hRs]; decide⟩ (fun v H1 locs hp hS => ?_)
    obtain ⟨hv, hh⟩ := hp; subst hv; subst hh
    exact xe_iret hQ hx hb hr hlocks hH hS (Nat.le_refl _) (Nat.le_refl _) (⟨rfl, rfl⟩) dX3_countOf_53

set_option maxHeartbeats 4000000 in
set_option maxRecDepth 100000 in
theorem c_X3_digestElement (l : Launch) {D : va_G} {y : Nat → ClassId} {A : Nat → Prop} {ad : xL → Nat} {bl : xM} {z : xC} {g : Nat → Int32} {pl : Nat → Int32} {kn : Nat → Int64} {rw : Nat → Nat → Int64} {mi : Nat → Int64} {un : Int32} {fR fO : Nat → Nat → Option va_E} {Hs : Heap} (hP : xW D A ad (wU (wB y ad bl z g pl kn rw mi un) fR fO) Hs) (hz : bOk bl z) (d : Int64) {i : Nat} (hi : i < nE z) : Met l yX3_digestElement (.code yX3_digestElement cX3_digestElement 6 (some .long) :: WG) { frames := 1, cells := 0, slots := 0, locals := 23 } (xPc [.long d, .ref (ad (13, i))] D y Hs) (xQ (fun v H1 => v = some (.long (dgM z i (dgT z i d 6) (cT z i))) ∧ Hs = H1) A) 0 0 A := by
  refine xM_go (by decide) (Nat.le_of_ble_eq_true rfl) (fun p e s m args below meth c ls R Q hx hb hr hlocks hml hown hts hH hE hnm hRf hRl hRc hRs hQ hS hl => ?_)
  have hRf : R.frames = 1 := hRf
  have hRl : R.locals = 23 := hRl
  have hRc : R.cells = 0 := hRc
  have hRs : R.slots = 0 := hRs
  have hl : lv_has ls 6 [(0, .long d), (2, .ref (ad (13, i)))] := hl
  have hw := hz.w
  have hN := hw.N
  have hE20 := hw.E
  have ht := hw.t hi
  have ht6 := hw.t6 hi
  refine lv_lload_n hx hb dX3_digestElement_0 rfl (lv_at hl 0 rfl) ?_
  refine lv_lstore_n (lv' := [(3, .long d), (0, .long d), (2, .ref (ad (13, i)))]) hx hb dX3_digestElement_1 rfl hl (by decide) rfl (fun ls hl => ?_)
  refine lv_iconst (v := nI 0) hx hb dX3_digestElement_2 (by decide) ?_
  refine lv_istore (lv' := [(5, .int (nI 0)), (3, .long d), (0, .long d), (2, .ref (ad (13, i)))]) hx hb dX3_digestElement_3 hl (by decide) rfl (fun ls hl => ?_)
  have K5 : ∀ (nn : Nat), ∀ (k : Nat), (k ≤ 6) → 6 - k < nn → ∀ (locs : List Loc) (ls : Array Slot), va_S A Hs Hs locs → lv_has ls 6 [(5, .int (nI k)), (3, .long (dgT z i d k)), (2, .ref (ad (13, i)))] → W p l e R s m args below meth c Hs locs 0 0 Q (F0 m 5 ls []) := by
    intro nn
    induction nn with
    | zero => intro k hk h; exact absurd h (Nat.not_lt_zero _)
    | succ nn ih5 =>
      intro k hk hn5 locs ls hS hl
      refine lv_iload hx hb dX3_digestElement_5 (lv_at hl 0 rfl) ?_
      refine lv_bipush (v := nI 6) hx hb dX3_digestElement_7 (by decide) ?_
      refine lv_icmp_ge (tgt := 30) hx hb dX3_digestElement_9 (by decide) (fun c9 => ?_) (fun c9 => ?_)
      · skip
        have c9 := ni_le (a := 6) (b := k) (by omega) (by omega) c9
        rw [show k = 6 by omega] at hl
        refine lv_iconst (v := nI 0) hx hb dX3_digestElement_30 (by decide) ?_
        refine lv_istore (lv' := [(5, .int (nI 0)), (3, .long (dgT z i d 6)), (2, .ref (ad (13, i)))]) hx hb dX3_digestElement_31 hl (by decide) rfl (fun ls hl => ?_)
        have K33 : ∀ (nn : Nat), ∀ (k : Nat), (k ≤ cT z i) → cT z i - k < nn → ∀ (locs : List Loc) (ls : Array Slot), va_S A Hs Hs locs → lv_has ls 6 [(5, .int (nI k)), (3, .long (dgM z i (dgT z i d 6) k)), (2, .ref (ad (13, i)))] → W p l e R s m args below meth c Hs locs 0 0 Q (F0 m 33 ls []) := by
          intro nn
          induction nn with
          | zero => intro k hk h; exact absurd h (Nat.not_lt_zero _)
          | succ nn ih33 =>
            intro k hk hn33 locs ls hS hl
            refine lv_iload hx hb dX3_digestElement_33 (lv_at hl 0 rfl) ?_
            refine lv_aload_n hx hb dX3_digestElement_35 rfl (lv_at hl 2 rfl) ?_
            refine fg_X0_toggles (i := i) (by first | assumption | omega) hx hb hts hown hE hP q_519 dX3_digestElement_36 ?_
            refine xt_i (w := nI (cT z i)) (ht) ?_
            refine lv_icmp_ge (tgt := 60) hx hb dX3_digestElement_39 (by decide) (fun c39 => ?_) (fun c39 => ?_)
            · skip
              have c39 := ni_le (a := (cT z i)) (b := k) (by omega) (by omega) c39
              refine lv_lload_n hx hb dX3_digestElement_60 rfl (lv_at hl 1 rfl) ?_
              exact xe_lret hQ hx hb hr hlocks hH hS (Nat.le_refl _) (Nat.le_refl _) (⟨by rw [show k = cT z i by omega], rfl⟩) dX3_digestElement_61
            · skip
              have c39 := ni_nle (a := (cT z i)) (b := k) (by omega) (by omega) c39
              refine lv_lload_n hx hb dX3_digestElement_42 rfl (lv_at hl 1 rfl) ?_
              refine lv_aload_n hx hb dX3_digestElement_43 rfl (lv_at hl 2 rfl) ?_
              refine lv_iload hx hb dX3_digestElement_44 (lv_at hl 0 rfl) ?_
              refine xw_callV (C := "NetlistBench$Element") (n := 1) [.int (nI k)] (c_X0_toggleTime l hP hw hi (nI k)) hx hb hml hown hts hE hS (xr_el hE hP (by first | assumption | omega)) rfl rfl q_62 q_189 q_192 q_190 q_191 (by decide) rfl ⟨by rw [hRf]; decide, by rw [hRl]; decide⟩ hl.1 rfl (Nat.le_of_ble_eq_true rfl) dX3_digestElement_46 ⟨by rw [hRc]; decide, by rw [hRs]; decide⟩ (fun v H1 locs hp hS => ?_)
              obtain ⟨hv, hh⟩ := hp; subst hv; subst hh
              refine xt_i (w := tT z (6 * i + k)) (by rw [tgt, if_neg (nI_pos (by omega)), ht, if_neg (nI_ge (by omega) (by omega)), nI_clamp (by omega)]) ?_
              refine lv_i2l (v := (tT z (6 * i + k)).toInt64) hx hb dX3_digestElement_49 rfl ?_
              refine xw_callS (n := 2) [.long (dgM z i (dgT z i d 6) k), .long ((tT z (6 * i + k)).toInt64)] (c_X3_digestOf l (dgM z i (dgT z i d 6) k) ((tT z (6 * i + k)).toInt64)) hx hb hml hown hts hE hS rfl rfl q_43 q_178 q_180 q_179 (by decide) rfl ⟨by rw [hRf]; decide, by rw [hRl]; decide⟩ hl.1 rfl (Nat.le_of_ble_eq_true rfl) dX3_digestElement_50 ⟨by rw [hRc]; decide, by rw [hRs]; decide⟩ (fun v H1 locs hp hS => ?_)
              obtain ⟨hv, hh⟩ := hp; subst hv; subst hh
              refine lv_lstore_n (lv' := [(3, .long (dg (dgM z i (dgT z i d 6) k) ((tT z (6 * i + k)).toInt64))), (5, .int (nI k)), (2, .ref (ad (13, i)))]) hx hb dX3_digestElement_53 rfl hl (by decide) rfl (fun ls hl => ?_)
              refine lv_iinc (v := nI (k + 1)) (lv' := [(5, .int (nI (k + 1))), (3, .long (dg (dgM z i (dgT z i d 6) k) ((tT z (6 * i + k)).toInt64))), (2, .ref (ad (13, i)))]) hx hb dX3_digestElement_54 hl (k := 1) rfl (nI_1 _) (by decide) rfl (fun ls hl => ?_)
              refine lv_goto (tgt := 33) hx hb dX3_digestElement_57 (by decide) ?_
              exact ih33 (k + 1) (by omega) (by omega) _ _ hS (lv_sub hl [0, 1, 2] rfl)
        exact K33 _ 0 (by omega) (Nat.lt_succ_self _) _ _ hS (lv_sub hl [0, 1, 2] rfl)
      · skip
        have c9 := ni_nle (a := 6) (b := k) (by omega) (by omega) c9
        refine lv_lload_n hx hb dX3_digestElement_12 rfl (lv_at hl 1 rfl) ?_
        refine lv_aload_n hx hb dX3_digestElement_13 rfl (lv_at hl 2 rfl) ?_
        refine lv_iload hx hb dX3_digestElement_14 (lv_at hl 0 rfl) ?_
        refine xw_callV (C := "NetlistBench$Element") (n := 1) [.int (nI k)] (c_X0_trait l hP hw hi (by omega)) hx hb hml hown hts hE hS (xr_el hE hP (by first | assumption | omega)) rfl rfl q_62 q_185 q_188 q_186 q_187 (by decide) rfl ⟨by rw [hRf]; decide, by rw [hRl]; decide⟩ hl.1 rfl (Nat.le_of_ble_eq_true rfl) dX3_digestElement_16 ⟨by rw [hRc]; decide, by rw [hRs]; decide⟩ (fun v H1 locs hp hS => ?_)
        obtain ⟨hv, hh⟩ := hp; subst hv; subst hh
        refine lv_i2l (v := (trt z i k).toInt64) hx hb dX3_digestElement_19 rfl ?_
        refine xw_callS (n := 2) [.long (dgT z i d k), .long ((trt z i k).toInt64)] (c_X3_digestOf l (dgT z i d k) ((trt z i k).toInt64)) hx hb hml hown hts hE hS rfl rfl q_43 q_178 q_180 q_179 (by decide) rfl ⟨by rw [hRf]; decide, by rw [hRl]; decide⟩ hl.1 rfl (Nat.le_of_ble_eq_true rfl) dX3_digestElement_20 ⟨by rw [hRc]; decide, by rw [hRs]; decide⟩ (fun v H1 locs hp hS => ?_)
        obtain ⟨hv, hh⟩ := hp; subst hv; subst hh
        refine lv_lstore_n (lv' := [(3, .long (dg (dgT z i d k) ((trt z i k).toInt64))), (5, .int (nI k)), (2, .ref (ad (13, i)))]) hx hb dX3_digestElement_23 rfl hl (by decide) rfl (fun ls hl => ?_)
        refine lv_iinc (v := nI (k + 1)) (lv' := [(5, .int (nI (k + 1))), (3, .long (dg (dgT z i d k) ((trt z i k).toInt64))), (2, .ref (ad (13, i)))]) hx hb dX3_digestElement_24 hl (k := 1) rfl (nI_1 _) (by decide) rfl (fun ls hl => ?_)
        refine lv_goto (tgt := 5) hx hb dX3_digestElement_27 (by decide) ?_
        exact ih5 (k + 1) (by omega) (by omega) _ _ hS (lv_sub hl [0, 1, 2] rfl)
  exact K5 _ 0 (by omega) (Nat.lt_succ_self _) _ _ hS (lv_sub hl [0, 1, 3] rfl)

set_option maxHeartbeats 4000000 in
set_option maxRecDepth 100000 in
theorem c_X3_digestCircuit (l : Launch) {D : va_G} {y : Nat → ClassId} {A : Nat → Prop} {ad : xL → Nat} {bl : xM} {z : xC} {g : Nat → Int32} {pl : Nat → Int32} {kn : Nat → Int64} {rw : Nat → Nat → Int64} {mi : Nat → Int64} {un : Int32} {fR fO : Nat → Nat → Option va_E} {Hs : Heap} (hP : xW D A ad (wU (wB y ad bl z g pl kn rw mi un) fR fO) Hs) (hz : bOk bl z) (d : Int64) : Met l yX3_digestCircuit (.code yX3_digestCircuit cX3_digestCircuit 6 (some .long) :: WG) { frames := 5, cells := 0, slots := 0, locals := 107 } (xPc [.ref (ad (0, 0)), .long d] D y Hs) (xQ (fun v H1 => v = some (.long (dgA z d)) ∧ Hs = H1) A) 0 0 A := by
  refine xM_go (by decide) (Nat.le_of_ble_eq_true rfl) (fun p e s m args below meth c ls R Q hx hb hr hlocks hml hown hts hH hE hnm hRf hRl hRc hRs hQ hS hl => ?_)
  have hRf : R.frames = 5 := hRf
  have hRl : R.locals = 107 := hRl
  have hRc : R.cells = 0 := hRc
  have hRs : R.slots = 0 := hRs
  have hl : lv_has ls 6 [(0, .ref (ad (0, 0))), (1, .long d)] := hl
  have hw := hz.w
  have hN := hw.N
  have hE20 := hw.E
  refine lv_lload_n hx hb dX3_digestCircuit_0 rfl (lv_at hl 1 rfl) ?_
  refine lv_lstore_n (lv' := [(3, .long d), (0, .ref (ad (0, 0))), (1, .long d)]) hx hb dX3_digestCircuit_1 rfl hl (by decide) rfl (fun ls hl => ?_)
  refine lv_iconst (v := nI 0) hx hb dX3_digestCircuit_2 (by decide) ?_
  refine lv_istore (lv' := [(5, .int (nI 0)), (3, .long d), (0, .ref (ad (0, 0))), (1, .long d)]) hx hb dX3_digestCircuit_3 hl (by decide) rfl (fun ls hl => ?_)
  have K5 : ∀ (nn : Nat), ∀ (k : Nat), (k ≤ 4) → 4 - k < nn → ∀ (locs : List Loc) (ls : Array Slot), va_S A Hs Hs locs → lv_has ls 6 [(5, .int (nI k)), (3, .long (dgC z d k)), (0, .ref (ad (0, 0)))] → W p l e R s m args below meth c Hs locs 0 0 Q (F0 m 5 ls []) := by
    intro nn
    induction nn with
    | zero => intro k hk h; exact absurd h (Nat.not_lt_zero _)
    | succ nn ih5 =>
      intro k hk hn5 locs ls hS hl
      refine lv_iload hx hb dX3_digestCircuit_5 (lv_at hl 0 rfl) ?_
      refine lv_iconst (v := nI 4) hx hb dX3_digestCircuit_7 (by decide) ?_
      refine lv_icmp_ge (tgt := 29) hx hb dX3_digestCircuit_8 (by decide) (fun c8 => ?_) (fun c8 => ?_)
      · skip
        have c8 := ni_le (a := 4) (b := k) (by omega) (by omega) c8
        rw [show k = 4 by omega] at hl
        refine lv_iconst (v := nI 0) hx hb dX3_digestCircuit_29 (by decide) ?_
        refine lv_istore (lv' := [(5, .int (nI 0)), (3, .long (dgC z d 4)), (0, .ref (ad (0, 0)))]) hx hb dX3_digestCircuit_30 hl (by decide) rfl (fun ls hl => ?_)
        have K32 : ∀ (nn : Nat), ∀ (i : Nat), (i ≤ nN z) → nN z - i < nn → ∀ (locs : List Loc) (ls : Array Slot), va_S A Hs Hs locs → lv_has ls 6 [(5, .int (nI i)), (3, .long (dgN z (dgC z d 4) i)), (0, .ref (ad (0, 0)))] → W p l e R s m args below meth c Hs locs 0 0 Q (F0 m 32 ls []) := by
          intro nn
          induction nn with
          | zero => intro i hi h; exact absurd h (Nat.not_lt_zero _)
          | succ nn ih32 =>
            intro i hi hn32 locs ls hS hl
            refine lv_iload hx hb dX3_digestCircuit_32 (lv_at hl 0 rfl) ?_
            refine lv_aload_n hx hb dX3_digestCircuit_34 rfl (lv_at hl 2 rfl) ?_
            refine fg_X3_nodes hx hb hts hown hE hP q_124 dX3_digestCircuit_35 ?_
            refine xw_callV (C := "java/util/ArrayList") (n := 0) [] (c_size_nodes l hP ) hx hb hml hown hts hE hS (xw_recv hE hP (1, 0) rfl rfl) rfl rfl q_46 q_150 q_153 q_151 q_152 (by decide) rfl ⟨by rw [hRf]; decide, by rw [hRl]; decide⟩ hl.1 rfl (Nat.le_of_ble_eq_true rfl) dX3_digestCircuit_38 ⟨by rw [hRc]; decide, by rw [hRs]; decide⟩ (fun v H1 locs hp hS => ?_)
            obtain ⟨hv, hh⟩ := hp; subst hv; subst hh
            refine lv_icmp_ge (tgt := 78) hx hb dX3_digestCircuit_41 (by decide) (fun c41 => ?_) (fun c41 => ?_)
            · skip
              have c41 := ni_le (a := (nN z)) (b := i) (by omega) (by omega) c41
              rw [show i = nN z by omega] at hl
              refine lv_iconst (v := nI 0) hx hb dX3_digestCircuit_78 (by decide) ?_
              refine lv_istore (lv' := [(5, .int (nI 0)), (3, .long (dgN z (dgC z d 4) (nN z))), (0, .ref (ad (0, 0)))]) hx hb dX3_digestCircuit_79 hl (by decide) rfl (fun ls hl => ?_)
              have K81 : ∀ (nn : Nat), ∀ (i : Nat), (i ≤ nE z) → nE z - i < nn → ∀ (locs : List Loc) (ls : Array Slot), va_S A Hs Hs locs → lv_has ls 6 [(5, .int (nI i)), (3, .long (dgE z (dgN z (dgC z d 4) (nN z)) i)), (0, .ref (ad (0, 0)))] → W p l e R s m args below meth c Hs locs 0 0 Q (F0 m 81 ls []) := by
                intro nn
                induction nn with
                | zero => intro i hi h; exact absurd h (Nat.not_lt_zero _)
                | succ nn ih81 =>
                  intro i hi hn81 locs ls hS hl
                  refine lv_iload hx hb dX3_digestCircuit_81 (lv_at hl 0 rfl) ?_
                  refine lv_aload_n hx hb dX3_digestCircuit_83 rfl (lv_at hl 2 rfl) ?_
                  refine fg_X3_elements hx hb hts hown hE hP q_125 dX3_digestCircuit_84 ?_
                  refine xw_callV (C := "java/util/ArrayList") (n := 0) [] (c_size_elements l hP ) hx hb hml hown hts hE hS (xw_recv hE hP (3, 0) rfl rfl) rfl rfl q_46 q_150 q_153 q_151 q_152 (by decide) rfl ⟨by rw [hRf]; decide, by rw [hRl]; decide⟩ hl.1 rfl (Nat.le_of_ble_eq_true rfl) dX3_digestCircuit_87 ⟨by rw [hRc]; decide, by rw [hRs]; decide⟩ (fun v H1 locs hp hS => ?_)
                  obtain ⟨hv, hh⟩ := hp; subst hv; subst hh
                  refine lv_icmp_ge (tgt := 116) hx hb dX3_digestCircuit_90 (by decide) (fun c90 => ?_) (fun c90 => ?_)
                  · skip
                    have c90 := ni_le (a := (nE z)) (b := i) (by omega) (by omega) c90
                    refine lv_lload_n hx hb dX3_digestCircuit_116 rfl (lv_at hl 1 rfl) ?_
                    exact xe_lret hQ hx hb hr hlocks hH hS (Nat.le_refl _) (Nat.le_refl _) (⟨by rw [dgA, show nE z = i by omega], rfl⟩) dX3_digestCircuit_117
                  · skip
                    have c90 := ni_nle (a := (nE z)) (b := i) (by omega) (by omega) c90
                    refine lv_lload_n hx hb dX3_digestCircuit_93 rfl (lv_at hl 1 rfl) ?_
                    refine lv_aload_n hx hb dX3_digestCircuit_94 rfl (lv_at hl 2 rfl) ?_
                    refine fg_X3_elements hx hb hts hown hE hP q_125 dX3_digestCircuit_95 ?_
                    refine lv_iload hx hb dX3_digestCircuit_98 (lv_at hl 0 rfl) ?_
                    refine xw_callV (C := "java/util/ArrayList") (n := 1) [.int (nI i)] (c_get_elements l hP hz (by omega)) hx hb hml hown hts hE hS (xw_recv hE hP (3, 0) rfl rfl) rfl rfl q_46 q_158 q_161 q_159 q_160 (by decide) rfl ⟨by rw [hRf]; decide, by rw [hRl]; decide⟩ hl.1 rfl (Nat.le_of_ble_eq_true rfl) dX3_digestCircuit_100 ⟨by rw [hRc]; decide, by rw [hRs]; decide⟩ (fun v H1 locs hp hS => ?_)
                    obtain ⟨hv, hh⟩ := hp; subst hv; subst hh
                    refine xc_el (i := i) hx hb hts hown hE hP (by first | assumption | omega) q_177 dX3_digestCircuit_103 ?_
                    refine xw_callS (n := 2) [.long (dgE z (dgN z (dgC z d 4) (nN z)) i), .ref (ad (13, i))] (c_X3_digestElement l hP hz (dgE z (dgN z (dgC z d 4) (nN z)) i) (by omega)) hx hb hml hown hts hE hS rfl rfl q_43 q_182 q_184 q_183 (by decide) rfl ⟨by rw [hRf]; decide, by rw [hRl]; decide⟩ hl.1 rfl (Nat.le_of_ble_eq_true rfl) dX3_digestCircuit_106 ⟨by rw [hRc]; decide, by rw [hRs]; decide⟩ (fun v H1 locs hp hS => ?_)
                    obtain ⟨hv, hh⟩ := hp; subst hv; subst hh
                    refine lv_lstore_n (lv' := [(3, .long (dgE z (dgN z (dgC z d 4) (nN z)) (i + 1))), (5, .int (nI i)), (0, .ref (ad (0, 0)))]) hx hb dX3_digestCircuit_109 rfl hl (by decide) rfl (fun ls hl => ?_)
                    refine lv_iinc (v := nI (i + 1)) (lv' := [(5, .int (nI (i + 1))), (3, .long (dgE z (dgN z (dgC z d 4) (nN z)) (i + 1))), (0, .ref (ad (0, 0)))]) hx hb dX3_digestCircuit_110 hl (k := 1) rfl (nI_1 _) (by decide) rfl (fun ls hl => ?_)
                    refine lv_goto (tgt := 81) hx hb dX3_digestCircuit_113 (by decide) ?_
                    exact ih81 (i + 1) (by omega) (by omega) _ _ hS (lv_sub hl [0, 1, 2] rfl)
              exact K81 _ 0 (by omega) (Nat.lt_succ_self _) _ _ hS (lv_sub hl [0, 1, 2] rfl)
            · skip
              have c41 := ni_nle (a := (nN z)) (b := i) (by omega) (by omega) c41
              refine lv_lload_n hx hb dX3_digestCircuit_44 rfl (lv_at hl 1 rfl) ?_
              refine lv_aload_n hx hb dX3_digestCircuit_45 rfl (lv_at hl 2 rfl) ?_
              refine fg_X3_nodes hx hb hts hown hE hP q_124 dX3_digestCircuit_46 ?_
              refine lv_iload hx hb dX3_digestCircuit_49 (lv_at hl 0 rfl) ?_
              refine xw_callV (C := "java/util/ArrayList") (n := 1) [.int (nI i)] (c_get_nodes l hP hz (by omega)) hx hb hml hown hts hE hS (xw_recv hE hP (1, 0) rfl rfl) rfl rfl q_46 q_158 q_161 q_159 q_160 (by decide) rfl ⟨by rw [hRf]; decide, by rw [hRl]; decide⟩ hl.1 rfl (Nat.le_of_ble_eq_true rfl) dX3_digestCircuit_51 ⟨by rw [hRc]; decide, by rw [hRs]; decide⟩ (fun v H1 locs hp hS => ?_)
              obtain ⟨hv, hh⟩ := hp; subst hv; subst hh
              refine xc_nd (i := i) hx hb hts hown hE hP (by first | assumption | omega) q_172 dX3_digestCircuit_54 ?_
              refine fg_X2_isRail (i := i) (by first | assumption | omega) hx hb hts hown hE hP q_382 dX3_digestCircuit_57 ?_
              refine lv_if_eq (tgt := 67) hx hb dX3_digestCircuit_60 (by decide) (fun c60 => ?_) (fun c60 => ?_)
              · skip
                refine lv_lconst (v := 0) hx hb dX3_digestCircuit_67 (by decide) ?_
                refine xw_callS (n := 2) [.long (dgN z (dgC z d 4) i), .long 0] (c_X3_digestOf l (dgN z (dgC z d 4) i) _) hx hb hml hown hts hE hS rfl rfl q_43 q_178 q_180 q_179 (by decide) rfl ⟨by rw [hRf]; decide, by rw [hRl]; decide⟩ hl.1 rfl (Nat.le_of_ble_eq_true rfl) dX3_digestCircuit_68 ⟨by rw [hRc]; decide, by rw [hRs]; decide⟩ (fun v H1 locs hp hS => ?_)
                obtain ⟨hv, hh⟩ := hp; subst hv; subst hh
                refine xt_l (w := dgN z (dgC z d 4) (i + 1)) (by first | exact (dgN_0 c60).symm | exact (dgN_1 c60).symm) ?_
                refine lv_lstore_n (lv' := [(3, .long (dgN z (dgC z d 4) (i + 1))), (5, .int (nI i)), (0, .ref (ad (0, 0)))]) hx hb dX3_digestCircuit_71 rfl hl (by decide) rfl (fun ls hl => ?_)
                refine lv_iinc (v := nI (i + 1)) (lv' := [(5, .int (nI (i + 1))), (3, .long (dgN z (dgC z d 4) (i + 1))), (0, .ref (ad (0, 0)))]) hx hb dX3_digestCircuit_72 hl (k := 1) rfl (nI_1 _) (by decide) rfl (fun ls hl => ?_)
                refine lv_goto (tgt := 32) hx hb dX3_digestCircuit_75 (by decide) ?_
                exact ih32 (i + 1) (by omega) (by omega) _ _ hS (lv_sub hl [0, 1, 2] rfl)
              · skip
                refine lv_lconst (v := 1) hx hb dX3_digestCircuit_63 (by decide) ?_
                refine lv_goto (tgt := 68) hx hb dX3_digestCircuit_64 (by decide) ?_
                refine xw_callS (n := 2) [.long (dgN z (dgC z d 4) i), .long 1] (c_X3_digestOf l (dgN z (dgC z d 4) i) _) hx hb hml hown hts hE hS rfl rfl q_43 q_178 q_180 q_179 (by decide) rfl ⟨by rw [hRf]; decide, by rw [hRl]; decide⟩ hl.1 rfl (Nat.le_of_ble_eq_true rfl) dX3_digestCircuit_68 ⟨by rw [hRc]; decide, by rw [hRs]; decide⟩ (fun v H1 locs hp hS => ?_)
                obtain ⟨hv, hh⟩ := hp; subst hv; subst hh
                refine xt_l (w := dgN z (dgC z d 4) (i + 1)) (by first | exact (dgN_0 c60).symm | exact (dgN_1 c60).symm) ?_
                refine lv_lstore_n (lv' := [(3, .long (dgN z (dgC z d 4) (i + 1))), (5, .int (nI i)), (0, .ref (ad (0, 0)))]) hx hb dX3_digestCircuit_71 rfl hl (by decide) rfl (fun ls hl => ?_)
                refine lv_iinc (v := nI (i + 1)) (lv' := [(5, .int (nI (i + 1))), (3, .long (dgN z (dgC z d 4) (i + 1))), (0, .ref (ad (0, 0)))]) hx hb dX3_digestCircuit_72 hl (k := 1) rfl (nI_1 _) (by decide) rfl (fun ls hl => ?_)
                refine lv_goto (tgt := 32) hx hb dX3_digestCircuit_75 (by decide) ?_
                exact ih32 (i + 1) (by omega) (by omega) _ _ hS (lv_sub hl [0, 1, 2] rfl)
        exact K32 _ 0 (by omega) (Nat.lt_succ_self _) _ _ hS (lv_sub hl [0, 1, 2] rfl)
      · skip
        have c8 := ni_nle (a := 4) (b := k) (by omega) (by omega) c8
        refine lv_lload_n hx hb dX3_digestCircuit_11 rfl (lv_at hl 1 rfl) ?_
        refine lv_aload_n hx hb dX3_digestCircuit_12 rfl (lv_at hl 2 rfl) ?_
        refine lv_iload hx hb dX3_digestCircuit_13 (lv_at hl 0 rfl) ?_
        refine xw_callV (C := "NetlistBench") (n := 1) [.int (nI k)] (c_X3_countOf l hP hz (by omega)) hx hb hml hown hts hE hS (xw_recv hE hP (0, 0) rfl rfl) rfl rfl q_43 q_146 q_149 q_148 q_1 (by decide) rfl ⟨by rw [hRf]; decide, by rw [hRl]; decide⟩ hl.1 rfl (Nat.le_of_ble_eq_true rfl) dX3_digestCircuit_15 ⟨by rw [hRc]; decide, by rw [hRs]; decide⟩ (fun v H1 locs hp hS => ?_)
        obtain ⟨hv, hh⟩ := hp; subst hv; subst hh
        refine lv_i2l (v := (nI (cnt z k)).toInt64) hx hb dX3_digestCircuit_18 rfl ?_
        refine xw_callS (n := 2) [.long (dgC z d k), .long ((nI (cnt z k)).toInt64)] (c_X3_digestOf l (dgC z d k) ((nI (cnt z k)).toInt64)) hx hb hml hown hts hE hS rfl rfl q_43 q_178 q_180 q_179 (by decide) rfl ⟨by rw [hRf]; decide, by rw [hRl]; decide⟩ hl.1 rfl (Nat.le_of_ble_eq_true rfl) dX3_digestCircuit_19 ⟨by rw [hRc]; decide, by rw [hRs]; decide⟩ (fun v H1 locs hp hS => ?_)
        obtain ⟨hv, hh⟩ := hp; subst hv; subst hh
        refine lv_lstore_n (lv' := [(3, .long (dg (dgC z d k) ((nI (cnt z k)).toInt64))), (5, .int (nI k)), (0, .ref (ad (0, 0)))]) hx hb dX3_digestCircuit_22 rfl hl (by decide) rfl (fun ls hl => ?_)
        refine lv_iinc (v := nI (k + 1)) (lv' := [(5, .int (nI (k + 1))), (3, .long (dg (dgC z d k) ((nI (cnt z k)).toInt64))), (0, .ref (ad (0, 0)))]) hx hb dX3_digestCircuit_23 hl (k := 1) rfl (nI_1 _) (by decide) rfl (fun ls hl => ?_)
        refine lv_goto (tgt := 5) hx hb dX3_digestCircuit_26 (by decide) ?_
        exact ih5 (k + 1) (by omega) (by omega) _ _ hS (lv_sub hl [0, 1, 2] rfl)
  exact K5 _ 0 (by omega) (Nat.lt_succ_self _) _ _ hS (lv_sub hl [0, 1, 2] rfl)

set_option maxHeartbeats 4000000 in
set_option maxRecDepth 100000 in
theorem c_X3_digestPotentials (l : Launch) {D : va_G} {y : Nat → ClassId} {A : Nat → Prop} {ad : xL → Nat} {bl : xM} {z : xC} {g : Nat → Int32} {pl : Nat → Int32} {kn : Nat → Int64} {rw : Nat → Nat → Int64} {mi : Nat → Int64} {un : Int32} {fR fO : Nat → Nat → Option va_E} {Hs : Heap} (hP : xW D A ad (wU (wB y ad bl z g pl kn rw mi un) fR fO) Hs) (hz : bOk bl z) (d : Int64) (t : Int32) : Met l yX3_digestPotentials (.code yX3_digestPotentials cX3_digestPotentials 7 (some .long) :: WG) { frames := 5, cells := 0, slots := 0, locals := 110 } (xPc [.ref (ad (0, 0)), .long d, .int t] D y Hs) (xQ (fun v H1 => v = some (.long (dgP z t d (nN z))) ∧ xB D A y ad bl z fR fO H1) A) 0 0 A := by
  refine xM_go (by decide) (Nat.le_of_ble_eq_true rfl) (fun p e s m args below meth c ls R Q hx hb hr hlocks hml hown hts hH hE hnm hRf hRl hRc hRs hQ hS hl => ?_)
  have hRf : R.frames = 5 := hRf
  have hRl : R.locals = 110 := hRl
  have hRc : R.cells = 0 := hRc
  have hRs : R.slots = 0 := hRs
  have hl : lv_has ls 7 [(0, .ref (ad (0, 0))), (1, .long d), (3, .int t)] := hl
  have hw := hz.w
  have hN := hw.N
  have hE20 := hw.E
  have hn7 := sN_le z t
  refine lv_aload_n hx hb dX3_digestPotentials_0 rfl (lv_at hl 0 rfl) ?_
  refine lv_iload_n hx hb dX3_digestPotentials_1 rfl (lv_at hl 2 rfl) ?_
  refine xw_callV (C := "NetlistBench") (n := 1) [.int t] (c_X3_settle l hP hz t) hx hb hml hown hts hE hS (xw_recv hE hP (0, 0) rfl rfl) rfl rfl q_43 q_197 q_200 q_199 q_5 (by decide) rfl ⟨by rw [hRf]; decide, by rw [hRl]; decide⟩ hl.1 rfl (Nat.le_of_ble_eq_true rfl) dX3_digestPotentials_2 ⟨by rw [hRc]; decide, by rw [hRs]; decide⟩ (fun v H1 locs hp hS => ?_)
  obtain ⟨hv, mi', hmi, hP⟩ := hp; subst hv
  generalize H1 = H at hP hS ⊢
  refine lv_lload_n hx hb dX3_digestPotentials_5 rfl (lv_at hl 1 rfl) ?_
  refine lv_lstore (lv' := [(4, .long d), (0, .ref (ad (0, 0))), (1, .long d), (3, .int t)]) hx hb dX3_digestPotentials_6 hl (by decide) rfl (fun ls hl => ?_)
  refine lv_iconst (v := nI 0) hx hb dX3_digestPotentials_8 (by decide) ?_
  refine lv_istore (lv' := [(6, .int (nI 0)), (4, .long d), (0, .ref (ad (0, 0))), (1, .long d), (3, .int t)]) hx hb dX3_digestPotentials_9 hl (by decide) rfl (fun ls hl => ?_)
  have K11 : ∀ (nn : Nat), ∀ (i : Nat), (i ≤ nN z) → nN z - i < nn → ∀ (H : Heap) (locs : List Loc) (ls : Array Slot), xW D A ad (wU (wB y ad bl z ((sG z t)) ((sP z t)) ((sK z t)) ((sR z t)) mi' (nI (sN z t))) fR fO) H → va_S A Hs H locs → lv_has ls 7 [(6, .int (nI i)), (4, .long (dgP z t d i)), (0, .ref (ad (0, 0)))] → W p l e R s m args below meth c H locs 0 0 Q (F0 m 11 ls []) := by
    intro nn
    induction nn with
    | zero => intro i hi h; exact absurd h (Nat.not_lt_zero _)
    | succ nn ih11 =>
      intro i hi hn11 H locs ls hP hS hl
      refine lv_iload hx hb dX3_digestPotentials_11 (lv_at hl 0 rfl) ?_
      refine lv_aload_n hx hb dX3_digestPotentials_13 rfl (lv_at hl 2 rfl) ?_
      refine fg_X3_nodes hx hb hts hown hE hP q_124 dX3_digestPotentials_14 ?_
      refine xw_callV (C := "java/util/ArrayList") (n := 0) [] (c_size_nodes l hP ) hx hb hml hown hts hE hS (xw_recv hE hP (1, 0) rfl rfl) rfl rfl q_46 q_150 q_153 q_151 q_152 (by decide) rfl ⟨by rw [hRf]; decide, by rw [hRl]; decide⟩ hl.1 rfl (Nat.le_of_ble_eq_true rfl) dX3_digestPotentials_17 ⟨by rw [hRc]; decide, by rw [hRs]; decide⟩ (fun v H1 locs hp hS => ?_)
      obtain ⟨hv, hh⟩ := hp; subst hv; subst hh
      refine lv_icmp_ge (tgt := 105) hx hb dX3_digestPotentials_20 (by decide) (fun c20 => ?_) (fun c20 => ?_)
      · skip
        have c20 := ni_le (a := (nN z)) (b := i) (by omega) (by omega) c20
        refine lv_lload hx hb dX3_digestPotentials_105 (lv_at hl 1 rfl) ?_
        exact xe_lret hQ hx hb hr hlocks hH hS (Nat.le_refl _) (Nat.le_refl _) (⟨by rw [show nN z = i by omega], hP.B⟩) dX3_digestPotentials_107
      · skip
        have c20 := ni_nle (a := (nN z)) (b := i) (by omega) (by omega) c20
        refine lv_aload_n hx hb dX3_digestPotentials_23 rfl (lv_at hl 2 rfl) ?_
        refine lv_iload hx hb dX3_digestPotentials_24 (lv_at hl 0 rfl) ?_
        refine xw_callV (C := "NetlistBench") (n := 1) [.int (nI i)] (c_X3_isAfloat l hP (m8 := (gM z t)) rfl (fun j hj => gM_lt hw t hj) hz (by omega)) hx hb hml hown hts hE hS (xw_recv hE hP (0, 0) rfl rfl) rfl rfl q_43 q_229 q_232 q_231 q_9 (by decide) rfl ⟨by rw [hRf]; decide, by rw [hRl]; decide⟩ hl.1 rfl (Nat.le_of_ble_eq_true rfl) dX3_digestPotentials_26 ⟨by rw [hRc]; decide, by rw [hRs]; decide⟩ (fun v H1 locs hp hS => ?_)
        obtain ⟨hv, hh⟩ := hp; subst hv; subst hh
        refine lv_if_eq (tgt := 45) hx hb dX3_digestPotentials_29 (by decide) (fun c29 => ?_) (fun c29 => ?_)
        · skip
          refine lv_lload hx hb dX3_digestPotentials_45 (lv_at hl 1 rfl) ?_
          refine lv_aload_n hx hb dX3_digestPotentials_47 rfl (lv_at hl 2 rfl) ?_
          refine fg_X3_equations hx hb hts hown hE hP q_127 dX3_digestPotentials_48 ?_
          refine lv_iload hx hb dX3_digestPotentials_51 (lv_at hl 0 rfl) ?_
          refine xw_callV (C := "NetlistBench$Equations") (n := 1) [.int (nI i)] (c_X1_upper l hP (by omega) (sP_ok z t) (by omega)) hx hb hml hown hts hE hS (xw_recv hE hP (6, 0) rfl rfl) rfl rfl q_47 q_273 q_276 q_274 q_275 (by decide) rfl ⟨by rw [hRf]; decide, by rw [hRl]; decide⟩ hl.1 rfl (Nat.le_of_ble_eq_true rfl) dX3_digestPotentials_53 ⟨by rw [hRc]; decide, by rw [hRs]; decide⟩ (fun v H1 locs hp hS => ?_)
          obtain ⟨hv, hh⟩ := hp; subst hv; subst hh
          refine xt_l (w := num z t i) (upV_dm hmi (sP_ok z t) (by omega) hn7) ?_
          refine lv_aload_n hx hb dX3_digestPotentials_56 rfl (lv_at hl 2 rfl) ?_
          refine fg_X3_equations hx hb hts hown hE hP q_127 dX3_digestPotentials_57 ?_
          refine xw_callV (C := "NetlistBench$Equations") (n := 0) [] (c_X1_lower l hP (by omega)) hx hb hml hown hts hE hS (xw_recv hE hP (6, 0) rfl rfl) rfl rfl q_47 q_281 q_280 q_278 q_279 (by decide) rfl ⟨by rw [hRf]; decide, by rw [hRl]; decide⟩ hl.1 rfl (Nat.le_of_ble_eq_true rfl) dX3_digestPotentials_60 ⟨by rw [hRc]; decide, by rw [hRs]; decide⟩ (fun v H1 locs hp hS => ?_)
          obtain ⟨hv, hh⟩ := hp; subst hv; subst hh
          refine xt_l (w := den z t) (den_dm hmi) ?_
          refine lv_iconst (v := nI 1) hx hb dX3_digestPotentials_63 (by decide) ?_
          refine xw_callS (n := 3) [.long (num z t i), .long (den z t), .int (nI 1)] (c_X3_partOf l (num z t i) (den z t) 1) hx hb hml hown hts hE hS rfl rfl q_43 q_282 q_284 q_283 (by decide) rfl ⟨by rw [hRf]; decide, by rw [hRl]; decide⟩ hl.1 rfl (Nat.le_of_ble_eq_true rfl) dX3_digestPotentials_64 ⟨by rw [hRc]; decide, by rw [hRs]; decide⟩ (fun v H1 locs hp hS => ?_)
          obtain ⟨hv, hh⟩ := hp; subst hv; subst hh
          refine xw_callS (n := 2) [.long (dgP z t d i), .long (ptF (num z t i) (den z t) 1)] (c_X3_digestOf l (dgP z t d i) (ptF (num z t i) (den z t) 1)) hx hb hml hown hts hE hS rfl rfl q_43 q_178 q_180 q_179 (by decide) rfl ⟨by rw [hRf]; decide, by rw [hRl]; decide⟩ hl.1 rfl (Nat.le_of_ble_eq_true rfl) dX3_digestPotentials_67 ⟨by rw [hRc]; decide, by rw [hRs]; decide⟩ (fun v H1 locs hp hS => ?_)
          obtain ⟨hv, hh⟩ := hp; subst hv; subst hh
          refine lv_lstore (lv' := [(4, .long (dg (dgP z t d i) (ptF (num z t i) (den z t) 1))), (6, .int (nI i)), (0, .ref (ad (0, 0)))]) hx hb dX3_digestPotentials_70 hl (by decide) rfl (fun ls hl => ?_)
          refine lv_lload hx hb dX3_digestPotentials_72 (lv_at hl 0 rfl) ?_
          refine lv_aload_n hx hb dX3_digestPotentials_74 rfl (lv_at hl 2 rfl) ?_
          refine fg_X3_equations hx hb hts hown hE hP q_127 dX3_digestPotentials_75 ?_
          refine lv_iload hx hb dX3_digestPotentials_78 (lv_at hl 1 rfl) ?_
          refine xw_callV (C := "NetlistBench$Equations") (n := 1) [.int (nI i)] (c_X1_upper l hP (by omega) (sP_ok z t) (by omega)) hx hb hml hown hts hE hS (xw_recv hE hP (6, 0) rfl rfl) rfl rfl q_47 q_273 q_276 q_274 q_275 (by decide) rfl ⟨by rw [hRf]; decide, by rw [hRl]; decide⟩ hl.1 rfl (Nat.le_of_ble_eq_true rfl) dX3_digestPotentials_80 ⟨by rw [hRc]; decide, by rw [hRs]; decide⟩ (fun v H1 locs hp hS => ?_)
          obtain ⟨hv, hh⟩ := hp; subst hv; subst hh
          refine xt_l (w := num z t i) (upV_dm hmi (sP_ok z t) (by omega) hn7) ?_
          refine lv_aload_n hx hb dX3_digestPotentials_83 rfl (lv_at hl 2 rfl) ?_
          refine fg_X3_equations hx hb hts hown hE hP q_127 dX3_digestPotentials_84 ?_
          refine xw_callV (C := "NetlistBench$Equations") (n := 0) [] (c_X1_lower l hP (by omega)) hx hb hml hown hts hE hS (xw_recv hE hP (6, 0) rfl rfl) rfl rfl q_47 q_281 q_280 q_278 q_279 (by decide) rfl ⟨by rw [hRf]; decide, by rw [hRl]; decide⟩ hl.1 rfl (Nat.le_of_ble_eq_true rfl) dX3_digestPotentials_87 ⟨by rw [hRc]; decide, by rw [hRs]; decide⟩ (fun v H1 locs hp hS => ?_)
          obtain ⟨hv, hh⟩ := hp; subst hv; subst hh
          refine xt_l (w := den z t) (den_dm hmi) ?_
          refine lv_iconst (v := nI 0) hx hb dX3_digestPotentials_90 (by decide) ?_
          refine xw_callS (n := 3) [.long (num z t i), .long (den z t), .int (nI 0)] (c_X3_partOf l (num z t i) (den z t) 0) hx hb hml hown hts hE hS rfl rfl q_43 q_282 q_284 q_283 (by decide) rfl ⟨by rw [hRf]; decide, by rw [hRl]; decide⟩ hl.1 rfl (Nat.le_of_ble_eq_true rfl) dX3_digestPotentials_91 ⟨by rw [hRc]; decide, by rw [hRs]; decide⟩ (fun v H1 locs hp hS => ?_)
          obtain ⟨hv, hh⟩ := hp; subst hv; subst hh
          refine xw_callS (n := 2) [.long (dg (dgP z t d i) (ptF (num z t i) (den z t) 1)), .long (ptF (num z t i) (den z t) 0)] (c_X3_digestOf l (dg (dgP z t d i) (ptF (num z t i) (den z t) 1)) (ptF (num z t i) (den z t) 0)) hx hb hml hown hts hE hS rfl rfl q_43 q_178 q_180 q_179 (by decide) rfl ⟨by rw [hRf]; decide, by rw [hRl]; decide⟩ hl.1 rfl (Nat.le_of_ble_eq_true rfl) dX3_digestPotentials_94 ⟨by rw [hRc]; decide, by rw [hRs]; decide⟩ (fun v H1 locs hp hS => ?_)
          obtain ⟨hv, hh⟩ := hp; subst hv; subst hh
          refine xt_l (w := dgP z t d (i + 1)) ((dgP_0 c29).symm) ?_
          refine lv_lstore (lv' := [(4, .long (dgP z t d (i + 1))), (6, .int (nI i)), (0, .ref (ad (0, 0)))]) hx hb dX3_digestPotentials_97 hl (by decide) rfl (fun ls hl => ?_)
          refine lv_iinc (v := nI (i + 1)) (lv' := [(6, .int (nI (i + 1))), (4, .long (dgP z t d (i + 1))), (0, .ref (ad (0, 0)))]) hx hb dX3_digestPotentials_99 hl (k := 1) rfl (nI_1 _) (by decide) rfl (fun ls hl => ?_)
          refine lv_goto (tgt := 11) hx hb dX3_digestPotentials_102 (by decide) ?_
          exact ih11 (i + 1) (by omega) (by omega) _ _ _ hP hS (lv_sub hl [0, 1, 2] rfl)
        · skip
          refine lv_lload hx hb dX3_digestPotentials_32 (lv_at hl 1 rfl) ?_
          refine lv_ldc2 hx hb hown (hts _ q_272) dX3_digestPotentials_34 ?_
          refine xw_callS (n := 2) [.long (dgP z t d i), .long ((-1))] (c_X3_digestOf l (dgP z t d i) (-1)) hx hb hml hown hts hE hS rfl rfl q_43 q_178 q_180 q_179 (by decide) rfl ⟨by rw [hRf]; decide, by rw [hRl]; decide⟩ hl.1 rfl (Nat.le_of_ble_eq_true rfl) dX3_digestPotentials_37 ⟨by rw [hRc]; decide, by rw [hRs]; decide⟩ (fun v H1 locs hp hS => ?_)
          obtain ⟨hv, hh⟩ := hp; subst hv; subst hh
          refine xt_l (w := dgP z t d (i + 1)) ((dgP_1 c29).symm) ?_
          refine lv_lstore (lv' := [(4, .long (dgP z t d (i + 1))), (6, .int (nI i)), (0, .ref (ad (0, 0)))]) hx hb dX3_digestPotentials_40 hl (by decide) rfl (fun ls hl => ?_)
          refine lv_goto (tgt := 99) hx hb dX3_digestPotentials_42 (by decide) ?_
          refine lv_iinc (v := nI (i + 1)) (lv' := [(6, .int (nI (i + 1))), (4, .long (dgP z t d (i + 1))), (0, .ref (ad (0, 0)))]) hx hb dX3_digestPotentials_99 hl (k := 1) rfl (nI_1 _) (by decide) rfl (fun ls hl => ?_)
          refine lv_goto (tgt := 11) hx hb dX3_digestPotentials_102 (by decide) ?_
          exact ih11 (i + 1) (by omega) (by omega) _ _ _ hP hS (lv_sub hl [0, 1, 2] rfl)
  exact K11 _ 0 (by omega) (Nat.lt_succ_self _) _ _ _ hP hS (lv_sub hl [0, 1, 2] rfl)

set_option maxHeartbeats 4000000 in
set_option maxRecDepth 100000 in
theorem c_X3_digest (l : Launch) {D : va_G} {y : Nat → ClassId} {A : Nat → Prop} {ad : xL → Nat} {bl : xM} {z : xC} {g : Nat → Int32} {pl : Nat → Int32} {kn : Nat → Int64} {rw : Nat → Nat → Int64} {mi : Nat → Int64} {un : Int32} {fR fO : Nat → Nat → Option va_E} {Hs : Heap} (hP : xW D A ad (wU (wB y ad bl z g pl kn rw mi un) fR fO) Hs) (hz : bOk bl z) : Met l yX3_digest (.code yX3_digest cX3_digest 4 (some .long) :: WG) { frames := 6, cells := 0, slots := 0, locals := 136 } (xPc [.ref (ad (0, 0))] D y Hs) (xQ (fun v H1 => v = some (.long (dgAll z)) ∧ xB D A y ad bl z fR fO H1) A) 0 0 A := by
  refine xM_go (by decide) (Nat.le_of_ble_eq_true rfl) (fun p e s m args below meth c ls R Q hx hb hr hlocks hml hown hts hH hE hnm hRf hRl hRc hRs hQ hS hl => ?_)
  have hRf : R.frames = 6 := hRf
  have hRl : R.locals = 136 := hRl
  have hRc : R.cells = 0 := hRc
  have hRs : R.slots = 0 := hRs
  have hl : lv_has ls 4 [(0, .ref (ad (0, 0)))] := hl
  have hw := hz.w
  have hN := hw.N
  have hE20 := hw.E
  refine lv_aload_n hx hb dX3_digest_0 rfl (lv_at hl 0 rfl) ?_
  refine lv_ldc2 hx hb hown (hts _ q_141) dX3_digest_1 ?_
  refine xw_callV (C := "NetlistBench") (n := 1) [.long 409] (c_X3_digestCircuit l hP hz 409) hx hb hml hown hts hE hS (xw_recv hE hP (0, 0) rfl rfl) rfl rfl q_43 q_142 q_145 q_144 q_0 (by decide) rfl ⟨by rw [hRf]; decide, by rw [hRl]; decide⟩ hl.1 rfl (Nat.le_of_ble_eq_true rfl) dX3_digest_4 ⟨by rw [hRc]; decide, by rw [hRs]; decide⟩ (fun v H1 locs hp hS => ?_)
  obtain ⟨hv, hh⟩ := hp; subst hv; subst hh
  refine lv_lstore_n (lv' := [(1, .long (dgA z 409)), (0, .ref (ad (0, 0)))]) hx hb dX3_digest_7 rfl hl (by decide) rfl (fun ls hl => ?_)
  refine lv_aload_n hx hb dX3_digest_8 rfl (lv_at hl 1 rfl) ?_
  refine lv_lload_n hx hb dX3_digest_9 rfl (lv_at hl 0 rfl) ?_
  refine lv_iconst (v := nI 0) hx hb dX3_digest_10 (by decide) ?_
  refine xw_callV (C := "NetlistBench") (n := 2) [.long (dgA z 409), .int (nI 0)] (c_X3_digestPotentials l hP hz (dgA z 409) (nI 0)) hx hb hml hown hts hE hS (xw_recv hE hP (0, 0) rfl rfl) rfl rfl q_43 q_193 q_196 q_195 q_4 (by decide) rfl ⟨by rw [hRf]; decide, by rw [hRl]; decide⟩ hl.1 rfl (Nat.le_of_ble_eq_true rfl) dX3_digest_11 ⟨by rw [hRc]; decide, by rw [hRs]; decide⟩ (fun v H1 locs hp hS => ?_)
  obtain ⟨hv, g, pl, kn, rw, mi, un, hP⟩ := hp; subst hv
  generalize H1 = H at hP hS ⊢
  refine lv_lstore_n (lv' := [(1, .long (dgP z (nI 0) (dgA z 409) (nN z))), (0, .ref (ad (0, 0)))]) hx hb dX3_digest_14 rfl hl (by decide) rfl (fun ls hl => ?_)
  refine lv_aload_n hx hb dX3_digest_15 rfl (lv_at hl 1 rfl) ?_
  refine lv_iconst (v := nI 0) hx hb dX3_digest_16 (by decide) ?_
  refine xw_callV (C := "NetlistBench") (n := 1) [.int (nI 0)] (c_X3_firstToggleBehind l hP hz (nI 0)) hx hb hml hown hts hE hS (xw_recv hE hP (0, 0) rfl rfl) rfl rfl q_43 q_291 q_294 q_293 q_14 (by decide) rfl ⟨by rw [hRf]; decide, by rw [hRl]; decide⟩ hl.1 rfl (Nat.le_of_ble_eq_true rfl) dX3_digest_17 ⟨by rw [hRc]; decide, by rw [hRs]; decide⟩ (fun v H1 locs hp hS => ?_)
  obtain ⟨hv, hh⟩ := hp; subst hv; subst hh
  refine lv_istore_n (lv' := [(3, .int (ftS z (nI 0) (nE z))), (1, .long (dgP z (nI 0) (dgA z 409) (nN z))), (0, .ref (ad (0, 0)))]) hx hb dX3_digest_20 rfl hl (by decide) rfl (fun ls hl => ?_)
  refine lv_iload_n hx hb dX3_digest_21 rfl (lv_at hl 0 rfl) ?_
  refine lv_if_ge (tgt := 29) hx hb dX3_digest_22 (by decide) (fun c22 => ?_) (fun c22 => ?_)
  · skip
    refine lv_aload_n hx hb dX3_digest_29 rfl (lv_at hl 2 rfl) ?_
    refine lv_lload_n hx hb dX3_digest_30 rfl (lv_at hl 1 rfl) ?_
    refine lv_iload_n hx hb dX3_digest_31 rfl (lv_at hl 0 rfl) ?_
    refine xw_callV (C := "NetlistBench") (n := 2) [.long (dgP z (nI 0) (dgA z 409) (nN z)), .int (ftS z (nI 0) (nE z))] (c_X3_digestPotentials l hP hz (dgP z (nI 0) (dgA z 409) (nN z)) (ftS z (nI 0) (nE z))) hx hb hml hown hts hE hS (xw_recv hE hP (0, 0) rfl rfl) rfl rfl q_43 q_193 q_196 q_195 q_4 (by decide) rfl ⟨by rw [hRf]; decide, by rw [hRl]; decide⟩ hl.1 rfl (Nat.le_of_ble_eq_true rfl) dX3_digest_32 ⟨by rw [hRc]; decide, by rw [hRs]; decide⟩ (fun v H1 locs hp hS => ?_)
    obtain ⟨hv, g, pl, kn, rw, mi, un, hP⟩ := hp; subst hv
    generalize H1 = H at hP hS ⊢
    exact xe_lret hQ hx hb hr hlocks hH hS (Nat.le_refl _) (Nat.le_refl _) (⟨by rw [dgAll, if_neg (Int32.not_lt.mpr c22)], hP.B⟩) dX3_digest_35
  · skip
    refine lv_lload_n hx hb dX3_digest_25 rfl (lv_at hl 1 rfl) ?_
    refine lv_goto (tgt := 35) hx hb dX3_digest_26 (by decide) ?_
    exact xe_lret hQ hx hb hr hlocks hH hS (Nat.le_refl _) (Nat.le_refl _) (⟨by rw [dgAll, if_pos (Int32.not_le.mp c22)], hP.B⟩) dX3_digest_35
