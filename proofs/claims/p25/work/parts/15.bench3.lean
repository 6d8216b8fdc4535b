set_option maxHeartbeats 4000000 in
set_option maxRecDepth 100000 in
theorem c_X3_drive (l : Launch) {D : va_G} {y : Nat → ClassId} {A : Nat → Prop} {ad : xL → Nat} {bl : xM} {z : xC} {g : Nat → Int32} {pl : Nat → Int32} {kn : Nat → Int64} {rw : Nat → Nat → Int64} {mi : Nat → Int64} {un : Int32} {fR fO : Nat → Nat → Option va_E} {Hs : Heap} (hP : xW D A ad (wU (wB y ad bl z g pl kn rw mi un) fR fO) Hs) (t : Int32) (hg : g = sG z t) (hz : bOk bl z) {a b : Nat} (ha : a < 8) (hb8 : b < 8) : Met l yX3_drive (.code yX3_drive cX3_drive 5 none :: WG) { frames := 4, cells := 0, slots := 0, locals := 87 } (xPc [.ref (ad (0, 0)), .int (nI a), .int (nI b), .int t] D y Hs) (xQ (fun v H1 => v = none ∧ ∃ mi' : Nat → Int64, miOk mi' (dR z t a b) (dN z t b) ∧ xW D A ad (wU (wB y ad bl z ((sG z t)) ((dP z t b)) ((fun _ => 0)) ((dR z t a b)) mi' ((nI (dN z t b)))) fR fO) H1) A) 0 0 A := by
  refine xM_go (by decide) (Nat.le_of_ble_eq_true rfl) (fun p e s m args below meth c ls R Q hx hb hr hlocks hml hown hts hH hE hnm hRf hRl hRc hRs hQ hS hl => ?_)
  have hRf : R.frames = 4 := hRf
  have hRl : R.locals = 87 := hRl
  have hRc : R.cells = 0 := hRc
  have hRs : R.slots = 0 := hRs
  have hl : lv_has ls 5 [(0, .ref (ad (0, 0))), (1, .int (nI a)), (2, .int (nI b)), (3, .int t)] := hl
  have hw := hz.w
  have hN := hw.N
  have hE20 := hw.E
  subst hg
  have hn7 := (drS_le (gM z t b) b (nN z)).1
  have hok : plOk (dP z t b) (dN z t b) := (drS_le (gM z t b) b (nN z)).2
  have hn7 : dN z t b ≤ 7 := hn7
  have hmb := gM_lt hw t hb8
  refine lv_aload_n hx hb dX3_drive_0 rfl (lv_at hl 0 rfl) ?_
  refine fg_X3_equations hx hb hts hown hE hP q_105 dX3_drive_1 ?_
  refine xw_callV (C := "NetlistBench$Equations") (n := 0) [] (c_X1_clear l hP ) hx hb hml hown hts hE hS (xw_recv hE hP (6, 0) rfl rfl) rfl rfl q_25 q_291 q_294 q_292 q_293 (by decide) rfl ⟨by rw [hRf]; decide, by rw [hRl]; decide⟩ hl.1 rfl (Nat.le_of_ble_eq_true rfl) dX3_drive_4 ⟨by rw [hRc]; decide, by rw [hRs]; decide⟩ (fun v H1 locs hp hS => ?_)
  obtain ⟨hv, hP⟩ := hp; subst hv
  generalize H1 = H at hP hS ⊢
  refine lv_iconst (v := nI 0) hx hb dX3_drive_7 (by decide) ?_
  refine lv_istore (lv' := [(4, .int (nI 0)), (0, .ref (ad (0, 0))), (1, .int (nI a)), (2, .int (nI b)), (3, .int t)]) hx hb dX3_drive_8 hl (by decide) rfl (fun ls hl => ?_)
  have K10 : ∀ (nn : Nat), ∀ (i : Nat), (i ≤ nN z) → nN z - i < nn → ∀ (H : Heap) (locs : List Loc) (ls : Array Slot), xW D A ad (wU (wB y ad bl z ((sG z t)) ((drS (gM z t b) b i).1) ((fun _ => 0)) ((fun _ _ => 0)) mi (nI (drS (gM z t b) b i).2)) fR fO) H → va_S A Hs H locs → lv_has ls 5 [(4, .int (nI i)), (3, .int t), (2, .int (nI b)), (1, .int (nI a)), (0, .ref (ad (0, 0)))] → W p l e R s m args below meth c H locs 0 0 Q (F0 m 10 ls []) := by
    intro nn
    induction nn with
    | zero => intro i hi h; exact absurd h (Nat.not_lt_zero _)
    | succ nn ih10 =>
      intro i hi hn10 H locs ls hP hS hl
      refine lv_iload hx hb dX3_drive_10 (lv_at hl 0 rfl) ?_
      refine lv_aload_n hx hb dX3_drive_12 rfl (lv_at hl 4 rfl) ?_
      refine fg_X3_nodes hx hb hts hown hE hP q_102 dX3_drive_13 ?_
      refine xw_callV (C := "java/util/ArrayList") (n := 0) [] (c_size_nodes l hP ) hx hb hml hown hts hE hS (xw_recv hE hP (1, 0) rfl rfl) rfl rfl q_24 q_123 q_126 q_124 q_125 (by decide) rfl ⟨by rw [hRf]; decide, by rw [hRl]; decide⟩ hl.1 rfl (Nat.le_of_ble_eq_true rfl) dX3_drive_16 ⟨by rw [hRc]; decide, by rw [hRs]; decide⟩ (fun v H1 locs hp hS => ?_)
      obtain ⟨hv, hh⟩ := hp; subst hv; subst hh
      refine lv_icmp_ge (tgt := 57) hx hb dX3_drive_19 (by decide) (fun c19 => ?_) (fun c19 => ?_)
      · skip
        have c19 := ni_le (a := (nN z)) (b := i) (by omega) (by omega) c19
        have hP := hP.ct (show _ = (wU (wB y ad bl z ((sG z t)) ((dP z t b)) ((fun _ => 0)) ((fun _ _ => 0)) mi ((nI (dN z t b)))) fR fO) by rw [show i = nN z by omega]; rfl)
        refine lv_aload_n hx hb dX3_drive_57 rfl (lv_at hl 4 rfl) ?_
        refine fg_X3_equations hx hb hts hown hE hP q_105 dX3_drive_58 ?_
        refine lv_iload_n hx hb dX3_drive_61 rfl (lv_at hl 3 rfl) ?_
        refine lv_lconst (v := 1) hx hb dX3_drive_62 (by decide) ?_
        refine xw_callV (C := "NetlistBench$Equations") (n := 2) [.int (nI a), .long 1] (c_X1_bring l hP (by omega) hok ha 1) hx hb hml hown hts hE hS (xw_recv hE hP (6, 0) rfl rfl) rfl rfl q_25 q_303 q_306 q_304 q_305 (by decide) rfl ⟨by rw [hRf]; decide, by rw [hRl]; decide⟩ hl.1 rfl (Nat.le_of_ble_eq_true rfl) dX3_drive_63 ⟨by rw [hRc]; decide, by rw [hRs]; decide⟩ (fun v H1 locs hp hS => ?_)
        obtain ⟨hv, hP⟩ := hp; subst hv
        generalize H1 = H at hP hS ⊢
        refine lv_aload_n hx hb dX3_drive_66 rfl (lv_at hl 4 rfl) ?_
        refine lv_iload_n hx hb dX3_drive_67 rfl (lv_at hl 1 rfl) ?_
        refine xw_callV (C := "NetlistBench") (n := 1) [.int t] (c_X3_conduct l hP (by omega) hok hz t) hx hb hml hown hts hE hS (xw_recv hE hP (0, 0) rfl rfl) rfl rfl q_21 q_307 q_310 q_309 q_8 (by decide) rfl ⟨by rw [hRf]; decide, by rw [hRl]; decide⟩ hl.1 rfl (Nat.le_of_ble_eq_true rfl) dX3_drive_68 ⟨by rw [hRc]; decide, by rw [hRs]; decide⟩ (fun v H1 locs hp hS => ?_)
        obtain ⟨hv, hP⟩ := hp; subst hv
        generalize H1 = H at hP hS ⊢
        refine lv_aload_n hx hb dX3_drive_71 rfl (lv_at hl 4 rfl) ?_
        refine fg_X3_equations hx hb hts hown hE hP q_105 dX3_drive_72 ?_
        refine xw_callV (C := "NetlistBench$Equations") (n := 0) [] (c_X1_solve l hP (by omega)) hx hb hml hown hts hE hS (xw_recv hE hP (6, 0) rfl rfl) rfl rfl q_25 q_319 q_322 q_320 q_321 (by decide) rfl ⟨by rw [hRf]; decide, by rw [hRl]; decide⟩ hl.1 rfl (Nat.le_of_ble_eq_true rfl) dX3_drive_75 ⟨by rw [hRc]; decide, by rw [hRs]; decide⟩ (fun v H1 locs hp hS => ?_)
        obtain ⟨hv, mi', hmi, hP⟩ := hp; subst hv
        generalize H1 = H at hP hS ⊢
        exact xe_vret hQ hx hb hr hlocks hH hS (Nat.le_refl _) (Nat.le_refl _) (⟨rfl, mi', hmi, hP⟩) dX3_drive_78
      · skip
        have c19 := ni_nle (a := (nN z)) (b := i) (by omega) (by omega) c19
        have hle := drS_le (gM z t b) b i
        refine lv_iload hx hb dX3_drive_22 (lv_at hl 0 rfl) ?_
        refine lv_iload_n hx hb dX3_drive_24 rfl (lv_at hl 2 rfl) ?_
        refine lv_icmp_eq (tgt := 51) hx hb dX3_drive_25 (by decide) (fun c25 => ?_) (fun c25 => ?_)
        · skip
          have c25 := ni_eq (a := i) (b := b) (by omega) (by omega) c25
          refine lv_iinc (v := nI (i + 1)) (lv' := [(4, .int (nI (i + 1))), (3, .int t), (2, .int (nI b)), (1, .int (nI a)), (0, .ref (ad (0, 0)))]) hx hb dX3_drive_51 hl (k := 0) rfl (nI_1 _) (by decide) rfl (fun ls hl => ?_)
          refine lv_goto (tgt := 10) hx hb dX3_drive_54 (by decide) ?_
          exact ih10 (i + 1) (by omega) (by omega) _ _ _ (hP.ct (by first | rw [drS_b c25] | rw [drS_o c25 c39] | rw [drS_s c25 c39])) hS (lv_sub hl [0, 1, 2, 3, 4] rfl)
        · skip
          have c25 := ni_ne (a := i) (b := b) (by omega) (by omega) c25
          refine lv_aload_n hx hb dX3_drive_28 rfl (lv_at hl 4 rfl) ?_
          refine fg_X3_groups hx hb hts hown hE hP q_104 dX3_drive_29 ?_
          refine lv_iload_n hx hb dX3_drive_32 rfl (lv_at hl 2 rfl) ?_
          refine al_groups hx hb hE hP (j := b) (by omega) dX3_drive_33 ?_
          refine xt_i (w := nI (gM z t b)) (rfl) ?_
          refine lv_iload hx hb dX3_drive_34 (lv_at hl 0 rfl) ?_
          refine xw_callS (n := 2) [.int (nI (gM z t b)), .int (nI i)] (c_X3_contains l (nI (gM z t b)) i) hx hb hml hown hts hE hS rfl rfl q_21 q_259 q_261 q_260 (by decide) rfl ⟨by rw [hRf]; decide, by rw [hRl]; decide⟩ hl.1 rfl (Nat.le_of_ble_eq_true rfl) dX3_drive_36 ⟨by rw [hRc]; decide, by rw [hRs]; decide⟩ (fun v H1 locs hp hS => ?_)
          obtain ⟨hv, hh⟩ := hp; subst hv; subst hh
          refine lv_if_eq (tgt := 51) hx hb dX3_drive_39 (by decide) (fun c39 => ?_) (fun c39 => ?_)
          · skip
            have c39 := m_bitT hmb (by omega) c39
            refine lv_iinc (v := nI (i + 1)) (lv' := [(4, .int (nI (i + 1))), (3, .int t), (2, .int (nI b)), (1, .int (nI a)), (0, .ref (ad (0, 0)))]) hx hb dX3_drive_51 hl (k := 0) rfl (nI_1 _) (by decide) rfl (fun ls hl => ?_)
            refine lv_goto (tgt := 10) hx hb dX3_drive_54 (by decide) ?_
            exact ih10 (i + 1) (by omega) (by omega) _ _ _ (hP.ct (by first | rw [drS_b c25] | rw [drS_o c25 c39] | rw [drS_s c25 c39])) hS (lv_sub hl [0, 1, 2, 3, 4] rfl)
          · skip
            have c39 := m_bitF hmb (by omega) c39
            refine lv_aload_n hx hb dX3_drive_42 rfl (lv_at hl 4 rfl) ?_
            refine fg_X3_equations hx hb hts hown hE hP q_105 dX3_drive_43 ?_
            refine lv_iload hx hb dX3_drive_46 (lv_at hl 0 rfl) ?_
            refine xw_callV (C := "NetlistBench$Equations") (n := 1) [.int (nI i)] (c_X1_seek l hP hle.1 (by omega)) hx hb hml hown hts hE hS (xw_recv hE hP (6, 0) rfl rfl) rfl rfl q_25 q_299 q_302 q_300 q_301 (by decide) rfl ⟨by rw [hRf]; decide, by rw [hRl]; decide⟩ hl.1 rfl (Nat.le_of_ble_eq_true rfl) dX3_drive_48 ⟨by rw [hRc]; decide, by rw [hRs]; decide⟩ (fun v H1 locs hp hS => ?_)
            obtain ⟨hv, hP⟩ := hp; subst hv
            generalize H1 = H at hP hS ⊢
            refine lv_iinc (v := nI (i + 1)) (lv' := [(4, .int (nI (i + 1))), (3, .int t), (2, .int (nI b)), (1, .int (nI a)), (0, .ref (ad (0, 0)))]) hx hb dX3_drive_51 hl (k := 0) rfl (nI_1 _) (by decide) rfl (fun ls hl => ?_)
            refine lv_goto (tgt := 10) hx hb dX3_drive_54 (by decide) ?_
            exact ih10 (i + 1) (by omega) (by omega) _ _ _ (hP.ct (by first | rw [drS_b c25] | rw [drS_o c25 c39] | rw [drS_s c25 c39])) hS (lv_sub hl [0, 1, 2, 3, 4] rfl)
  exact K10 _ 0 (by omega) (Nat.lt_succ_self _) _ _ _ hP hS (lv_sub hl [0, 4, 3, 2, 1] rfl)

set_option maxHeartbeats 4000000 in
set_option maxRecDepth 100000 in
theorem c_X3_flowOut (l : Launch) {D : va_G} {y : Nat → ClassId} {A : Nat → Prop} {ad : xL → Nat} {n : Nat} {bl : xM} {z : xC} {g : Nat → Int32} {pl : Nat → Int32} {kn : Nat → Int64} {rw : Nat → Nat → Int64} {mi : Nat → Int64} {fR fO : Nat → Nat → Option va_E} {Hs : Heap} (hP : xW D A ad (wU (wB y ad bl z g pl kn rw mi (nI n)) fR fO) Hs) (hn : n ≤ 7) (hpl : plOk pl n) (hz : bOk bl z) {i j : Nat} (hi : i < nE z) (hj : j < 8) : Met l yX3_flowOut (.code yX3_flowOut cX3_flowOut 5 (some .long) :: WG) { frames := 3, cells := 0, slots := 0, locals := 64 } (xPc [.ref (ad (0, 0)), .ref (ad (13, i)), .int (nI j)] D y Hs) (xQ (fun v H1 => v = some (.long (flw z (upV pl kn mi n) (mi (2 ^ n - 1)) i j)) ∧ Hs = H1) A) 0 0 A := by
  refine xM_go (by decide) (Nat.le_of_ble_eq_true rfl) (fun p e s m args below meth c ls R Q hx hb hr hlocks hml hown hts hH hE hnm hRf hRl hRc hRs hQ hS hl => ?_)
  have hRf : R.frames = 3 := hRf
  have hRl : R.locals = 64 := hRl
  have hRc : R.cells = 0 := hRc
  have hRs : R.slots = 0 := hRs
  have hl : lv_has ls 5 [(0, .ref (ad (0, 0))), (1, .ref (ad (13, i))), (2, .int (nI j))] := hl
  have hw := hz.w
  have hN := hw.N
  have hE20 := hw.E
  have ha8 := hw.a8 hi
  have hb8 := hw.b8 hi
  refine lv_iload_n hx hb dX3_flowOut_0 rfl (lv_at hl 2 rfl) ?_
  refine lv_aload_n hx hb dX3_flowOut_1 rfl (lv_at hl 1 rfl) ?_
  refine fg_X0_a (i := i) (by first | assumption | omega) hx hb hts hown hE hP q_556 dX3_flowOut_2 ?_
  refine xt_i (w := nI (cA z i)) (hw.a hi) ?_
  refine lv_icmp_eq (tgt := 18) hx hb dX3_flowOut_5 (by decide) (fun c5 => ?_) (fun c5 => ?_)
  · skip
    have c5 := ni_eq (a := j) (b := (cA z i)) (by omega) (by omega) c5
    have K18 : (¬ (¬ j = cA z i ∧ ¬ j = cB z i)) → ∀ (locs : List Loc) (ls : Array Slot), va_S A Hs Hs locs → lv_has ls 5 [(2, .int (nI j)), (1, .ref (ad (13, i))), (0, .ref (ad (0, 0)))] → W p l e R s m args below meth c Hs locs 0 0 Q (F0 m 18 ls []) := by
      intro  h18 locs ls hS hl
      refine lv_aload_n hx hb dX3_flowOut_18 rfl (lv_at hl 1 rfl) ?_
      refine fg_X0_isSource (i := i) (by first | assumption | omega) hx hb hts hown hE hP q_554 dX3_flowOut_19 ?_
      refine lv_if_eq (tgt := 41) hx hb dX3_flowOut_22 (by decide) (fun c22 => ?_) (fun c22 => ?_)
      · skip
        refine lv_aload_n hx hb dX3_flowOut_41 rfl (lv_at hl 1 rfl) ?_
        refine fg_X0_size (i := i) (by first | assumption | omega) hx hb hts hown hE hP q_560 dX3_flowOut_42 ?_
        refine lv_i2l (v := (eZ z i).toInt64) hx hb dX3_flowOut_45 rfl ?_
        refine lv_aload_n hx hb dX3_flowOut_46 rfl (lv_at hl 2 rfl) ?_
        refine fg_X3_equations hx hb hts hown hE hP q_105 dX3_flowOut_47 ?_
        refine lv_aload_n hx hb dX3_flowOut_50 rfl (lv_at hl 1 rfl) ?_
        refine fg_X0_a (i := i) (by first | assumption | omega) hx hb hts hown hE hP q_556 dX3_flowOut_51 ?_
        refine xt_i (w := nI (cA z i)) (hw.a hi) ?_
        refine xw_callV (C := "NetlistBench$Equations") (n := 1) [.int (nI (cA z i))] (c_X1_upper l hP (by omega) hpl (by omega)) hx hb hml hown hts hE hS (xw_recv hE hP (6, 0) rfl rfl) rfl rfl q_25 q_346 q_349 q_347 q_348 (by decide) rfl ⟨by rw [hRf]; decide, by rw [hRl]; decide⟩ hl.1 rfl (Nat.le_of_ble_eq_true rfl) dX3_flowOut_54 ⟨by rw [hRc]; decide, by rw [hRs]; decide⟩ (fun v H1 locs hp hS => ?_)
        obtain ⟨hv, hh⟩ := hp; subst hv; subst hh
        refine lv_aload_n hx hb dX3_flowOut_57 rfl (lv_at hl 2 rfl) ?_
        refine fg_X3_equations hx hb hts hown hE hP q_105 dX3_flowOut_58 ?_
        refine lv_aload_n hx hb dX3_flowOut_61 rfl (lv_at hl 1 rfl) ?_
        refine fg_X0_b (i := i) (by first | assumption | omega) hx hb hts hown hE hP q_558 dX3_flowOut_62 ?_
        refine xt_i (w := nI (cB z i)) (hw.b hi) ?_
        refine xw_callV (C := "NetlistBench$Equations") (n := 1) [.int (nI (cB z i))] (c_X1_upper l hP (by omega) hpl (by omega)) hx hb hml hown hts hE hS (xw_recv hE hP (6, 0) rfl rfl) rfl rfl q_25 q_346 q_349 q_347 q_348 (by decide) rfl ⟨by rw [hRf]; decide, by rw [hRl]; decide⟩ hl.1 rfl (Nat.le_of_ble_eq_true rfl) dX3_flowOut_65 ⟨by rw [hRc]; decide, by rw [hRs]; decide⟩ (fun v H1 locs hp hS => ?_)
        obtain ⟨hv, hh⟩ := hp; subst hv; subst hh
        refine lv_lsub hx hb dX3_flowOut_68 ?_
        refine lv_lmul hx hb dX3_flowOut_69 ?_
        refine lv_lstore_n (lv' := [(3, .long (((eZ z i).toInt64) * ((upV pl kn mi n (cA z i)) - (upV pl kn mi n (cB z i))))), (2, .int (nI j)), (1, .ref (ad (13, i))), (0, .ref (ad (0, 0)))]) hx hb dX3_flowOut_70 rfl hl (by decide) rfl (fun ls hl => ?_)
        refine lv_iload_n hx hb dX3_flowOut_71 rfl (lv_at hl 1 rfl) ?_
        refine lv_aload_n hx hb dX3_flowOut_72 rfl (lv_at hl 2 rfl) ?_
        refine fg_X0_a (i := i) (by first | assumption | omega) hx hb hts hown hE hP q_556 dX3_flowOut_73 ?_
        refine xt_i (w := nI (cA z i)) (hw.a hi) ?_
        refine lv_icmp_ne (tgt := 83) hx hb dX3_flowOut_76 (by decide) (fun c76 => ?_) (fun c76 => ?_)
        · skip
          have c76 := ni_ne (a := j) (b := (cA z i)) (by omega) (by omega) c76
          refine lv_lload_n hx hb dX3_flowOut_83 rfl (lv_at hl 0 rfl) ?_
          refine lv_lneg hx hb dX3_flowOut_84 ?_
          exact xe_lret hQ hx hb hr hlocks hH hS (Nat.le_refl _) (Nat.le_refl _) (⟨by rw [flw_2 h18 c76]; first | (rw [if_pos c22]; done) | (rw [if_neg c22]; done), rfl⟩) dX3_flowOut_85
        · skip
          have c76 := ni_eq (a := j) (b := (cA z i)) (by omega) (by omega) c76
          refine lv_lload_n hx hb dX3_flowOut_79 rfl (lv_at hl 0 rfl) ?_
          refine lv_goto (tgt := 85) hx hb dX3_flowOut_80 (by decide) ?_
          exact xe_lret hQ hx hb hr hlocks hH hS (Nat.le_refl _) (Nat.le_refl _) (⟨by rw [flw_1 h18 c76]; first | (rw [if_pos c22]; done) | (rw [if_neg c22]; done), rfl⟩) dX3_flowOut_85
      · skip
        refine lv_aload_n hx hb dX3_flowOut_25 rfl (lv_at hl 1 rfl) ?_
        refine fg_X0_size (i := i) (by first | assumption | omega) hx hb hts hown hE hP q_560 dX3_flowOut_26 ?_
        refine lv_i2l (v := (eZ z i).toInt64) hx hb dX3_flowOut_29 rfl ?_
        refine lv_aload_n hx hb dX3_flowOut_30 rfl (lv_at hl 2 rfl) ?_
        refine fg_X3_equations hx hb hts hown hE hP q_105 dX3_flowOut_31 ?_
        refine xw_callV (C := "NetlistBench$Equations") (n := 0) [] (c_X1_lower l hP (by omega)) hx hb hml hown hts hE hS (xw_recv hE hP (6, 0) rfl rfl) rfl rfl q_25 q_342 q_345 q_343 q_344 (by decide) rfl ⟨by rw [hRf]; decide, by rw [hRl]; decide⟩ hl.1 rfl (Nat.le_of_ble_eq_true rfl) dX3_flowOut_34 ⟨by rw [hRc]; decide, by rw [hRs]; decide⟩ (fun v H1 locs hp hS => ?_)
        obtain ⟨hv, hh⟩ := hp; subst hv; subst hh
        refine lv_lmul hx hb dX3_flowOut_37 ?_
        refine lv_goto (tgt := 70) hx hb dX3_flowOut_38 (by decide) ?_
        refine lv_lstore_n (lv' := [(3, .long (((eZ z i).toInt64) * (mi (2 ^ n - 1)))), (2, .int (nI j)), (1, .ref (ad (13, i))), (0, .ref (ad (0, 0)))]) hx hb dX3_flowOut_70 rfl hl (by decide) rfl (fun ls hl => ?_)
        refine lv_iload_n hx hb dX3_flowOut_71 rfl (lv_at hl 1 rfl) ?_
        refine lv_aload_n hx hb dX3_flowOut_72 rfl (lv_at hl 2 rfl) ?_
        refine fg_X0_a (i := i) (by first | assumption | omega) hx hb hts hown hE hP q_556 dX3_flowOut_73 ?_
        refine xt_i (w := nI (cA z i)) (hw.a hi) ?_
        refine lv_icmp_ne (tgt := 83) hx hb dX3_flowOut_76 (by decide) (fun c76 => ?_) (fun c76 => ?_)
        · skip
          have c76 := ni_ne (a := j) (b := (cA z i)) (by omega) (by omega) c76
          refine lv_lload_n hx hb dX3_flowOut_83 rfl (lv_at hl 0 rfl) ?_
          refine lv_lneg hx hb dX3_flowOut_84 ?_
          exact xe_lret hQ hx hb hr hlocks hH hS (Nat.le_refl _) (Nat.le_refl _) (⟨by rw [flw_2 h18 c76]; first | (rw [if_pos c22]; done) | (rw [if_neg c22]; done), rfl⟩) dX3_flowOut_85
        · skip
          have c76 := ni_eq (a := j) (b := (cA z i)) (by omega) (by omega) c76
          refine lv_lload_n hx hb dX3_flowOut_79 rfl (lv_at hl 0 rfl) ?_
          refine lv_goto (tgt := 85) hx hb dX3_flowOut_80 (by decide) ?_
          exact xe_lret hQ hx hb hr hlocks hH hS (Nat.le_refl _) (Nat.le_refl _) (⟨by rw [flw_1 h18 c76]; first | (rw [if_pos c22]; done) | (rw [if_neg c22]; done), rfl⟩) dX3_flowOut_85
    exact K18 (fun h => by first | exact h.1 c5 | exact h.2 c13) _ _ hS (lv_sub hl [2, 1, 0] rfl)
  · skip
    have c5 := ni_ne (a := j) (b := (cA z i)) (by omega) (by omega) c5
    refine lv_iload_n hx hb dX3_flowOut_8 rfl (lv_at hl 2 rfl) ?_
    refine lv_aload_n hx hb dX3_flowOut_9 rfl (lv_at hl 1 rfl) ?_
    refine fg_X0_b (i := i) (by first | assumption | omega) hx hb hts hown hE hP q_558 dX3_flowOut_10 ?_
    refine xt_i (w := nI (cB z i)) (hw.b hi) ?_
    refine lv_icmp_eq (tgt := 18) hx hb dX3_flowOut_13 (by decide) (fun c13 => ?_) (fun c13 => ?_)
    · skip
      have c13 := ni_eq (a := j) (b := (cB z i)) (by omega) (by omega) c13
      have K18 : (¬ (¬ j = cA z i ∧ ¬ j = cB z i)) → ∀ (locs : List Loc) (ls : Array Slot), va_S A Hs Hs locs → lv_has ls 5 [(2, .int (nI j)), (1, .ref (ad (13, i))), (0, .ref (ad (0, 0)))] → W p l e R s m args below meth c Hs locs 0 0 Q (F0 m 18 ls []) := by
        intro  h18 locs ls hS hl
        refine lv_aload_n hx hb dX3_flowOut_18 rfl (lv_at hl 1 rfl) ?_
        refine fg_X0_isSource (i := i) (by first | assumption | omega) hx hb hts hown hE hP q_554 dX3_flowOut_19 ?_
        refine lv_if_eq (tgt := 41) hx hb dX3_flowOut_22 (by decide) (fun c22 => ?_) (fun c22 => ?_)
        · skip
          refine lv_aload_n hx hb dX3_flowOut_41 rfl (lv_at hl 1 rfl) ?_
          refine fg_X0_size (i := i) (by first | assumption | omega) hx hb hts hown hE hP q_560 dX3_flowOut_42 ?_
          refine lv_i2l (v := (eZ z i).toInt64) hx hb dX3_flowOut_45 rfl ?_
          refine lv_aload_n hx hb dX3_flowOut_46 rfl (lv_at hl 2 rfl) ?_
          refine fg_X3_equations hx hb hts hown hE hP q_105 dX3_flowOut_47 ?_
          refine lv_aload_n hx hb dX3_flowOut_50 rfl (lv_at hl 1 rfl) ?_
          refine fg_X0_a (i := i) (by first | assumption | omega) hx hb hts hown hE hP q_556 dX3_flowOut_51 ?_
          refine xt_i (w := nI (cA z i)) (hw.a hi) ?_
          refine xw_callV (C := "NetlistBench$Equations") (n := 1) [.int (nI (cA z i))] (c_X1_upper l hP (by omega) hpl (by omega)) hx hb hml hown hts hE hS (xw_recv hE hP (6, 0) rfl rfl) rfl rfl q_25 q_346 q_349 q_347 q_348 (by decide) rfl ⟨by rw [hRf]; decide, by rw [hRl]; decide⟩ hl.1 rfl (Nat.le_of_ble_eq_true rfl) dX3_flowOut_54 ⟨by rw [hRc]; decide, by rw [hRs]; decide⟩ (fun v H1 locs hp hS => ?_)
          obtain ⟨hv, hh⟩ := hp; subst hv; subst hh
          refine lv_aload_n hx hb dX3_flowOut_57 rfl (lv_at hl 2 rfl) ?_
          refine fg_X3_equations hx hb hts hown hE hP q_105 dX3_flowOut_58 ?_
          refine lv_aload_n hx hb dX3_flowOut_61 rfl (lv_at hl 1 rfl) ?_
          refine fg_X0_b (i := i) (by first | assumption | omega) hx hb hts hown hE hP q_558 dX3_flowOut_62 ?_
          refine xt_i (w := nI (cB z i)) (hw.b hi) ?_
          refine xw_callV (C := "NetlistBench$Equations") (n := 1) [.int (nI (cB z i))] (c_X1_upper l hP (by omega) hpl (by omega)) hx hb hml hown hts hE hS (xw_recv hE hP (6, 0) rfl rfl) rfl rfl q_25 q_346 q_349 q_347 q_348 (by decide) rfl ⟨by rw [hRf]; decide, by rw [hRl]; decide⟩ hl.1 rfl (Nat.le_of_ble_eq_true rfl) dX3_flowOut_65 ⟨by rw [hRc]; decide, by rw [hRs]; decide⟩ (fun v H1 locs hp hS => ?_)
          obtain ⟨hv, hh⟩ := hp; subst hv; subst hh
          refine lv_lsub hx hb dX3_flowOut_68 ?_
          refine lv_lmul hx hb dX3_flowOut_69 ?_
          refine lv_lstore_n (lv' := [(3, .long (((eZ z i).toInt64) * ((upV pl kn mi n (cA z i)) - (upV pl kn mi n (cB z i))))), (2, .int (nI j)), (1, .ref (ad (13, i))), (0, .ref (ad (0, 0)))]) hx hb dX3_flowOut_70 rfl hl (by decide) rfl (fun ls hl => ?_)
          refine lv_iload_n hx hb dX3_flowOut_71 rfl (lv_at hl 1 rfl) ?_
          refine lv_aload_n hx hb dX3_flowOut_72 rfl (lv_at hl 2 rfl) ?_
          refine fg_X0_a (i := i) (by first | assumption | omega) hx hb hts hown hE hP q_556 dX3_flowOut_73 ?_
          refine xt_i (w := nI (cA z i)) (hw.a hi) ?_
          refine lv_icmp_ne (tgt := 83) hx hb dX3_flowOut_76 (by decide) (fun c76 => ?_) (fun c76 => ?_)
          · skip
            have c76 := ni_ne (a := j) (b := (cA z i)) (by omega) (by omega) c76
            refine lv_lload_n hx hb dX3_flowOut_83 rfl (lv_at hl 0 rfl) ?_
            refine lv_lneg hx hb dX3_flowOut_84 ?_
            exact xe_lret hQ hx hb hr hlocks hH hS (Nat.le_refl _) (Nat.le_refl _) (⟨by rw [flw_2 h18 c76]; first | (rw [if_pos c22]; done) | (rw [if_neg c22]; done), rfl⟩) dX3_flowOut_85
          · skip
            have c76 := ni_eq (a := j) (b := (cA z i)) (by omega) (by omega) c76
            refine lv_lload_n hx hb dX3_flowOut_79 rfl (lv_at hl 0 rfl) ?_
            refine lv_goto (tgt := 85) hx hb dX3_flowOut_80 (by decide) ?_
            exact xe_lret hQ hx hb hr hlocks hH hS (Nat.le_refl _) (Nat.le_refl _) (⟨by rw [flw_1 h18 c76]; first | (rw [if_pos c22]; done) | (rw [if_neg c22]; done), rfl⟩) dX3_flowOut_85
        · skip
          refine lv_aload_n hx hb dX3_flowOut_25 rfl (lv_at hl 1 rfl) ?_
          refine fg_X0_size (i := i) (by first | assumption | omega) hx hb hts hown hE hP q_560 dX3_flowOut_26 ?_
          refine lv_i2l (v := (eZ z i).toInt64) hx hb dX3_flowOut_29 rfl ?_
          refine lv_aload_n hx hb dX3_flowOut_30 rfl (lv_at hl 2 rfl) ?_
          refine fg_X3_equations hx hb hts hown hE hP q_105 dX3_flowOut_31 ?_
          refine xw_callV (C := "NetlistBench$Equations") (n := 0) [] (c_X1_lower l hP (by omega)) hx hb hml hown hts hE hS (xw_recv hE hP (6, 0) rfl rfl) rfl rfl q_25 q_342 q_345 q_343 q_344 (by decide) rfl ⟨by rw [hRf]; decide, by rw [hRl]; decide⟩ hl.1 rfl (Nat.le_of_ble_eq_true rfl) dX3_flowOut_34 ⟨by rw [hRc]; decide, by rw [hRs]; decide⟩ (fun v H1 locs hp hS => ?_)
          obtain ⟨hv, hh⟩ := hp; subst hv; subst hh
          refine lv_lmul hx hb dX3_flowOut_37 ?_
          refine lv_goto (tgt := 70) hx hb dX3_flowOut_38 (by decide) ?_
          refine lv_lstore_n (lv' := [(3, .long (((eZ z i).toInt64) * (mi (2 ^ n - 1)))), (2, .int (nI j)), (1, .ref (ad (13, i))), (0, .ref (ad (0, 0)))]) hx hb dX3_flowOut_70 rfl hl (by decide) rfl (fun ls hl => ?_)
          refine lv_iload_n hx hb dX3_flowOut_71 rfl (lv_at hl 1 rfl) ?_
          refine lv_aload_n hx hb dX3_flowOut_72 rfl (lv_at hl 2 rfl) ?_
          refine fg_X0_a (i := i) (by first | assumption | omega) hx hb hts hown hE hP q_556 dX3_flowOut_73 ?_
          refine xt_i (w := nI (cA z i)) (hw.a hi) ?_
          refine lv_icmp_ne (tgt := 83) hx hb dX3_flowOut_76 (by decide) (fun c76 => ?_) (fun c76 => ?_)
          · skip
            have c76 := ni_ne (a := j) (b := (cA z i)) (by omega) (by omega) c76
            refine lv_lload_n hx hb dX3_flowOut_83 rfl (lv_at hl 0 rfl) ?_
            refine lv_lneg hx hb dX3_flowOut_84 ?_
            exact xe_lret hQ hx hb hr hlocks hH hS (Nat.le_refl _) (Nat.le_refl _) (⟨by rw [flw_2 h18 c76]; first | (rw [if_pos c22]; done) | (rw [if_neg c22]; done), rfl⟩) dX3_flowOut_85
          · skip
            have c76 := ni_eq (a := j) (b := (cA z i)) (by omega) (by omega) c76
            refine lv_lload_n hx hb dX3_flowOut_79 rfl (lv_at hl 0 rfl) ?_
            refine lv_goto (tgt := 85) hx hb dX3_flowOut_80 (by decide) ?_
            exact xe_lret hQ hx hb hr hlocks hH hS (Nat.le_refl _) (Nat.le_refl _) (⟨by rw [flw_1 h18 c76]; first | (rw [if_pos c22]; done) | (rw [if_neg c22]; done), rfl⟩) dX3_flowOut_85
      exact K18 (fun h => by first | exact h.1 c5 | exact h.2 c13) _ _ hS (lv_sub hl [2, 1, 0] rfl)
    · skip
      have c13 := ni_ne (a := j) (b := (cB z i)) (by omega) (by omega) c13
      refine lv_lconst (v := 0) hx hb dX3_flowOut_16 (by decide) ?_
      exact xe_lret hQ hx hb hr hlocks hH hS (Nat.le_refl _) (Nat.le_refl _) (⟨by rw [flw_0 ⟨c5, c13⟩], rfl⟩) dX3_flowOut_17

set_option maxHeartbeats 4000000 in
set_option maxRecDepth 100000 in
theorem c_X3_firstToggleBehind (l : Launch) {D : va_G} {y : Nat → ClassId} {A : Nat → Prop} {ad : xL → Nat} {bl : xM} {z : xC} {g : Nat → Int32} {pl : Nat → Int32} {kn : Nat → Int64} {rw : Nat → Nat → Int64} {mi : Nat → Int64} {un : Int32} {fR fO : Nat → Nat → Option va_E} {Hs : Heap} (hP : xW D A ad (wU (wB y ad bl z g pl kn rw mi un) fR fO) Hs) (hz : bOk bl z) (t : Int32) : Met l yX3_firstToggleBehind (.code yX3_firstToggleBehind cX3_firstToggleBehind 5 (some .int) :: WG) { frames := 3, cells := 0, slots := 0, locals := 64 } (xPc [.ref (ad (0, 0)), .int t] D y Hs) (xQ (fun v H1 => v = some (.int (ftS z t (nE z))) ∧ Hs = H1) A) 0 0 A := by
  refine xM_go (by decide) (Nat.le_of_ble_eq_true rfl) (fun p e s m args below meth c ls R Q hx hb hr hlocks hml hown hts hH hE hnm hRf hRl hRc hRs hQ hS hl => ?_)
  have hRf : R.frames = 3 := hRf
  have hRl : R.locals = 64 := hRl
  have hRc : R.cells = 0 := hRc
  have hRs : R.slots = 0 := hRs
  have hl : lv_has ls 5 [(0, .ref (ad (0, 0))), (1, .int t)] := hl
  have hw := hz.w
  have hN := hw.N
  have hE20 := hw.E
  refine lv_iconst (v := (-1)) hx hb dX3_firstToggleBehind_0 (by decide) ?_
  refine lv_istore_n (lv' := [(2, .int ((-1))), (0, .ref (ad (0, 0))), (1, .int t)]) hx hb dX3_firstToggleBehind_1 rfl hl (by decide) rfl (fun ls hl => ?_)
  refine lv_iconst (v := nI 0) hx hb dX3_firstToggleBehind_2 (by decide) ?_
  refine lv_istore_n (lv' := [(3, .int (nI 0)), (2, .int ((-1))), (0, .ref (ad (0, 0))), (1, .int t)]) hx hb dX3_firstToggleBehind_3 rfl hl (by decide) rfl (fun ls hl => ?_)
  have K4 : ∀ (nn : Nat), ∀ (i : Nat), (i ≤ nE z) → nE z - i < nn → ∀ (locs : List Loc) (ls : Array Slot), va_S A Hs Hs locs → lv_has ls 5 [(3, .int (nI i)), (2, .int (ftS z t i)), (1, .int t), (0, .ref (ad (0, 0)))] → W p l e R s m args below meth c Hs locs 0 0 Q (F0 m 4 ls []) := by
    intro nn
    induction nn with
    | zero => intro i hi h; exact absurd h (Nat.not_lt_zero _)
    | succ nn ih4 =>
      intro i hi hn4 locs ls hS hl
      refine lv_iload_n hx hb dX3_firstToggleBehind_4 rfl (lv_at hl 0 rfl) ?_
      refine lv_aload_n hx hb dX3_firstToggleBehind_5 rfl (lv_at hl 3 rfl) ?_
      refine fg_X3_elements hx hb hts hown hE hP q_103 dX3_firstToggleBehind_6 ?_
      refine xw_callV (C := "java/util/ArrayList") (n := 0) [] (c_size_elements l hP ) hx hb hml hown hts hE hS (xw_recv hE hP (3, 0) rfl rfl) rfl rfl q_24 q_123 q_126 q_124 q_125 (by decide) rfl ⟨by rw [hRf]; decide, by rw [hRl]; decide⟩ hl.1 rfl (Nat.le_of_ble_eq_true rfl) dX3_firstToggleBehind_9 ⟨by rw [hRc]; decide, by rw [hRs]; decide⟩ (fun v H1 locs hp hS => ?_)
      obtain ⟨hv, hh⟩ := hp; subst hv; subst hh
      refine lv_icmp_ge (tgt := 56) hx hb dX3_firstToggleBehind_12 (by decide) (fun c12 => ?_) (fun c12 => ?_)
      · skip
        have c12 := ni_le (a := (nE z)) (b := i) (by omega) (by omega) c12
        refine lv_iload_n hx hb dX3_firstToggleBehind_56 rfl (lv_at hl 1 rfl) ?_
        exact xe_iret hQ hx hb hr hlocks hH hS (Nat.le_refl _) (Nat.le_refl _) (⟨by rw [show nE z = i by omega], rfl⟩) dX3_firstToggleBehind_57
      · skip
        have c12 := ni_nle (a := (nE z)) (b := i) (by omega) (by omega) c12
        refine lv_aload_n hx hb dX3_firstToggleBehind_15 rfl (lv_at hl 3 rfl) ?_
        refine fg_X3_elements hx hb hts hown hE hP q_103 dX3_firstToggleBehind_16 ?_
        refine lv_iload_n hx hb dX3_firstToggleBehind_19 rfl (lv_at hl 0 rfl) ?_
        refine xw_callV (C := "java/util/ArrayList") (n := 1) [.int (nI i)] (c_get_elements l hP hz (by omega)) hx hb hml hown hts hE hS (xw_recv hE hP (3, 0) rfl rfl) rfl rfl q_24 q_195 q_198 q_196 q_197 (by decide) rfl ⟨by rw [hRf]; decide, by rw [hRl]; decide⟩ hl.1 rfl (Nat.le_of_ble_eq_true rfl) dX3_firstToggleBehind_20 ⟨by rw [hRc]; decide, by rw [hRs]; decide⟩ (fun v H1 locs hp hS => ?_)
        obtain ⟨hv, hh⟩ := hp; subst hv; subst hh
        refine xc_el (i := i) hx hb hts hown hE hP (by first | assumption | omega) q_209 dX3_firstToggleBehind_23 ?_
        refine lv_iload_n hx hb dX3_firstToggleBehind_26 rfl (lv_at hl 2 rfl) ?_
        refine xw_callV (C := "NetlistBench$Element") (n := 1) [.int t] (c_X0_toggleBehind l hP hw (by omega) t) hx hb hml hown hts hE hS (xr_el hE hP (by first | assumption | omega)) rfl rfl q_40 q_395 q_398 q_396 q_397 (by decide) rfl ⟨by rw [hRf]; decide, by rw [hRl]; decide⟩ hl.1 rfl (Nat.le_of_ble_eq_true rfl) dX3_firstToggleBehind_27 ⟨by rw [hRc]; decide, by rw [hRs]; decide⟩ (fun v H1 locs hp hS => ?_)
        obtain ⟨hv, hh⟩ := hp; subst hv; subst hh
        refine lv_istore (lv' := [(4, .int (tgb z i t)), (3, .int (nI i)), (2, .int (ftS z t i)), (1, .int t), (0, .ref (ad (0, 0)))]) hx hb dX3_firstToggleBehind_30 hl (by decide) rfl (fun ls hl => ?_)
        refine lv_iload hx hb dX3_firstToggleBehind_32 (lv_at hl 0 rfl) ?_
        refine xt_i (w := tgb z i t) (rfl) ?_
        refine lv_if_lt (tgt := 50) hx hb dX3_firstToggleBehind_34 (by decide) (fun c34 => ?_) (fun c34 => ?_)
        · skip
          rw [show ftS z t i = ftS z t (i + 1) from (ftS_0 c34).symm] at hl
          refine lv_iinc (v := nI (i + 1)) (lv' := [(3, .int (nI (i + 1))), (4, .int (tgb z i t)), (2, .int (ftS z t (i + 1))), (1, .int t), (0, .ref (ad (0, 0)))]) hx hb dX3_firstToggleBehind_50 hl (k := 1) rfl (nI_1 _) (by decide) rfl (fun ls hl => ?_)
          refine lv_goto (tgt := 4) hx hb dX3_firstToggleBehind_53 (by decide) ?_
          exact ih4 (i + 1) (by omega) (by omega) _ _ hS (lv_sub hl [0, 2, 3, 4] rfl)
        · skip
          refine lv_iload_n hx hb dX3_firstToggleBehind_37 rfl (lv_at hl 2 rfl) ?_
          refine lv_if_lt (tgt := 47) hx hb dX3_firstToggleBehind_38 (by decide) (fun c38 => ?_) (fun c38 => ?_)
          · skip
            refine lv_iload hx hb dX3_firstToggleBehind_47 (lv_at hl 0 rfl) ?_
            refine lv_istore_n (lv' := [(2, .int (tgb z i t)), (4, .int (tgb z i t)), (3, .int (nI i)), (1, .int t), (0, .ref (ad (0, 0)))]) hx hb dX3_firstToggleBehind_49 rfl hl (by decide) rfl (fun ls hl => ?_)
            rw [show tgb z i t = ftS z t (i + 1) from by first | exact (ftS_1 c34 c38).symm | exact (ftS_3 c34 c38 c44).symm] at hl
            refine lv_iinc (v := nI (i + 1)) (lv' := [(3, .int (nI (i + 1))), (2, .int (ftS z t (i + 1))), (4, .int (ftS z t (i + 1))), (1, .int t), (0, .ref (ad (0, 0)))]) hx hb dX3_firstToggleBehind_50 hl (k := 2) rfl (nI_1 _) (by decide) rfl (fun ls hl => ?_)
            refine lv_goto (tgt := 4) hx hb dX3_firstToggleBehind_53 (by decide) ?_
            exact ih4 (i + 1) (by omega) (by omega) _ _ hS (lv_sub hl [0, 1, 3, 4] rfl)
          · skip
            refine lv_iload hx hb dX3_firstToggleBehind_41 (lv_at hl 0 rfl) ?_
            refine lv_iload_n hx hb dX3_firstToggleBehind_43 rfl (lv_at hl 2 rfl) ?_
            refine lv_icmp_ge (tgt := 50) hx hb dX3_firstToggleBehind_44 (by decide) (fun c44 => ?_) (fun c44 => ?_)
            · skip
              rw [show ftS z t i = ftS z t (i + 1) from (ftS_2 c34 c38 c44).symm] at hl
              refine lv_iinc (v := nI (i + 1)) (lv' := [(3, .int (nI (i + 1))), (4, .int (tgb z i t)), (2, .int (ftS z t (i + 1))), (1, .int t), (0, .ref (ad (0, 0)))]) hx hb dX3_firstToggleBehind_50 hl (k := 1) rfl (nI_1 _) (by decide) rfl (fun ls hl => ?_)
              refine lv_goto (tgt := 4) hx hb dX3_firstToggleBehind_53 (by decide) ?_
              exact ih4 (i + 1) (by omega) (by omega) _ _ hS (lv_sub hl [0, 2, 3, 4] rfl)
            · skip
              refine lv_iload hx hb dX3_firstToggleBehind_47 (lv_at hl 0 rfl) ?_
              refine lv_istore_n (lv' := [(2, .int (tgb z i t)), (4, .int (tgb z i t)), (3, .int (nI i)), (1, .int t), (0, .ref (ad (0, 0)))]) hx hb dX3_firstToggleBehind_49 rfl hl (by decide) rfl (fun ls hl => ?_)
              rw [show tgb z i t = ftS z t (i + 1) from by first | exact (ftS_1 c34 c38).symm | exact (ftS_3 c34 c38 c44).symm] at hl
              refine lv_iinc (v := nI (i + 1)) (lv' := [(3, .int (nI (i + 1))), (2, .int (ftS z t (i + 1))), (4, .int (ftS z t (i + 1))), (1, .int t), (0, .ref (ad (0, 0)))]) hx hb dX3_firstToggleBehind_50 hl (k := 2) rfl (nI_1 _) (by decide) rfl (fun ls hl => ?_)
              refine lv_goto (tgt := 4) hx hb dX3_firstToggleBehind_53 (by decide) ?_
              exact ih4 (i + 1) (by omega) (by omega) _ _ hS (lv_sub hl [0, 1, 3, 4] rfl)
  exact K4 _ 0 (by omega) (Nat.lt_succ_self _) _ _ hS (lv_sub hl [0, 1, 3, 2] rfl)
