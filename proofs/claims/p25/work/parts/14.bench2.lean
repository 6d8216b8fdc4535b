set_option maxHeartbeats 4000000 in
set_option maxRecDepth 100000 in
theorem c_X3_isAfloat (l : Launch) {D : va_G} {y : Nat → ClassId} {A : Nat → Prop} {ad : xL → Nat} {bl : xM} {z : xC} {g : Nat → Int32} {pl : Nat → Int32} {kn : Nat → Int64} {rw : Nat → Nat → Int64} {mi : Nat → Int64} {un : Int32} {fR fO : Nat → Nat → Option va_E} {Hs : Heap} (hP : xW D A ad (wU (wB y ad bl z g pl kn rw mi un) fR fO) Hs) {m8 : Nat → Nat} (hg : g = fun j => nI (m8 j)) (hm : ∀ j, j < 8 → m8 j < 256) (hz : bOk bl z) {j : Nat} (hj : j < 8) : Met l yX3_isAfloat (.code yX3_isAfloat cX3_isAfloat 3 (some .boolean) :: WG) { frames := 3, cells := 0, slots := 0, locals := 64 } (xPc [.ref (ad (0, 0)), .int (nI j)] D y Hs) (xQ (fun v H1 => v = some (.int (aflI z (m8 j))) ∧ Hs = H1) A) 0 0 A := by
  refine xM_go (by decide) (Nat.le_of_ble_eq_true rfl) (fun p e s m args below meth c ls R Q hx hb hr hlocks hml hown hts hH hE hnm hRf hRl hRc hRs hQ hS hl => ?_)
  have hRf : R.frames = 3 := hRf
  have hRl : R.locals = 64 := hRl
  have hRc : R.cells = 0 := hRc
  have hRs : R.slots = 0 := hRs
  have hl : lv_has ls 3 [(0, .ref (ad (0, 0))), (1, .int (nI j))] := hl
  have hw := hz.w
  have hN := hw.N
  have hE20 := hw.E
  subst hg
  have hmj := hm j hj
  refine lv_iconst (v := nI 0) hx hb dX3_isAfloat_0 (by decide) ?_
  refine lv_istore_n (lv' := [(2, .int (nI 0)), (0, .ref (ad (0, 0))), (1, .int (nI j))]) hx hb dX3_isAfloat_1 rfl hl (by decide) rfl (fun ls hl => ?_)
  have K2 : ∀ (nn : Nat), ∀ (o : Nat), (o ≤ nN z) → (aflB z (m8 j) o = true) → nN z - o < nn → ∀ (locs : List Loc) (ls : Array Slot), va_S A Hs Hs locs → lv_has ls 3 [(2, .int (nI o)), (1, .int (nI j)), (0, .ref (ad (0, 0)))] → W p l e R s m args below meth c Hs locs 0 0 Q (F0 m 2 ls []) := by
    intro nn
    induction nn with
    | zero => intro o ho hf h; exact absurd h (Nat.not_lt_zero _)
    | succ nn ih2 =>
      intro o ho hf hn2 locs ls hS hl
      refine lv_iload_n hx hb dX3_isAfloat_2 rfl (lv_at hl 0 rfl) ?_
      refine lv_aload_n hx hb dX3_isAfloat_3 rfl (lv_at hl 2 rfl) ?_
      refine fg_X3_nodes hx hb hts hown hE hP q_102 dX3_isAfloat_4 ?_
      refine xw_callV (C := "java/util/ArrayList") (n := 0) [] (c_size_nodes l hP ) hx hb hml hown hts hE hS (xw_recv hE hP (1, 0) rfl rfl) rfl rfl q_24 q_123 q_126 q_124 q_125 (by decide) rfl ⟨by rw [hRf]; decide, by rw [hRl]; decide⟩ hl.1 rfl (Nat.le_of_ble_eq_true rfl) dX3_isAfloat_7 ⟨by rw [hRc]; decide, by rw [hRs]; decide⟩ (fun v H1 locs hp hS => ?_)
      obtain ⟨hv, hh⟩ := hp; subst hv; subst hh
      refine lv_icmp_ge (tgt := 51) hx hb dX3_isAfloat_10 (by decide) (fun c10 => ?_) (fun c10 => ?_)
      · skip
        have c10 := ni_le (a := (nN z)) (b := o) (by omega) (by omega) c10
        refine lv_iconst (v := nI 1) hx hb dX3_isAfloat_51 (by decide) ?_
        exact xe_zret hQ hx hb hr hlocks hH hS (by first | assumption | decide | omega) (Nat.le_refl _) (Nat.le_refl _) (⟨by rw [aflI, show nN z = o by omega, hf]; rfl, rfl⟩) dX3_isAfloat_52
      · skip
        have c10 := ni_nle (a := (nN z)) (b := o) (by omega) (by omega) c10
        refine lv_aload_n hx hb dX3_isAfloat_13 rfl (lv_at hl 2 rfl) ?_
        refine fg_X3_nodes hx hb hts hown hE hP q_102 dX3_isAfloat_14 ?_
        refine lv_iload_n hx hb dX3_isAfloat_17 rfl (lv_at hl 0 rfl) ?_
        refine xw_callV (C := "java/util/ArrayList") (n := 1) [.int (nI o)] (c_get_nodes l hP hz (by omega)) hx hb hml hown hts hE hS (xw_recv hE hP (1, 0) rfl rfl) rfl rfl q_24 q_195 q_198 q_196 q_197 (by decide) rfl ⟨by rw [hRf]; decide, by rw [hRl]; decide⟩ hl.1 rfl (Nat.le_of_ble_eq_true rfl) dX3_isAfloat_18 ⟨by rw [hRc]; decide, by rw [hRs]; decide⟩ (fun v H1 locs hp hS => ?_)
        obtain ⟨hv, hh⟩ := hp; subst hv; subst hh
        refine xc_nd (i := o) hx hb hts hown hE hP (by first | assumption | omega) q_266 dX3_isAfloat_21 ?_
        refine fg_X2_isRail (i := o) (by first | assumption | omega) hx hb hts hown hE hP q_471 dX3_isAfloat_24 ?_
        refine lv_if_eq (tgt := 45) hx hb dX3_isAfloat_27 (by decide) (fun c27 => ?_) (fun c27 => ?_)
        · skip
          refine lv_iinc (v := nI (o + 1)) (lv' := [(2, .int (nI (o + 1))), (1, .int (nI j)), (0, .ref (ad (0, 0)))]) hx hb dX3_isAfloat_45 hl (k := 0) rfl (nI_1 _) (by decide) rfl (fun ls hl => ?_)
          refine lv_goto (tgt := 2) hx hb dX3_isAfloat_48 (by decide) ?_
          exact ih2 (o + 1) (by omega) (by first | exact aflB_s1 hf (Or.inl c27) | exact aflB_s1 hf (Or.inr c40)) (by omega) _ _ hS (lv_sub hl [0, 1, 2] rfl)
        · skip
          refine lv_aload_n hx hb dX3_isAfloat_30 rfl (lv_at hl 2 rfl) ?_
          refine fg_X3_groups hx hb hts hown hE hP q_104 dX3_isAfloat_31 ?_
          refine lv_iload_n hx hb dX3_isAfloat_34 rfl (lv_at hl 1 rfl) ?_
          refine al_groups hx hb hE hP (j := j) (by omega) dX3_isAfloat_35 ?_
          refine xt_i (w := nI (m8 j)) (rfl) ?_
          refine lv_iload_n hx hb dX3_isAfloat_36 rfl (lv_at hl 0 rfl) ?_
          refine xw_callS (n := 2) [.int (nI (m8 j)), .int (nI o)] (c_X3_contains l (nI (m8 j)) o) hx hb hml hown hts hE hS rfl rfl q_21 q_259 q_261 q_260 (by decide) rfl ⟨by rw [hRf]; decide, by rw [hRl]; decide⟩ hl.1 rfl (Nat.le_of_ble_eq_true rfl) dX3_isAfloat_37 ⟨by rw [hRc]; decide, by rw [hRs]; decide⟩ (fun v H1 locs hp hS => ?_)
          obtain ⟨hv, hh⟩ := hp; subst hv; subst hh
          refine lv_if_eq (tgt := 45) hx hb dX3_isAfloat_40 (by decide) (fun c40 => ?_) (fun c40 => ?_)
          · skip
            have c40 := m_bitT hmj (by omega) c40
            refine lv_iinc (v := nI (o + 1)) (lv' := [(2, .int (nI (o + 1))), (1, .int (nI j)), (0, .ref (ad (0, 0)))]) hx hb dX3_isAfloat_45 hl (k := 0) rfl (nI_1 _) (by decide) rfl (fun ls hl => ?_)
            refine lv_goto (tgt := 2) hx hb dX3_isAfloat_48 (by decide) ?_
            exact ih2 (o + 1) (by omega) (by first | exact aflB_s1 hf (Or.inl c27) | exact aflB_s1 hf (Or.inr c40)) (by omega) _ _ hS (lv_sub hl [0, 1, 2] rfl)
          · skip
            have c40 := m_bitF hmj (by omega) c40
            refine lv_iconst (v := nI 0) hx hb dX3_isAfloat_43 (by decide) ?_
            exact xe_zret hQ hx hb hr hlocks hH hS (by first | assumption | decide | omega) (Nat.le_refl _) (Nat.le_refl _) (⟨by rw [aflI, aflB_s0 c27 c40 (nN z) (by omega)]; rfl, rfl⟩) dX3_isAfloat_44
  exact K2 _ 0 (by omega) rfl (Nat.lt_succ_self _) _ _ hS (lv_sub hl [0, 2, 1] rfl)

set_option maxHeartbeats 4000000 in
set_option maxRecDepth 100000 in
theorem c_X3_conduct (l : Launch) {D : va_G} {y : Nat → ClassId} {A : Nat → Prop} {ad : xL → Nat} {n : Nat} {bl : xM} {z : xC} {g : Nat → Int32} {pl : Nat → Int32} {kn : Nat → Int64} {rw : Nat → Nat → Int64} {mi : Nat → Int64} {fR fO : Nat → Nat → Option va_E} {Hs : Heap} (hP : xW D A ad (wU (wB y ad bl z g pl kn rw mi (nI n)) fR fO) Hs) (hn : n < 8) (hpl : plOk pl n) (hz : bOk bl z) (t : Int32) : Met l yX3_conduct (.code yX3_conduct cX3_conduct 4 none :: WG) { frames := 3, cells := 0, slots := 0, locals := 64 } (xPc [.ref (ad (0, 0)), .int t] D y Hs) (xQ (fun v H1 => v = none ∧ xW D A ad (wU (wB y ad bl z g pl kn ((cdS z t pl kn n rw (nE z))) mi (nI n)) fR fO) H1) A) 0 0 A := by
  refine xM_go (by decide) (Nat.le_of_ble_eq_true rfl) (fun p e s m args below meth c ls R Q hx hb hr hlocks hml hown hts hH hE hnm hRf hRl hRc hRs hQ hS hl => ?_)
  have hRf : R.frames = 3 := hRf
  have hRl : R.locals = 64 := hRl
  have hRc : R.cells = 0 := hRc
  have hRs : R.slots = 0 := hRs
  have hl : lv_has ls 4 [(0, .ref (ad (0, 0))), (1, .int t)] := hl
  have hw := hz.w
  have hN := hw.N
  have hE20 := hw.E
  refine lv_iconst (v := nI 0) hx hb dX3_conduct_0 (by decide) ?_
  refine lv_istore_n (lv' := [(2, .int (nI 0)), (0, .ref (ad (0, 0))), (1, .int t)]) hx hb dX3_conduct_1 rfl hl (by decide) rfl (fun ls hl => ?_)
  have K2 : ∀ (nn : Nat), ∀ (i : Nat), (i ≤ nE z) → nE z - i < nn → ∀ (H : Heap) (locs : List Loc) (ls : Array Slot), xW D A ad (wU (wB y ad bl z g pl kn ((cdS z t pl kn n rw i)) mi (nI n)) fR fO) H → va_S A Hs H locs → lv_has ls 4 [(2, .int (nI i)), (1, .int t), (0, .ref (ad (0, 0)))] → W p l e R s m args below meth c H locs 0 0 Q (F0 m 2 ls []) := by
    intro nn
    induction nn with
    | zero => intro i hi h; exact absurd h (Nat.not_lt_zero _)
    | succ nn ih2 =>
      intro i hi hn2 H locs ls hP hS hl
      refine lv_iload_n hx hb dX3_conduct_2 rfl (lv_at hl 0 rfl) ?_
      refine lv_aload_n hx hb dX3_conduct_3 rfl (lv_at hl 2 rfl) ?_
      refine fg_X3_elements hx hb hts hown hE hP q_103 dX3_conduct_4 ?_
      refine xw_callV (C := "java/util/ArrayList") (n := 0) [] (c_size_elements l hP ) hx hb hml hown hts hE hS (xw_recv hE hP (3, 0) rfl rfl) rfl rfl q_24 q_123 q_126 q_124 q_125 (by decide) rfl ⟨by rw [hRf]; decide, by rw [hRl]; decide⟩ hl.1 rfl (Nat.le_of_ble_eq_true rfl) dX3_conduct_7 ⟨by rw [hRc]; decide, by rw [hRs]; decide⟩ (fun v H1 locs hp hS => ?_)
      obtain ⟨hv, hh⟩ := hp; subst hv; subst hh
      refine lv_icmp_ge (tgt := 66) hx hb dX3_conduct_10 (by decide) (fun c10 => ?_) (fun c10 => ?_)
      · skip
        have c10 := ni_le (a := (nE z)) (b := i) (by omega) (by omega) c10
        exact xe_vret hQ hx hb hr hlocks hH hS (Nat.le_refl _) (Nat.le_refl _) (⟨rfl, hP.ct (by rw [show i = nE z by omega])⟩) dX3_conduct_66
      · skip
        have c10 := ni_nle (a := (nE z)) (b := i) (by omega) (by omega) c10
        refine lv_aload_n hx hb dX3_conduct_13 rfl (lv_at hl 2 rfl) ?_
        refine fg_X3_elements hx hb hts hown hE hP q_103 dX3_conduct_14 ?_
        refine lv_iload_n hx hb dX3_conduct_17 rfl (lv_at hl 0 rfl) ?_
        refine xw_callV (C := "java/util/ArrayList") (n := 1) [.int (nI i)] (c_get_elements l hP hz (by omega)) hx hb hml hown hts hE hS (xw_recv hE hP (3, 0) rfl rfl) rfl rfl q_24 q_195 q_198 q_196 q_197 (by decide) rfl ⟨by rw [hRf]; decide, by rw [hRl]; decide⟩ hl.1 rfl (Nat.le_of_ble_eq_true rfl) dX3_conduct_18 ⟨by rw [hRc]; decide, by rw [hRs]; decide⟩ (fun v H1 locs hp hS => ?_)
        obtain ⟨hv, hh⟩ := hp; subst hv; subst hh
        refine xc_el (i := i) hx hb hts hown hE hP (by first | assumption | omega) q_209 dX3_conduct_21 ?_
        have ha8 := hw.a8 (i := i) (by omega)
        have hb8 := hw.b8 (i := i) (by omega)
        refine lv_astore_n (lv' := [(3, .ref (ad (13, i))), (2, .int (nI i)), (1, .int t), (0, .ref (ad (0, 0)))]) hx hb dX3_conduct_24 rfl hl (by decide) rfl (fun ls hl => ?_)
        refine lv_aload_n hx hb dX3_conduct_25 rfl (lv_at hl 0 rfl) ?_
        refine fg_X0_isSource (i := i) (by first | assumption | omega) hx hb hts hown hE hP q_554 dX3_conduct_26 ?_
        refine lv_if_ne (tgt := 60) hx hb dX3_conduct_29 (by decide) (fun c29 => ?_) (fun c29 => ?_)
        · skip
          refine lv_iinc (v := nI (i + 1)) (lv' := [(2, .int (nI (i + 1))), (3, .ref (ad (13, i))), (1, .int t), (0, .ref (ad (0, 0)))]) hx hb dX3_conduct_60 hl (k := 1) rfl (nI_1 _) (by decide) rfl (fun ls hl => ?_)
          refine lv_goto (tgt := 2) hx hb dX3_conduct_63 (by decide) ?_
          exact ih2 (i + 1) (by omega) (by omega) _ _ _ (hP.ct (by first | rw [cdS_0 c29] | rw [cdS_1 c29 c37] | rw [cdS_2 c29 c37])) hS (lv_sub hl [0, 2, 3] rfl)
        · skip
          refine lv_aload_n hx hb dX3_conduct_32 rfl (lv_at hl 0 rfl) ?_
          refine lv_iload_n hx hb dX3_conduct_33 rfl (lv_at hl 2 rfl) ?_
          refine xw_callV (C := "NetlistBench$Element") (n := 1) [.int t] (c_X0_runsAt l hP hw (by omega) t) hx hb hml hown hts hE hS (xr_el hE hP (by first | assumption | omega)) rfl rfl q_40 q_246 q_249 q_247 q_248 (by decide) rfl ⟨by rw [hRf]; decide, by rw [hRl]; decide⟩ hl.1 rfl (Nat.le_of_ble_eq_true rfl) dX3_conduct_34 ⟨by rw [hRc]; decide, by rw [hRs]; decide⟩ (fun v H1 locs hp hS => ?_)
          obtain ⟨hv, hh⟩ := hp; subst hv; subst hh
          refine lv_if_eq (tgt := 60) hx hb dX3_conduct_37 (by decide) (fun c37 => ?_) (fun c37 => ?_)
          · skip
            refine lv_iinc (v := nI (i + 1)) (lv' := [(2, .int (nI (i + 1))), (3, .ref (ad (13, i))), (1, .int t), (0, .ref (ad (0, 0)))]) hx hb dX3_conduct_60 hl (k := 1) rfl (nI_1 _) (by decide) rfl (fun ls hl => ?_)
            refine lv_goto (tgt := 2) hx hb dX3_conduct_63 (by decide) ?_
            exact ih2 (i + 1) (by omega) (by omega) _ _ _ (hP.ct (by first | rw [cdS_0 c29] | rw [cdS_1 c29 c37] | rw [cdS_2 c29 c37])) hS (lv_sub hl [0, 2, 3] rfl)
          · skip
            refine lv_aload_n hx hb dX3_conduct_40 rfl (lv_at hl 3 rfl) ?_
            refine fg_X3_equations hx hb hts hown hE hP q_105 dX3_conduct_41 ?_
            refine lv_aload_n hx hb dX3_conduct_44 rfl (lv_at hl 0 rfl) ?_
            refine fg_X0_a (i := i) (by first | assumption | omega) hx hb hts hown hE hP q_556 dX3_conduct_45 ?_
            refine xt_i (w := nI (cA z i)) (hw.a (by omega)) ?_
            refine lv_aload_n hx hb dX3_conduct_48 rfl (lv_at hl 0 rfl) ?_
            refine fg_X0_b (i := i) (by first | assumption | omega) hx hb hts hown hE hP q_558 dX3_conduct_49 ?_
            refine xt_i (w := nI (cB z i)) (hw.b (by omega)) ?_
            refine lv_aload_n hx hb dX3_conduct_52 rfl (lv_at hl 0 rfl) ?_
            refine fg_X0_size (i := i) (by first | assumption | omega) hx hb hts hown hE hP q_560 dX3_conduct_53 ?_
            refine lv_i2l (v := (eZ z i).toInt64) hx hb dX3_conduct_56 rfl ?_
            refine xw_callV (C := "NetlistBench$Equations") (n := 3) [.int (nI (cA z i)), .int (nI (cB z i)), .long ((eZ z i).toInt64)] (c_X1_link l hP hn hpl (by omega) (by omega) ((eZ z i).toInt64)) hx hb hml hown hts hE hS (xw_recv hE hP (6, 0) rfl rfl) rfl rfl q_25 q_311 q_314 q_312 q_313 (by decide) rfl ⟨by rw [hRf]; decide, by rw [hRl]; decide⟩ hl.1 rfl (Nat.le_of_ble_eq_true rfl) dX3_conduct_57 ⟨by rw [hRc]; decide, by rw [hRs]; decide⟩ (fun v H1 locs hp hS => ?_)
            obtain ⟨hv, hP⟩ := hp; subst hv
            generalize H1 = H at hP hS ⊢
            refine lv_iinc (v := nI (i + 1)) (lv' := [(2, .int (nI (i + 1))), (3, .ref (ad (13, i))), (1, .int t), (0, .ref (ad (0, 0)))]) hx hb dX3_conduct_60 hl (k := 1) rfl (nI_1 _) (by decide) rfl (fun ls hl => ?_)
            refine lv_goto (tgt := 2) hx hb dX3_conduct_63 (by decide) ?_
            exact ih2 (i + 1) (by omega) (by omega) _ _ _ (hP.ct (by first | rw [cdS_0 c29] | rw [cdS_1 c29 c37] | rw [cdS_2 c29 c37])) hS (lv_sub hl [0, 2, 3] rfl)
  exact K2 _ 0 (by omega) (Nat.lt_succ_self _) _ _ _ hP hS (lv_sub hl [0, 2, 1] rfl)

set_option maxHeartbeats 4000000 in
set_option maxRecDepth 100000 in
theorem c_X3_settle (l : Launch) {D : va_G} {y : Nat → ClassId} {A : Nat → Prop} {ad : xL → Nat} {bl : xM} {z : xC} {g : Nat → Int32} {pl : Nat → Int32} {kn : Nat → Int64} {rw : Nat → Nat → Int64} {mi : Nat → Int64} {un : Int32} {fR fO : Nat → Nat → Option va_E} {Hs : Heap} (hP : xW D A ad (wU (wB y ad bl z g pl kn rw mi un) fR fO) Hs) (hz : bOk bl z) (t : Int32) : Met l yX3_settle (.code yX3_settle cX3_settle 4 none :: WG) { frames := 4, cells := 0, slots := 0, locals := 87 } (xPc [.ref (ad (0, 0)), .int t] D y Hs) (xQ (fun v H1 => v = none ∧ ∃ mi' : Nat → Int64, miOk mi' (sR z t) (sN z t) ∧ xW D A ad (wU (wB y ad bl z ((sG z t)) ((sP z t)) ((sK z t)) ((sR z t)) mi' ((nI (sN z t)))) fR fO) H1) A) 0 0 A := by
  refine xM_go (by decide) (Nat.le_of_ble_eq_true rfl) (fun p e s m args below meth c ls R Q hx hb hr hlocks hml hown hts hH hE hnm hRf hRl hRc hRs hQ hS hl => ?_)
  have hRf : R.frames = 4 := hRf
  have hRl : R.locals = 87 := hRl
  have hRc : R.cells = 0 := hRc
  have hRs : R.slots = 0 := hRs
  have hl : lv_has ls 4 [(0, .ref (ad (0, 0))), (1, .int t)] := hl
  have hw := hz.w
  have hN := hw.N
  have hE20 := hw.E
  have hn7 := sN_le z t
  refine lv_aload_n hx hb dX3_settle_0 rfl (lv_at hl 0 rfl) ?_
  refine lv_iload_n hx hb dX3_settle_1 rfl (lv_at hl 1 rfl) ?_
  refine xw_callV (C := "NetlistBench") (n := 1) [.int t] (c_X3_group l hP hz t) hx hb hml hown hts hE hS (xw_recv hE hP (0, 0) rfl rfl) rfl rfl q_21 q_242 q_245 q_244 q_3 (by decide) rfl ⟨by rw [hRf]; decide, by rw [hRl]; decide⟩ hl.1 rfl (Nat.le_of_ble_eq_true rfl) dX3_settle_2 ⟨by rw [hRc]; decide, by rw [hRs]; decide⟩ (fun v H1 locs hp hS => ?_)
  obtain ⟨hv, hP⟩ := hp; subst hv
  generalize H1 = H at hP hS ⊢
  refine lv_aload_n hx hb dX3_settle_5 rfl (lv_at hl 0 rfl) ?_
  refine fg_X3_equations hx hb hts hown hE hP q_105 dX3_settle_6 ?_
  refine xw_callV (C := "NetlistBench$Equations") (n := 0) [] (c_X1_clear l hP ) hx hb hml hown hts hE hS (xw_recv hE hP (6, 0) rfl rfl) rfl rfl q_25 q_291 q_294 q_292 q_293 (by decide) rfl ⟨by rw [hRf]; decide, by rw [hRl]; decide⟩ hl.1 rfl (Nat.le_of_ble_eq_true rfl) dX3_settle_9 ⟨by rw [hRc]; decide, by rw [hRs]; decide⟩ (fun v H1 locs hp hS => ?_)
  obtain ⟨hv, hP⟩ := hp; subst hv
  generalize H1 = H at hP hS ⊢
  refine lv_iconst (v := nI 0) hx hb dX3_settle_12 (by decide) ?_
  refine lv_istore_n (lv' := [(2, .int (nI 0)), (0, .ref (ad (0, 0))), (1, .int t)]) hx hb dX3_settle_13 rfl hl (by decide) rfl (fun ls hl => ?_)
  have K14 : ∀ (nn : Nat), ∀ (i : Nat), (i ≤ nN z) → nN z - i < nn → ∀ (H : Heap) (locs : List Loc) (ls : Array Slot), xW D A ad (wU (wB y ad bl z ((sG z t)) ((stS z (gM z t) i).1) ((stS z (gM z t) i).2.1) ((fun _ _ => 0)) mi (nI (stS z (gM z t) i).2.2)) fR fO) H → va_S A Hs H locs → lv_has ls 4 [(2, .int (nI i)), (1, .int t), (0, .ref (ad (0, 0)))] → W p l e R s m args below meth c H locs 0 0 Q (F0 m 14 ls []) := by
    intro nn
    induction nn with
    | zero => intro i hi h; exact absurd h (Nat.not_lt_zero _)
    | succ nn ih14 =>
      intro i hi hn14 H locs ls hP hS hl
      refine lv_iload_n hx hb dX3_settle_14 rfl (lv_at hl 0 rfl) ?_
      refine lv_aload_n hx hb dX3_settle_15 rfl (lv_at hl 2 rfl) ?_
      refine fg_X3_nodes hx hb hts hown hE hP q_102 dX3_settle_16 ?_
      refine xw_callV (C := "java/util/ArrayList") (n := 0) [] (c_size_nodes l hP ) hx hb hml hown hts hE hS (xw_recv hE hP (1, 0) rfl rfl) rfl rfl q_24 q_123 q_126 q_124 q_125 (by decide) rfl ⟨by rw [hRf]; decide, by rw [hRl]; decide⟩ hl.1 rfl (Nat.le_of_ble_eq_true rfl) dX3_settle_19 ⟨by rw [hRc]; decide, by rw [hRs]; decide⟩ (fun v H1 locs hp hS => ?_)
      obtain ⟨hv, hh⟩ := hp; subst hv; subst hh
      refine lv_icmp_ge (tgt := 82) hx hb dX3_settle_22 (by decide) (fun c22 => ?_) (fun c22 => ?_)
      · skip
        have c22 := ni_le (a := (nN z)) (b := i) (by omega) (by omega) c22
        refine lv_iconst (v := nI 0) hx hb dX3_settle_82 (by decide) ?_
        refine lv_istore_n (lv' := [(2, .int (nI 0)), (1, .int t), (0, .ref (ad (0, 0)))]) hx hb dX3_settle_83 rfl hl (by decide) rfl (fun ls hl => ?_)
        have K84 : ∀ (nn : Nat), ∀ (i : Nat), (i ≤ nE z) → nE z - i < nn → ∀ (H : Heap) (locs : List Loc) (ls : Array Slot), xW D A ad (wU (wB y ad bl z ((sG z t)) ((sP z t)) ((sK z t)) ((brS z t (sP z t) (sN z t) i)) mi (nI (sN z t))) fR fO) H → va_S A Hs H locs → lv_has ls 4 [(2, .int (nI i)), (1, .int t), (0, .ref (ad (0, 0)))] → W p l e R s m args below meth c H locs 0 0 Q (F0 m 84 ls []) := by
          intro nn
          induction nn with
          | zero => intro i hi h; exact absurd h (Nat.not_lt_zero _)
          | succ nn ih84 =>
            intro i hi hn84 H locs ls hP hS hl
            refine lv_iload_n hx hb dX3_settle_84 rfl (lv_at hl 0 rfl) ?_
            refine lv_aload_n hx hb dX3_settle_85 rfl (lv_at hl 2 rfl) ?_
            refine fg_X3_elements hx hb hts hown hE hP q_103 dX3_settle_86 ?_
            refine xw_callV (C := "java/util/ArrayList") (n := 0) [] (c_size_elements l hP ) hx hb hml hown hts hE hS (xw_recv hE hP (3, 0) rfl rfl) rfl rfl q_24 q_123 q_126 q_124 q_125 (by decide) rfl ⟨by rw [hRf]; decide, by rw [hRl]; decide⟩ hl.1 rfl (Nat.le_of_ble_eq_true rfl) dX3_settle_89 ⟨by rw [hRc]; decide, by rw [hRs]; decide⟩ (fun v H1 locs hp hS => ?_)
            obtain ⟨hv, hh⟩ := hp; subst hv; subst hh
            refine lv_icmp_ge (tgt := 161) hx hb dX3_settle_92 (by decide) (fun c92 => ?_) (fun c92 => ?_)
            · skip
              have c92 := ni_le (a := (nE z)) (b := i) (by omega) (by omega) c92
              refine lv_aload_n hx hb dX3_settle_161 rfl (lv_at hl 2 rfl) ?_
              refine lv_iload_n hx hb dX3_settle_162 rfl (lv_at hl 1 rfl) ?_
              refine xw_callV (C := "NetlistBench") (n := 1) [.int t] (c_X3_conduct l hP (by omega) (sP_ok z t) hz t) hx hb hml hown hts hE hS (xw_recv hE hP (0, 0) rfl rfl) rfl rfl q_21 q_307 q_310 q_309 q_8 (by decide) rfl ⟨by rw [hRf]; decide, by rw [hRl]; decide⟩ hl.1 rfl (Nat.le_of_ble_eq_true rfl) dX3_settle_163 ⟨by rw [hRc]; decide, by rw [hRs]; decide⟩ (fun v H1 locs hp hS => ?_)
              obtain ⟨hv, hP⟩ := hp; subst hv
              generalize H1 = H at hP hS ⊢
              refine lv_aload_n hx hb dX3_settle_166 rfl (lv_at hl 2 rfl) ?_
              refine fg_X3_equations hx hb hts hown hE hP q_105 dX3_settle_167 ?_
              refine xw_callV (C := "NetlistBench$Equations") (n := 0) [] (c_X1_solve l hP (by omega)) hx hb hml hown hts hE hS (xw_recv hE hP (6, 0) rfl rfl) rfl rfl q_25 q_319 q_322 q_320 q_321 (by decide) rfl ⟨by rw [hRf]; decide, by rw [hRl]; decide⟩ hl.1 rfl (Nat.le_of_ble_eq_true rfl) dX3_settle_170 ⟨by rw [hRc]; decide, by rw [hRs]; decide⟩ (fun v H1 locs hp hS => ?_)
              obtain ⟨hv, mi', hmi, hP⟩ := hp; subst hv
              generalize H1 = H at hP hS ⊢
              exact xe_vret hQ hx hb hr hlocks hH hS (Nat.le_refl _) (Nat.le_refl _) (⟨rfl, mi', (fun M hM => by have h := hmi M hM; rw [show i = nE z by omega] at h; exact h), hP.ct (by rw [show i = nE z by omega]; rfl)⟩) dX3_settle_173
            · skip
              have c92 := ni_nle (a := (nE z)) (b := i) (by omega) (by omega) c92
              refine lv_aload_n hx hb dX3_settle_95 rfl (lv_at hl 2 rfl) ?_
              refine fg_X3_elements hx hb hts hown hE hP q_103 dX3_settle_96 ?_
              refine lv_iload_n hx hb dX3_settle_99 rfl (lv_at hl 0 rfl) ?_
              refine xw_callV (C := "java/util/ArrayList") (n := 1) [.int (nI i)] (c_get_elements l hP hz (by omega)) hx hb hml hown hts hE hS (xw_recv hE hP (3, 0) rfl rfl) rfl rfl q_24 q_195 q_198 q_196 q_197 (by decide) rfl ⟨by rw [hRf]; decide, by rw [hRl]; decide⟩ hl.1 rfl (Nat.le_of_ble_eq_true rfl) dX3_settle_100 ⟨by rw [hRc]; decide, by rw [hRs]; decide⟩ (fun v H1 locs hp hS => ?_)
              obtain ⟨hv, hh⟩ := hp; subst hv; subst hh
              refine xc_el (i := i) hx hb hts hown hE hP (by first | assumption | omega) q_209 dX3_settle_103 ?_
              have ha8 := hw.a8 (i := i) (by omega)
              have hb8 := hw.b8 (i := i) (by omega)
              refine lv_astore_n (lv' := [(3, .ref (ad (13, i))), (2, .int (nI i)), (1, .int t), (0, .ref (ad (0, 0)))]) hx hb dX3_settle_106 rfl hl (by decide) rfl (fun ls hl => ?_)
              refine lv_aload_n hx hb dX3_settle_107 rfl (lv_at hl 0 rfl) ?_
              refine fg_X0_isSource (i := i) (by first | assumption | omega) hx hb hts hown hE hP q_554 dX3_settle_108 ?_
              refine lv_if_eq (tgt := 155) hx hb dX3_settle_111 (by decide) (fun c111 => ?_) (fun c111 => ?_)
              · skip
                refine lv_iinc (v := nI (i + 1)) (lv' := [(2, .int (nI (i + 1))), (3, .ref (ad (13, i))), (1, .int t), (0, .ref (ad (0, 0)))]) hx hb dX3_settle_155 hl (k := 1) rfl (nI_1 _) (by decide) rfl (fun ls hl => ?_)
                refine lv_goto (tgt := 84) hx hb dX3_settle_158 (by decide) ?_
                exact ih84 (i + 1) (by omega) (by omega) _ _ _ (hP.ct (by first | rw [brS_0 c111] | rw [brS_1 c111 c119] | rw [brS_2 c111 c119])) hS (lv_sub hl [0, 2, 3] rfl)
              · skip
                refine lv_aload_n hx hb dX3_settle_114 rfl (lv_at hl 0 rfl) ?_
                refine lv_iload_n hx hb dX3_settle_115 rfl (lv_at hl 2 rfl) ?_
                refine xw_callV (C := "NetlistBench$Element") (n := 1) [.int t] (c_X0_runsAt l hP hw (by omega) t) hx hb hml hown hts hE hS (xr_el hE hP (by first | assumption | omega)) rfl rfl q_40 q_246 q_249 q_247 q_248 (by decide) rfl ⟨by rw [hRf]; decide, by rw [hRl]; decide⟩ hl.1 rfl (Nat.le_of_ble_eq_true rfl) dX3_settle_116 ⟨by rw [hRc]; decide, by rw [hRs]; decide⟩ (fun v H1 locs hp hS => ?_)
                obtain ⟨hv, hh⟩ := hp; subst hv; subst hh
                refine lv_if_eq (tgt := 155) hx hb dX3_settle_119 (by decide) (fun c119 => ?_) (fun c119 => ?_)
                · skip
                  refine lv_iinc (v := nI (i + 1)) (lv' := [(2, .int (nI (i + 1))), (3, .ref (ad (13, i))), (1, .int t), (0, .ref (ad (0, 0)))]) hx hb dX3_settle_155 hl (k := 1) rfl (nI_1 _) (by decide) rfl (fun ls hl => ?_)
                  refine lv_goto (tgt := 84) hx hb dX3_settle_158 (by decide) ?_
                  exact ih84 (i + 1) (by omega) (by omega) _ _ _ (hP.ct (by first | rw [brS_0 c111] | rw [brS_1 c111 c119] | rw [brS_2 c111 c119])) hS (lv_sub hl [0, 2, 3] rfl)
                · skip
                  refine lv_aload_n hx hb dX3_settle_122 rfl (lv_at hl 3 rfl) ?_
                  refine fg_X3_equations hx hb hts hown hE hP q_105 dX3_settle_123 ?_
                  refine lv_aload_n hx hb dX3_settle_126 rfl (lv_at hl 0 rfl) ?_
                  refine fg_X0_a (i := i) (by first | assumption | omega) hx hb hts hown hE hP q_556 dX3_settle_127 ?_
                  refine xt_i (w := nI (cA z i)) (hw.a (by omega)) ?_
                  refine lv_aload_n hx hb dX3_settle_130 rfl (lv_at hl 0 rfl) ?_
                  refine fg_X0_size (i := i) (by first | assumption | omega) hx hb hts hown hE hP q_560 dX3_settle_131 ?_
                  refine lv_ineg hx hb dX3_settle_134 ?_
                  refine lv_i2l (v := (-(eZ z i)).toInt64) hx hb dX3_settle_135 rfl ?_
                  refine xw_callV (C := "NetlistBench$Equations") (n := 2) [.int (nI (cA z i)), .long ((-(eZ z i)).toInt64)] (c_X1_bring l hP (by omega) (sP_ok z t) (by omega) ((-(eZ z i)).toInt64)) hx hb hml hown hts hE hS (xw_recv hE hP (6, 0) rfl rfl) rfl rfl q_25 q_303 q_306 q_304 q_305 (by decide) rfl ⟨by rw [hRf]; decide, by rw [hRl]; decide⟩ hl.1 rfl (Nat.le_of_ble_eq_true rfl) dX3_settle_136 ⟨by rw [hRc]; decide, by rw [hRs]; decide⟩ (fun v H1 locs hp hS => ?_)
                  obtain ⟨hv, hP⟩ := hp; subst hv
                  generalize H1 = H at hP hS ⊢
                  refine lv_aload_n hx hb dX3_settle_139 rfl (lv_at hl 3 rfl) ?_
                  refine fg_X3_equations hx hb hts hown hE hP q_105 dX3_settle_140 ?_
                  refine lv_aload_n hx hb dX3_settle_143 rfl (lv_at hl 0 rfl) ?_
                  refine fg_X0_b (i := i) (by first | assumption | omega) hx hb hts hown hE hP q_558 dX3_settle_144 ?_
                  refine xt_i (w := nI (cB z i)) (hw.b (by omega)) ?_
                  refine lv_aload_n hx hb dX3_settle_147 rfl (lv_at hl 0 rfl) ?_
                  refine fg_X0_size (i := i) (by first | assumption | omega) hx hb hts hown hE hP q_560 dX3_settle_148 ?_
                  refine lv_i2l (v := (eZ z i).toInt64) hx hb dX3_settle_151 rfl ?_
                  refine xw_callV (C := "NetlistBench$Equations") (n := 2) [.int (nI (cB z i)), .long ((eZ z i).toInt64)] (c_X1_bring l hP (by omega) (sP_ok z t) (by omega) ((eZ z i).toInt64)) hx hb hml hown hts hE hS (xw_recv hE hP (6, 0) rfl rfl) rfl rfl q_25 q_303 q_306 q_304 q_305 (by decide) rfl ⟨by rw [hRf]; decide, by rw [hRl]; decide⟩ hl.1 rfl (Nat.le_of_ble_eq_true rfl) dX3_settle_152 ⟨by rw [hRc]; decide, by rw [hRs]; decide⟩ (fun v H1 locs hp hS => ?_)
                  obtain ⟨hv, hP⟩ := hp; subst hv
                  generalize H1 = H at hP hS ⊢
                  refine lv_iinc (v := nI (i + 1)) (lv' := [(2, .int (nI (i + 1))), (3, .ref (ad (13, i))), (1, .int t), (0, .ref (ad (0, 0)))]) hx hb dX3_settle_155 hl (k := 1) rfl (nI_1 _) (by decide) rfl (fun ls hl => ?_)
                  refine lv_goto (tgt := 84) hx hb dX3_settle_158 (by decide) ?_
                  exact ih84 (i + 1) (by omega) (by omega) _ _ _ (hP.ct (by first | rw [brS_0 c111] | rw [brS_1 c111 c119] | rw [brS_2 c111 c119])) hS (lv_sub hl [0, 2, 3] rfl)
        exact K84 _ 0 (by omega) (Nat.lt_succ_self _) _ _ _ (hP.ct (by rw [show i = nN z by omega]; rfl)) hS (lv_sub hl [0, 1, 2] rfl)
      · skip
        have c22 := ni_nle (a := (nN z)) (b := i) (by omega) (by omega) c22
        refine lv_aload_n hx hb dX3_settle_25 rfl (lv_at hl 2 rfl) ?_
        refine fg_X3_nodes hx hb hts hown hE hP q_102 dX3_settle_26 ?_
        refine lv_iload_n hx hb dX3_settle_29 rfl (lv_at hl 0 rfl) ?_
        refine xw_callV (C := "java/util/ArrayList") (n := 1) [.int (nI i)] (c_get_nodes l hP hz (by omega)) hx hb hml hown hts hE hS (xw_recv hE hP (1, 0) rfl rfl) rfl rfl q_24 q_195 q_198 q_196 q_197 (by decide) rfl ⟨by rw [hRf]; decide, by rw [hRl]; decide⟩ hl.1 rfl (Nat.le_of_ble_eq_true rfl) dX3_settle_30 ⟨by rw [hRc]; decide, by rw [hRs]; decide⟩ (fun v H1 locs hp hS => ?_)
        obtain ⟨hv, hh⟩ := hp; subst hv; subst hh
        refine xc_nd (i := i) hx hb hts hown hE hP (by first | assumption | omega) q_266 dX3_settle_33 ?_
        have hle := stS_le z (gM z t) i
        refine lv_astore_n (lv' := [(3, .ref (ad (12, i))), (2, .int (nI i)), (1, .int t), (0, .ref (ad (0, 0)))]) hx hb dX3_settle_36 rfl hl (by decide) rfl (fun ls hl => ?_)
        refine lv_aload_n hx hb dX3_settle_37 rfl (lv_at hl 0 rfl) ?_
        refine fg_X2_isRail (i := i) (by first | assumption | omega) hx hb hts hown hE hP q_471 dX3_settle_38 ?_
        refine lv_if_eq (tgt := 60) hx hb dX3_settle_41 (by decide) (fun c41 => ?_) (fun c41 => ?_)
        · skip
          refine lv_aload_n hx hb dX3_settle_60 rfl (lv_at hl 3 rfl) ?_
          refine lv_iload_n hx hb dX3_settle_61 rfl (lv_at hl 1 rfl) ?_
          refine xw_callV (C := "NetlistBench") (n := 1) [.int (nI i)] (c_X3_isAfloat l hP (m8 := (gM z t)) rfl (fun j hj => gM_lt hw t hj) hz (by omega)) hx hb hml hown hts hE hS (xw_recv hE hP (0, 0) rfl rfl) rfl rfl q_21 q_262 q_265 q_264 q_6 (by decide) rfl ⟨by rw [hRf]; decide, by rw [hRl]; decide⟩ hl.1 rfl (Nat.le_of_ble_eq_true rfl) dX3_settle_62 ⟨by rw [hRc]; decide, by rw [hRs]; decide⟩ (fun v H1 locs hp hS => ?_)
          obtain ⟨hv, hh⟩ := hp; subst hv; subst hh
          refine lv_if_ne (tgt := 76) hx hb dX3_settle_65 (by decide) (fun c65 => ?_) (fun c65 => ?_)
          · skip
            refine lv_iinc (v := nI (i + 1)) (lv' := [(2, .int (nI (i + 1))), (3, .ref (ad (12, i))), (1, .int t), (0, .ref (ad (0, 0)))]) hx hb dX3_settle_76 hl (k := 1) rfl (nI_1 _) (by decide) rfl (fun ls hl => ?_)
            refine lv_goto (tgt := 14) hx hb dX3_settle_79 (by decide) ?_
            exact ih14 (i + 1) (by omega) (by omega) _ _ _ (hP.ct (by first | rw [stS_r c41] | rw [stS_f c41 c65] | rw [stS_s c41 c65])) hS (lv_sub hl [0, 2, 3] rfl)
          · skip
            refine lv_aload_n hx hb dX3_settle_68 rfl (lv_at hl 3 rfl) ?_
            refine fg_X3_equations hx hb hts hown hE hP q_105 dX3_settle_69 ?_
            refine lv_iload_n hx hb dX3_settle_72 rfl (lv_at hl 1 rfl) ?_
            refine xw_callV (C := "NetlistBench$Equations") (n := 1) [.int (nI i)] (c_X1_seek l hP hle.1 (by omega)) hx hb hml hown hts hE hS (xw_recv hE hP (6, 0) rfl rfl) rfl rfl q_25 q_299 q_302 q_300 q_301 (by decide) rfl ⟨by rw [hRf]; decide, by rw [hRl]; decide⟩ hl.1 rfl (Nat.le_of_ble_eq_true rfl) dX3_settle_73 ⟨by rw [hRc]; decide, by rw [hRs]; decide⟩ (fun v H1 locs hp hS => ?_)
            obtain ⟨hv, hP⟩ := hp; subst hv
            generalize H1 = H at hP hS ⊢
            refine lv_iinc (v := nI (i + 1)) (lv' := [(2, .int (nI (i + 1))), (3, .ref (ad (12, i))), (1, .int t), (0, .ref (ad (0, 0)))]) hx hb dX3_settle_76 hl (k := 1) rfl (nI_1 _) (by decide) rfl (fun ls hl => ?_)
            refine lv_goto (tgt := 14) hx hb dX3_settle_79 (by decide) ?_
            exact ih14 (i + 1) (by omega) (by omega) _ _ _ (hP.ct (by first | rw [stS_r c41] | rw [stS_f c41 c65] | rw [stS_s c41 c65])) hS (lv_sub hl [0, 2, 3] rfl)
        · skip
          refine lv_aload_n hx hb dX3_settle_44 rfl (lv_at hl 3 rfl) ?_
          refine fg_X3_equations hx hb hts hown hE hP q_105 dX3_settle_45 ?_
          refine lv_iload_n hx hb dX3_settle_48 rfl (lv_at hl 1 rfl) ?_
          refine lv_aload_n hx hb dX3_settle_49 rfl (lv_at hl 0 rfl) ?_
          refine fg_X2_railPotential (i := i) (by first | assumption | omega) hx hb hts hown hE hP q_473 dX3_settle_50 ?_
          refine lv_i2l (v := (nP z i).toInt64) hx hb dX3_settle_53 rfl ?_
          refine xw_callV (C := "NetlistBench$Equations") (n := 2) [.int (nI i), .long ((nP z i).toInt64)] (c_X1_fix l hP (by omega) (nP z i).toInt64) hx hb hml hown hts hE hS (xw_recv hE hP (6, 0) rfl rfl) rfl rfl q_25 q_295 q_298 q_296 q_297 (by decide) rfl ⟨by rw [hRf]; decide, by rw [hRl]; decide⟩ hl.1 rfl (Nat.le_of_ble_eq_true rfl) dX3_settle_54 ⟨by rw [hRc]; decide, by rw [hRs]; decide⟩ (fun v H1 locs hp hS => ?_)
          obtain ⟨hv, hP⟩ := hp; subst hv
          generalize H1 = H at hP hS ⊢
          refine lv_goto (tgt := 76) hx hb dX3_settle_57 (by decide) ?_
          refine lv_iinc (v := nI (i + 1)) (lv' := [(2, .int (nI (i + 1))), (3, .ref (ad (12, i))), (1, .int t), (0, .ref (ad (0, 0)))]) hx hb dX3_settle_76 hl (k := 1) rfl (nI_1 _) (by decide) rfl (fun ls hl => ?_)
          refine lv_goto (tgt := 14) hx hb dX3_settle_79 (by decide) ?_
          exact ih14 (i + 1) (by omega) (by omega) _ _ _ (hP.ct (by first | rw [stS_r c41] | rw [stS_f c41 c65] | rw [stS_s c41 c65])) hS (lv_sub hl [0, 2, 3] rfl)
  exact K14 _ 0 (by omega) (Nat.lt_succ_self _) _ _ _ hP hS (lv_sub hl [0, 2, 1] rfl)
