set_option maxHeartbeats 4000000 in
set_option maxRecDepth 100000 in
theorem c_J6_bitCount_0f7a4 (l : Launch) {D : va_G} {y : Nat → ClassId} {A : Nat → Prop}  {Hs : Heap} (x : Int32) : Met l yJ6_bitCount_0f7a4 (.code yJ6_bitCount_0f7a4 cJ6_bitCount_0f7a4 1 (some .int) :: WG) { frames := 0, cells := 0, slots := 0, locals := 0 } (xPc [.int x] D y Hs) (xQ (fun v H1 => v = some (.int (bcF x)) ∧ Hs = H1) A) 0 0 A := by
  refine xM_go (by decide) (Nat.le_of_ble_eq_true rfl) (fun p e s m args below meth c ls R Q hx hb hr hlocks hml hown hts hH hE hnm hRf hRl hRc hRs hQ hS hl => ?_)
  have hRf : R.frames = 0 := hRf
  have hRl : R.locals = 0 := hRl
  have hRc : R.cells = 0 := hRc
  have hRs : R.slots = 0 := hRs
  have hl : lv_has ls 1 [(0, .int x)] := hl
  refine lv_iload_n hx hb dJ6_bitCount_0f7a4_0 rfl (lv_at hl 0 rfl) ?_
  refine lv_iload_n hx hb dJ6_bitCount_0f7a4_1 rfl (lv_at hl 0 rfl) ?_
  refine lv_iconst (v := nI 1) hx hb dJ6_bitCount_0f7a4_2 (by decide) ?_
  refine lv_iushr (v := (x.toUInt32 >>> ((nI 1).toUInt32 &&& Int32.toUInt32 31)).toInt32) hx hb dJ6_bitCount_0f7a4_3 rfl ?_
  refine lv_ldcw hx hb hown (hts _ q_334) dJ6_bitCount_0f7a4_4 ?_
  refine lv_iand hx hb dJ6_bitCount_0f7a4_7 ?_
  refine lv_isub hx hb dJ6_bitCount_0f7a4_8 ?_
  refine xt_i (w := bc1 x) (rfl) ?_
  refine lv_istore_n (lv' := [(0, .int (bc1 x))]) hx hb dJ6_bitCount_0f7a4_9 rfl hl (by decide) rfl (fun ls hl => ?_)
  refine lv_iload_n hx hb dJ6_bitCount_0f7a4_10 rfl (lv_at hl 0 rfl) ?_
  refine lv_ldcw hx hb hown (hts _ q_335) dJ6_bitCount_0f7a4_11 ?_
  refine lv_iand hx hb dJ6_bitCount_0f7a4_14 ?_
  refine lv_iload_n hx hb dJ6_bitCount_0f7a4_15 rfl (lv_at hl 0 rfl) ?_
  refine lv_iconst (v := nI 2) hx hb dJ6_bitCount_0f7a4_16 (by decide) ?_
  refine lv_iushr (v := ((bc1 x).toUInt32 >>> ((nI 2).toUInt32 &&& Int32.toUInt32 31)).toInt32) hx hb dJ6_bitCount_0f7a4_17 rfl ?_
  refine lv_ldcw hx hb hown (hts _ q_335) dJ6_bitCount_0f7a4_18 ?_
  refine lv_iand hx hb dJ6_bitCount_0f7a4_21 ?_
  refine lv_iadd hx hb dJ6_bitCount_0f7a4_22 ?_
  refine xt_i (w := bc2 (bc1 x)) (rfl) ?_
  refine lv_istore_n (lv' := [(0, .int (bc2 (bc1 x)))]) hx hb dJ6_bitCount_0f7a4_23 rfl hl (by decide) rfl (fun ls hl => ?_)
  refine lv_iload_n hx hb dJ6_bitCount_0f7a4_24 rfl (lv_at hl 0 rfl) ?_
  refine lv_iload_n hx hb dJ6_bitCount_0f7a4_25 rfl (lv_at hl 0 rfl) ?_
  refine lv_iconst (v := nI 4) hx hb dJ6_bitCount_0f7a4_26 (by decide) ?_
  refine lv_iushr (v := ((bc2 (bc1 x)).toUInt32 >>> ((nI 4).toUInt32 &&& Int32.toUInt32 31)).toInt32) hx hb dJ6_bitCount_0f7a4_27 rfl ?_
  refine lv_iadd hx hb dJ6_bitCount_0f7a4_28 ?_
  refine lv_ldcw hx hb hown (hts _ q_336) dJ6_bitCount_0f7a4_29 ?_
  refine lv_iand hx hb dJ6_bitCount_0f7a4_32 ?_
  refine xt_i (w := bc4 (bc2 (bc1 x))) (rfl) ?_
  refine lv_istore_n (lv' := [(0, .int (bc4 (bc2 (bc1 x))))]) hx hb dJ6_bitCount_0f7a4_33 rfl hl (by decide) rfl (fun ls hl => ?_)
  refine lv_iload_n hx hb dJ6_bitCount_0f7a4_34 rfl (lv_at hl 0 rfl) ?_
  refine lv_iload_n hx hb dJ6_bitCount_0f7a4_35 rfl (lv_at hl 0 rfl) ?_
  refine lv_bipush (v := nI 8) hx hb dJ6_bitCount_0f7a4_36 (by decide) ?_
  refine lv_iushr (v := ((bc4 (bc2 (bc1 x))).toUInt32 >>> ((nI 8).toUInt32 &&& Int32.toUInt32 31)).toInt32) hx hb dJ6_bitCount_0f7a4_38 rfl ?_
  refine lv_iadd hx hb dJ6_bitCount_0f7a4_39 ?_
  refine xt_i (w := bc8 (bc4 (bc2 (bc1 x)))) (rfl) ?_
  refine lv_istore_n (lv' := [(0, .int (bc8 (bc4 (bc2 (bc1 x)))))]) hx hb dJ6_bitCount_0f7a4_40 rfl hl (by decide) rfl (fun ls hl => ?_)
  refine lv_iload_n hx hb dJ6_bitCount_0f7a4_41 rfl (lv_at hl 0 rfl) ?_
  refine lv_iload_n hx hb dJ6_bitCount_0f7a4_42 rfl (lv_at hl 0 rfl) ?_
  refine lv_bipush (v := nI 16) hx hb dJ6_bitCount_0f7a4_43 (by decide) ?_
  refine lv_iushr (v := ((bc8 (bc4 (bc2 (bc1 x)))).toUInt32 >>> ((nI 16).toUInt32 &&& Int32.toUInt32 31)).toInt32) hx hb dJ6_bitCount_0f7a4_45 rfl ?_
  refine lv_iadd hx hb dJ6_bitCount_0f7a4_46 ?_
  refine xt_i (w := bc16 (bc8 (bc4 (bc2 (bc1 x))))) (rfl) ?_
  refine lv_istore_n (lv' := [(0, .int (bc16 (bc8 (bc4 (bc2 (bc1 x))))))]) hx hb dJ6_bitCount_0f7a4_47 rfl hl (by decide) rfl (fun ls hl => ?_)
  refine lv_iload_n hx hb dJ6_bitCount_0f7a4_48 rfl (lv_at hl 0 rfl) ?_
  refine lv_bipush (v := nI 63) hx hb dJ6_bitCount_0f7a4_49 (by decide) ?_
  refine lv_iand hx hb dJ6_bitCount_0f7a4_51 ?_
  exact xe_iret hQ hx hb hr hlocks hH hS (Nat.le_refl _) (Nat.le_refl _) (⟨rfl, rfl⟩) dJ6_bitCount_0f7a4_52

set_option maxHeartbeats 4000000 in
set_option maxRecDepth 100000 in
theorem c_X1_allColumns (l : Launch) {D : va_G} {y : Nat → ClassId} {A : Nat → Prop} {ad : xL → Nat} {n : Nat} {bl : xM} {z : xC} {g : Nat → Int32} {pl : Nat → Int32} {kn : Nat → Int64} {rw : Nat → Nat → Int64} {mi : Nat → Int64} {fR fO : Nat → Nat → Option va_E} {Hs : Heap} (hP : xW D A ad (wU (wB y ad bl z g pl kn rw mi (nI n)) fR fO) Hs) (hn : n < 8) : Met l yX1_allColumns (.code yX1_allColumns cX1_allColumns 1 (some .int) :: WG) { frames := 0, cells := 0, slots := 0, locals := 0 } (xPc [.ref (ad (6, 0))] D y Hs) (xQ (fun v H1 => v = some (.int (nI (2 ^ (n + 1) - 1))) ∧ Hs = H1) A) 0 0 A := by
  refine xM_go (by decide) (Nat.le_of_ble_eq_true rfl) (fun p e s m args below meth c ls R Q hx hb hr hlocks hml hown hts hH hE hnm hRf hRl hRc hRs hQ hS hl => ?_)
  have hRf : R.frames = 0 := hRf
  have hRl : R.locals = 0 := hRl
  have hRc : R.cells = 0 := hRc
  have hRs : R.slots = 0 := hRs
  have hl : lv_has ls 1 [(0, .ref (ad (6, 0)))] := hl
  refine lv_iconst (v := nI 1) hx hb dX1_allColumns_0 (by decide) ?_
  refine lv_aload_n hx hb dX1_allColumns_1 rfl (lv_at hl 0 rfl) ?_
  refine fg_X1_unknowns hx hb hts hown hE hP q_88 dX1_allColumns_2 ?_
  refine lv_iconst (v := nI 1) hx hb dX1_allColumns_5 (by decide) ?_
  refine lv_iadd hx hb dX1_allColumns_6 ?_
  refine xt_i (nI_add n 1) ?_
  refine lv_ishl hx hb dX1_allColumns_7 ?_
  refine lv_iconst (v := nI 1) hx hb dX1_allColumns_8 (by decide) ?_
  refine lv_isub hx hb dX1_allColumns_9 ?_
  refine xt_i (w := nI (2 ^ (n + 1) - 1)) (m_all n hn) ?_
  exact xe_iret hQ hx hb hr hlocks hH hS (Nat.le_refl _) (Nat.le_refl _) (⟨rfl, rfl⟩) dX1_allColumns_10

set_option maxHeartbeats 4000000 in
set_option maxRecDepth 100000 in
theorem c_X1_lower (l : Launch) {D : va_G} {y : Nat → ClassId} {A : Nat → Prop} {ad : xL → Nat} {n : Nat} {bl : xM} {z : xC} {g : Nat → Int32} {pl : Nat → Int32} {kn : Nat → Int64} {rw : Nat → Nat → Int64} {mi : Nat → Int64} {fR fO : Nat → Nat → Option va_E} {Hs : Heap} (hP : xW D A ad (wU (wB y ad bl z g pl kn rw mi (nI n)) fR fO) Hs) (hn : n < 8) : Met l yX1_lower (.code yX1_lower cX1_lower 1 (some .long) :: WG) { frames := 1, cells := 0, slots := 0, locals := 20 } (xPc [.ref (ad (6, 0))] D y Hs) (xQ (fun v H1 => v = some (.long (mi (2 ^ n - 1))) ∧ Hs = H1) A) 0 0 A := by
  refine xM_go (by decide) (Nat.le_of_ble_eq_true rfl) (fun p e s m args below meth c ls R Q hx hb hr hlocks hml hown hts hH hE hnm hRf hRl hRc hRs hQ hS hl => ?_)
  have hRf : R.frames = 1 := hRf
  have hRl : R.locals = 20 := hRl
  have hRc : R.cells = 0 := hRc
  have hRs : R.slots = 0 := hRs
  have hl : lv_has ls 1 [(0, .ref (ad (6, 0)))] := hl
  have hp1 : 2 ^ (n + 1) ≤ 2 ^ 8 := Nat.pow_le_pow_right (by decide) (by omega)
  have hp0 : 2 ^ (n + 1) - 1 - 2 ^ n = 2 ^ n - 1 := by rw [Nat.pow_succ]; omega
  refine lv_aload_n hx hb dX1_lower_0 rfl (lv_at hl 0 rfl) ?_
  refine fg_X1_minors hx hb hts hown hE hP q_87 dX1_lower_1 ?_
  refine lv_aload_n hx hb dX1_lower_4 rfl (lv_at hl 0 rfl) ?_
  refine xw_callV (C := "NetlistBench$Equations") (n := 0) [] (c_X1_allColumns l hP hn) hx hb hml hown hts hE hS (xw_recv hE hP (6, 0) rfl rfl) rfl rfl q_25 q_323 q_326 q_325 q_10 (by decide) rfl ⟨by rw [hRf]; decide, by rw [hRl]; decide⟩ hl.1 rfl (Nat.le_of_ble_eq_true rfl) dX1_lower_5 ⟨by rw [hRc]; decide, by rw [hRs]; decide⟩ (fun v H1 locs hp hS => ?_)
  obtain ⟨hv, hh⟩ := hp; subst hv; subst hh
  refine lv_iconst (v := nI 1) hx hb dX1_lower_8 (by decide) ?_
  refine lv_aload_n hx hb dX1_lower_9 rfl (lv_at hl 0 rfl) ?_
  refine fg_X1_unknowns hx hb hts hown hE hP q_88 dX1_lower_10 ?_
  refine lv_ishl hx hb dX1_lower_13 ?_
  refine lv_ixor hx hb dX1_lower_14 ?_
  refine xt_i (w := nI (2 ^ n - 1)) (by rw [m_x n hn n hn (Nat.le_refl _), hp0]) ?_
  refine al_minors hx hb hE hP (j := 2 ^ n - 1) (by omega) dX1_lower_15 ?_
  exact xe_lret hQ hx hb hr hlocks hH hS (Nat.le_refl _) (Nat.le_refl _) (⟨rfl, rfl⟩) dX1_lower_16

set_option maxHeartbeats 4000000 in
set_option maxRecDepth 100000 in
theorem c_X1_upper (l : Launch) {D : va_G} {y : Nat → ClassId} {A : Nat → Prop} {ad : xL → Nat} {n : Nat} {bl : xM} {z : xC} {g : Nat → Int32} {pl : Nat → Int32} {kn : Nat → Int64} {rw : Nat → Nat → Int64} {mi : Nat → Int64} {fR fO : Nat → Nat → Option va_E} {Hs : Heap} (hP : xW D A ad (wU (wB y ad bl z g pl kn rw mi (nI n)) fR fO) Hs) (hn : n < 8) (hpl : plOk pl n) {j : Nat} (hj : j < 8) : Met l yX1_upper (.code yX1_upper cX1_upper 5 (some .long) :: WG) { frames := 2, cells := 0, slots := 0, locals := 40 } (xPc [.ref (ad (6, 0)), .int (nI j)] D y Hs) (xQ (fun v H1 => v = some (.long (upV pl kn mi n j)) ∧ Hs = H1) A) 0 0 A := by
  refine xM_go (by decide) (Nat.le_of_ble_eq_true rfl) (fun p e s m args below meth c ls R Q hx hb hr hlocks hml hown hts hH hE hnm hRf hRl hRc hRs hQ hS hl => ?_)
  have hRf : R.frames = 2 := hRf
  have hRl : R.locals = 40 := hRl
  have hRc : R.cells = 0 := hRc
  have hRs : R.slots = 0 := hRs
  have hl : lv_has ls 5 [(0, .ref (ad (6, 0))), (1, .int (nI j))] := hl
  have hp1 : 2 ^ (n + 1) ≤ 2 ^ 8 := Nat.pow_le_pow_right (by decide) (by omega)
  refine lv_aload_n hx hb dX1_upper_0 rfl (lv_at hl 0 rfl) ?_
  refine fg_X1_places hx hb hts hown hE hP q_84 dX1_upper_1 ?_
  refine lv_iload_n hx hb dX1_upper_4 rfl (lv_at hl 1 rfl) ?_
  refine al_places hx hb hE hP (j := j) (by omega) dX1_upper_5 ?_
  refine lv_istore_n (lv' := [(2, .int (pl j)), (0, .ref (ad (6, 0))), (1, .int (nI j))]) hx hb dX1_upper_6 rfl hl (by decide) rfl (fun ls hl => ?_)
  refine lv_iload_n hx hb dX1_upper_7 rfl (lv_at hl 0 rfl) ?_
  refine lv_if_ge (tgt := 23) hx hb dX1_upper_8 (by decide) (fun c8 => ?_) (fun c8 => ?_)
  · skip
    have c9 : ¬ pl j < 0 := Int32.not_lt.mpr c8
    obtain ⟨k, hk, ek, ck⟩ := hpl.at hj c9 (by omega)
    rw [ek] at hl
    have hq1 : 2 ^ k ≤ 2 ^ n := Nat.pow_le_pow_right (by decide) (by omega)
    have hq2 : 0 < 2 ^ k := Nat.pow_pos (by decide)
    refine lv_aload_n hx hb dX1_upper_23 rfl (lv_at hl 1 rfl) ?_
    refine fg_X1_minors hx hb hts hown hE hP q_87 dX1_upper_24 ?_
    refine lv_aload_n hx hb dX1_upper_27 rfl (lv_at hl 1 rfl) ?_
    refine xw_callV (C := "NetlistBench$Equations") (n := 0) [] (c_X1_allColumns l hP hn) hx hb hml hown hts hE hS (xw_recv hE hP (6, 0) rfl rfl) rfl rfl q_25 q_323 q_326 q_325 q_10 (by decide) rfl ⟨by rw [hRf]; decide, by rw [hRl]; decide⟩ hl.1 rfl (Nat.le_of_ble_eq_true rfl) dX1_upper_28 ⟨by rw [hRc]; decide, by rw [hRs]; decide⟩ (fun v H1 locs hp hS => ?_)
    obtain ⟨hv, hh⟩ := hp; subst hv; subst hh
    refine lv_iconst (v := nI 1) hx hb dX1_upper_31 (by decide) ?_
    refine lv_iload_n hx hb dX1_upper_32 rfl (lv_at hl 0 rfl) ?_
    refine lv_ishl hx hb dX1_upper_33 ?_
    refine lv_ixor hx hb dX1_upper_34 ?_
    refine xt_i (w := nI (2 ^ (n + 1) - 1 - 2 ^ k)) (m_x n hn k (by omega) (by omega)) ?_
    refine al_minors hx hb hE hP (j := 2 ^ (n + 1) - 1 - 2 ^ k) (by omega) dX1_upper_35 ?_
    refine lv_lstore_n (lv' := [(3, .long (mi (2 ^ (n + 1) - 1 - 2 ^ k))), (2, .int (nI k)), (0, .ref (ad (6, 0))), (1, .int (nI j))]) hx hb dX1_upper_36 rfl hl (by decide) rfl (fun ls hl => ?_)
    refine lv_aload_n hx hb dX1_upper_37 rfl (lv_at hl 2 rfl) ?_
    refine fg_X1_unknowns hx hb hts hown hE hP q_88 dX1_upper_38 ?_
    refine lv_iconst (v := nI 1) hx hb dX1_upper_41 (by decide) ?_
    refine lv_isub hx hb dX1_upper_42 ?_
    refine xt_i (w := nI (n - 1)) (pk_sub (by omega)) ?_
    refine lv_iload_n hx hb dX1_upper_43 rfl (lv_at hl 1 rfl) ?_
    refine lv_isub hx hb dX1_upper_44 ?_
    refine xt_i (w := nI (n - 1 - k)) (pk_sub (by omega)) ?_
    refine lv_iconst (v := nI 2) hx hb dX1_upper_45 (by decide) ?_
    refine lv_irem hx hb dX1_upper_46 (by decide) ?_
    refine xt_i (w := nI ((n - 1 - k) % 2)) (pk_rem (by omega) (by decide) (by decide)) ?_
    refine lv_if_ne (tgt := 54) hx hb dX1_upper_47 (by decide) (fun c47 => ?_) (fun c47 => ?_)
    · skip
      have c47 := ni_ne (a := ((n - 1 - k) % 2)) (b := 0) (by omega) (by omega) c47
      refine lv_lload_n hx hb dX1_upper_54 rfl (lv_at hl 0 rfl) ?_
      refine lv_lneg hx hb dX1_upper_55 ?_
      exact xe_lret hQ hx hb hr hlocks hH hS (Nat.le_refl _) (Nat.le_refl _) (⟨by unfold upV; rw [if_neg c9, ck, if_neg c47], rfl⟩) dX1_upper_56
    · skip
      have c47 := ni_eq (a := ((n - 1 - k) % 2)) (b := 0) (by omega) (by omega) c47
      refine lv_lload_n hx hb dX1_upper_50 rfl (lv_at hl 0 rfl) ?_
      refine lv_goto (tgt := 56) hx hb dX1_upper_51 (by decide) ?_
      exact xe_lret hQ hx hb hr hlocks hH hS (Nat.le_refl _) (Nat.le_refl _) (⟨by unfold upV; rw [if_neg c9, ck, if_pos c47], rfl⟩) dX1_upper_56
  · skip
    have c9 : pl j < 0 := Int32.not_le.mp c8
    refine lv_aload_n hx hb dX1_upper_11 rfl (lv_at hl 1 rfl) ?_
    refine fg_X1_known hx hb hts hown hE hP q_85 dX1_upper_12 ?_
    refine lv_iload_n hx hb dX1_upper_15 rfl (lv_at hl 2 rfl) ?_
    refine al_known hx hb hE hP (j := j) (by omega) dX1_upper_16 ?_
    refine lv_aload_n hx hb dX1_upper_17 rfl (lv_at hl 1 rfl) ?_
    refine xw_callV (C := "NetlistBench$Equations") (n := 0) [] (c_X1_lower l hP hn) hx hb hml hown hts hE hS (xw_recv hE hP (6, 0) rfl rfl) rfl rfl q_25 q_350 q_345 q_343 q_344 (by decide) rfl ⟨by rw [hRf]; decide, by rw [hRl]; decide⟩ hl.1 rfl (Nat.le_of_ble_eq_true rfl) dX1_upper_18 ⟨by rw [hRc]; decide, by rw [hRs]; decide⟩ (fun v H1 locs hp hS => ?_)
    obtain ⟨hv, hh⟩ := hp; subst hv; subst hh
    refine lv_lmul hx hb dX1_upper_21 ?_
    exact xe_lret hQ hx hb hr hlocks hH hS (Nat.le_refl _) (Nat.le_refl _) (⟨by simp only [upV, if_pos c9], rfl⟩) dX1_upper_22

set_option maxHeartbeats 4000000 in
set_option maxRecDepth 100000 in
theorem c_X1_fix (l : Launch) {D : va_G} {y : Nat → ClassId} {A : Nat → Prop} {ad : xL → Nat} {bl : xM} {z : xC} {g : Nat → Int32} {pl : Nat → Int32} {kn : Nat → Int64} {rw : Nat → Nat → Int64} {mi : Nat → Int64} {un : Int32} {fR fO : Nat → Nat → Option va_E} {Hs : Heap} (hP : xW D A ad (wU (wB y ad bl z g pl kn rw mi un) fR fO) Hs) {j : Nat} (hj : j < 8) (x : Int64) : Met l yX1_fix (.code yX1_fix cX1_fix 4 none :: WG) { frames := 0, cells := 0, slots := 0, locals := 0 } (xPc [.ref (ad (6, 0)), .int (nI j), .long x] D y Hs) (xQ (fun v H1 => v = none ∧ xW D A ad (wU (wB y ad bl z g pl (vp_updL kn j x) rw mi un) fR fO) H1) A) 0 0 A := by
  refine xM_go (by decide) (Nat.le_of_ble_eq_true rfl) (fun p e s m args below meth c ls R Q hx hb hr hlocks hml hown hts hH hE hnm hRf hRl hRc hRs hQ hS hl => ?_)
  have hRf : R.frames = 0 := hRf
  have hRl : R.locals = 0 := hRl
  have hRc : R.cells = 0 := hRc
  have hRs : R.slots = 0 := hRs
  have hl : lv_has ls 4 [(0, .ref (ad (6, 0))), (1, .int (nI j)), (2, .long x)] := hl
  refine lv_aload_n hx hb dX1_fix_0 rfl (lv_at hl 0 rfl) ?_
  refine fg_X1_known hx hb hts hown hE hP q_85 dX1_fix_1 ?_
  refine lv_iload_n hx hb dX1_fix_4 rfl (lv_at hl 1 rfl) ?_
  refine lv_lload_n hx hb dX1_fix_5 rfl (lv_at hl 2 rfl) ?_
  refine as_known hx hb hE hS hP (j := j) (by omega) dX1_fix_6 (fun H locs hP hS => ?_)
  exact xe_vret hQ hx hb hr hlocks hH hS (Nat.le_refl _) (Nat.le_refl _) (⟨rfl, hP⟩) dX1_fix_7

set_option maxHeartbeats 4000000 in
set_option maxRecDepth 100000 in
theorem c_X1_seek (l : Launch) {D : va_G} {y : Nat → ClassId} {A : Nat → Prop} {ad : xL → Nat} {n : Nat} {bl : xM} {z : xC} {g : Nat → Int32} {pl : Nat → Int32} {kn : Nat → Int64} {rw : Nat → Nat → Int64} {mi : Nat → Int64} {fR fO : Nat → Nat → Option va_E} {Hs : Heap} (hP : xW D A ad (wU (wB y ad bl z g pl kn rw mi (nI n)) fR fO) Hs) (hn : n ≤ 7) {j : Nat} (hj : j < 8) : Met l yX1_seek (.code yX1_seek cX1_seek 2 none :: WG) { frames := 0, cells := 0, slots := 0, locals := 0 } (xPc [.ref (ad (6, 0)), .int (nI j)] D y Hs) (xQ (fun v H1 => v = none ∧ xW D A ad (wU (wB y ad bl z g ((skS pl n j).1) kn rw mi (nI (skS pl n j).2)) fR fO) H1) A) 0 0 A := by
  refine xM_go (by decide) (Nat.le_of_ble_eq_true rfl) (fun p e s m args below meth c ls R Q hx hb hr hlocks hml hown hts hH hE hnm hRf hRl hRc hRs hQ hS hl => ?_)
  have hRf : R.frames = 0 := hRf
  have hRl : R.locals = 0 := hRl
  have hRc : R.cells = 0 := hRc
  have hRs : R.slots = 0 := hRs
  have hl : lv_has ls 2 [(0, .ref (ad (6, 0))), (1, .int (nI j))] := hl
  refine lv_aload_n hx hb dX1_seek_0 rfl (lv_at hl 0 rfl) ?_
  refine fg_X1_unknowns hx hb hts hown hE hP q_88 dX1_seek_1 ?_
  refine lv_bipush (v := nI 7) hx hb dX1_seek_4 (by decide) ?_
  refine lv_icmp_ge (tgt := 29) hx hb dX1_seek_6 (by decide) (fun c6 => ?_) (fun c6 => ?_)
  · skip
    have c6 := ni_le (a := 7) (b := n) (by omega) (by omega) c6
    exact xe_vret hQ hx hb hr hlocks hH hS (Nat.le_refl _) (Nat.le_refl _) (⟨rfl, hP.ct (by rw [skS, if_neg (by omega)])⟩) dX1_seek_29
  · skip
    have c6 := ni_nle (a := 7) (b := n) (by omega) (by omega) c6
    refine lv_aload_n hx hb dX1_seek_9 rfl (lv_at hl 0 rfl) ?_
    refine fg_X1_places hx hb hts hown hE hP q_84 dX1_seek_10 ?_
    refine lv_iload_n hx hb dX1_seek_13 rfl (lv_at hl 1 rfl) ?_
    refine lv_aload_n hx hb dX1_seek_14 rfl (lv_at hl 0 rfl) ?_
    refine fg_X1_unknowns hx hb hts hown hE hP q_88 dX1_seek_15 ?_
    refine as_places hx hb hE hS hP (j := j) (by omega) dX1_seek_18 (fun H locs hP hS => ?_)
    refine lv_aload_n hx hb dX1_seek_19 rfl (lv_at hl 0 rfl) ?_
    refine lv_dup hx hb dX1_seek_20 rfl ?_
    refine fg_X1_unknowns hx hb hts hown hE hP q_88 dX1_seek_21 ?_
    refine lv_iconst (v := nI 1) hx hb dX1_seek_24 (by decide) ?_
    refine lv_iadd hx hb dX1_seek_25 ?_
    refine xt_i (nI_add n 1) ?_
    refine fp_X1_unknowns hx hb hts hown hE hS hP q_88 dX1_seek_26 (fun H locs hP hS => ?_)
    exact xe_vret hQ hx hb hr hlocks hH hS (Nat.le_refl _) (Nat.le_refl _) (⟨rfl, hP.ct (by rw [skS, if_pos (by omega)])⟩) dX1_seek_29

set_option maxHeartbeats 4000000 in
set_option maxRecDepth 100000 in
theorem c_X1_bring (l : Launch) {D : va_G} {y : Nat → ClassId} {A : Nat → Prop} {ad : xL → Nat} {n : Nat} {bl : xM} {z : xC} {g : Nat → Int32} {pl : Nat → Int32} {kn : Nat → Int64} {rw : Nat → Nat → Int64} {mi : Nat → Int64} {fR fO : Nat → Nat → Option va_E} {Hs : Heap} (hP : xW D A ad (wU (wB y ad bl z g pl kn rw mi (nI n)) fR fO) Hs) (hn : n < 8) (hpl : plOk pl n) {j : Nat} (hj : j < 8) (x : Int64) : Met l yX1_bring (.code yX1_bring cX1_bring 5 none :: WG) { frames := 0, cells := 0, slots := 0, locals := 0 } (xPc [.ref (ad (6, 0)), .int (nI j), .long x] D y Hs) (xQ (fun v H1 => v = none ∧ xW D A ad (wU (wB y ad bl z g pl kn (brR rw pl n j x) mi (nI n)) fR fO) H1) A) 0 0 A := by
  refine xM_go (by decide) (Nat.le_of_ble_eq_true rfl) (fun p e s m args below meth c ls R Q hx hb hr hlocks hml hown hts hH hE hnm hRf hRl hRc hRs hQ hS hl => ?_)
  have hRf : R.frames = 0 := hRf
  have hRl : R.locals = 0 := hRl
  have hRc : R.cells = 0 := hRc
  have hRs : R.slots = 0 := hRs
  have hl : lv_has ls 5 [(0, .ref (ad (6, 0))), (1, .int (nI j)), (2, .long x)] := hl
  refine lv_aload_n hx hb dX1_bring_0 rfl (lv_at hl 0 rfl) ?_
  refine fg_X1_places hx hb hts hown hE hP q_84 dX1_bring_1 ?_
  refine lv_iload_n hx hb dX1_bring_4 rfl (lv_at hl 1 rfl) ?_
  refine al_places hx hb hE hP (j := j) (by omega) dX1_bring_5 ?_
  refine lv_istore (lv' := [(4, .int (pl j)), (0, .ref (ad (6, 0))), (1, .int (nI j)), (2, .long x)]) hx hb dX1_bring_6 hl (by decide) rfl (fun ls hl => ?_)
  refine lv_iload hx hb dX1_bring_8 (lv_at hl 0 rfl) ?_
  refine lv_if_lt (tgt := 29) hx hb dX1_bring_10 (by decide) (fun c10 => ?_) (fun c10 => ?_)
  · skip
    exact xe_vret hQ hx hb hr hlocks hH hS (Nat.le_refl _) (Nat.le_refl _) (⟨rfl, by unfold brR; rw [if_pos c10]; exact hP⟩) dX1_bring_29
  · skip
    obtain ⟨k, hk, ek, ck⟩ := hpl.at hj c10 (by omega)
    rw [ek] at hl
    refine lv_aload_n hx hb dX1_bring_13 rfl (lv_at hl 1 rfl) ?_
    refine fg_X1_rows hx hb hts hown hE hP q_86 dX1_bring_14 ?_
    refine lv_iload hx hb dX1_bring_17 (lv_at hl 0 rfl) ?_
    refine xw_aald2 hx hb hE hP (9, 0) rfl (i := k) (v := ad (10, k)) (if_pos (by omega)) (by omega) (by omega) dX1_bring_19 ?_
    refine lv_aload_n hx hb dX1_bring_20 rfl (lv_at hl 1 rfl) ?_
    refine fg_X1_unknowns hx hb hts hown hE hP q_88 dX1_bring_21 ?_
    refine lv_dup2_11 hx hb dX1_bring_24 rfl rfl ?_
    refine al_row (i := k) (by omega) hx hb hE hP (j := n) (by omega) dX1_bring_25 ?_
    refine lv_lload_n hx hb dX1_bring_26 rfl (lv_at hl 3 rfl) ?_
    refine lv_ladd hx hb dX1_bring_27 ?_
    refine as_row (i := k) (by omega) hx hb hE hS hP (j := n) (by omega) dX1_bring_28 (fun H locs hP hS => ?_)
    exact xe_vret hQ hx hb hr hlocks hH hS (Nat.le_refl _) (Nat.le_refl _) (⟨rfl, by unfold brR; rw [if_neg c10, ck]; exact hP⟩) dX1_bring_29

set_option maxHeartbeats 4000000 in
set_option maxRecDepth 100000 in
theorem c_X1_linkOneWay (l : Launch) {D : va_G} {y : Nat → ClassId} {A : Nat → Prop} {ad : xL → Nat} {n : Nat} {bl : xM} {z : xC} {g : Nat → Int32} {pl : Nat → Int32} {kn : Nat → Int64} {rw : Nat → Nat → Int64} {mi : Nat → Int64} {fR fO : Nat → Nat → Option va_E} {Hs : Heap} (hP : xW D A ad (wU (wB y ad bl z g pl kn rw mi (nI n)) fR fO) Hs) (hn : n < 8) (hpl : plOk pl n) {f t : Nat} (hf : f < 8) (ht : t < 8) (x : Int64) : Met l yX1_linkOneWay (.code yX1_linkOneWay cX1_linkOneWay 7 none :: WG) { frames := 0, cells := 0, slots := 0, locals := 0 } (xPc [.ref (ad (6, 0)), .int (nI f), .int (nI t), .long x] D y Hs) (xQ (fun v H1 => v = none ∧ xW D A ad (wU (wB y ad bl z g pl kn (lkR rw pl kn n f t x) mi (nI n)) fR fO) H1) A) 0 0 A := by
  refine xM_go (by decide) (Nat.le_of_ble_eq_true rfl) (fun p e s m args below meth c ls R Q hx hb hr hlocks hml hown hts hH hE hnm hRf hRl hRc hRs hQ hS hl => ?_)
  have hRf : R.frames = 0 := hRf
  have hRl : R.locals = 0 := hRl
  have hRc : R.cells = 0 := hRc
  have hRs : R.slots = 0 := hRs
  have hl : lv_has ls 7 [(0, .ref (ad (6, 0))), (1, .int (nI f)), (2, .int (nI t)), (3, .long x)] := hl
  refine lv_aload_n hx hb dX1_linkOneWay_0 rfl (lv_at hl 0 rfl) ?_
  refine fg_X1_places hx hb hts hown hE hP q_84 dX1_linkOneWay_1 ?_
  refine lv_iload_n hx hb dX1_linkOneWay_4 rfl (lv_at hl 1 rfl) ?_
  refine al_places hx hb hE hP (j := f) (by omega) dX1_linkOneWay_5 ?_
  refine lv_istore (lv' := [(5, .int (pl f)), (0, .ref (ad (6, 0))), (1, .int (nI f)), (2, .int (nI t)), (3, .long x)]) hx hb dX1_linkOneWay_6 hl (by decide) rfl (fun ls hl => ?_)
  refine lv_iload hx hb dX1_linkOneWay_8 (lv_at hl 0 rfl) ?_
  refine lv_if_ge (tgt := 14) hx hb dX1_linkOneWay_10 (by decide) (fun c10 => ?_) (fun c10 => ?_)
  · skip
    have d10 : ¬ pl f < 0 := Int32.not_lt.mpr c10
    obtain ⟨k, hk, ek, ck⟩ := hpl.at hf d10 (by omega)
    rw [ek] at hl
    refine lv_aload_n hx hb dX1_linkOneWay_14 rfl (lv_at hl 1 rfl) ?_
    refine fg_X1_rows hx hb hts hown hE hP q_86 dX1_linkOneWay_15 ?_
    refine lv_iload hx hb dX1_linkOneWay_18 (lv_at hl 0 rfl) ?_
    refine xw_aald2 hx hb hE hP (9, 0) rfl (i := k) (v := ad (10, k)) (if_pos (by omega)) (by omega) (by omega) dX1_linkOneWay_20 ?_
    refine lv_iload hx hb dX1_linkOneWay_21 (lv_at hl 0 rfl) ?_
    refine lv_dup2_11 hx hb dX1_linkOneWay_23 rfl rfl ?_
    refine al_row (i := k) (by omega) hx hb hE hP (j := k) (by omega) dX1_linkOneWay_24 ?_
    refine lv_lload_n hx hb dX1_linkOneWay_25 rfl (lv_at hl 4 rfl) ?_
    refine lv_ladd hx hb dX1_linkOneWay_26 ?_
    refine as_row (i := k) (by omega) hx hb hE hS hP (j := k) (by omega) dX1_linkOneWay_27 (fun H locs hP hS => ?_)
    refine lv_aload_n hx hb dX1_linkOneWay_28 rfl (lv_at hl 1 rfl) ?_
    refine fg_X1_places hx hb hts hown hE hP q_84 dX1_linkOneWay_29 ?_
    refine lv_iload_n hx hb dX1_linkOneWay_32 rfl (lv_at hl 3 rfl) ?_
    refine al_places hx hb hE hP (j := t) (by omega) dX1_linkOneWay_33 ?_
    refine lv_istore (lv' := [(6, .int (pl t)), (5, .int (nI k)), (0, .ref (ad (6, 0))), (1, .int (nI f)), (2, .int (nI t)), (3, .long x)]) hx hb dX1_linkOneWay_34 hl (by decide) rfl (fun ls hl => ?_)
    refine lv_iload hx hb dX1_linkOneWay_36 (lv_at hl 0 rfl) ?_
    refine lv_if_lt (tgt := 58) hx hb dX1_linkOneWay_38 (by decide) (fun c38 => ?_) (fun c38 => ?_)
    · skip
      refine lv_aload_n hx hb dX1_linkOneWay_58 rfl (lv_at hl 2 rfl) ?_
      refine fg_X1_rows hx hb hts hown hE hP q_86 dX1_linkOneWay_59 ?_
      refine lv_iload hx hb dX1_linkOneWay_62 (lv_at hl 1 rfl) ?_
      refine xw_aald2 hx hb hE hP (9, 0) rfl (i := k) (v := ad (10, k)) (if_pos (by omega)) (by omega) (by omega) dX1_linkOneWay_64 ?_
      refine lv_aload_n hx hb dX1_linkOneWay_65 rfl (lv_at hl 2 rfl) ?_
      refine fg_X1_unknowns hx hb hts hown hE hP q_88 dX1_linkOneWay_66 ?_
      refine lv_dup2_11 hx hb dX1_linkOneWay_69 rfl rfl ?_
      refine al_row (i := k) (by omega) hx hb hE hP (j := n) (by omega) dX1_linkOneWay_70 ?_
      refine lv_lload_n hx hb dX1_linkOneWay_71 rfl (lv_at hl 5 rfl) ?_
      refine lv_aload_n hx hb dX1_linkOneWay_72 rfl (lv_at hl 2 rfl) ?_
      refine fg_X1_known hx hb hts hown hE hP q_85 dX1_linkOneWay_73 ?_
      refine lv_iload_n hx hb dX1_linkOneWay_76 rfl (lv_at hl 4 rfl) ?_
      refine al_known hx hb hE hP (j := t) (by omega) dX1_linkOneWay_77 ?_
      refine lv_lmul hx hb dX1_linkOneWay_78 ?_
      refine lv_ladd hx hb dX1_linkOneWay_79 ?_
      refine as_row (i := k) (by omega) hx hb hE hS hP (j := n) (by omega) dX1_linkOneWay_80 (fun H locs hP hS => ?_)
      exact xe_vret hQ hx hb hr hlocks hH hS (Nat.le_refl _) (Nat.le_refl _) (⟨rfl, by unfold lkR; rw [if_neg d10, if_pos c38, ck]; exact hP⟩) dX1_linkOneWay_81
    · skip
      obtain ⟨k2, hk2, ek2, ck2⟩ := hpl.at ht c38 (by omega)
      rw [ek2] at hl
      refine lv_aload_n hx hb dX1_linkOneWay_41 rfl (lv_at hl 2 rfl) ?_
      refine fg_X1_rows hx hb hts hown hE hP q_86 dX1_linkOneWay_42 ?_
      refine lv_iload hx hb dX1_linkOneWay_45 (lv_at hl 1 rfl) ?_
      refine xw_aald2 hx hb hE hP (9, 0) rfl (i := k) (v := ad (10, k)) (if_pos (by omega)) (by omega) (by omega) dX1_linkOneWay_47 ?_
      refine lv_iload hx hb dX1_linkOneWay_48 (lv_at hl 0 rfl) ?_
      refine lv_dup2_11 hx hb dX1_linkOneWay_50 rfl rfl ?_
      refine al_row (i := k) (by omega) hx hb hE hP (j := k2) (by omega) dX1_linkOneWay_51 ?_
      refine lv_lload_n hx hb dX1_linkOneWay_52 rfl (lv_at hl 5 rfl) ?_
      refine lv_lsub hx hb dX1_linkOneWay_53 ?_
      refine as_row (i := k) (by omega) hx hb hE hS hP (j := k2) (by omega) dX1_linkOneWay_54 (fun H locs hP hS => ?_)
      refine lv_goto (tgt := 81) hx hb dX1_linkOneWay_55 (by decide) ?_
      exact xe_vret hQ hx hb hr hlocks hH hS (Nat.le_refl _) (Nat.le_refl _) (⟨rfl, by unfold lkR; rw [if_neg d10, if_neg c38, ck, ck2]; exact hP⟩) dX1_linkOneWay_81
  · skip
    have d10 : pl f < 0 := Int32.not_le.mp c10
    exact xe_vret hQ hx hb hr hlocks hH hS (Nat.le_refl _) (Nat.le_refl _) (⟨rfl, by unfold lkR; rw [if_pos d10]; exact hP⟩) dX1_linkOneWay_13

set_option maxHeartbeats 4000000 in
set_option maxRecDepth 100000 in
theorem c_X1_link (l : Launch) {D : va_G} {y : Nat → ClassId} {A : Nat → Prop} {ad : xL → Nat} {n : Nat} {bl : xM} {z : xC} {g : Nat → Int32} {pl : Nat → Int32} {kn : Nat → Int64} {rw : Nat → Nat → Int64} {mi : Nat → Int64} {fR fO : Nat → Nat → Option va_E} {Hs : Heap} (hP : xW D A ad (wU (wB y ad bl z g pl kn rw mi (nI n)) fR fO) Hs) (hn : n < 8) (hpl : plOk pl n) {a b : Nat} (ha : a < 8) (hb8 : b < 8) (x : Int64) : Met l yX1_link (.code yX1_link cX1_link 5 none :: WG) { frames := 1, cells := 0, slots := 0, locals := 26 } (xPc [.ref (ad (6, 0)), .int (nI a), .int (nI b), .long x] D y Hs) (xQ (fun v H1 => v = none ∧ xW D A ad (wU (wB y ad bl z g pl kn (lkR (lkR rw pl kn n a b x) pl kn n b a x) mi (nI n)) fR fO) H1) A) 0 0 A := by
  refine xM_go (by decide) (Nat.le_of_ble_eq_true rfl) (fun p e s m args below meth c ls R Q hx hb hr hlocks hml hown hts hH hE hnm hRf hRl hRc hRs hQ hS hl => ?_)
  have hRf : R.frames = 1 := hRf
  have hRl : R.locals = 26 := hRl
  have hRc : R.cells = 0 := hRc
  have hRs : R.slots = 0 := hRs
  have hl : lv_has ls 5 [(0, .ref (ad (6, 0))), (1, .int (nI a)), (2, .int (nI b)), (3, .long x)] := hl
  refine lv_aload_n hx hb dX1_link_0 rfl (lv_at hl 0 rfl) ?_
  refine lv_iload_n hx hb dX1_link_1 rfl (lv_at hl 1 rfl) ?_
  refine lv_iload_n hx hb dX1_link_2 rfl (lv_at hl 2 rfl) ?_
  refine lv_lload_n hx hb dX1_link_3 rfl (lv_at hl 3 rfl) ?_
  refine xw_callV (C := "NetlistBench$Equations") (n := 3) [.int (nI a), .int (nI b), .long x] (c_X1_linkOneWay l hP hn hpl ha hb8 x) hx hb hml hown hts hE hS (xw_recv hE hP (6, 0) rfl rfl) rfl rfl q_25 q_315 q_318 q_317 q_9 (by decide) rfl ⟨by rw [hRf]; decide, by rw [hRl]; decide⟩ hl.1 rfl (Nat.le_of_ble_eq_true rfl) dX1_link_4 ⟨by rw [hRc]; decide, by rw [hRs]; decide⟩ (fun v H1 locs hp hS => ?_)
  obtain ⟨hv, hP⟩ := hp; subst hv
  generalize H1 = H at hP hS ⊢
  refine lv_aload_n hx hb dX1_link_7 rfl (lv_at hl 0 rfl) ?_
  refine lv_iload_n hx hb dX1_link_8 rfl (lv_at hl 2 rfl) ?_
  refine lv_iload_n hx hb dX1_link_9 rfl (lv_at hl 1 rfl) ?_
  refine lv_lload_n hx hb dX1_link_10 rfl (lv_at hl 3 rfl) ?_
  refine xw_callV (C := "NetlistBench$Equations") (n := 3) [.int (nI b), .int (nI a), .long x] (c_X1_linkOneWay l hP hn hpl hb8 ha x) hx hb hml hown hts hE hS (xw_recv hE hP (6, 0) rfl rfl) rfl rfl q_25 q_315 q_318 q_317 q_9 (by decide) rfl ⟨by rw [hRf]; decide, by rw [hRl]; decide⟩ hl.1 rfl (Nat.le_of_ble_eq_true rfl) dX1_link_11 ⟨by rw [hRc]; decide, by rw [hRs]; decide⟩ (fun v H1 locs hp hS => ?_)
  obtain ⟨hv, hP⟩ := hp; subst hv
  generalize H1 = H at hP hS ⊢
  exact xe_vret hQ hx hb hr hlocks hH hS (Nat.le_refl _) (Nat.le_refl _) (⟨rfl, hP⟩) dX1_link_14

set_option maxHeartbeats 4000000 in
set_option maxRecDepth 100000 in
theorem c_X1_clear (l : Launch) {D : va_G} {y : Nat → ClassId} {A : Nat → Prop} {ad : xL → Nat} {bl : xM} {z : xC} {g : Nat → Int32} {pl : Nat → Int32} {kn : Nat → Int64} {rw : Nat → Nat → Int64} {mi : Nat → Int64} {un : Int32} {fR fO : Nat → Nat → Option va_E} {Hs : Heap} (hP : xW D A ad (wU (wB y ad bl z g pl kn rw mi un) fR fO) Hs)  : Met l yX1_clear (.code yX1_clear cX1_clear 3 none :: WG) { frames := 0, cells := 0, slots := 0, locals := 0 } (xPc [.ref (ad (6, 0))] D y Hs) (xQ (fun v H1 => v = none ∧ xW D A ad (wU (wB y ad bl z g ((fun _ => -1)) ((fun _ => 0)) ((fun _ _ => 0)) mi (nI 0)) fR fO) H1) A) 0 0 A := by
  refine xM_go (by decide) (Nat.le_of_ble_eq_true rfl) (fun p e s m args below meth c ls R Q hx hb hr hlocks hml hown hts hH hE hnm hRf hRl hRc hRs hQ hS hl => ?_)
  have hRf : R.frames = 0 := hRf
  have hRl : R.locals = 0 := hRl
  have hRc : R.cells = 0 := hRc
  have hRs : R.slots = 0 := hRs
  have hl : lv_has ls 3 [(0, .ref (ad (6, 0)))] := hl
  refine lv_aload_n hx hb dX1_clear_0 rfl (lv_at hl 0 rfl) ?_
  refine lv_iconst (v := nI 0) hx hb dX1_clear_1 (by decide) ?_
  refine fp_X1_unknowns hx hb hts hown hE hS hP q_88 dX1_clear_2 (fun H locs hP hS => ?_)
  refine lv_iconst (v := nI 0) hx hb dX1_clear_5 (by decide) ?_
  refine lv_istore_n (lv' := [(1, .int (nI 0)), (0, .ref (ad (6, 0)))]) hx hb dX1_clear_6 rfl hl (by decide) rfl (fun ls hl => ?_)
  have K7 : ∀ (nn : Nat), ∀ (i : Nat) (pl : Nat → Int32) (kn : Nat → Int64), (i ≤ 8) → (∀ j, j < i → pl j = -1) → (∀ j, j < i → kn j = 0) → 8 - i < nn → ∀ (H : Heap) (locs : List Loc) (ls : Array Slot), xW D A ad (wU (wB y ad bl z g pl kn rw mi (nI 0)) fR fO) H → va_S A Hs H locs → lv_has ls 3 [(1, .int (nI i)), (0, .ref (ad (6, 0)))] → W p l e R s m args below meth c H locs 0 0 Q (F0 m 7 ls []) := by
    intro nn
    induction nn with
    | zero => intro i pl kn hi hp hk h; exact absurd h (Nat.not_lt_zero _)
    | succ nn ih7 =>
      intro i pl kn hi hp hk hn7 H locs ls hP hS hl
      refine lv_iload_n hx hb dX1_clear_7 rfl (lv_at hl 0 rfl) ?_
      refine lv_bipush (v := nI 8) hx hb dX1_clear_8 (by decide) ?_
      refine lv_icmp_ge (tgt := 33) hx hb dX1_clear_10 (by decide) (fun c10 => ?_) (fun c10 => ?_)
      · skip
        have c10 := ni_le (a := 8) (b := i) (by omega) (by omega) c10
        refine lv_iconst (v := nI 0) hx hb dX1_clear_33 (by decide) ?_
        refine lv_istore_n (lv' := [(1, .int (nI 0)), (0, .ref (ad (6, 0)))]) hx hb dX1_clear_34 rfl hl (by decide) rfl (fun ls hl => ?_)
        have K35 : ∀ (nn : Nat), ∀ (r : Nat) (rw : Nat → Nat → Int64), (r ≤ 7) → (∀ i, i < r → ∀ j, j < 8 → rw i j = 0) → 7 - r < nn → ∀ (H : Heap) (locs : List Loc) (ls : Array Slot), xW D A ad (wU (wB y ad bl z g pl kn rw mi (nI 0)) fR fO) H → va_S A Hs H locs → lv_has ls 3 [(1, .int (nI r)), (0, .ref (ad (6, 0)))] → W p l e R s m args below meth c H locs 0 0 Q (F0 m 35 ls []) := by
          intro nn
          induction nn with
          | zero => intro r rw hr7 hw h; exact absurd h (Nat.not_lt_zero _)
          | succ nn ih35 =>
            intro r rw hr7 hw hn35 H locs ls hP hS hl
            refine lv_iload_n hx hb dX1_clear_35 rfl (lv_at hl 0 rfl) ?_
            refine lv_bipush (v := nI 7) hx hb dX1_clear_36 (by decide) ?_
            refine lv_icmp_ge (tgt := 70) hx hb dX1_clear_38 (by decide) (fun c38 => ?_) (fun c38 => ?_)
            · skip
              have c38 := ni_le (a := 7) (b := r) (by omega) (by omega) c38
              exact xe_vret hQ hx hb hr hlocks hH hS (Nat.le_refl _) (Nat.le_refl _) (⟨rfl, xW_rw (xW_kn (xW_pl hP (fun j h => hp j (by omega))) (fun j h => hk j (by omega))) (fun i h j hj => hw i (by omega) j hj)⟩) dX1_clear_70
            · skip
              have c38 := ni_nle (a := 7) (b := r) (by omega) (by omega) c38
              refine lv_iconst (v := nI 0) hx hb dX1_clear_41 (by decide) ?_
              refine lv_istore_n (lv' := [(2, .int (nI 0)), (1, .int (nI r)), (0, .ref (ad (6, 0)))]) hx hb dX1_clear_42 rfl hl (by decide) rfl (fun ls hl => ?_)
              have K43 : ∀ (nn : Nat), ∀ (k : Nat) (rw : Nat → Nat → Int64), (k ≤ 8) → (∀ i, i < r → ∀ j, j < 8 → rw i j = 0) → (∀ j, j < k → rw r j = 0) → 8 - k < nn → ∀ (H : Heap) (locs : List Loc) (ls : Array Slot), xW D A ad (wU (wB y ad bl z g pl kn rw mi (nI 0)) fR fO) H → va_S A Hs H locs → lv_has ls 3 [(2, .int (nI k)), (1, .int (nI r)), (0, .ref (ad (6, 0)))] → W p l e R s m args below meth c H locs 0 0 Q (F0 m 43 ls []) := by
                intro nn
                induction nn with
                | zero => intro k rw hk8 hw hv h; exact absurd h (Nat.not_lt_zero _)
                | succ nn ih43 =>
                  intro k rw hk8 hw hv hn43 H locs ls hP hS hl
                  refine lv_iload_n hx hb dX1_clear_43 rfl (lv_at hl 0 rfl) ?_
                  refine lv_bipush (v := nI 7) hx hb dX1_clear_44 (by decide) ?_
                  refine lv_icmp_gt (tgt := 64) hx hb dX1_clear_46 (by decide) (fun c46 => ?_) (fun c46 => ?_)
                  · skip
                    have c46 := ni_lt (a := 7) (b := k) (by omega) (by omega) c46
                    refine lv_iinc (v := nI (r + 1)) (lv' := [(1, .int (nI (r + 1))), (2, .int (nI k)), (0, .ref (ad (6, 0)))]) hx hb dX1_clear_64 hl (k := 1) rfl (nI_1 _) (by decide) rfl (fun ls hl => ?_)
                    refine lv_goto (tgt := 35) hx hb dX1_clear_67 (by decide) ?_
                    exact ih35 (r + 1) rw (by omega) (rows_s hw (fun j hj => hv j (by omega))) (by omega) _ _ _ hP hS (lv_sub hl [0, 2] rfl)
                  · skip
                    have c46 := ni_nlt (a := 7) (b := k) (by omega) (by omega) c46
                    refine lv_aload_n hx hb dX1_clear_49 rfl (lv_at hl 2 rfl) ?_
                    refine fg_X1_rows hx hb hts hown hE hP q_86 dX1_clear_50 ?_
                    refine lv_iload_n hx hb dX1_clear_53 rfl (lv_at hl 1 rfl) ?_
                    refine xw_aald2 hx hb hE hP (9, 0) rfl (i := r) (v := ad (10, r)) (if_pos (by omega)) (by omega) (by omega) dX1_clear_54 ?_
                    refine lv_iload_n hx hb dX1_clear_55 rfl (lv_at hl 0 rfl) ?_
                    refine lv_lconst (v := 0) hx hb dX1_clear_56 (by decide) ?_
                    refine as_row (i := r) (by omega) hx hb hE hS hP (j := k) (by omega) dX1_clear_57 (fun H locs hP hS => ?_)
                    refine lv_iinc (v := nI (k + 1)) (lv' := [(2, .int (nI (k + 1))), (1, .int (nI r)), (0, .ref (ad (6, 0)))]) hx hb dX1_clear_58 hl (k := 0) rfl (nI_1 _) (by decide) rfl (fun ls hl => ?_)
                    refine lv_goto (tgt := 43) hx hb dX1_clear_61 (by decide) ?_
                    exact ih43 (k + 1) (u2 rw r k 0) (by omega) (u2_rows hw) (u2_row hv) (by omega) _ _ _ hP hS (lv_sub hl [0, 1, 2] rfl)
              exact K43 _ 0 rw (by omega) hw no_lt (Nat.lt_succ_self _) _ _ _ hP hS (lv_sub hl [0, 1, 2] rfl)
        exact K35 _ 0 rw (by omega) no_lt (Nat.lt_succ_self _) _ _ _ hP hS (lv_sub hl [0, 1] rfl)
      · skip
        have c10 := ni_nle (a := 8) (b := i) (by omega) (by omega) c10
        refine lv_aload_n hx hb dX1_clear_13 rfl (lv_at hl 1 rfl) ?_
        refine fg_X1_places hx hb hts hown hE hP q_84 dX1_clear_14 ?_
        refine lv_iload_n hx hb dX1_clear_17 rfl (lv_at hl 0 rfl) ?_
        refine lv_iconst (v := (-1)) hx hb dX1_clear_18 (by decide) ?_
        refine as_places hx hb hE hS hP (j := i) (by omega) dX1_clear_19 (fun H locs hP hS => ?_)
        refine lv_aload_n hx hb dX1_clear_20 rfl (lv_at hl 1 rfl) ?_
        refine fg_X1_known hx hb hts hown hE hP q_85 dX1_clear_21 ?_
        refine lv_iload_n hx hb dX1_clear_24 rfl (lv_at hl 0 rfl) ?_
        refine lv_lconst (v := 0) hx hb dX1_clear_25 (by decide) ?_
        refine as_known hx hb hE hS hP (j := i) (by omega) dX1_clear_26 (fun H locs hP hS => ?_)
        refine lv_iinc (v := nI (i + 1)) (lv' := [(1, .int (nI (i + 1))), (0, .ref (ad (6, 0)))]) hx hb dX1_clear_27 hl (k := 0) rfl (nI_1 _) (by decide) rfl (fun ls hl => ?_)
        refine lv_goto (tgt := 7) hx hb dX1_clear_30 (by decide) ?_
        exact ih7 (i + 1) (upd pl i (-1)) (vp_updL kn i 0) (by omega) (upd_all hp) (updL_all hk) (by omega) _ _ _ hP hS (lv_sub hl [0, 1] rfl)
  exact K7 _ 0 pl kn (by omega) no_lt no_lt (Nat.lt_succ_self _) _ _ _ hP hS (lv_sub hl [0, 1] rfl)

set_option maxHeartbeats 4000000 in
set_option maxRecDepth 100000 in
theorem c_X1_expand (l : Launch) {D : va_G} {y : Nat → ClassId} {A : Nat → Prop} {ad : xL → Nat} {n : Nat} {bl : xM} {z : xC} {g : Nat → Int32} {pl : Nat → Int32} {kn : Nat → Int64} {rw : Nat → Nat → Int64} {mi : Nat → Int64} {fR fO : Nat → Nat → Option va_E} {Hs : Heap} (hP : xW D A ad (wU (wB y ad bl z g pl kn rw mi (nI n)) fR fO) Hs) (hn : n < 8) {M : Nat} (hM0 : 0 < M) (hM : M < 2 ^ (n + 1) - 1) : Met l yX1_expand (.code yX1_expand cX1_expand 7 (some .long) :: WG) { frames := 1, cells := 0, slots := 0, locals := 21 } (xPc [.ref (ad (6, 0)), .int (nI M)] D y Hs) (xQ (fun v H1 => v = some (.long (ex rw mi (pop M - 1) M (n + 1) 0 1)) ∧ Hs = H1) A) 0 0 A := by
  refine xM_go (by decide) (Nat.le_of_ble_eq_true rfl) (fun p e s m args below meth c ls R Q hx hb hr hlocks hml hown hts hH hE hnm hRf hRl hRc hRs hQ hS hl => ?_)
  have hRf : R.frames = 1 := hRf
  have hRl : R.locals = 21 := hRl
  have hRc : R.cells = 0 := hRc
  have hRs : R.slots = 0 := hRs
  have hl : lv_has ls 7 [(0, .ref (ad (6, 0))), (1, .int (nI M))] := hl
  have hp1 : 2 ^ (n + 1) ≤ 2 ^ 8 := Nat.pow_le_pow_right (by decide) (by omega)
  have hpp := pop_le M (by omega)
  have hpn := pop_n n hn M hM
  refine lv_iload_n hx hb dX1_expand_0 rfl (lv_at hl 1 rfl) ?_
  refine xw_callS (n := 1) [.int (nI M)] (c_J6_bitCount_0f7a4 l (nI M)) hx hb hml hown hts hE hS rfl rfl q_41 q_331 q_333 q_332 (by decide) rfl ⟨by rw [hRf]; decide, by rw [hRl]; decide⟩ hl.1 rfl (Nat.le_of_ble_eq_true rfl) dX1_expand_1 ⟨by rw [hRc]; decide, by rw [hRs]; decide⟩ (fun v H1 locs hp hS => ?_)
  obtain ⟨hv, hh⟩ := hp; subst hv; subst hh
  refine xt_i (w := nI (pop M)) (bc_pop M (by omega)) ?_
  refine lv_iconst (v := nI 1) hx hb dX1_expand_4 (by decide) ?_
  refine lv_isub hx hb dX1_expand_5 ?_
  refine xt_i (w := nI (pop M - 1)) (pk_sub (by omega)) ?_
  refine lv_istore_n (lv' := [(2, .int (nI (pop M - 1))), (0, .ref (ad (6, 0))), (1, .int (nI M))]) hx hb dX1_expand_6 rfl hl (by decide) rfl (fun ls hl => ?_)
  refine lv_lconst (v := 0) hx hb dX1_expand_7 (by decide) ?_
  refine lv_lstore_n (lv' := [(3, .long 0), (2, .int (nI (pop M - 1))), (0, .ref (ad (6, 0))), (1, .int (nI M))]) hx hb dX1_expand_8 rfl hl (by decide) rfl (fun ls hl => ?_)
  refine lv_iconst (v := nI 1) hx hb dX1_expand_9 (by decide) ?_
  refine lv_istore (lv' := [(5, .int (nI 1)), (3, .long 0), (2, .int (nI (pop M - 1))), (0, .ref (ad (6, 0))), (1, .int (nI M))]) hx hb dX1_expand_10 hl (by decide) rfl (fun ls hl => ?_)
  refine lv_aload_n hx hb dX1_expand_12 rfl (lv_at hl 3 rfl) ?_
  refine fg_X1_unknowns hx hb hts hown hE hP q_88 dX1_expand_13 ?_
  refine lv_istore (lv' := [(6, .int (nI n)), (5, .int (nI 1)), (3, .long 0), (2, .int (nI (pop M - 1))), (0, .ref (ad (6, 0))), (1, .int (nI M))]) hx hb dX1_expand_16 hl (by decide) rfl (fun ls hl => ?_)
  have K18 : ∀ (nn : Nat), ∀ (k : Nat) (col : Int32) (sm : Int64) (sg : Int32), (k ≤ n + 1) → (col = nI k + Int32.ofInt (-1)) → (ex rw mi (pop M - 1) M k sm sg = ex rw mi (pop M - 1) M (n + 1) 0 1) → k < nn → ∀ (locs : List Loc) (ls : Array Slot), va_S A Hs Hs locs → lv_has ls 7 [(6, .int col), (5, .int sg), (3, .long sm), (2, .int (nI (pop M - 1))), (1, .int (nI M)), (0, .ref (ad (6, 0)))] → W p l e R s m args below meth c Hs locs 0 0 Q (F0 m 18 ls []) := by
    intro nn
    induction nn with
    | zero => intro k col sm sg hk hcol hex h; exact absurd h (Nat.not_lt_zero _)
    | succ nn ih18 =>
      intro k col sm sg hk hcol hex hn18 locs ls hS hl
      refine lv_iload hx hb dX1_expand_18 (lv_at hl 0 rfl) ?_
      refine lv_if_lt (tgt := 71) hx hb dX1_expand_20 (by decide) (fun c20 => ?_) (fun c20 => ?_)
      · skip
        have hk0 : k = 0 := by
          rcases k with _ | k
          · rfl
          · rw [hcol, show nI (k + 1) + Int32.ofInt (-1) = nI k from pk_m1 k] at c20; exact absurd c20 (nI_pos (by omega))
        subst hk0
        refine lv_lload_n hx hb dX1_expand_71 rfl (lv_at hl 2 rfl) ?_
        exact xe_lret hQ hx hb hr hlocks hH hS (Nat.le_refl _) (Nat.le_refl _) (⟨by rw [← hex]; rfl, rfl⟩) dX1_expand_72
      · skip
        obtain ⟨k, rfl⟩ : ∃ k2, k = k2 + 1 := by
          rcases k with _ | k
          · exact absurd (by rw [hcol]; decide) c20
          · exact ⟨k, rfl⟩
        have hcol : col = nI k := hcol.trans (pk_m1 k)
        subst hcol
        refine lv_iload_n hx hb dX1_expand_23 rfl (lv_at hl 4 rfl) ?_
        refine lv_iload hx hb dX1_expand_24 (lv_at hl 0 rfl) ?_
        refine xw_callSN (n := 2) [.int (nI M), .int (nI k)] (c_X3_contains l (nI M) k) hx hb hml hown hts hE hS rfl rfl q_21 hE.2 q_261 q_260 (by decide) rfl ⟨by rw [hRf]; decide, by rw [hRl]; decide⟩ hl.1 rfl (Nat.le_of_ble_eq_true rfl) dX1_expand_26 ⟨by rw [hRc]; decide, by rw [hRs]; decide⟩ (fun v H1 locs hp hS => ?_)
        obtain ⟨hv, hh⟩ := hp; subst hv; subst hh
        refine lv_if_eq (tgt := 65) hx hb dX1_expand_29 (by decide) (fun c29 => ?_) (fun c29 => ?_)
        · skip
          have hb0 : M / 2 ^ k % 2 = 0 := (m_bit M (by omega) k (by omega)).mp (by
            by_cases hh : nI M >>> (nI k &&& 31) &&& nI 1 = 0
            · exact hh
            · rw [if_neg hh] at c29; exact absurd c29 (by decide))
          rw [ex_0 hb0] at hex
          refine lv_iinc (v := nI k + Int32.ofInt (-1)) (lv' := [(6, .int (nI k + Int32.ofInt (-1))), (5, .int sg), (3, .long sm), (2, .int (nI (pop M - 1))), (1, .int (nI M)), (0, .ref (ad (6, 0)))]) hx hb dX1_expand_65 hl (k := 0) rfl (rfl) (by decide) rfl (fun ls hl => ?_)
          refine lv_goto (tgt := 18) hx hb dX1_expand_68 (by decide) ?_
          exact ih18 k (nI k + Int32.ofInt (-1)) sm sg (by omega) rfl hex (by omega) _ _ hS (lv_sub hl [0, 1, 2, 3, 4, 5] rfl)
        · skip
          have hb1 : ¬ M / 2 ^ k % 2 = 0 := fun h0 => c29 (by rw [if_pos ((m_bit M (by omega) k (by omega)).mpr h0)]; rfl)
          rw [ex_1 hb1] at hex
          refine lv_lload_n hx hb dX1_expand_32 rfl (lv_at hl 2 rfl) ?_
          refine lv_iload hx hb dX1_expand_33 (lv_at hl 1 rfl) ?_
          refine lv_i2l (v := sg.toInt64) hx hb dX1_expand_35 rfl ?_
          refine lv_aload_n hx hb dX1_expand_36 rfl (lv_at hl 5 rfl) ?_
          refine fg_X1_rows hx hb hts hown hE hP q_86 dX1_expand_37 ?_
          refine lv_iload_n hx hb dX1_expand_40 rfl (lv_at hl 3 rfl) ?_
          refine xw_aald2 hx hb hE hP (9, 0) rfl (i := pop M - 1) (v := ad (10, pop M - 1)) (if_pos (by omega)) (by omega) (by omega) dX1_expand_41 ?_
          refine lv_iload hx hb dX1_expand_42 (lv_at hl 0 rfl) ?_
          refine al_row (i := pop M - 1) (by omega) hx hb hE hP (j := k) (by omega) dX1_expand_44 ?_
          refine lv_lmul hx hb dX1_expand_45 ?_
          refine lv_aload_n hx hb dX1_expand_46 rfl (lv_at hl 5 rfl) ?_
          refine fg_X1_minors hx hb hts hown hE hP q_87 dX1_expand_47 ?_
          refine lv_iload_n hx hb dX1_expand_50 rfl (lv_at hl 4 rfl) ?_
          refine lv_iconst (v := nI 1) hx hb dX1_expand_51 (by decide) ?_
          refine lv_iload hx hb dX1_expand_52 (lv_at hl 0 rfl) ?_
          refine lv_ishl hx hb dX1_expand_54 ?_
          refine lv_ixor hx hb dX1_expand_55 ?_
          refine xt_i (w := nI (M - 2 ^ k)) ((m_xor M (by omega) k (by omega) (by omega)).1) ?_
          refine al_minors hx hb hE hP (j := M - 2 ^ k) (Nat.lt_of_le_of_lt (Nat.sub_le _ _) (by omega)) dX1_expand_56 ?_
          refine lv_lmul hx hb dX1_expand_57 ?_
          refine lv_ladd hx hb dX1_expand_58 ?_
          refine lv_lstore_n (lv' := [(3, .long (sm + ((sg.toInt64 * (rw (pop M - 1) k)) * (mi (M - 2 ^ k))))), (6, .int (nI k)), (5, .int sg), (2, .int (nI (pop M - 1))), (1, .int (nI M)), (0, .ref (ad (6, 0)))]) hx hb dX1_expand_59 rfl hl (by decide) rfl (fun ls hl => ?_)
          refine lv_iload hx hb dX1_expand_60 (lv_at hl 2 rfl) ?_
          refine lv_ineg hx hb dX1_expand_62 ?_
          refine lv_istore (lv' := [(5, .int (-sg)), (3, .long (sm + ((sg.toInt64 * (rw (pop M - 1) k)) * (mi (M - 2 ^ k))))), (6, .int (nI k)), (2, .int (nI (pop M - 1))), (1, .int (nI M)), (0, .ref (ad (6, 0)))]) hx hb dX1_expand_63 hl (by decide) rfl (fun ls hl => ?_)
          refine lv_iinc (v := nI k + Int32.ofInt (-1)) (lv' := [(6, .int (nI k + Int32.ofInt (-1))), (5, .int (-sg)), (3, .long (sm + ((sg.toInt64 * (rw (pop M - 1) k)) * (mi (M - 2 ^ k))))), (2, .int (nI (pop M - 1))), (1, .int (nI M)), (0, .ref (ad (6, 0)))]) hx hb dX1_expand_65 hl (k := 2) rfl (rfl) (by decide) rfl (fun ls hl => ?_)
          refine lv_goto (tgt := 18) hx hb dX1_expand_68 (by decide) ?_
          exact ih18 k (nI k + Int32.ofInt (-1)) (sm + ((sg.toInt64 * (rw (pop M - 1) k)) * (mi (M - 2 ^ k)))) (-sg) (by omega) rfl hex (by omega) _ _ hS (lv_sub hl [0, 1, 2, 3, 4, 5] rfl)
  exact K18 _ (n + 1) (nI n) 0 1 (by omega) ((pk_m1 n).symm) rfl (Nat.lt_succ_self _) _ _ hS (lv_sub hl [0, 1, 2, 3, 5, 4] rfl)

set_option maxHeartbeats 4000000 in
set_option maxRecDepth 100000 in
theorem c_X1_solve (l : Launch) {D : va_G} {y : Nat → ClassId} {A : Nat → Prop} {ad : xL → Nat} {n : Nat} {bl : xM} {z : xC} {g : Nat → Int32} {pl : Nat → Int32} {kn : Nat → Int64} {rw : Nat → Nat → Int64} {mi : Nat → Int64} {fR fO : Nat → Nat → Option va_E} {Hs : Heap} (hP : xW D A ad (wU (wB y ad bl z g pl kn rw mi (nI n)) fR fO) Hs) (hn : n < 8) : Met l yX1_solve (.code yX1_solve cX1_solve 3 none :: WG) { frames := 2, cells := 0, slots := 0, locals := 47 } (xPc [.ref (ad (6, 0))] D y Hs) (xQ (fun v H1 => v = none ∧ ∃ mi' : Nat → Int64, (∀ M, M < 2 ^ (n + 1) - 1 → mi' M = dm rw n M) ∧ xW D A ad (wU (wB y ad bl z g pl kn rw mi' (nI n)) fR fO) H1) A) 0 0 A := by
  refine xM_go (by decide) (Nat.le_of_ble_eq_true rfl) (fun p e s m args below meth c ls R Q hx hb hr hlocks hml hown hts hH hE hnm hRf hRl hRc hRs hQ hS hl => ?_)
  have hRf : R.frames = 2 := hRf
  have hRl : R.locals = 47 := hRl
  have hRc : R.cells = 0 := hRc
  have hRs : R.slots = 0 := hRs
  have hl : lv_has ls 3 [(0, .ref (ad (6, 0)))] := hl
  have hp1 : 2 ^ (n + 1) ≤ 2 ^ 8 := Nat.pow_le_pow_right (by decide) (by omega)
  have hp2 : 2 ≤ 2 ^ (n + 1) := Nat.le_trans (by decide : 2 ≤ 2 ^ 1) (Nat.pow_le_pow_right (by decide) (by omega))
  refine lv_aload_n hx hb dX1_solve_0 rfl (lv_at hl 0 rfl) ?_
  refine xw_callV (C := "NetlistBench$Equations") (n := 0) [] (c_X1_allColumns l hP hn) hx hb hml hown hts hE hS (xw_recv hE hP (6, 0) rfl rfl) rfl rfl q_25 q_323 q_326 q_325 q_10 (by decide) rfl ⟨by rw [hRf]; decide, by rw [hRl]; decide⟩ hl.1 rfl (Nat.le_of_ble_eq_true rfl) dX1_solve_1 ⟨by rw [hRc]; decide, by rw [hRs]; decide⟩ (fun v H1 locs hp hS => ?_)
  obtain ⟨hv, hh⟩ := hp; subst hv; subst hh
  refine lv_istore_n (lv' := [(1, .int (nI (2 ^ (n + 1) - 1))), (0, .ref (ad (6, 0)))]) hx hb dX1_solve_4 rfl hl (by decide) rfl (fun ls hl => ?_)
  refine lv_aload_n hx hb dX1_solve_5 rfl (lv_at hl 1 rfl) ?_
  refine fg_X1_minors hx hb hts hown hE hP q_87 dX1_solve_6 ?_
  refine lv_iconst (v := nI 0) hx hb dX1_solve_9 (by decide) ?_
  refine lv_lconst (v := 1) hx hb dX1_solve_10 (by decide) ?_
  refine as_minors hx hb hE hS hP (j := 0) (by omega) dX1_solve_11 (fun H locs hP hS => ?_)
  refine lv_iconst (v := nI 1) hx hb dX1_solve_12 (by decide) ?_
  refine lv_istore_n (lv' := [(2, .int (nI 1)), (1, .int (nI (2 ^ (n + 1) - 1))), (0, .ref (ad (6, 0)))]) hx hb dX1_solve_13 rfl hl (by decide) rfl (fun ls hl => ?_)
  have K14 : ∀ (nn : Nat), ∀ (c1 : Nat) (mi : Nat → Int64), (0 < c1) → (c1 ≤ 2 ^ (n + 1) - 1) → (∀ j, j < c1 → mi j = dm rw n j) → 2 ^ (n + 1) - c1 < nn → ∀ (H : Heap) (locs : List Loc) (ls : Array Slot), xW D A ad (wU (wB y ad bl z g pl kn rw mi (nI n)) fR fO) H → va_S A Hs H locs → lv_has ls 3 [(2, .int (nI c1)), (1, .int (nI (2 ^ (n + 1) - 1))), (0, .ref (ad (6, 0)))] → W p l e R s m args below meth c H locs 0 0 Q (F0 m 14 ls []) := by
    intro nn
    induction nn with
    | zero => intro c1 mi hc1 hc2 hmi h; exact absurd h (Nat.not_lt_zero _)
    | succ nn ih14 =>
      intro c1 mi hc1 hc2 hmi hn14 H locs ls hP hS hl
      refine lv_iload_n hx hb dX1_solve_14 rfl (lv_at hl 0 rfl) ?_
      refine lv_iload_n hx hb dX1_solve_15 rfl (lv_at hl 1 rfl) ?_
      refine lv_icmp_ge (tgt := 36) hx hb dX1_solve_16 (by decide) (fun c16 => ?_) (fun c16 => ?_)
      · skip
        have c16 := ni_le (a := (2 ^ (n + 1) - 1)) (b := c1) (by omega) (by omega) c16
        exact xe_vret hQ hx hb hr hlocks hH hS (Nat.le_refl _) (Nat.le_refl _) (⟨rfl, mi, (fun M h => hmi M (by omega)), hP⟩) dX1_solve_36
      · skip
        have c16 := ni_nle (a := (2 ^ (n + 1) - 1)) (b := c1) (by omega) (by omega) c16
        refine lv_aload_n hx hb dX1_solve_19 rfl (lv_at hl 2 rfl) ?_
        refine fg_X1_minors hx hb hts hown hE hP q_87 dX1_solve_20 ?_
        refine lv_iload_n hx hb dX1_solve_23 rfl (lv_at hl 0 rfl) ?_
        refine lv_aload_n hx hb dX1_solve_24 rfl (lv_at hl 2 rfl) ?_
        refine lv_iload_n hx hb dX1_solve_25 rfl (lv_at hl 0 rfl) ?_
        refine xw_callV (C := "NetlistBench$Equations") (n := 1) [.int (nI c1)] (c_X1_expand l hP hn (M := c1) hc1 (by omega)) hx hb hml hown hts hE hS (xw_recv hE hP (6, 0) rfl rfl) rfl rfl q_25 q_327 q_330 q_329 q_11 (by decide) rfl ⟨by rw [hRf]; decide, by rw [hRl]; decide⟩ hl.1 rfl (Nat.le_of_ble_eq_true rfl) dX1_solve_26 ⟨by rw [hRc]; decide, by rw [hRs]; decide⟩ (fun v H1 locs hp hS => ?_)
        obtain ⟨hv, hh⟩ := hp; subst hv; subst hh
        refine as_minors hx hb hE hS hP (j := c1) (by omega) dX1_solve_29 (fun H locs hP hS => ?_)
        refine lv_iinc (v := nI (c1 + 1)) (lv' := [(2, .int (nI (c1 + 1))), (1, .int (nI (2 ^ (n + 1) - 1))), (0, .ref (ad (6, 0)))]) hx hb dX1_solve_30 hl (k := 0) rfl (nI_1 _) (by decide) rfl (fun ls hl => ?_)
        refine lv_goto (tgt := 14) hx hb dX1_solve_33 (by decide) ?_
        exact ih14 (c1 + 1) (vp_updL mi c1 (ex rw mi (pop c1 - 1) c1 (n + 1) 0 1)) (by omega) (by omega) (dm_tab hc1 hmi) (by omega) _ _ _ hP hS (lv_sub hl [0, 1, 2] rfl)
  exact K14 _ 1 (vp_updL mi 0 1) (by omega) (by omega) dm_init (Nat.lt_succ_self _) _ _ _ hP hS (lv_sub hl [0, 1, 2] rfl)
