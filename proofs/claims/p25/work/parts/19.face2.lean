set_option maxHeartbeats 4000000 in
set_option maxRecDepth 100000 in
theorem c_X3_resize (l : Launch) (hls : l.stackTraces = false) {D : va_G} {y : Nat → ClassId} {A : Nat → Prop} {ad : xL → Nat} {bl : xM} {z : xC} {g : Nat → Int32} {pl : Nat → Int32} {kn : Nat → Int64} {rw : Nat → Nat → Int64} {mi : Nat → Int64} {un : Int32} {fR fO : Nat → Nat → Option va_E} {Hs : Heap} (hP : xW D A ad (wU (wB y ad bl z g pl kn rw mi un) fR fO) Hs) (hz : bOk bl z) (x k : Int32) : vx_Met l yX3_resize (.code yX3_resize cX3_resize 5 (some .int) :: WG) { frames := 7, cells := 2, slots := 12, locals := 123 } (xPcX [.ref (ad (0, 0)), .int x, .int k] D y A Hs) (xQ (fun v H1 => v = some (.int (eZ z (clN x))) ∧ tRes z x k = 0 ∧ xB D A y ad bl (s_eZ z (upd (eZ z) (clN x) k)) fR fO H1) A) (xX (fun E H1 => ex3 (tRes z x k) E ∧ xB D A y ad bl z fR fO H1) A) 2 12 A := by
  refine xM_goX (by decide) (Nat.le_of_ble_eq_true rfl) (fun p e s m args below meth c ls R Q hx hb hr hlocks hml hown hts hH hE hnm hRf hRl hRc hRs hQ hS hl hF htab => ?_)
  have hRf : R.frames = 7 := hRf
  have hRl : R.locals = 123 := hRl
  have hRc : R.cells = 2 := hRc
  have hRs : R.slots = 12 := hRs
  have hl : lv_has ls 5 [(0, .ref (ad (0, 0))), (1, .int x), (2, .int k)] := hl
  have hw := hz.w
  have hN := hw.N
  have hE20 := hw.E
  refine lv_aload_n hx hb dX3_resize_0 rfl (lv_at hl 0 rfl) ?_
  refine lv_iload_n hx hb dX3_resize_1 rfl (lv_at hl 1 rfl) ?_
  refine xx_callV (C := "NetlistBench") (n := 1) [.int x] (c_X3_checkElement l hls hP hz x) hx hb hml hown hts hE hF hS (xw_recv hE hP (0, 0) rfl rfl) rfl rfl q_21 q_119 q_122 q_121 q_0 (by decide) rfl ⟨by rw [hRf]; decide, by rw [hRl]; decide⟩ hl.1 rfl (Nat.le_of_ble_eq_true rfl) dX3_resize_2 ⟨by rw [hRc]; omega, by rw [hRs]; omega⟩ (fun E ce q9 H1 locs hp hS hce hcv hcl => ?_) (fun v H1 locs hp hS => ?_)
  · skip
    exact xx_out hQ htab hlocks hH hS hce hcv hcl (by omega) (by omega) (⟨Or.inl ⟨by rw [tRes, if_pos hp.2.1], hp.1⟩, (hP.kept hp.2.2.1 hp.2.2.2).B⟩)
  obtain ⟨hv, hh, hn⟩ := hp; subst hv; subst hh; obtain ⟨j, hj, ex⟩ := elP_i hw hn; subst ex
  refine lv_aload_n hx hb dX3_resize_5 rfl (lv_at hl 0 rfl) ?_
  refine fg_X3_elements hx hb hts hown hE hP q_103 dX3_resize_6 ?_
  refine lv_iload_n hx hb dX3_resize_9 rfl (lv_at hl 1 rfl) ?_
  refine xw_callV (C := "java/util/ArrayList") (n := 1) [.int (nI j)] (c_get_elements l hP hz (by omega)) hx hb hml hown hts hE hS (xw_recv hE hP (3, 0) rfl rfl) rfl rfl q_24 q_195 q_198 q_196 q_197 (by decide) rfl ⟨by rw [hRf]; decide, by rw [hRl]; decide⟩ hl.1 rfl (Nat.le_of_ble_eq_true rfl) dX3_resize_10 ⟨by rw [hRc]; omega, by rw [hRs]; omega⟩ (fun v H1 locs hp hS => ?_)
  obtain ⟨hv, hh⟩ := hp; subst hv; subst hh
  refine xc_el (i := j) hx hb hts hown hE hP (by first | assumption | omega) q_209 dX3_resize_13 ?_
  refine lv_astore_n (lv' := [(3, .ref (ad (13, j))), (0, .ref (ad (0, 0))), (1, .int (nI j)), (2, .int k)]) hx hb dX3_resize_16 rfl hl (by decide) rfl (fun ls hl => ?_)
  refine lv_aload_n hx hb dX3_resize_17 rfl (lv_at hl 0 rfl) ?_
  refine fg_X0_isSource (i := j) (by first | assumption | omega) hx hb hts hown hE hP q_554 dX3_resize_18 ?_
  refine lv_iload_n hx hb dX3_resize_21 rfl (lv_at hl 3 rfl) ?_
  refine xx_callS (n := 2) [.int (eS z j), .int k] (c_X3_checkSize l hls (eS z j) k) hx hb hml hown hts hE hF hS rfl rfl q_21 q_210 q_212 q_211 (by decide) rfl ⟨by rw [hRf]; decide, by rw [hRl]; decide⟩ hl.1 rfl (Nat.le_of_ble_eq_true rfl) dX3_resize_22 ⟨by rw [hRc]; omega, by rw [hRs]; omega⟩ (fun E ce q9 H1 locs hp hS hce hcv hcl => ?_) (fun v H1 locs hp hS => ?_)
  · skip
    exact xx_out hQ htab hlocks hH hS hce hcv hcl (by omega) (by omega) (⟨Or.inr (Or.inl ⟨by rw [tRes, if_neg (not_not_intro hn), cl_nI (by omega), if_pos hp.2.1], hp.1⟩), (hP.kept hp.2.2.1 hp.2.2.2).B⟩)
  obtain ⟨hv, hh, hsz⟩ := hp; subst hv; subst hh
  refine lv_aload_n hx hb dX3_resize_25 rfl (lv_at hl 0 rfl) ?_
  refine fg_X0_size (i := j) (by first | assumption | omega) hx hb hts hown hE hP q_560 dX3_resize_26 ?_
  refine lv_istore (lv' := [(4, .int (eZ z j)), (3, .ref (ad (13, j))), (0, .ref (ad (0, 0))), (1, .int (nI j)), (2, .int k)]) hx hb dX3_resize_29 hl (by decide) rfl (fun ls hl => ?_)
  refine lv_aload_n hx hb dX3_resize_31 rfl (lv_at hl 1 rfl) ?_
  refine lv_iload_n hx hb dX3_resize_32 rfl (lv_at hl 4 rfl) ?_
  refine fp_X0_size (i := j) (by first | assumption | omega) hx hb hts hown hE hS hP q_560 dX3_resize_33 (fun H locs hP hS => ?_)
  refine lv_iload hx hb dX3_resize_36 (lv_at hl 0 rfl) ?_
  exact xx_iret hQ hx hb hr hlocks hH hS (by omega) (by omega) (⟨by rw [cl_nI (by omega)], by rw [tRes, if_neg (not_not_intro hn), cl_nI (by omega), if_neg (not_not_intro hsz)], by rw [cl_nI (by omega)]; exact hP.B⟩) dX3_resize_38

set_option maxHeartbeats 4000000 in
set_option maxRecDepth 100000 in
theorem c_X3_begin (l : Launch) (hls : l.stackTraces = false) {D : va_G} {y : Nat → ClassId} {A : Nat → Prop} {ad : xL → Nat} {bl : xM} {z : xC} {g : Nat → Int32} {pl : Nat → Int32} {kn : Nat → Int64} {rw : Nat → Nat → Int64} {mi : Nat → Int64} {un : Int32} {fR fO : Nat → Nat → Option va_E} {Hs : Heap} (hP : xW D A ad (wU (wB y ad bl z g pl kn rw mi un) fR fO) Hs) (hz : bOk bl z) (x b : Int32) (hb01 : b = 0 ∨ b = 1) : vx_Met l yX3_begin (.code yX3_begin cX3_begin 5 (some .boolean) :: WG) { frames := 7, cells := 1, slots := 6, locals := 121 } (xPcX [.ref (ad (0, 0)), .int x, .int b] D y A Hs) (xQ (fun v H1 => v = some (.int (eO z (clN x))) ∧ tBeg z x = 0 ∧ xB D A y ad bl (s_eO z (upd (eO z) (clN x) b)) fR fO H1) A) (xX (fun E H1 => (fun k E => k = 1 ∧ E = eIOB) (tBeg z x) E ∧ xB D A y ad bl z fR fO H1) A) 1 6 A := by
  refine xM_goX (by decide) (Nat.le_of_ble_eq_true rfl) (fun p e s m args below meth c ls R Q hx hb hr hlocks hml hown hts hH hE hnm hRf hRl hRc hRs hQ hS hl hF htab => ?_)
  have hRf : R.frames = 7 := hRf
  have hRl : R.locals = 121 := hRl
  have hRc : R.cells = 1 := hRc
  have hRs : R.slots = 6 := hRs
  have hl : lv_has ls 5 [(0, .ref (ad (0, 0))), (1, .int x), (2, .int b)] := hl
  have hw := hz.w
  have hN := hw.N
  have hE20 := hw.E
  refine lv_aload_n hx hb dX3_begin_0 rfl (lv_at hl 0 rfl) ?_
  refine lv_iload_n hx hb dX3_begin_1 rfl (lv_at hl 1 rfl) ?_
  refine xx_callV (C := "NetlistBench") (n := 1) [.int x] (c_X3_checkElement l hls hP hz x) hx hb hml hown hts hE hF hS (xw_recv hE hP (0, 0) rfl rfl) rfl rfl q_21 q_119 q_122 q_121 q_0 (by decide) rfl ⟨by rw [hRf]; decide, by rw [hRl]; decide⟩ hl.1 rfl (Nat.le_of_ble_eq_true rfl) dX3_begin_2 ⟨by rw [hRc]; omega, by rw [hRs]; omega⟩ (fun E ce q9 H1 locs hp hS hce hcv hcl => ?_) (fun v H1 locs hp hS => ?_)
  · skip
    exact xx_out hQ htab hlocks hH hS hce hcv hcl (by omega) (by omega) (⟨⟨by rw [tBeg, if_pos hp.2.1], hp.1⟩, (hP.kept hp.2.2.1 hp.2.2.2).B⟩)
  obtain ⟨hv, hh, hn⟩ := hp; subst hv; subst hh; obtain ⟨j, hj, ex⟩ := elP_i hw hn; subst ex
  refine lv_aload_n hx hb dX3_begin_5 rfl (lv_at hl 0 rfl) ?_
  refine fg_X3_elements hx hb hts hown hE hP q_103 dX3_begin_6 ?_
  refine lv_iload_n hx hb dX3_begin_9 rfl (lv_at hl 1 rfl) ?_
  refine xw_callV (C := "java/util/ArrayList") (n := 1) [.int (nI j)] (c_get_elements l hP hz (by omega)) hx hb hml hown hts hE hS (xw_recv hE hP (3, 0) rfl rfl) rfl rfl q_24 q_195 q_198 q_196 q_197 (by decide) rfl ⟨by rw [hRf]; decide, by rw [hRl]; decide⟩ hl.1 rfl (Nat.le_of_ble_eq_true rfl) dX3_begin_10 ⟨by rw [hRc]; omega, by rw [hRs]; omega⟩ (fun v H1 locs hp hS => ?_)
  obtain ⟨hv, hh⟩ := hp; subst hv; subst hh
  refine xc_el (i := j) hx hb hts hown hE hP (by first | assumption | omega) q_209 dX3_begin_13 ?_
  refine lv_astore_n (lv' := [(3, .ref (ad (13, j))), (0, .ref (ad (0, 0))), (1, .int (nI j)), (2, .int b)]) hx hb dX3_begin_16 rfl hl (by decide) rfl (fun ls hl => ?_)
  refine lv_aload_n hx hb dX3_begin_17 rfl (lv_at hl 0 rfl) ?_
  refine fg_X0_startsOn (i := j) (by first | assumption | omega) hx hb hts hown hE hP q_562 dX3_begin_18 ?_
  refine lv_istore (lv' := [(4, .int (eO z j)), (3, .ref (ad (13, j))), (0, .ref (ad (0, 0))), (1, .int (nI j)), (2, .int b)]) hx hb dX3_begin_21 hl (by decide) rfl (fun ls hl => ?_)
  refine lv_aload_n hx hb dX3_begin_23 rfl (lv_at hl 1 rfl) ?_
  refine lv_iload_n hx hb dX3_begin_24 rfl (lv_at hl 4 rfl) ?_
  refine fp_X0_startsOn (i := j) (by first | assumption | omega) hx hb hts hown hE hS hP (by first | assumption | decide | omega) q_562 dX3_begin_25 (fun H locs hP hS => ?_)
  refine lv_iload hx hb dX3_begin_28 (lv_at hl 0 rfl) ?_
  exact xx_zret hQ hx hb hr hlocks hH hS (hw.o hj) (by omega) (by omega) (⟨by rw [cl_nI (by omega)], by rw [tBeg, if_neg (not_not_intro hn)], by rw [cl_nI (by omega)]; exact hP.B⟩) dX3_begin_30

set_option maxHeartbeats 4000000 in
set_option maxRecDepth 100000 in
theorem c_X3_rail (l : Launch) (hls : l.stackTraces = false) {D : va_G} {y : Nat → ClassId} {A : Nat → Prop} {ad : xL → Nat} {bl : xM} {z : xC} {g : Nat → Int32} {pl : Nat → Int32} {kn : Nat → Int64} {rw : Nat → Nat → Int64} {mi : Nat → Int64} {un : Int32} {fR fO : Nat → Nat → Option va_E} {Hs : Heap} (hP : xW D A ad (wU (wB y ad bl z g pl kn rw mi un) fR fO) Hs) (hz : bOk bl z) (x b k : Int32) (hb01 : b = 0 ∨ b = 1) : vx_Met l yX3_rail (.code yX3_rail cX3_rail 6 (some .boolean) :: WG) { frames := 7, cells := 2, slots := 12, locals := 121 } (xPcX [.ref (ad (0, 0)), .int x, .int b, .int k] D y A Hs) (xQ (fun v H1 => v = some (.int (nR z (clN x))) ∧ tRail z x b k = 0 ∧ xB D A y ad bl (zRail z (clN x) b k) fR fO H1) A) (xX (fun E H1 => ex3 (tRail z x b k) E ∧ xB D A y ad bl z fR fO H1) A) 2 12 A := by
  refine xM_goX (by decide) (Nat.le_of_ble_eq_true rfl) (fun p e s m args below meth c ls R Q hx hb hr hlocks hml hown hts hH hE hnm hRf hRl hRc hRs hQ hS hl hF htab => ?_)
  have hRf : R.frames = 7 := hRf
  have hRl : R.locals = 121 := hRl
  have hRc : R.cells = 2 := hRc
  have hRs : R.slots = 12 := hRs
  have hl : lv_has ls 6 [(0, .ref (ad (0, 0))), (1, .int x), (2, .int b), (3, .int k)] := hl
  have hw := hz.w
  have hN := hw.N
  have hE20 := hw.E
  refine lv_aload_n hx hb dX3_rail_0 rfl (lv_at hl 0 rfl) ?_
  refine lv_iload_n hx hb dX3_rail_1 rfl (lv_at hl 1 rfl) ?_
  refine xx_callV (C := "NetlistBench") (n := 1) [.int x] (c_X3_checkNode l hls hP hz x) hx hb hml hown hts hE hF hS (xw_recv hE hP (0, 0) rfl rfl) rfl rfl q_21 q_233 q_236 q_235 q_2 (by decide) rfl ⟨by rw [hRf]; decide, by rw [hRl]; decide⟩ hl.1 rfl (Nat.le_of_ble_eq_true rfl) dX3_rail_2 ⟨by rw [hRc]; omega, by rw [hRs]; omega⟩ (fun E ce q9 H1 locs hp hS hce hcv hcl => ?_) (fun v H1 locs hp hS => ?_)
  · skip
    exact xx_out hQ htab hlocks hH hS hce hcv hcl (by omega) (by omega) (⟨Or.inl ⟨by rw [tRail, if_pos hp.2.1], hp.1⟩, (hP.kept hp.2.2.1 hp.2.2.2).B⟩)
  obtain ⟨hv, hh, hn⟩ := hp; subst hv; subst hh; obtain ⟨j, hj, ex⟩ := nodeP_i hw hn; subst ex
  refine lv_iload_n hx hb dX3_rail_5 rfl (lv_at hl 2 rfl) ?_
  refine lv_if_eq (tgt := 31) hx hb dX3_rail_6 (by decide) (fun c6 => ?_) (fun c6 => ?_)
  · skip
    have K31 : (¬ (¬ b = 0 ∧ ¬ (-99 ≤ k ∧ k ≤ nI 99))) → ∀ (locs : List Loc) (ls : Array Slot), va_S A Hs Hs locs → lv_has ls 6 [(3, .int k), (2, .int b), (1, .int (nI j)), (0, .ref (ad (0, 0)))] → W p l e R s m args below meth c Hs locs 1 6 Q (F0 m 31 ls []) := by
      intro  h31 locs ls hS hl
      refine lv_aload_n hx hb dX3_rail_31 rfl (lv_at hl 3 rfl) ?_
      refine fg_X3_nodes hx hb hts hown hE hP q_102 dX3_rail_32 ?_
      refine lv_iload_n hx hb dX3_rail_35 rfl (lv_at hl 2 rfl) ?_
      refine xw_callV (C := "java/util/ArrayList") (n := 1) [.int (nI j)] (c_get_nodes l hP hz (by omega)) hx hb hml hown hts hE hS (xw_recv hE hP (1, 0) rfl rfl) rfl rfl q_24 q_195 q_198 q_196 q_197 (by decide) rfl ⟨by rw [hRf]; decide, by rw [hRl]; decide⟩ hl.1 rfl (Nat.le_of_ble_eq_true rfl) dX3_rail_36 ⟨by rw [hRc]; omega, by rw [hRs]; omega⟩ (fun v H1 locs hp hS => ?_)
      obtain ⟨hv, hh⟩ := hp; subst hv; subst hh
      refine xc_nd (i := j) hx hb hts hown hE hP (by first | assumption | omega) q_266 dX3_rail_39 ?_
      refine lv_astore (lv' := [(4, .ref (ad (12, j))), (3, .int k), (2, .int b), (1, .int (nI j)), (0, .ref (ad (0, 0)))]) hx hb dX3_rail_42 hl (by decide) rfl (fun ls hl => ?_)
      refine lv_aload hx hb dX3_rail_44 (lv_at hl 0 rfl) ?_
      refine fg_X2_isRail (i := j) (by first | assumption | omega) hx hb hts hown hE hP q_471 dX3_rail_46 ?_
      refine lv_istore (lv' := [(5, .int (nR z j)), (4, .ref (ad (12, j))), (3, .int k), (2, .int b), (1, .int (nI j)), (0, .ref (ad (0, 0)))]) hx hb dX3_rail_49 hl (by decide) rfl (fun ls hl => ?_)
      refine lv_aload hx hb dX3_rail_51 (lv_at hl 1 rfl) ?_
      refine lv_iload_n hx hb dX3_rail_53 rfl (lv_at hl 3 rfl) ?_
      refine fp_X2_isRail (i := j) (by first | assumption | omega) hx hb hts hown hE hS hP (by first | assumption | decide | omega) q_471 dX3_rail_54 (fun H locs hP hS => ?_)
      refine lv_aload hx hb dX3_rail_57 (lv_at hl 1 rfl) ?_
      refine lv_iload_n hx hb dX3_rail_59 rfl (lv_at hl 3 rfl) ?_
      refine lv_if_eq (tgt := 67) hx hb dX3_rail_60 (by decide) (fun c60 => ?_) (fun c60 => ?_)
      · skip
        refine lv_iconst (v := nI 0) hx hb dX3_rail_67 (by decide) ?_
        refine fp_X2_railPotential (i := j) (show j < nN (s_nR z (upd (nR z) j b)) from hj) hx hb hts hown hE hS hP q_473 dX3_rail_68 (fun H locs hP hS => ?_)
        refine lv_iload hx hb dX3_rail_71 (lv_at hl 0 rfl) ?_
        exact xx_zret hQ hx hb hr hlocks hH hS (hw.r hj) (by omega) (by omega) (⟨by rw [cl_nI (by omega)], by rw [tRail, if_neg (not_not_intro hn), if_neg h31], by rw [cl_nI (by omega)]; exact (hP.ct (by rw [zRail, if_pos c60]; rfl)).B⟩) dX3_rail_73
      · skip
        refine lv_iload_n hx hb dX3_rail_63 rfl (lv_at hl 2 rfl) ?_
        refine lv_goto (tgt := 68) hx hb dX3_rail_64 (by decide) ?_
        refine fp_X2_railPotential (i := j) (show j < nN (s_nR z (upd (nR z) j b)) from hj) hx hb hts hown hE hS hP q_473 dX3_rail_68 (fun H locs hP hS => ?_)
        refine lv_iload hx hb dX3_rail_71 (lv_at hl 0 rfl) ?_
        exact xx_zret hQ hx hb hr hlocks hH hS (hw.r hj) (by omega) (by omega) (⟨by rw [cl_nI (by omega)], by rw [tRail, if_neg (not_not_intro hn), if_neg h31], by rw [cl_nI (by omega)]; exact (hP.ct (by rw [zRail, if_neg c60]; rfl)).B⟩) dX3_rail_73
    exact K31 (fun h => by first | exact h.1 c6 | exact h.2 ⟨Int32.not_lt.mp c12, c18⟩) _ _ hS (lv_sub hl [3, 2, 1, 0] rfl)
  · skip
    refine lv_iload_n hx hb dX3_rail_9 rfl (lv_at hl 3 rfl) ?_
    refine lv_bipush (v := (-99)) hx hb dX3_rail_10 (by decide) ?_
    refine lv_icmp_lt (tgt := 21) hx hb dX3_rail_12 (by decide) (fun c12 => ?_) (fun c12 => ?_)
    · skip
      exact xw_throw (text := "the potential of a rail is -99 to 99") xt_IAE hQ hx hb hls hown hts hlocks hH hF hS htab (by rw [hml]; exact hl.1) (by decide) dX3_rail_21 dX3_rail_24 dX3_rail_25 dX3_rail_27 dX3_rail_30 (by rw [hRf]; decide) (by rw [hRl]; decide) (by rw [hRc]; omega) (by rw [hRs]; omega) (by omega) (by omega) (fun H1 hz1 hk1 => ⟨Or.inr (Or.inl ⟨by rw [tRail, if_neg (not_not_intro hn), if_pos ⟨c6, fun h => by first | exact (Int32.not_le.mpr c12) h.1 | exact c18 h.2⟩], rfl⟩), (hP.kept hz1 hk1).B⟩)
    · skip
      refine lv_iload_n hx hb dX3_rail_15 rfl (lv_at hl 3 rfl) ?_
      refine lv_bipush (v := nI 99) hx hb dX3_rail_16 (by decide) ?_
      refine lv_icmp_le (tgt := 31) hx hb dX3_rail_18 (by decide) (fun c18 => ?_) (fun c18 => ?_)
      · skip
        have K31 : (¬ (¬ b = 0 ∧ ¬ (-99 ≤ k ∧ k ≤ nI 99))) → ∀ (locs : List Loc) (ls : Array Slot), va_S A Hs Hs locs → lv_has ls 6 [(3, .int k), (2, .int b), (1, .int (nI j)), (0, .ref (ad (0, 0)))] → W p l e R s m args below meth c Hs locs 1 6 Q (F0 m 31 ls []) := by
          intro  h31 locs ls hS hl
          refine lv_aload_n hx hb dX3_rail_31 rfl (lv_at hl 3 rfl) ?_
          refine fg_X3_nodes hx hb hts hown hE hP q_102 dX3_rail_32 ?_
          refine lv_iload_n hx hb dX3_rail_35 rfl (lv_at hl 2 rfl) ?_
          refine xw_callV (C := "java/util/ArrayList") (n := 1) [.int (nI j)] (c_get_nodes l hP hz (by omega)) hx hb hml hown hts hE hS (xw_recv hE hP (1, 0) rfl rfl) rfl rfl q_24 q_195 q_198 q_196 q_197 (by decide) rfl ⟨by rw [hRf]; decide, by rw [hRl]; decide⟩ hl.1 rfl (Nat.le_of_ble_eq_true rfl) dX3_rail_36 ⟨by rw [hRc]; omega, by rw [hRs]; omega⟩ (fun v H1 locs hp hS => ?_)
          obtain ⟨hv, hh⟩ := hp; subst hv; subst hh
          refine xc_nd (i := j) hx hb hts hown hE hP (by first | assumption | omega) q_266 dX3_rail_39 ?_
          refine lv_astore (lv' := [(4, .ref (ad (12, j))), (3, .int k), (2, .int b), (1, .int (nI j)), (0, .ref (ad (0, 0)))]) hx hb dX3_rail_42 hl (by decide) rfl (fun ls hl => ?_)
          refine lv_aload hx hb dX3_rail_44 (lv_at hl 0 rfl) ?_
          refine fg_X2_isRail (i := j) (by first | assumption | omega) hx hb hts hown hE hP q_471 dX3_rail_46 ?_
          refine lv_istore (lv' := [(5, .int (nR z j)), (4, .ref (ad (12, j))), (3, .int k), (2, .int b), (1, .int (nI j)), (0, .ref (ad (0, 0)))]) hx hb dX3_rail_49 hl (by decide) rfl (fun ls hl => ?_)
          refine lv_aload hx hb dX3_rail_51 (lv_at hl 1 rfl) ?_
          refine lv_iload_n hx hb dX3_rail_53 rfl (lv_at hl 3 rfl) ?_
          refine fp_X2_isRail (i := j) (by first | assumption | omega) hx hb hts hown hE hS hP (by first | assumption | decide | omega) q_471 dX3_rail_54 (fun H locs hP hS => ?_)
          refine lv_aload hx hb dX3_rail_57 (lv_at hl 1 rfl) ?_
          refine lv_iload_n hx hb dX3_rail_59 rfl (lv_at hl 3 rfl) ?_
          refine lv_if_eq (tgt := 67) hx hb dX3_rail_60 (by decide) (fun c60 => ?_) (fun c60 => ?_)
          · skip
            refine lv_iconst (v := nI 0) hx hb dX3_rail_67 (by decide) ?_
            refine fp_X2_railPotential (i := j) (show j < nN (s_nR z (upd (nR z) j b)) from hj) hx hb hts hown hE hS hP q_473 dX3_rail_68 (fun H locs hP hS => ?_)
            refine lv_iload hx hb dX3_rail_71 (lv_at hl 0 rfl) ?_
            exact xx_zret hQ hx hb hr hlocks hH hS (hw.r hj) (by omega) (by omega) (⟨by rw [cl_nI (by omega)], by rw [tRail, if_neg (not_not_intro hn), if_neg h31], by rw [cl_nI (by omega)]; exact (hP.ct (by rw [zRail, if_pos c60]; rfl)).B⟩) dX3_rail_73
          · skip
            refine lv_iload_n hx hb dX3_rail_63 rfl (lv_at hl 2 rfl) ?_
            refine lv_goto (tgt := 68) hx hb dX3_rail_64 (by decide) ?_
            refine fp_X2_railPotential (i := j) (show j < nN (s_nR z (upd (nR z) j b)) from hj) hx hb hts hown hE hS hP q_473 dX3_rail_68 (fun H locs hP hS => ?_)
            refine lv_iload hx hb dX3_rail_71 (lv_at hl 0 rfl) ?_
            exact xx_zret hQ hx hb hr hlocks hH hS (hw.r hj) (by omega) (by omega) (⟨by rw [cl_nI (by omega)], by rw [tRail, if_neg (not_not_intro hn), if_neg h31], by rw [cl_nI (by omega)]; exact (hP.ct (by rw [zRail, if_neg c60]; rfl)).B⟩) dX3_rail_73
        exact K31 (fun h => by first | exact h.1 c6 | exact h.2 ⟨Int32.not_lt.mp c12, c18⟩) _ _ hS (lv_sub hl [3, 2, 1, 0] rfl)
      · skip
        exact xw_throw (text := "the potential of a rail is -99 to 99") xt_IAE hQ hx hb hls hown hts hlocks hH hF hS htab (by rw [hml]; exact hl.1) (by decide) dX3_rail_21 dX3_rail_24 dX3_rail_25 dX3_rail_27 dX3_rail_30 (by rw [hRf]; decide) (by rw [hRl]; decide) (by rw [hRc]; omega) (by rw [hRs]; omega) (by omega) (by omega) (fun H1 hz1 hk1 => ⟨Or.inr (Or.inl ⟨by rw [tRail, if_neg (not_not_intro hn), if_pos ⟨c6, fun h => by first | exact (Int32.not_le.mpr c12) h.1 | exact c18 h.2⟩], rfl⟩), (hP.kept hz1 hk1).B⟩)

set_option maxHeartbeats 4000000 in
set_option maxRecDepth 100000 in
theorem c_X0_putToggle (l : Launch) {D : va_G} {y : Nat → ClassId} {A : Nat → Prop} {ad : xL → Nat} {bl : xM} {z : xC} {g : Nat → Int32} {pl : Nat → Int32} {kn : Nat → Int64} {rw : Nat → Nat → Int64} {mi : Nat → Int64} {un : Int32} {fR fO : Nat → Nat → Option va_E} {Hs : Heap} (hP : xW D A ad (wU (wB y ad bl z g pl kn rw mi un) fR fO) Hs) (hw : wf z) {i : Nat} (hi : i < nE z) (t : Int32) (h6 : cT z i < 6) : Met l yX0_putToggle (.code yX0_putToggle cX0_putToggle 4 none :: WG) { frames := 1, cells := 0, slots := 0, locals := 23 } (xPc [.ref (ad (13, i)), .int t] D y Hs) (xQ (fun v H1 => v = none ∧ xW D A ad (wU (wB y ad bl (zPut z i t) g pl kn rw mi un) fR fO) H1) A) 0 0 A := by
  refine xM_go (by decide) (Nat.le_of_ble_eq_true rfl) (fun p e s m args below meth c ls R Q hx hb hr hlocks hml hown hts hH hE hnm hRf hRl hRc hRs hQ hS hl => ?_)
  have hRf : R.frames = 1 := hRf
  have hRl : R.locals = 23 := hRl
  have hRc : R.cells = 0 := hRc
  have hRs : R.slots = 0 := hRs
  have hl : lv_has ls 4 [(0, .ref (ad (13, i))), (1, .int t)] := hl
  have hN := hw.N
  have hE20 := hw.E
  have ht := hw.t hi
  have hple := tb_le z i t (cT z i)
  refine lv_aload_n hx hb dX0_putToggle_0 rfl (lv_at hl 0 rfl) ?_
  refine fg_X0_toggles (i := i) (by first | assumption | omega) hx hb hts hown hE hP q_563 dX0_putToggle_1 ?_
  refine xt_i (w := nI (cT z i)) (ht) ?_
  refine lv_bipush (v := nI 6) hx hb dX0_putToggle_4 (by decide) ?_
  refine lv_icmp_lt (tgt := 10) hx hb dX0_putToggle_6 (by decide) (fun c6 => ?_) (fun c6 => ?_)
  · skip
    have c6 := ni_lt (a := (cT z i)) (b := 6) (by omega) (by omega) c6
    refine lv_aload_n hx hb dX0_putToggle_10 rfl (lv_at hl 0 rfl) ?_
    refine lv_iload_n hx hb dX0_putToggle_11 rfl (lv_at hl 1 rfl) ?_
    refine xw_callV (C := "NetlistBench$Element") (n := 1) [.int t] (c_X0_togglesBefore l hP hw hi t) hx hb hml hown hts hE hS (xr_el hE hP (by first | assumption | omega)) rfl rfl q_40 q_250 q_254 q_252 q_4 (by decide) rfl ⟨by rw [hRf]; decide, by rw [hRl]; decide⟩ hl.1 rfl (Nat.le_of_ble_eq_true rfl) dX0_putToggle_12 ⟨by rw [hRc]; decide, by rw [hRs]; decide⟩ (fun v H1 locs hp hS => ?_)
    obtain ⟨hv, hh⟩ := hp; subst hv; subst hh
    refine lv_istore_n (lv' := [(2, .int (nI (tb z i t (cT z i)))), (0, .ref (ad (13, i))), (1, .int t)]) hx hb dX0_putToggle_15 rfl hl (by decide) rfl (fun ls hl => ?_)
    refine lv_aload_n hx hb dX0_putToggle_16 rfl (lv_at hl 1 rfl) ?_
    refine fg_X0_toggles (i := i) (by first | assumption | omega) hx hb hts hown hE hP q_563 dX0_putToggle_17 ?_
    refine xt_i (w := nI (cT z i)) (ht) ?_
    refine lv_istore_n (lv' := [(3, .int (nI (cT z i))), (2, .int (nI (tb z i t (cT z i)))), (0, .ref (ad (13, i))), (1, .int t)]) hx hb dX0_putToggle_20 rfl hl (by decide) rfl (fun ls hl => ?_)
    have K21 : ∀ (nn : Nat), ∀ (k : Nat) (f2 : Nat → Int32), (k ≤ cT z i) → (tb z i t (cT z i) ≤ k) → (∀ q, f2 q = if 6 * i + k < q ∧ q ≤ 6 * i + cT z i then tT z (q - 1) else tT z q) → k < nn → ∀ (H : Heap) (locs : List Loc) (ls : Array Slot), xW D A ad (wU (wB y ad bl ((s_tT z f2)) g pl kn rw mi un) fR fO) H → va_S A Hs H locs → lv_has ls 4 [(3, .int (nI k)), (2, .int (nI (tb z i t (cT z i)))), (1, .int t), (0, .ref (ad (13, i)))] → W p l e R s m args below meth c H locs 0 0 Q (F0 m 21 ls []) := by
      intro nn
      induction nn with
      | zero => intro k f2 hk1 hk2 hf h; exact absurd h (Nat.not_lt_zero _)
      | succ nn ih21 =>
        intro k f2 hk1 hk2 hf hn21 H locs ls hP hS hl
        refine lv_iload_n hx hb dX0_putToggle_21 rfl (lv_at hl 0 rfl) ?_
        refine lv_iload_n hx hb dX0_putToggle_22 rfl (lv_at hl 1 rfl) ?_
        refine lv_icmp_le (tgt := 46) hx hb dX0_putToggle_23 (by decide) (fun c23 => ?_) (fun c23 => ?_)
        · skip
          have c23 := ni_le (a := k) (b := (tb z i t (cT z i))) (by omega) (by omega) c23
          refine lv_aload_n hx hb dX0_putToggle_46 rfl (lv_at hl 3 rfl) ?_
          refine fg_X0_times (i := i) (show i < nE (s_tT z f2) from hi) hx hb hts hown hE hP q_565 dX0_putToggle_47 ?_
          refine lv_iload_n hx hb dX0_putToggle_50 rfl (lv_at hl 1 rfl) ?_
          refine lv_iload_n hx hb dX0_putToggle_51 rfl (lv_at hl 2 rfl) ?_
          refine as_times (i := i) (show i < nE (s_tT z f2) from hi) hx hb hE hS hP (j := tb z i t (cT z i)) (by omega) dX0_putToggle_52 (fun H locs hP hS => ?_)
          refine lv_aload_n hx hb dX0_putToggle_53 rfl (lv_at hl 3 rfl) ?_
          refine lv_dup hx hb dX0_putToggle_54 rfl ?_
          refine fg_X0_toggles (i := i) (by exact hi) hx hb hts hown hE hP q_563 dX0_putToggle_55 ?_
          refine xt_i (w := nI (cT z i)) (ht) ?_
          refine lv_iconst (v := nI 1) hx hb dX0_putToggle_58 (by decide) ?_
          refine lv_iadd hx hb dX0_putToggle_59 ?_
          refine xt_i (nI_add (cT z i) 1) ?_
          refine fp_X0_toggles (i := i) (by exact hi) hx hb hts hown hE hS hP q_563 dX0_putToggle_60 (fun H locs hP hS => ?_)
          exact xe_vret hQ hx hb hr hlocks hH hS (Nat.le_refl _) (Nat.le_refl _) (⟨rfl, hP.ct (by rw [zPut, ← put_e (show ∀ q, f2 q = if 6 * i + tb z i t (cT z i) < q ∧ q ≤ 6 * i + cT z i then tT z (q - 1) else tT z q by rw [show tb z i t (cT z i) = k by omega]; exact hf)]; rfl)⟩) dX0_putToggle_63
        · skip
          have c23 := ni_nle (a := k) (b := (tb z i t (cT z i))) (by omega) (by omega) c23
          refine lv_aload_n hx hb dX0_putToggle_26 rfl (lv_at hl 3 rfl) ?_
          refine fg_X0_times (i := i) (show i < nE (s_tT z f2) from hi) hx hb hts hown hE hP q_565 dX0_putToggle_27 ?_
          refine lv_iload_n hx hb dX0_putToggle_30 rfl (lv_at hl 0 rfl) ?_
          refine lv_aload_n hx hb dX0_putToggle_31 rfl (lv_at hl 3 rfl) ?_
          refine fg_X0_times (i := i) (show i < nE (s_tT z f2) from hi) hx hb hts hown hE hP q_565 dX0_putToggle_32 ?_
          refine lv_iload_n hx hb dX0_putToggle_35 rfl (lv_at hl 0 rfl) ?_
          refine lv_iconst (v := nI 1) hx hb dX0_putToggle_36 (by decide) ?_
          refine lv_isub hx hb dX0_putToggle_37 ?_
          refine xt_i (w := nI (k - 1)) (pk_sub (by omega)) ?_
          refine al_times (i := i) (show i < nE (s_tT z f2) from hi) hx hb hE hP (j := k - 1) (by omega) dX0_putToggle_38 ?_
          refine xt_i (w := f2 (6 * i + (k - 1))) (rfl) ?_
          refine as_times (i := i) (show i < nE (s_tT z f2) from hi) hx hb hE hS hP (j := k) (by omega) dX0_putToggle_39 (fun H locs hP hS => ?_)
          refine lv_iinc (v := nI (k - 1)) (lv' := [(3, .int (nI (k - 1))), (2, .int (nI (tb z i t (cT z i)))), (1, .int t), (0, .ref (ad (13, i)))]) hx hb dX0_putToggle_40 hl (k := 0) rfl (pk_dec (by omega)) (by decide) rfl (fun ls hl => ?_)
          refine lv_goto (tgt := 21) hx hb dX0_putToggle_43 (by decide) ?_
          exact ih21 (k - 1) (upd f2 (6 * i + k) (f2 (6 * i + (k - 1)))) (by omega) (by omega) (put_s (by omega) hf hk1) (by omega) _ _ _ hP hS (lv_sub hl [0, 1, 2, 3] rfl)
    exact K21 _ (cT z i) (tT z) (by omega) (by omega) (fun q => by rw [if_neg (by omega)]) (Nat.lt_succ_self _) _ _ _ hP hS (lv_sub hl [0, 1, 3, 2] rfl)
  · skip
    have c6 := ni_nlt (a := (cT z i)) (b := 6) (by omega) (by omega) c6
    exfalso; omega

set_option maxHeartbeats 4000000 in
set_option maxRecDepth 100000 in
theorem c_X0_dropToggle (l : Launch) {D : va_G} {y : Nat → ClassId} {A : Nat → Prop} {ad : xL → Nat} {bl : xM} {z : xC} {g : Nat → Int32} {pl : Nat → Int32} {kn : Nat → Int64} {rw : Nat → Nat → Int64} {mi : Nat → Int64} {un : Int32} {fR fO : Nat → Nat → Option va_E} {Hs : Heap} (hP : xW D A ad (wU (wB y ad bl z g pl kn rw mi un) fR fO) Hs) (hw : wf z) {i : Nat} (hi : i < nE z) (t : Int32) (h6 : tb z i t (cT z i) < cT z i) : Met l yX0_dropToggle (.code yX0_dropToggle cX0_dropToggle 3 none :: WG) { frames := 1, cells := 0, slots := 0, locals := 23 } (xPc [.ref (ad (13, i)), .int t] D y Hs) (xQ (fun v H1 => v = none ∧ xW D A ad (wU (wB y ad bl (zDrp z i t) g pl kn rw mi un) fR fO) H1) A) 0 0 A := by
  refine xM_go (by decide) (Nat.le_of_ble_eq_true rfl) (fun p e s m args below meth c ls R Q hx hb hr hlocks hml hown hts hH hE hnm hRf hRl hRc hRs hQ hS hl => ?_)
  have hRf : R.frames = 1 := hRf
  have hRl : R.locals = 23 := hRl
  have hRc : R.cells = 0 := hRc
  have hRs : R.slots = 0 := hRs
  have hl : lv_has ls 3 [(0, .ref (ad (13, i))), (1, .int t)] := hl
  have hN := hw.N
  have hE20 := hw.E
  have ht := hw.t hi
  have ht6 := hw.t6 hi
  refine lv_aload_n hx hb dX0_dropToggle_0 rfl (lv_at hl 0 rfl) ?_
  refine lv_iload_n hx hb dX0_dropToggle_1 rfl (lv_at hl 1 rfl) ?_
  refine xw_callV (C := "NetlistBench$Element") (n := 1) [.int t] (c_X0_togglesBefore l hP hw hi t) hx hb hml hown hts hE hS (xr_el hE hP (by first | assumption | omega)) rfl rfl q_40 q_250 q_254 q_252 q_4 (by decide) rfl ⟨by rw [hRf]; decide, by rw [hRl]; decide⟩ hl.1 rfl (Nat.le_of_ble_eq_true rfl) dX0_dropToggle_2 ⟨by rw [hRc]; decide, by rw [hRs]; decide⟩ (fun v H1 locs hp hS => ?_)
  obtain ⟨hv, hh⟩ := hp; subst hv; subst hh
  refine lv_iconst (v := nI 1) hx hb dX0_dropToggle_5 (by decide) ?_
  refine lv_iadd hx hb dX0_dropToggle_6 ?_
  refine xt_i (nI_add (tb z i t (cT z i)) 1) ?_
  refine lv_istore_n (lv' := [(2, .int (nI ((tb z i t (cT z i)) + 1))), (0, .ref (ad (13, i))), (1, .int t)]) hx hb dX0_dropToggle_7 rfl hl (by decide) rfl (fun ls hl => ?_)
  have K8 : ∀ (nn : Nat), ∀ (k : Nat) (f2 : Nat → Int32), (k ≤ cT z i) → (tb z i t (cT z i) < k) → (∀ q, f2 q = if 6 * i + tb z i t (cT z i) ≤ q ∧ q + 1 < 6 * i + k then tT z (q + 1) else tT z q) → cT z i - k < nn → ∀ (H : Heap) (locs : List Loc) (ls : Array Slot), xW D A ad (wU (wB y ad bl ((s_tT z f2)) g pl kn rw mi un) fR fO) H → va_S A Hs H locs → lv_has ls 3 [(2, .int (nI k)), (1, .int t), (0, .ref (ad (13, i)))] → W p l e R s m args below meth c H locs 0 0 Q (F0 m 8 ls []) := by
    intro nn
    induction nn with
    | zero => intro k f2 hk1 hk2 hf h; exact absurd h (Nat.not_lt_zero _)
    | succ nn ih8 =>
      intro k f2 hk1 hk2 hf hn8 H locs ls hP hS hl
      refine lv_iload_n hx hb dX0_dropToggle_8 rfl (lv_at hl 0 rfl) ?_
      refine lv_aload_n hx hb dX0_dropToggle_9 rfl (lv_at hl 2 rfl) ?_
      refine fg_X0_toggles (i := i) (show i < nE (s_tT z f2) from hi) hx hb hts hown hE hP q_563 dX0_dropToggle_10 ?_
      refine xt_i (w := nI (cT z i)) (ht) ?_
      refine lv_icmp_ge (tgt := 36) hx hb dX0_dropToggle_13 (by decide) (fun c13 => ?_) (fun c13 => ?_)
      · skip
        have c13 := ni_le (a := (cT z i)) (b := k) (by omega) (by omega) c13
        refine lv_aload_n hx hb dX0_dropToggle_36 rfl (lv_at hl 2 rfl) ?_
        refine lv_dup hx hb dX0_dropToggle_37 rfl ?_
        refine fg_X0_toggles (i := i) (show i < nE (s_tT z f2) from hi) hx hb hts hown hE hP q_563 dX0_dropToggle_38 ?_
        refine xt_i (w := nI (cT z i)) (ht) ?_
        refine lv_iconst (v := nI 1) hx hb dX0_dropToggle_41 (by decide) ?_
        refine lv_isub hx hb dX0_dropToggle_42 ?_
        refine xt_i (w := nI (cT z i - 1)) (pk_sub (by omega)) ?_
        refine fp_X0_toggles (i := i) (show i < nE (s_tT z f2) from hi) hx hb hts hown hE hS hP q_563 dX0_dropToggle_43 (fun H locs hP hS => ?_)
        exact xe_vret hQ hx hb hr hlocks hH hS (Nat.le_refl _) (Nat.le_refl _) (⟨rfl, hP.ct (by rw [zDrp, ← drp_e hf (Or.inl (by omega))]; rfl)⟩) dX0_dropToggle_46
      · skip
        have c13 := ni_nle (a := (cT z i)) (b := k) (by omega) (by omega) c13
        refine lv_aload_n hx hb dX0_dropToggle_16 rfl (lv_at hl 2 rfl) ?_
        refine fg_X0_times (i := i) (show i < nE (s_tT z f2) from hi) hx hb hts hown hE hP q_565 dX0_dropToggle_17 ?_
        refine lv_iload_n hx hb dX0_dropToggle_20 rfl (lv_at hl 0 rfl) ?_
        refine lv_iconst (v := nI 1) hx hb dX0_dropToggle_21 (by decide) ?_
        refine lv_isub hx hb dX0_dropToggle_22 ?_
        refine xt_i (w := nI (k - 1)) (pk_sub (by omega)) ?_
        refine lv_aload_n hx hb dX0_dropToggle_23 rfl (lv_at hl 2 rfl) ?_
        refine fg_X0_times (i := i) (show i < nE (s_tT z f2) from hi) hx hb hts hown hE hP q_565 dX0_dropToggle_24 ?_
        refine lv_iload_n hx hb dX0_dropToggle_27 rfl (lv_at hl 0 rfl) ?_
        refine al_times (i := i) (show i < nE (s_tT z f2) from hi) hx hb hE hP (j := k) (by omega) dX0_dropToggle_28 ?_
        refine xt_i (w := f2 (6 * i + k)) (rfl) ?_
        refine as_times (i := i) (show i < nE (s_tT z f2) from hi) hx hb hE hS hP (j := k - 1) (by omega) dX0_dropToggle_29 (fun H locs hP hS => ?_)
        refine lv_iinc (v := nI (k + 1)) (lv' := [(2, .int (nI (k + 1))), (1, .int t), (0, .ref (ad (13, i)))]) hx hb dX0_dropToggle_30 hl (k := 0) rfl (nI_1 _) (by decide) rfl (fun ls hl => ?_)
        refine lv_goto (tgt := 8) hx hb dX0_dropToggle_33 (by decide) ?_
        exact ih8 (k + 1) (upd f2 (6 * i + (k - 1)) (f2 (6 * i + k))) (by omega) (by omega) (drp_s hf hk2) (by omega) _ _ _ hP hS (lv_sub hl [0, 1, 2] rfl)
  exact K8 _ (tb z i t (cT z i) + 1) (tT z) (by omega) (by omega) (fun q => by rw [if_neg (by omega)]) (Nat.lt_succ_self _) _ _ _ hP hS (lv_sub hl [0, 2, 1] rfl)

set_option maxHeartbeats 4000000 in
set_option maxRecDepth 100000 in
theorem c_X3_toggle (l : Launch) (hls : l.stackTraces = false) {D : va_G} {y : Nat → ClassId} {A : Nat → Prop} {ad : xL → Nat} {bl : xM} {z : xC} {g : Nat → Int32} {pl : Nat → Int32} {kn : Nat → Int64} {rw : Nat → Nat → Int64} {mi : Nat → Int64} {un : Int32} {fR fO : Nat → Nat → Option va_E} {Hs : Heap} (hP : xW D A ad (wU (wB y ad bl z g pl kn rw mi un) fR fO) Hs) (hz : bOk bl z) (x t : Int32) : vx_Met l yX3_toggle (.code yX3_toggle cX3_toggle 4 (some .int) :: WG) { frames := 7, cells := 2, slots := 12, locals := 121 } (xPcX [.ref (ad (0, 0)), .int x, .int t] D y A Hs) (xQ (fun v H1 => v = some (.int (eT (zTog z (clN x) t) (clN x))) ∧ tTog z x t = 0 ∧ xB D A y ad bl (zTog z (clN x) t) fR fO H1) A) (xX (fun E H1 => ex3 (tTog z x t) E ∧ xB D A y ad bl z fR fO H1) A) 2 12 A := by
  refine xM_goX (by decide) (Nat.le_of_ble_eq_true rfl) (fun p e s m args below meth c ls R Q hx hb hr hlocks hml hown hts hH hE hnm hRf hRl hRc hRs hQ hS hl hF htab => ?_)
  have hRf : R.frames = 7 := hRf
  have hRl : R.locals = 121 := hRl
  have hRc : R.cells = 2 := hRc
  have hRs : R.slots = 12 := hRs
  have hl : lv_has ls 4 [(0, .ref (ad (0, 0))), (1, .int x), (2, .int t)] := hl
  have hw := hz.w
  have hN := hw.N
  have hE20 := hw.E
  refine lv_aload_n hx hb dX3_toggle_0 rfl (lv_at hl 0 rfl) ?_
  refine lv_iload_n hx hb dX3_toggle_1 rfl (lv_at hl 1 rfl) ?_
  refine xx_callV (C := "NetlistBench") (n := 1) [.int x] (c_X3_checkElement l hls hP hz x) hx hb hml hown hts hE hF hS (xw_recv hE hP (0, 0) rfl rfl) rfl rfl q_21 q_119 q_122 q_121 q_0 (by decide) rfl ⟨by rw [hRf]; decide, by rw [hRl]; decide⟩ hl.1 rfl (Nat.le_of_ble_eq_true rfl) dX3_toggle_2 ⟨by rw [hRc]; omega, by rw [hRs]; omega⟩ (fun E ce q9 H1 locs hp hS hce hcv hcl => ?_) (fun v H1 locs hp hS => ?_)
  · skip
    exact xx_out hQ htab hlocks hH hS hce hcv hcl (by omega) (by omega) (⟨Or.inl ⟨by rw [tTog, if_pos hp.2.1], hp.1⟩, (hP.kept hp.2.2.1 hp.2.2.2).B⟩)
  obtain ⟨hv, hh, hn⟩ := hp; subst hv; subst hh; obtain ⟨j, hj, ex⟩ := elP_i hw hn; subst ex
  refine lv_iload_n hx hb dX3_toggle_5 rfl (lv_at hl 2 rfl) ?_
  refine lv_iconst (v := nI 1) hx hb dX3_toggle_6 (by decide) ?_
  refine lv_icmp_lt (tgt := 17) hx hb dX3_toggle_7 (by decide) (fun c7 => ?_) (fun c7 => ?_)
  · skip
    exact xw_throw (text := "the time of a toggle is 1 to 999") xt_IAE hQ hx hb hls hown hts hlocks hH hF hS htab (by rw [hml]; exact hl.1) (by decide) dX3_toggle_17 dX3_toggle_20 dX3_toggle_21 dX3_toggle_23 dX3_toggle_26 (by rw [hRf]; decide) (by rw [hRl]; decide) (by rw [hRc]; omega) (by rw [hRs]; omega) (by omega) (by omega) (fun H1 hz1 hk1 => ⟨Or.inr (Or.inl ⟨by rw [tTog, if_neg (not_not_intro hn), if_pos (fun h => by first | exact (Int32.not_le.mpr c7) h.1 | exact c14 h.2)], rfl⟩), (hP.kept hz1 hk1).B⟩)
  · skip
    refine lv_iload_n hx hb dX3_toggle_10 rfl (lv_at hl 2 rfl) ?_
    refine lv_sipush (v := nI 999) hx hb dX3_toggle_11 (by decide) ?_
    refine lv_icmp_le (tgt := 27) hx hb dX3_toggle_14 (by decide) (fun c14 => ?_) (fun c14 => ?_)
    · skip
      refine lv_aload_n hx hb dX3_toggle_27 rfl (lv_at hl 0 rfl) ?_
      refine fg_X3_elements hx hb hts hown hE hP q_103 dX3_toggle_28 ?_
      refine lv_iload_n hx hb dX3_toggle_31 rfl (lv_at hl 1 rfl) ?_
      refine xw_callV (C := "java/util/ArrayList") (n := 1) [.int (nI j)] (c_get_elements l hP hz (by omega)) hx hb hml hown hts hE hS (xw_recv hE hP (3, 0) rfl rfl) rfl rfl q_24 q_195 q_198 q_196 q_197 (by decide) rfl ⟨by rw [hRf]; decide, by rw [hRl]; decide⟩ hl.1 rfl (Nat.le_of_ble_eq_true rfl) dX3_toggle_32 ⟨by rw [hRc]; omega, by rw [hRs]; omega⟩ (fun v H1 locs hp hS => ?_)
      obtain ⟨hv, hh⟩ := hp; subst hv; subst hh
      refine xc_el (i := j) hx hb hts hown hE hP (by first | assumption | omega) q_209 dX3_toggle_35 ?_
      refine lv_astore_n (lv' := [(3, .ref (ad (13, j))), (0, .ref (ad (0, 0))), (1, .int (nI j)), (2, .int t)]) hx hb dX3_toggle_38 rfl hl (by decide) rfl (fun ls hl => ?_)
      have ht6 := hw.t6 hj
      have htj := hw.t hj
      have hle6 := tb_le z j (t + nI 1) (cT z j)
      refine lv_aload_n hx hb dX3_toggle_39 rfl (lv_at hl 0 rfl) ?_
      refine lv_iload_n hx hb dX3_toggle_40 rfl (lv_at hl 3 rfl) ?_
      refine xw_callV (C := "NetlistBench$Element") (n := 1) [.int t] (c_X0_hasToggle l hP hw hj t) hx hb hml hown hts hE hS (xr_el hE hP (by first | assumption | omega)) rfl rfl q_40 q_590 q_593 q_591 q_592 (by decide) rfl ⟨by rw [hRf]; decide, by rw [hRl]; decide⟩ hl.1 rfl (Nat.le_of_ble_eq_true rfl) dX3_toggle_41 ⟨by rw [hRc]; omega, by rw [hRs]; omega⟩ (fun v H1 locs hp hS => ?_)
      obtain ⟨hv, hh⟩ := hp; subst hv; subst hh
      refine lv_if_eq (tgt := 55) hx hb dX3_toggle_44 (by decide) (fun c44 => ?_) (fun c44 => ?_)
      · skip
        have hh : ¬ hasP z j t := fun h => by rw [if_pos h] at c44; exact absurd c44 (by decide)
        refine lv_aload_n hx hb dX3_toggle_55 rfl (lv_at hl 0 rfl) ?_
        refine fg_X0_toggles (i := j) (by first | assumption | omega) hx hb hts hown hE hP q_564 dX3_toggle_56 ?_
        refine xt_i (w := nI (cT z j)) (htj) ?_
        refine lv_bipush (v := nI 6) hx hb dX3_toggle_59 (by decide) ?_
        refine lv_icmp_ge (tgt := 72) hx hb dX3_toggle_61 (by decide) (fun c61 => ?_) (fun c61 => ?_)
        · skip
          have c61 := ni_le (a := 6) (b := (cT z j)) (by omega) (by omega) c61
          exact xw_throw (text := "the element has 6 toggles") xt_ISE hQ hx hb hls hown hts hlocks hH hF hS htab (by rw [hml]; exact hl.1) (by decide) dX3_toggle_72 dX3_toggle_75 dX3_toggle_76 dX3_toggle_78 dX3_toggle_81 (by rw [hRf]; decide) (by rw [hRl]; decide) (by rw [hRc]; omega) (by rw [hRs]; omega) (by omega) (by omega) (fun H1 hz1 hk1 => ⟨Or.inr (Or.inr ⟨by rw [tTog, if_neg (not_not_intro hn), if_neg (not_not_intro ⟨Int32.not_lt.mp c7, c14⟩), cl_nI (by omega), if_pos ⟨hh, by omega⟩], rfl⟩), (hP.kept hz1 hk1).B⟩)
        · skip
          have c61 := ni_nle (a := 6) (b := (cT z j)) (by omega) (by omega) c61
          refine lv_aload_n hx hb dX3_toggle_64 rfl (lv_at hl 0 rfl) ?_
          refine lv_iload_n hx hb dX3_toggle_65 rfl (lv_at hl 3 rfl) ?_
          refine xw_callV (C := "NetlistBench$Element") (n := 1) [.int t] (c_X0_putToggle l hP hw hj t (by omega)) hx hb hml hown hts hE hS (xr_el hE hP (by first | assumption | omega)) rfl rfl q_40 q_598 q_601 q_599 q_600 (by decide) rfl ⟨by rw [hRf]; decide, by rw [hRl]; decide⟩ hl.1 rfl (Nat.le_of_ble_eq_true rfl) dX3_toggle_66 ⟨by rw [hRc]; omega, by rw [hRs]; omega⟩ (fun v H1 locs hp hS => ?_)
          obtain ⟨hv, hP⟩ := hp; subst hv
          generalize H1 = H at hP hS ⊢
          refine lv_goto (tgt := 82) hx hb dX3_toggle_69 (by decide) ?_
          refine lv_aload_n hx hb dX3_toggle_82 rfl (lv_at hl 0 rfl) ?_
          refine fg_X0_toggles (i := j) (by first | exact hj | assumption) hx hb hts hown hE hP q_564 dX3_toggle_83 ?_
          exact xx_iret hQ hx hb hr hlocks hH hS (by omega) (by omega) (⟨by rw [cl_nI (by omega), zTog, if_neg hh], by rw [tTog, if_neg (not_not_intro hn), if_neg (not_not_intro ⟨Int32.not_lt.mp c7, c14⟩), cl_nI (by omega), if_neg (fun h => by omega)], by rw [cl_nI (by omega), zTog, if_neg hh]; exact hP.B⟩) dX3_toggle_86
      · skip
        have hh : hasP z j t := by
          by_cases h : hasP z j t
          · exact h
          · rw [if_neg h] at c44; exact absurd rfl c44
        have hdr : tb z j t (cT z j) < cT z j := Nat.lt_of_lt_of_le hh hle6
        refine lv_aload_n hx hb dX3_toggle_47 rfl (lv_at hl 0 rfl) ?_
        refine lv_iload_n hx hb dX3_toggle_48 rfl (lv_at hl 3 rfl) ?_
        refine xw_callV (C := "NetlistBench$Element") (n := 1) [.int t] (c_X0_dropToggle l hP hw hj t hdr) hx hb hml hown hts hE hS (xr_el hE hP (by first | assumption | omega)) rfl rfl q_40 q_594 q_597 q_595 q_596 (by decide) rfl ⟨by rw [hRf]; decide, by rw [hRl]; decide⟩ hl.1 rfl (Nat.le_of_ble_eq_true rfl) dX3_toggle_49 ⟨by rw [hRc]; omega, by rw [hRs]; omega⟩ (fun v H1 locs hp hS => ?_)
        obtain ⟨hv, hP⟩ := hp; subst hv
        generalize H1 = H at hP hS ⊢
        refine lv_goto (tgt := 82) hx hb dX3_toggle_52 (by decide) ?_
        refine lv_aload_n hx hb dX3_toggle_82 rfl (lv_at hl 0 rfl) ?_
        refine fg_X0_toggles (i := j) (by first | exact hj | assumption) hx hb hts hown hE hP q_564 dX3_toggle_83 ?_
        exact xx_iret hQ hx hb hr hlocks hH hS (by omega) (by omega) (⟨by rw [cl_nI (by omega), zTog, if_pos hh], by rw [tTog, if_neg (not_not_intro hn), if_neg (not_not_intro ⟨Int32.not_lt.mp c7, c14⟩), cl_nI (by omega), if_neg (fun h => h.1 hh)], by rw [cl_nI (by omega), zTog, if_pos hh]; exact hP.B⟩) dX3_toggle_86
    · skip
      exact xw_throw (text := "the time of a toggle is 1 to 999") xt_IAE hQ hx hb hls hown hts hlocks hH hF hS htab (by rw [hml]; exact hl.1) (by decide) dX3_toggle_17 dX3_toggle_20 dX3_toggle_21 dX3_toggle_23 dX3_toggle_26 (by rw [hRf]; decide) (by rw [hRl]; decide) (by rw [hRc]; omega) (by rw [hRs]; omega) (by omega) (by omega) (fun H1 hz1 hk1 => ⟨Or.inr (Or.inl ⟨by rw [tTog, if_neg (not_not_intro hn), if_pos (fun h => by first | exact (Int32.not_le.mpr c7) h.1 | exact c14 h.2)], rfl⟩), (hP.kept hz1 hk1).B⟩)

set_option maxHeartbeats 4000000 in
set_option maxRecDepth 100000 in
theorem c_X3_probe (l : Launch) (hls : l.stackTraces = false) {D : va_G} {y : Nat → ClassId} {A : Nat → Prop} {ad : xL → Nat} {bl : xM} {z : xC} {g : Nat → Int32} {pl : Nat → Int32} {kn : Nat → Int64} {rw : Nat → Nat → Int64} {mi : Nat → Int64} {un : Int32} {fR fO : Nat → Nat → Option va_E} {Hs : Heap} (hP : xW D A ad (wU (wB y ad bl z g pl kn rw mi un) fR fO) Hs) (hz : bOk bl z) (x f q m1 : Int32) : vx_Met l yX3_probe (.code yX3_probe cX3_probe 17 (some .int) :: WG) { frames := 7, cells := 4, slots := 24, locals := 121 } (xPcX [.ref (ad (0, 0)), .int x, .int f, .int q, .int m1] D y A Hs) (xQ (fun v H1 => v = some (.int (rPrb z x f q m1)) ∧ tPrb z x f q = 0 ∧ xB D A y ad bl (z) fR fO H1) A) (xX (fun E H1 => ex3 (tPrb z x f q) E ∧ xB D A y ad bl z fR fO H1) A) 4 24 A := by
  refine xM_goX (by decide) (Nat.le_of_ble_eq_true rfl) (fun p e s m args below meth c ls R Q hx hb hr hlocks hml hown hts hH hE hnm hRf hRl hRc hRs hQ hS hl hF htab => ?_)
  have hRf : R.frames = 7 := hRf
  have hRl : R.locals = 121 := hRl
  have hRc : R.cells = 4 := hRc
  have hRs : R.slots = 24 := hRs
  have hl : lv_has ls 17 [(0, .ref (ad (0, 0))), (1, .int x), (2, .int f), (3, .int q), (4, .int m1)] := hl
  have hw := hz.w
  have hN := hw.N
  have hE20 := hw.E
  refine lv_aload_n hx hb dX3_probe_0 rfl (lv_at hl 0 rfl) ?_
  refine lv_iload_n hx hb dX3_probe_1 rfl (lv_at hl 1 rfl) ?_
  refine xx_callV (C := "NetlistBench") (n := 1) [.int x] (c_X3_checkNode l hls hP hz x) hx hb hml hown hts hE hF hS (xw_recv hE hP (0, 0) rfl rfl) rfl rfl q_21 q_233 q_236 q_235 q_2 (by decide) rfl ⟨by rw [hRf]; decide, by rw [hRl]; decide⟩ hl.1 rfl (Nat.le_of_ble_eq_true rfl) dX3_probe_2 ⟨by rw [hRc]; omega, by rw [hRs]; omega⟩ (fun E ce q9 H1 locs hp hS hce hcv hcl => ?_) (fun v H1 locs hp hS => ?_)
  · skip
    exact xx_out hQ htab hlocks hH hS hce hcv hcl (by omega) (by omega) (⟨Or.inl ⟨by rw [tPrb, if_pos hp.2.1], hp.1⟩, (hP.kept hp.2.2.1 hp.2.2.2).B⟩)
  obtain ⟨hv, hh, hn⟩ := hp; subst hv; subst hh; obtain ⟨j, hj, ex⟩ := nodeP_i hw hn; subst ex
  refine lv_iload_n hx hb dX3_probe_5 rfl (lv_at hl 2 rfl) ?_
  refine xx_callS (n := 1) [.int f] (c_X3_checkTime l hls f) hx hb hml hown hts hE hF hS rfl rfl q_21 q_238 q_240 q_239 (by decide) rfl ⟨by rw [hRf]; decide, by rw [hRl]; decide⟩ hl.1 rfl (Nat.le_of_ble_eq_true rfl) dX3_probe_6 ⟨by rw [hRc]; omega, by rw [hRs]; omega⟩ (fun E ce q9 H1 locs hp hS hce hcv hcl => ?_) (fun v H1 locs hp hS => ?_)
  · skip
    exact xx_out hQ htab hlocks hH hS hce hcv hcl (by omega) (by omega) (⟨Or.inr (Or.inl ⟨by rw [tPrb, if_neg (not_not_intro hn), if_pos hp.2.1], hp.1⟩), (hP.kept hp.2.2.1 hp.2.2.2).B⟩)
  obtain ⟨hv, hh, htf⟩ := hp; subst hv; subst hh; obtain ⟨tf, htfl, ex⟩ := timeP_i htf; subst ex
  refine lv_iload_n hx hb dX3_probe_9 rfl (lv_at hl 3 rfl) ?_
  refine xx_callS (n := 1) [.int q] (c_X3_checkTime l hls q) hx hb hml hown hts hE hF hS rfl rfl q_21 q_238 q_240 q_239 (by decide) rfl ⟨by rw [hRf]; decide, by rw [hRl]; decide⟩ hl.1 rfl (Nat.le_of_ble_eq_true rfl) dX3_probe_10 ⟨by rw [hRc]; omega, by rw [hRs]; omega⟩ (fun E ce q9 H1 locs hp hS hce hcv hcl => ?_) (fun v H1 locs hp hS => ?_)
  · skip
    exact xx_out hQ htab hlocks hH hS hce hcv hcl (by omega) (by omega) (⟨Or.inr (Or.inl ⟨by rw [tPrb, if_neg (not_not_intro hn), if_neg (not_not_intro htf), if_pos hp.2.1], hp.1⟩), (hP.kept hp.2.2.1 hp.2.2.2).B⟩)
  obtain ⟨hv, hh, htq⟩ := hp; subst hv; subst hh; obtain ⟨tq, htql, ex⟩ := timeP_i htq; subst ex
  refine lv_iload_n hx hb dX3_probe_13 rfl (lv_at hl 3 rfl) ?_
  refine lv_iload_n hx hb dX3_probe_14 rfl (lv_at hl 2 rfl) ?_
  refine lv_icmp_ge (tgt := 28) hx hb dX3_probe_15 (by decide) (fun c15 => ?_) (fun c15 => ?_)
  · skip
    have c15 := ni_le (a := tf) (b := tq) (by omega) (by omega) c15
    refine lv_iconst (v := (-1)) hx hb dX3_probe_28 (by decide) ?_
    refine lv_istore (lv' := [(5, .int ((-1))), (0, .ref (ad (0, 0))), (1, .int (nI j)), (2, .int (nI tf)), (3, .int (nI tq)), (4, .int m1)]) hx hb dX3_probe_29 hl (by decide) rfl (fun ls hl => ?_)
    refine lv_lconst (v := 0) hx hb dX3_probe_31 (by decide) ?_
    refine lv_lstore (lv' := [(6, .long 0), (5, .int ((-1))), (0, .ref (ad (0, 0))), (1, .int (nI j)), (2, .int (nI tf)), (3, .int (nI tq)), (4, .int m1)]) hx hb dX3_probe_32 hl (by decide) rfl (fun ls hl => ?_)
    refine lv_lconst (v := 1) hx hb dX3_probe_34 (by decide) ?_
    refine lv_lstore (lv' := [(8, .long 1), (6, .long 0), (5, .int ((-1))), (0, .ref (ad (0, 0))), (1, .int (nI j)), (2, .int (nI tf)), (3, .int (nI tq)), (4, .int m1)]) hx hb dX3_probe_35 hl (by decide) rfl (fun ls hl => ?_)
    refine lv_iload_n hx hb dX3_probe_37 rfl (lv_at hl 5 rfl) ?_
    refine lv_istore (lv' := [(10, .int (nI tf)), (8, .long 1), (6, .long 0), (5, .int ((-1))), (0, .ref (ad (0, 0))), (1, .int (nI j)), (2, .int (nI tf)), (3, .int (nI tq)), (4, .int m1)]) hx hb dX3_probe_38 hl (by decide) rfl (fun ls hl => ?_)
    refine lv_iconst (v := nI 0) hx hb dX3_probe_40 (by decide) ?_
    refine lv_istore (lv' := [(11, .int (nI 0)), (10, .int (nI tf)), (8, .long 1), (6, .long 0), (5, .int ((-1))), (0, .ref (ad (0, 0))), (1, .int (nI j)), (2, .int (nI tf)), (3, .int (nI tq)), (4, .int m1)]) hx hb dX3_probe_41 hl (by decide) rfl (fun ls hl => ?_)
    have K43 : ∀ (nn : Nat), ∀ (k : Nat) (t2 best : Int32) (u w : Int64) (g pl : Nat → Int32) (kn : Nat → Int64) (rw : Nat → Nat → Int64) (mi : Nat → Int64) (un : Int32), (k ≤ 1000) → (prS z j (nI tq) m1 (1000 - k) t2 best u w = prS z j (nI tq) m1 1000 (nI tf) (-1) 0 1) → 1000 - k < nn → ∀ (H : Heap) (locs : List Loc) (ls : Array Slot), xW D A ad (wU (wB y ad bl z g pl kn rw mi un) fR fO) H → va_S A Hs H locs → lv_has ls 17 [(11, .int (nI k)), (10, .int t2), (8, .long w), (6, .long u), (5, .int best), (4, .int m1), (3, .int (nI tq)), (1, .int (nI j)), (0, .ref (ad (0, 0)))] → W p l e R s m args below meth c H locs 3 18 Q (F0 m 43 ls []) := by
      intro nn
      induction nn with
      | zero => intro k t2 best u w g pl kn rw mi un hk hpr h; exact absurd h (Nat.not_lt_zero _)
      | succ nn ih43 =>
        intro k t2 best u w g pl kn rw mi un hk hpr hn43 H locs ls hP hS hl
        refine lv_iload hx hb dX3_probe_43 (lv_at hl 0 rfl) ?_
        refine lv_sipush (v := nI 999) hx hb dX3_probe_45 (by decide) ?_
        refine lv_icmp_gt (tgt := 157) hx hb dX3_probe_48 (by decide) (fun c48 => ?_) (fun c48 => ?_)
        · skip
          have c48 := ni_lt (a := 999) (b := k) (by omega) (by omega) c48
          refine lv_iload hx hb dX3_probe_157 (lv_at hl 4 rfl) ?_
          exact xx_iret hQ hx hb hr hlocks hH hS (by omega) (by omega) (⟨by rw [rPrb, cl_nI (by omega), ← hpr]; first | rw [prS_e (Or.inl c53)] | rw [prS_e (Or.inr c59)] | (rw [show 1000 - k = 0 by omega]; rfl), by rw [tPrb, if_neg (not_not_intro hn), if_neg (not_not_intro htf), if_neg (not_not_intro htq), if_neg (nI_nlt (by omega) (by omega))], hP.B⟩) dX3_probe_159
        · skip
          have c48 := ni_nlt (a := 999) (b := k) (by omega) (by omega) c48
          refine lv_iload hx hb dX3_probe_51 (lv_at hl 1 rfl) ?_
          refine lv_if_lt (tgt := 157) hx hb dX3_probe_53 (by decide) (fun c53 => ?_) (fun c53 => ?_)
          · skip
            refine lv_iload hx hb dX3_probe_157 (lv_at hl 4 rfl) ?_
            exact xx_iret hQ hx hb hr hlocks hH hS (by omega) (by omega) (⟨by rw [rPrb, cl_nI (by omega), ← hpr]; first | rw [prS_e (Or.inl c53)] | rw [prS_e (Or.inr c59)] | (rw [show 1000 - k = 0 by omega]; rfl), by rw [tPrb, if_neg (not_not_intro hn), if_neg (not_not_intro htf), if_neg (not_not_intro htq), if_neg (nI_nlt (by omega) (by omega))], hP.B⟩) dX3_probe_159
          · skip
            refine lv_iload hx hb dX3_probe_56 (lv_at hl 1 rfl) ?_
            refine lv_iload_n hx hb dX3_probe_58 rfl (lv_at hl 6 rfl) ?_
            refine lv_icmp_gt (tgt := 157) hx hb dX3_probe_59 (by decide) (fun c59 => ?_) (fun c59 => ?_)
            · skip
              refine lv_iload hx hb dX3_probe_157 (lv_at hl 4 rfl) ?_
              exact xx_iret hQ hx hb hr hlocks hH hS (by omega) (by omega) (⟨by rw [rPrb, cl_nI (by omega), ← hpr]; first | rw [prS_e (Or.inl c53)] | rw [prS_e (Or.inr c59)] | (rw [show 1000 - k = 0 by omega]; rfl), by rw [tPrb, if_neg (not_not_intro hn), if_neg (not_not_intro htf), if_neg (not_not_intro htq), if_neg (nI_nlt (by omega) (by omega))], hP.B⟩) dX3_probe_159
            · skip
              have hnt : ¬ (t2 < 0 ∨ nI tq < t2) := fun h => by rcases h with h | h; exact c53 h; exact c59 h
              refine lv_aload_n hx hb dX3_probe_62 rfl (lv_at hl 8 rfl) ?_
              refine lv_iload hx hb dX3_probe_63 (lv_at hl 1 rfl) ?_
              refine xw_callV (C := "NetlistBench") (n := 1) [.int t2] (c_X3_settle l hP hz t2) hx hb hml hown hts hE hS (xw_recv hE hP (0, 0) rfl rfl) rfl rfl q_21 q_287 q_290 q_289 q_7 (by decide) rfl ⟨by rw [hRf]; decide, by rw [hRl]; decide⟩ hl.1 rfl (Nat.le_of_ble_eq_true rfl) dX3_probe_65 ⟨by rw [hRc]; omega, by rw [hRs]; omega⟩ (fun v H1 locs hp hS => ?_)
              obtain ⟨hv, mi', hmi, hP⟩ := hp; subst hv
              generalize H1 = H at hP hS ⊢
              have hn7 := sN_le z t2
              refine lv_aload_n hx hb dX3_probe_68 rfl (lv_at hl 8 rfl) ?_
              refine lv_iload_n hx hb dX3_probe_69 rfl (lv_at hl 7 rfl) ?_
              refine xw_callV (C := "NetlistBench") (n := 1) [.int (nI j)] (c_X3_isAfloat l hP (m8 := (gM z t2)) rfl (fun j hj => gM_lt hw _ hj) hz (by omega)) hx hb hml hown hts hE hS (xw_recv hE hP (0, 0) rfl rfl) rfl rfl q_21 q_262 q_265 q_264 q_6 (by decide) rfl ⟨by rw [hRf]; decide, by rw [hRl]; decide⟩ hl.1 rfl (Nat.le_of_ble_eq_true rfl) dX3_probe_70 ⟨by rw [hRc]; omega, by rw [hRs]; omega⟩ (fun v H1 locs hp hS => ?_)
              obtain ⟨hv, hh⟩ := hp; subst hv; subst hh
              refine lv_if_ne (tgt := 143) hx hb dX3_probe_73 (by decide) (fun c73 => ?_) (fun c73 => ?_)
              · skip
                have K143 : ∀ (b3 : Int32) (u3 w3 : Int64), (prS z j (nI tq) m1 ((1000 - (k + 1)) + 1) t2 best u w = prS z j (nI tq) m1 (1000 - (k + 1)) (ftS z t2 (nE z)) b3 u3 w3) → ∀ (H : Heap) (locs : List Loc) (ls : Array Slot), xW D A ad (wU (wB y ad bl z ((sG z t2)) ((sP z t2)) ((sK z t2)) ((sR z t2)) mi' (nI (sN z t2))) fR fO) H → va_S A Hs H locs → lv_has ls 17 [(11, .int (nI k)), (10, .int t2), (8, .long w3), (6, .long u3), (5, .int b3), (4, .int m1), (3, .int (nI tq)), (1, .int (nI j)), (0, .ref (ad (0, 0)))] → W p l e R s m args below meth c H locs 3 18 Q (F0 m 143 ls []) := by
                  intro b3 u3 w3 h143 H locs ls hP hS hl
                  refine lv_aload_n hx hb dX3_probe_143 rfl (lv_at hl 8 rfl) ?_
                  refine lv_iload hx hb dX3_probe_144 (lv_at hl 1 rfl) ?_
                  refine xw_callV (C := "NetlistBench") (n := 1) [.int t2] (c_X3_firstToggleBehind l hP hz t2) hx hb hml hown hts hE hS (xw_recv hE hP (0, 0) rfl rfl) rfl rfl q_21 q_391 q_394 q_393 q_15 (by decide) rfl ⟨by rw [hRf]; decide, by rw [hRl]; decide⟩ hl.1 rfl (Nat.le_of_ble_eq_true rfl) dX3_probe_146 ⟨by rw [hRc]; omega, by rw [hRs]; omega⟩ (fun v H1 locs hp hS => ?_)
                  obtain ⟨hv, hh⟩ := hp; subst hv; subst hh
                  refine lv_istore (lv' := [(10, .int (ftS z t2 (nE z))), (11, .int (nI k)), (8, .long w3), (6, .long u3), (5, .int b3), (4, .int m1), (3, .int (nI tq)), (1, .int (nI j)), (0, .ref (ad (0, 0)))]) hx hb dX3_probe_149 hl (by decide) rfl (fun ls hl => ?_)
                  refine lv_iinc (v := nI (k + 1)) (lv' := [(11, .int (nI (k + 1))), (10, .int (ftS z t2 (nE z))), (8, .long w3), (6, .long u3), (5, .int b3), (4, .int m1), (3, .int (nI tq)), (1, .int (nI j)), (0, .ref (ad (0, 0)))]) hx hb dX3_probe_151 hl (k := 1) rfl (nI_1 _) (by decide) rfl (fun ls hl => ?_)
                  refine lv_goto (tgt := 43) hx hb dX3_probe_154 (by decide) ?_
                  exact ih43 (k + 1) (ftS z t2 (nE z)) b3 u3 w3 (sG z t2) (sP z t2) (sK z t2) (sR z t2) mi' (nI (sN z t2)) (by omega) (by rw [← hpr, show 1000 - k = (1000 - (k + 1)) + 1 by omega]; exact h143.symm) (by omega) _ _ _ hP hS (lv_sub hl [0, 1, 2, 3, 4, 5, 6, 7, 8] rfl)
                exact K143 best u w (by first | exact prS_k hnt (fun h => c73 h.1) | exact prS_t hnt ⟨c73, Or.inl c110⟩ | exact prS_t hnt ⟨c73, Or.inr (by rw [if_neg c115]; exact Int32.not_le.mp c120)⟩ | exact prS_t hnt ⟨c73, Or.inr (by rw [if_pos c115]; exact Int32.not_le.mp c128)⟩ | exact prS_k hnt (fun h => by rcases h.2 with a | a; exact c110 a; rw [if_neg c115] at a; exact (Int32.not_lt.mpr c120) a) | exact prS_k hnt (fun h => by rcases h.2 with a | a; exact c110 a; rw [if_pos c115] at a; exact (Int32.not_lt.mpr c128) a)) _ _ _ hP hS (lv_sub hl [0, 1, 2, 3, 4, 5, 6, 7, 8] rfl)
              · skip
                refine lv_aload_n hx hb dX3_probe_76 rfl (lv_at hl 8 rfl) ?_
                refine fg_X3_equations hx hb hts hown hE hP q_105 dX3_probe_77 ?_
                refine lv_iload_n hx hb dX3_probe_80 rfl (lv_at hl 7 rfl) ?_
                refine xw_callV (C := "NetlistBench$Equations") (n := 1) [.int (nI j)] (c_X1_upper l hP (by omega) (sP_ok z t2) (by omega)) hx hb hml hown hts hE hS (xw_recv hE hP (6, 0) rfl rfl) rfl rfl q_25 q_346 q_349 q_347 q_348 (by decide) rfl ⟨by rw [hRf]; decide, by rw [hRl]; decide⟩ hl.1 rfl (Nat.le_of_ble_eq_true rfl) dX3_probe_81 ⟨by rw [hRc]; omega, by rw [hRs]; omega⟩ (fun v H1 locs hp hS => ?_)
                obtain ⟨hv, hh⟩ := hp; subst hv; subst hh
                refine xt_l (w := num z t2 j) (upV_dm hmi (sP_ok z t2) (by omega) hn7) ?_
                refine lv_lstore (lv' := [(12, .long (num z t2 j)), (11, .int (nI k)), (10, .int t2), (8, .long w), (6, .long u), (5, .int best), (4, .int m1), (3, .int (nI tq)), (1, .int (nI j)), (0, .ref (ad (0, 0)))]) hx hb dX3_probe_84 hl (by decide) rfl (fun ls hl => ?_)
                refine lv_aload_n hx hb dX3_probe_86 rfl (lv_at hl 9 rfl) ?_
                refine fg_X3_equations hx hb hts hown hE hP q_105 dX3_probe_87 ?_
                refine xw_callV (C := "NetlistBench$Equations") (n := 0) [] (c_X1_lower l hP (by omega)) hx hb hml hown hts hE hS (xw_recv hE hP (6, 0) rfl rfl) rfl rfl q_25 q_342 q_345 q_343 q_344 (by decide) rfl ⟨by rw [hRf]; decide, by rw [hRl]; decide⟩ hl.1 rfl (Nat.le_of_ble_eq_true rfl) dX3_probe_90 ⟨by rw [hRc]; omega, by rw [hRs]; omega⟩ (fun v H1 locs hp hS => ?_)
                obtain ⟨hv, hh⟩ := hp; subst hv; subst hh
                refine xt_l (w := den z t2) (den_dm hmi) ?_
                refine lv_lstore (lv' := [(14, .long (den z t2)), (12, .long (num z t2 j)), (11, .int (nI k)), (10, .int t2), (8, .long w), (6, .long u), (5, .int best), (4, .int m1), (3, .int (nI tq)), (1, .int (nI j)), (0, .ref (ad (0, 0)))]) hx hb dX3_probe_93 hl (by decide) rfl (fun ls hl => ?_)
                refine lv_lload hx hb dX3_probe_95 (lv_at hl 1 rfl) ?_
                refine lv_lload hx hb dX3_probe_97 (lv_at hl 0 rfl) ?_
                refine lv_lload hx hb dX3_probe_99 (lv_at hl 5 rfl) ?_
                refine lv_lload hx hb dX3_probe_101 (lv_at hl 4 rfl) ?_
                refine xw_callS (n := 4) [.long (num z t2 j), .long (den z t2), .long u, .long w] (c_X3_compareFractions l (num z t2 j) (den z t2) u w) hx hb hml hown hts hE hS rfl rfl q_21 q_382 q_384 q_383 (by decide) rfl ⟨by rw [hRf]; decide, by rw [hRl]; decide⟩ hl.1 rfl (Nat.le_of_ble_eq_true rfl) dX3_probe_103 ⟨by rw [hRc]; omega, by rw [hRs]; omega⟩ (fun v H1 locs hp hS => ?_)
                obtain ⟨hv, hh⟩ := hp; subst hv; subst hh
                refine lv_istore (lv' := [(16, .int (cfS 200 (num z t2 j) (den z t2) u w 1)), (14, .long (den z t2)), (12, .long (num z t2 j)), (11, .int (nI k)), (10, .int t2), (8, .long w), (6, .long u), (5, .int best), (4, .int m1), (3, .int (nI tq)), (1, .int (nI j)), (0, .ref (ad (0, 0)))]) hx hb dX3_probe_106 hl (by decide) rfl (fun ls hl => ?_)
                refine lv_iload hx hb dX3_probe_108 (lv_at hl 7 rfl) ?_
                refine lv_if_lt (tgt := 131) hx hb dX3_probe_110 (by decide) (fun c110 => ?_) (fun c110 => ?_)
                · skip
                  refine lv_iload hx hb dX3_probe_131 (lv_at hl 4 rfl) ?_
                  refine lv_istore (lv' := [(5, .int t2), (16, .int (cfS 200 (num z t2 j) (den z t2) u w 1)), (14, .long (den z t2)), (12, .long (num z t2 j)), (11, .int (nI k)), (10, .int t2), (8, .long w), (6, .long u), (4, .int m1), (3, .int (nI tq)), (1, .int (nI j)), (0, .ref (ad (0, 0)))]) hx hb dX3_probe_133 hl (by decide) rfl (fun ls hl => ?_)
                  refine lv_lload hx hb dX3_probe_135 (lv_at hl 3 rfl) ?_
                  refine lv_lstore (lv' := [(6, .long (num z t2 j)), (5, .int t2), (16, .int (cfS 200 (num z t2 j) (den z t2) u w 1)), (14, .long (den z t2)), (12, .long (num z t2 j)), (11, .int (nI k)), (10, .int t2), (8, .long w), (4, .int m1), (3, .int (nI tq)), (1, .int (nI j)), (0, .ref (ad (0, 0)))]) hx hb dX3_probe_137 hl (by decide) rfl (fun ls hl => ?_)
                  refine lv_lload hx hb dX3_probe_139 (lv_at hl 3 rfl) ?_
                  refine lv_lstore (lv' := [(8, .long (den z t2)), (6, .long (num z t2 j)), (5, .int t2), (16, .int (cfS 200 (num z t2 j) (den z t2) u w 1)), (14, .long (den z t2)), (12, .long (num z t2 j)), (11, .int (nI k)), (10, .int t2), (4, .int m1), (3, .int (nI tq)), (1, .int (nI j)), (0, .ref (ad (0, 0)))]) hx hb dX3_probe_141 hl (by decide) rfl (fun ls hl => ?_)
                  have K143 : ∀ (b3 : Int32) (u3 w3 : Int64), (prS z j (nI tq) m1 ((1000 - (k + 1)) + 1) t2 best u w = prS z j (nI tq) m1 (1000 - (k + 1)) (ftS z t2 (nE z)) b3 u3 w3) → ∀ (H : Heap) (locs : List Loc) (ls : Array Slot), xW D A ad (wU (wB y ad bl z ((sG z t2)) ((sP z t2)) ((sK z t2)) ((sR z t2)) mi' (nI (sN z t2))) fR fO) H → va_S A Hs H locs → lv_has ls 17 [(11, .int (nI k)), (10, .int t2), (8, .long w3), (6, .long u3), (5, .int b3), (4, .int m1), (3, .int (nI tq)), (1, .int (nI j)), (0, .ref (ad (0, 0)))] → W p l e R s m args below meth c H locs 3 18 Q (F0 m 143 ls []) := by
                    intro b3 u3 w3 h143 H locs ls hP hS hl
                    refine lv_aload_n hx hb dX3_probe_143 rfl (lv_at hl 8 rfl) ?_
                    refine lv_iload hx hb dX3_probe_144 (lv_at hl 1 rfl) ?_
                    refine xw_callV (C := "NetlistBench") (n := 1) [.int t2] (c_X3_firstToggleBehind l hP hz t2) hx hb hml hown hts hE hS (xw_recv hE hP (0, 0) rfl rfl) rfl rfl q_21 q_391 q_394 q_393 q_15 (by decide) rfl ⟨by rw [hRf]; decide, by rw [hRl]; decide⟩ hl.1 rfl (Nat.le_of_ble_eq_true rfl) dX3_probe_146 ⟨by rw [hRc]; omega, by rw [hRs]; omega⟩ (fun v H1 locs hp hS => ?_)
                    obtain ⟨hv, hh⟩ := hp; subst hv; subst hh
                    refine lv_istore (lv' := [(10, .int (ftS z t2 (nE z))), (11, .int (nI k)), (8, .long w3), (6, .long u3), (5, .int b3), (4, .int m1), (3, .int (nI tq)), (1, .int (nI j)), (0, .ref (ad (0, 0)))]) hx hb dX3_probe_149 hl (by decide) rfl (fun ls hl => ?_)
                    refine lv_iinc (v := nI (k + 1)) (lv' := [(11, .int (nI (k + 1))), (10, .int (ftS z t2 (nE z))), (8, .long w3), (6, .long u3), (5, .int b3), (4, .int m1), (3, .int (nI tq)), (1, .int (nI j)), (0, .ref (ad (0, 0)))]) hx hb dX3_probe_151 hl (k := 1) rfl (nI_1 _) (by decide) rfl (fun ls hl => ?_)
                    refine lv_goto (tgt := 43) hx hb dX3_probe_154 (by decide) ?_
                    exact ih43 (k + 1) (ftS z t2 (nE z)) b3 u3 w3 (sG z t2) (sP z t2) (sK z t2) (sR z t2) mi' (nI (sN z t2)) (by omega) (by rw [← hpr, show 1000 - k = (1000 - (k + 1)) + 1 by omega]; exact h143.symm) (by omega) _ _ _ hP hS (lv_sub hl [0, 1, 2, 3, 4, 5, 6, 7, 8] rfl)
                  exact K143 t2 (num z t2 j) (den z t2) (by first | exact prS_k hnt (fun h => c73 h.1) | exact prS_t hnt ⟨c73, Or.inl c110⟩ | exact prS_t hnt ⟨c73, Or.inr (by rw [if_neg c115]; exact Int32.not_le.mp c120)⟩ | exact prS_t hnt ⟨c73, Or.inr (by rw [if_pos c115]; exact Int32.not_le.mp c128)⟩ | exact prS_k hnt (fun h => by rcases h.2 with a | a; exact c110 a; rw [if_neg c115] at a; exact (Int32.not_lt.mpr c120) a) | exact prS_k hnt (fun h => by rcases h.2 with a | a; exact c110 a; rw [if_pos c115] at a; exact (Int32.not_lt.mpr c128) a)) _ _ _ hP hS (lv_sub hl [6, 7, 0, 1, 2, 8, 9, 10, 11] rfl)
                · skip
                  refine lv_iload hx hb dX3_probe_113 (lv_at hl 8 rfl) ?_
                  refine lv_if_eq (tgt := 126) hx hb dX3_probe_115 (by decide) (fun c115 => ?_) (fun c115 => ?_)
                  · skip
                    refine lv_iload hx hb dX3_probe_126 (lv_at hl 0 rfl) ?_
                    refine lv_if_ge (tgt := 143) hx hb dX3_probe_128 (by decide) (fun c128 => ?_) (fun c128 => ?_)
                    · skip
                      have K143 : ∀ (b3 : Int32) (u3 w3 : Int64), (prS z j (nI tq) m1 ((1000 - (k + 1)) + 1) t2 best u w = prS z j (nI tq) m1 (1000 - (k + 1)) (ftS z t2 (nE z)) b3 u3 w3) → ∀ (H : Heap) (locs : List Loc) (ls : Array Slot), xW D A ad (wU (wB y ad bl z ((sG z t2)) ((sP z t2)) ((sK z t2)) ((sR z t2)) mi' (nI (sN z t2))) fR fO) H → va_S A Hs H locs → lv_has ls 17 [(11, .int (nI k)), (10, .int t2), (8, .long w3), (6, .long u3), (5, .int b3), (4, .int m1), (3, .int (nI tq)), (1, .int (nI j)), (0, .ref (ad (0, 0)))] → W p l e R s m args below meth c H locs 3 18 Q (F0 m 143 ls []) := by
                        intro b3 u3 w3 h143 H locs ls hP hS hl
                        refine lv_aload_n hx hb dX3_probe_143 rfl (lv_at hl 8 rfl) ?_
                        refine lv_iload hx hb dX3_probe_144 (lv_at hl 1 rfl) ?_
                        refine xw_callV (C := "NetlistBench") (n := 1) [.int t2] (c_X3_firstToggleBehind l hP hz t2) hx hb hml hown hts hE hS (xw_recv hE hP (0, 0) rfl rfl) rfl rfl q_21 q_391 q_394 q_393 q_15 (by decide) rfl ⟨by rw [hRf]; decide, by rw [hRl]; decide⟩ hl.1 rfl (Nat.le_of_ble_eq_true rfl) dX3_probe_146 ⟨by rw [hRc]; omega, by rw [hRs]; omega⟩ (fun v H1 locs hp hS => ?_)
                        obtain ⟨hv, hh⟩ := hp; subst hv; subst hh
                        refine lv_istore (lv' := [(10, .int (ftS z t2 (nE z))), (11, .int (nI k)), (8, .long w3), (6, .long u3), (5, .int b3), (4, .int m1), (3, .int (nI tq)), (1, .int (nI j)), (0, .ref (ad (0, 0)))]) hx hb dX3_probe_149 hl (by decide) rfl (fun ls hl => ?_)
                        refine lv_iinc (v := nI (k + 1)) (lv' := [(11, .int (nI (k + 1))), (10, .int (ftS z t2 (nE z))), (8, .long w3), (6, .long u3), (5, .int b3), (4, .int m1), (3, .int (nI tq)), (1, .int (nI j)), (0, .ref (ad (0, 0)))]) hx hb dX3_probe_151 hl (k := 1) rfl (nI_1 _) (by decide) rfl (fun ls hl => ?_)
                        refine lv_goto (tgt := 43) hx hb dX3_probe_154 (by decide) ?_
                        exact ih43 (k + 1) (ftS z t2 (nE z)) b3 u3 w3 (sG z t2) (sP z t2) (sK z t2) (sR z t2) mi' (nI (sN z t2)) (by omega) (by rw [← hpr, show 1000 - k = (1000 - (k + 1)) + 1 by omega]; exact h143.symm) (by omega) _ _ _ hP hS (lv_sub hl [0, 1, 2, 3, 4, 5, 6, 7, 8] rfl)
                      exact K143 best u w (by first | exact prS_k hnt (fun h => c73 h.1) | exact prS_t hnt ⟨c73, Or.inl c110⟩ | exact prS_t hnt ⟨c73, Or.inr (by rw [if_neg c115]; exact Int32.not_le.mp c120)⟩ | exact prS_t hnt ⟨c73, Or.inr (by rw [if_pos c115]; exact Int32.not_le.mp c128)⟩ | exact prS_k hnt (fun h => by rcases h.2 with a | a; exact c110 a; rw [if_neg c115] at a; exact (Int32.not_lt.mpr c120) a) | exact prS_k hnt (fun h => by rcases h.2 with a | a; exact c110 a; rw [if_pos c115] at a; exact (Int32.not_lt.mpr c128) a)) _ _ _ hP hS (lv_sub hl [3, 4, 5, 6, 7, 8, 9, 10, 11] rfl)
                    · skip
                      refine lv_iload hx hb dX3_probe_131 (lv_at hl 4 rfl) ?_
                      refine lv_istore (lv' := [(5, .int t2), (16, .int (cfS 200 (num z t2 j) (den z t2) u w 1)), (14, .long (den z t2)), (12, .long (num z t2 j)), (11, .int (nI k)), (10, .int t2), (8, .long w), (6, .long u), (4, .int m1), (3, .int (nI tq)), (1, .int (nI j)), (0, .ref (ad (0, 0)))]) hx hb dX3_probe_133 hl (by decide) rfl (fun ls hl => ?_)
                      refine lv_lload hx hb dX3_probe_135 (lv_at hl 3 rfl) ?_
                      refine lv_lstore (lv' := [(6, .long (num z t2 j)), (5, .int t2), (16, .int (cfS 200 (num z t2 j) (den z t2) u w 1)), (14, .long (den z t2)), (12, .long (num z t2 j)), (11, .int (nI k)), (10, .int t2), (8, .long w), (4, .int m1), (3, .int (nI tq)), (1, .int (nI j)), (0, .ref (ad (0, 0)))]) hx hb dX3_probe_137 hl (by decide) rfl (fun ls hl => ?_)
                      refine lv_lload hx hb dX3_probe_139 (lv_at hl 3 rfl) ?_
                      refine lv_lstore (lv' := [(8, .long (den z t2)), (6, .long (num z t2 j)), (5, .int t2), (16, .int (cfS 200 (num z t2 j) (den z t2) u w 1)), (14, .long (den z t2)), (12, .long (num z t2 j)), (11, .int (nI k)), (10, .int t2), (4, .int m1), (3, .int (nI tq)), (1, .int (nI j)), (0, .ref (ad (0, 0)))]) hx hb dX3_probe_141 hl (by decide) rfl (fun ls hl => ?_)
                      have K143 : ∀ (b3 : Int32) (u3 w3 : Int64), (prS z j (nI tq) m1 ((1000 - (k + 1)) + 1) t2 best u w = prS z j (nI tq) m1 (1000 - (k + 1)) (ftS z t2 (nE z)) b3 u3 w3) → ∀ (H : Heap) (locs : List Loc) (ls : Array Slot), xW D A ad (wU (wB y ad bl z ((sG z t2)) ((sP z t2)) ((sK z t2)) ((sR z t2)) mi' (nI (sN z t2))) fR fO) H → va_S A Hs H locs → lv_has ls 17 [(11, .int (nI k)), (10, .int t2), (8, .long w3), (6, .long u3), (5, .int b3), (4, .int m1), (3, .int (nI tq)), (1, .int (nI j)), (0, .ref (ad (0, 0)))] → W p l e R s m args below meth c H locs 3 18 Q (F0 m 143 ls []) := by
                        intro b3 u3 w3 h143 H locs ls hP hS hl
                        refine lv_aload_n hx hb dX3_probe_143 rfl (lv_at hl 8 rfl) ?_
                        refine lv_iload hx hb dX3_probe_144 (lv_at hl 1 rfl) ?_
                        refine xw_callV (C := "NetlistBench") (n := 1) [.int t2] (c_X3_firstToggleBehind l hP hz t2) hx hb hml hown hts hE hS (xw_recv hE hP (0, 0) rfl rfl) rfl rfl q_21 q_391 q_394 q_393 q_15 (by decide) rfl ⟨by rw [hRf]; decide, by rw [hRl]; decide⟩ hl.1 rfl (Nat.le_of_ble_eq_true rfl) dX3_probe_146 ⟨by rw [hRc]; omega, by rw [hRs]; omega⟩ (fun v H1 locs hp hS => ?_)
                        obtain ⟨hv, hh⟩ := hp; subst hv; subst hh
                        refine lv_istore (lv' := [(10, .int (ftS z t2 (nE z))), (11, .int (nI k)), (8, .long w3), (6, .long u3), (5, .int b3), (4, .int m1), (3, .int (nI tq)), (1, .int (nI j)), (0, .ref (ad (0, 0)))]) hx hb dX3_probe_149 hl (by decide) rfl (fun ls hl => ?_)
                        refine lv_iinc (v := nI (k + 1)) (lv' := [(11, .int (nI (k + 1))), (10, .int (ftS z t2 (nE z))), (8, .long w3), (6, .long u3), (5, .int b3), (4, .int m1), (3, .int (nI tq)), (1, .int (nI j)), (0, .ref (ad (0, 0)))]) hx hb dX3_probe_151 hl (k := 1) rfl (nI_1 _) (by decide) rfl (fun ls hl => ?_)
                        refine lv_goto (tgt := 43) hx hb dX3_probe_154 (by decide) ?_
                        exact ih43 (k + 1) (ftS z t2 (nE z)) b3 u3 w3 (sG z t2) (sP z t2) (sK z t2) (sR z t2) mi' (nI (sN z t2)) (by omega) (by rw [← hpr, show 1000 - k = (1000 - (k + 1)) + 1 by omega]; exact h143.symm) (by omega) _ _ _ hP hS (lv_sub hl [0, 1, 2, 3, 4, 5, 6, 7, 8] rfl)
                      exact K143 t2 (num z t2 j) (den z t2) (by first | exact prS_k hnt (fun h => c73 h.1) | exact prS_t hnt ⟨c73, Or.inl c110⟩ | exact prS_t hnt ⟨c73, Or.inr (by rw [if_neg c115]; exact Int32.not_le.mp c120)⟩ | exact prS_t hnt ⟨c73, Or.inr (by rw [if_pos c115]; exact Int32.not_le.mp c128)⟩ | exact prS_k hnt (fun h => by rcases h.2 with a | a; exact c110 a; rw [if_neg c115] at a; exact (Int32.not_lt.mpr c120) a) | exact prS_k hnt (fun h => by rcases h.2 with a | a; exact c110 a; rw [if_pos c115] at a; exact (Int32.not_lt.mpr c128) a)) _ _ _ hP hS (lv_sub hl [6, 7, 0, 1, 2, 8, 9, 10, 11] rfl)
                  · skip
                    refine lv_iload hx hb dX3_probe_118 (lv_at hl 0 rfl) ?_
                    refine lv_if_le (tgt := 143) hx hb dX3_probe_120 (by decide) (fun c120 => ?_) (fun c120 => ?_)
                    · skip
                      have K143 : ∀ (b3 : Int32) (u3 w3 : Int64), (prS z j (nI tq) m1 ((1000 - (k + 1)) + 1) t2 best u w = prS z j (nI tq) m1 (1000 - (k + 1)) (ftS z t2 (nE z)) b3 u3 w3) → ∀ (H : Heap) (locs : List Loc) (ls : Array Slot), xW D A ad (wU (wB y ad bl z ((sG z t2)) ((sP z t2)) ((sK z t2)) ((sR z t2)) mi' (nI (sN z t2))) fR fO) H → va_S A Hs H locs → lv_has ls 17 [(11, .int (nI k)), (10, .int t2), (8, .long w3), (6, .long u3), (5, .int b3), (4, .int m1), (3, .int (nI tq)), (1, .int (nI j)), (0, .ref (ad (0, 0)))] → W p l e R s m args below meth c H locs 3 18 Q (F0 m 143 ls []) := by
                        intro b3 u3 w3 h143 H locs ls hP hS hl
                        refine lv_aload_n hx hb dX3_probe_143 rfl (lv_at hl 8 rfl) ?_
                        refine lv_iload hx hb dX3_probe_144 (lv_at hl 1 rfl) ?_
                        refine xw_callV (C := "NetlistBench") (n := 1) [.int t2] (c_X3_firstToggleBehind l hP hz t2) hx hb hml hown hts hE hS (xw_recv hE hP (0, 0) rfl rfl) rfl rfl q_21 q_391 q_394 q_393 q_15 (by decide) rfl ⟨by rw [hRf]; decide, by rw [hRl]; decide⟩ hl.1 rfl (Nat.le_of_ble_eq_true rfl) dX3_probe_146 ⟨by rw [hRc]; omega, by rw [hRs]; omega⟩ (fun v H1 locs hp hS => ?_)
                        obtain ⟨hv, hh⟩ := hp; subst hv; subst hh
                        refine lv_istore (lv' := [(10, .int (ftS z t2 (nE z))), (11, .int (nI k)), (8, .long w3), (6, .long u3), (5, .int b3), (4, .int m1), (3, .int (nI tq)), (1, .int (nI j)), (0, .ref (ad (0, 0)))]) hx hb dX3_probe_149 hl (by decide) rfl (fun ls hl => ?_)
                        refine lv_iinc (v := nI (k + 1)) (lv' := [(11, .int (nI (k + 1))), (10, .int (ftS z t2 (nE z))), (8, .long w3), (6, .long u3), (5, .int b3), (4, .int m1), (3, .int (nI tq)), (1, .int (nI j)), (0, .ref (ad (0, 0)))]) hx hb dX3_probe_151 hl (k := 1) rfl (nI_1 _) (by decide) rfl (fun ls hl => ?_)
                        refine lv_goto (tgt := 43) hx hb dX3_probe_154 (by decide) ?_
                        exact ih43 (k + 1) (ftS z t2 (nE z)) b3 u3 w3 (sG z t2) (sP z t2) (sK z t2) (sR z t2) mi' (nI (sN z t2)) (by omega) (by rw [← hpr, show 1000 - k = (1000 - (k + 1)) + 1 by omega]; exact h143.symm) (by omega) _ _ _ hP hS (lv_sub hl [0, 1, 2, 3, 4, 5, 6, 7, 8] rfl)
                      exact K143 best u w (by first | exact prS_k hnt (fun h => c73 h.1) | exact prS_t hnt ⟨c73, Or.inl c110⟩ | exact prS_t hnt ⟨c73, Or.inr (by rw [if_neg c115]; exact Int32.not_le.mp c120)⟩ | exact prS_t hnt ⟨c73, Or.inr (by rw [if_pos c115]; exact Int32.not_le.mp c128)⟩ | exact prS_k hnt (fun h => by rcases h.2 with a | a; exact c110 a; rw [if_neg c115] at a; exact (Int32.not_lt.mpr c120) a) | exact prS_k hnt (fun h => by rcases h.2 with a | a; exact c110 a; rw [if_pos c115] at a; exact (Int32.not_lt.mpr c128) a)) _ _ _ hP hS (lv_sub hl [3, 4, 5, 6, 7, 8, 9, 10, 11] rfl)
                    · skip
                      refine lv_goto (tgt := 131) hx hb dX3_probe_123 (by decide) ?_
                      refine lv_iload hx hb dX3_probe_131 (lv_at hl 4 rfl) ?_
                      refine lv_istore (lv' := [(5, .int t2), (16, .int (cfS 200 (num z t2 j) (den z t2) u w 1)), (14, .long (den z t2)), (12, .long (num z t2 j)), (11, .int (nI k)), (10, .int t2), (8, .long w), (6, .long u), (4, .int m1), (3, .int (nI tq)), (1, .int (nI j)), (0, .ref (ad (0, 0)))]) hx hb dX3_probe_133 hl (by decide) rfl (fun ls hl => ?_)
                      refine lv_lload hx hb dX3_probe_135 (lv_at hl 3 rfl) ?_
                      refine lv_lstore (lv' := [(6, .long (num z t2 j)), (5, .int t2), (16, .int (cfS 200 (num z t2 j) (den z t2) u w 1)), (14, .long (den z t2)), (12, .long (num z t2 j)), (11, .int (nI k)), (10, .int t2), (8, .long w), (4, .int m1), (3, .int (nI tq)), (1, .int (nI j)), (0, .ref (ad (0, 0)))]) hx hb dX3_probe_137 hl (by decide) rfl (fun ls hl => ?_)
                      refine lv_lload hx hb dX3_probe_139 (lv_at hl 3 rfl) ?_
                      refine lv_lstore (lv' := [(8, .long (den z t2)), (6, .long (num z t2 j)), (5, .int t2), (16, .int (cfS 200 (num z t2 j) (den z t2) u w 1)), (14, .long (den z t2)), (12, .long (num z t2 j)), (11, .int (nI k)), (10, .int t2), (4, .int m1), (3, .int (nI tq)), (1, .int (nI j)), (0, .ref (ad (0, 0)))]) hx hb dX3_probe_141 hl (by decide) rfl (fun ls hl => ?_)
                      have K143 : ∀ (b3 : Int32) (u3 w3 : Int64), (prS z j (nI tq) m1 ((1000 - (k + 1)) + 1) t2 best u w = prS z j (nI tq) m1 (1000 - (k + 1)) (ftS z t2 (nE z)) b3 u3 w3) → ∀ (H : Heap) (locs : List Loc) (ls : Array Slot), xW D A ad (wU (wB y ad bl z ((sG z t2)) ((sP z t2)) ((sK z t2)) ((sR z t2)) mi' (nI (sN z t2))) fR fO) H → va_S A Hs H locs → lv_has ls 17 [(11, .int (nI k)), (10, .int t2), (8, .long w3), (6, .long u3), (5, .int b3), (4, .int m1), (3, .int (nI tq)), (1, .int (nI j)), (0, .ref (ad (0, 0)))] → W p l e R s m args below meth c H locs 3 18 Q (F0 m 143 ls []) := by
                        intro b3 u3 w3 h143 H locs ls hP hS hl
                        refine lv_aload_n hx hb dX3_probe_143 rfl (lv_at hl 8 rfl) ?_
                        refine lv_iload hx hb dX3_probe_144 (lv_at hl 1 rfl) ?_
                        refine xw_callV (C := "NetlistBench") (n := 1) [.int t2] (c_X3_firstToggleBehind l hP hz t2) hx hb hml hown hts hE hS (xw_recv hE hP (0, 0) rfl rfl) rfl rfl q_21 q_391 q_394 q_393 q_15 (by decide) rfl ⟨by rw [hRf]; decide, by rw [hRl]; decide⟩ hl.1 rfl (Nat.le_of_ble_eq_true rfl) dX3_probe_146 ⟨by rw [hRc]; omega, by rw [hRs]; omega⟩ (fun v H1 locs hp hS => ?_)
                        obtain ⟨hv, hh⟩ := hp; subst hv; subst hh
                        refine lv_istore (lv' := [(10, .int (ftS z t2 (nE z))), (11, .int (nI k)), (8, .long w3), (6, .long u3), (5, .int b3), (4, .int m1), (3, .int (nI tq)), (1, .int (nI j)), (0, .ref (ad (0, 0)))]) hx hb dX3_probe_149 hl (by decide) rfl (fun ls hl => ?_)
                        refine lv_iinc (v := nI (k + 1)) (lv' := [(11, .int (nI (k + 1))), (10, .int (ftS z t2 (nE z))), (8, .long w3), (6, .long u3), (5, .int b3), (4, .int m1), (3, .int (nI tq)), (1, .int (nI j)), (0, .ref (ad (0, 0)))]) hx hb dX3_probe_151 hl (k := 1) rfl (nI_1 _) (by decide) rfl (fun ls hl => ?_)
                        refine lv_goto (tgt := 43) hx hb dX3_probe_154 (by decide) ?_
                        exact ih43 (k + 1) (ftS z t2 (nE z)) b3 u3 w3 (sG z t2) (sP z t2) (sK z t2) (sR z t2) mi' (nI (sN z t2)) (by omega) (by rw [← hpr, show 1000 - k = (1000 - (k + 1)) + 1 by omega]; exact h143.symm) (by omega) _ _ _ hP hS (lv_sub hl [0, 1, 2, 3, 4, 5, 6, 7, 8] rfl)
                      exact K143 t2 (num z t2 j) (den z t2) (by first | exact prS_k hnt (fun h => c73 h.1) | exact prS_t hnt ⟨c73, Or.inl c110⟩ | exact prS_t hnt ⟨c73, Or.inr (by rw [if_neg c115]; exact Int32.not_le.mp c120)⟩ | exact prS_t hnt ⟨c73, Or.inr (by rw [if_pos c115]; exact Int32.not_le.mp c128)⟩ | exact prS_k hnt (fun h => by rcases h.2 with a | a; exact c110 a; rw [if_neg c115] at a; exact (Int32.not_lt.mpr c120) a) | exact prS_k hnt (fun h => by rcases h.2 with a | a; exact c110 a; rw [if_pos c115] at a; exact (Int32.not_lt.mpr c128) a)) _ _ _ hP hS (lv_sub hl [6, 7, 0, 1, 2, 8, 9, 10, 11] rfl)
    exact K43 _ 0 (nI tf) (-1) 0 1 g pl kn rw mi un (by omega) rfl (Nat.lt_succ_self _) _ _ _ hP hS (lv_sub hl [0, 1, 2, 3, 4, 9, 8, 6, 5] rfl)
  · skip
    have c15 := ni_nle (a := tf) (b := tq) (by omega) (by omega) c15
    exact xw_throw (text := "the last time is before the first one") xt_IAE hQ hx hb hls hown hts hlocks hH hF hS htab (by rw [hml]; exact hl.1) (by decide) dX3_probe_18 dX3_probe_21 dX3_probe_22 dX3_probe_24 dX3_probe_27 (by rw [hRf]; decide) (by rw [hRl]; decide) (by rw [hRc]; omega) (by rw [hRs]; omega) (by omega) (by omega) (fun H1 hz1 hk1 => ⟨Or.inr (Or.inl ⟨by rw [tPrb, if_neg (not_not_intro hn), if_neg (not_not_intro htf), if_neg (not_not_intro htq), if_pos (nI_lt (by omega) (by omega))], rfl⟩), (hP.kept hz1 hk1).B⟩)
