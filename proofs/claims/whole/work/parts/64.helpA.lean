/-! the helpers of the law -/
set_option maxHeartbeats 4000000 in
set_option maxRecDepth 100000 in
theorem c_L_addNode (l : Launch) (hls : l.stackTraces = false) {D : va_G} {y : Nat → ClassId} {A : Nat → Prop} {e0 : Nat} {ad : xL → Nat} {bl : xM} {z : xC} {g : Nat → Int32} {pl : Nat → Int32} {kn : Nat → Int64} {rw : Nat → Nat → Int64} {mi : Nat → Int64} {un : Int32} {fR : Nat → Nat → Option va_E} {oj : Nat → Int64} {od : Nat → UInt64} {Hs : Heap} (hP : xW D A ad (wU (wB y ad bl z g pl kn rw mi un) fR (wO y oj od)) Hs) (hz : bOk bl z) (h0n : nN z = 0 → ad (2, 0) = e0) (h0e : nE z = 0 → ad (4, 0) = e0) : Met l yL_addNode (.codeWith yL_addNode cL_addNode 3 (some .int) [(0, 8, 11, 13)] :: WG) { frames := 8, cells := 2, slots := 42, locals := 300 } (xPcL [.ref (ad (0, 0)), .ref (ad (40, 0))] D y A e0 Hs) (xQ (xLp D A y ad e0 fR od (tAddNode z) z (zAddNode z) ((nI (nN z)).toInt64)) A) 2 42 A := by
  refine xM_goL (by decide) (Nat.le_of_ble_eq_true rfl) (fun p e s m args below meth c ls R Q hx hb hr hlocks hml hown hts hH hE hnm hRf hRl hRc hRs hQ hS hl hF hG hN hT => ?_)
  have hRf : R.frames = 8 := hRf
  have hRl : R.locals = 300 := hRl
  have hRc : R.cells = 2 := hRc
  have hRs : R.slots = 42 := hRs
  have hl : lv_has ls 3 [(0, .ref (ad (0, 0))), (1, .ref (ad (40, 0)))] := hl
  refine lv_aload_n hx hb dL_addNode_0 rfl (lv_at hl 1 rfl) ?_
  refine lv_iconst (v := nI 0) hx hb dL_addNode_1 (by decide) ?_
  refine lv_aload_n hx hb dL_addNode_2 rfl (lv_at hl 0 rfl) ?_
  refine xx2_callV (C := "NetlistBench") (n := 0) [] (c_X3_addNode l hls hP hz h0n h0e) hx hb hml hown hts hE hF hG hS (xw_recv hE hP (0, 0) rfl rfl) rfl rfl q_43 q_304 q_307 q_305 q_306 (by decide) rfl ⟨by rw [hRf]; decide, by rw [hRl]; decide⟩ hl.1 rfl (Nat.le_of_ble_eq_true rfl) dL_addNode_3 ⟨by rw [hRc]; decide, by rw [hRs]; decide⟩ (fun E ce q9 H1 locs hp hS hce hcv hcl => ?_) (fun v H1 locs hp hS => ?_)
  · obtain ⟨hx1, hB⟩ := hp
    obtain ⟨h1, rfl⟩ := hx1
    refine vx_catch (own := "NetlistBenchLaw") (name := "java/lang/IllegalStateException") hown [] ⟨0, 8, 11, 13⟩ [] (hT.trans rfl) (fun _ h => nomatch h) (by decide) (by decide) (hts _ q_303) (show (Cond.castable eISE "java/lang/IllegalStateException").before args s = true from va_Nw.use rfl (hF.1 (.castable "java/lang/IllegalStateException" "java/lang/IllegalStateException") (List.mem_of_elem_eq_true rfl))) hce hcv hcl ?_
    refine lv_astore_n (lv' := [(2, .ref q9), (0, .ref (ad (0, 0))), (1, .ref (ad (40, 0)))]) hx hb dL_addNode_11 rfl hl (by decide) rfl (fun ls hl => ?_)
    refine lv_iconst (v := nI 1) hx hb dL_addNode_12 (by decide) ?_
    exact xe_iret hQ hx hb hr hlocks hH hS (by decide) (by decide) (xLp_x h1 (by decide) hz h0n h0e hB) dL_addNode_13
  obtain ⟨hv, ht, ad', bl', k1, k2, k3, k4, k5, g2, pl2, kn2, rw2, mi2, un2, hP⟩ := hp; subst hv; generalize H1 = H at hP hS ⊢
  refine lv_i2l (v := (nI (nN z)).toInt64) hx hb dL_addNode_6 rfl ?_
  refine xo_last hx hb hE hP hS (k1 (40, 0) (by decide)) dL_addNode_7 (fun H locs hP hS => ?_)
  refine lv_goto (tgt := 14) hx hb dL_addNode_8 (by decide) ?_
  refine lv_iconst (v := nI 0) hx hb dL_addNode_14 (by decide) ?_
  exact xe_iret hQ hx hb hr hlocks hH hS (by decide) (by decide) (xLp_r ht k1 k2 k3 k4 k5 rfl hP.B) dL_addNode_15

set_option maxHeartbeats 4000000 in
set_option maxRecDepth 100000 in
theorem c_L_rail (l : Launch) (hls : l.stackTraces = false) {D : va_G} {y : Nat → ClassId} {A : Nat → Prop} {e0 : Nat} {ad : xL → Nat} {bl : xM} {z : xC} {g : Nat → Int32} {pl : Nat → Int32} {kn : Nat → Int64} {rw : Nat → Nat → Int64} {mi : Nat → Int64} {un : Int32} {fR : Nat → Nat → Option va_E} {oj : Nat → Int64} {od : Nat → UInt64} {Hs : Heap} (hP : xW D A ad (wU (wB y ad bl z g pl kn rw mi un) fR (wO y oj od)) Hs) (hz : bOk bl z) (h0n : nN z = 0 → ad (2, 0) = e0) (h0e : nE z = 0 → ad (4, 0) = e0) {x b k : Int32} (hb01 : b = 0 ∨ b = 1) : Met l yL_rail (.codeWith yL_rail cL_rail 6 (some .int) [(0, 19, 22, 19), (0, 19, 26, 21)] :: WG) { frames := 8, cells := 2, slots := 12, locals := 300 } (xPcL [.ref (ad (0, 0)), .int x, .int b, .int k, .ref (ad (40, 0))] D y A e0 Hs) (xQ (xLp D A y ad e0 fR od (tRail z x b k) z (zRail z (clN x) b k) (bL (nR z (clN x)))) A) 2 12 A := by
  refine xM_goL (by decide) (Nat.le_of_ble_eq_true rfl) (fun p e s m args below meth c ls R Q hx hb hr hlocks hml hown hts hH hE hnm hRf hRl hRc hRs hQ hS hl hF hG hN hT => ?_)
  have hRf : R.frames = 8 := hRf
  have hRl : R.locals = 300 := hRl
  have hRc : R.cells = 2 := hRc
  have hRs : R.slots = 12 := hRs
  have hl : lv_has ls 6 [(0, .ref (ad (0, 0))), (1, .int x), (2, .int b), (3, .int k), (4, .ref (ad (40, 0)))] := hl
  refine lv_aload hx hb dL_rail_0 (lv_at hl 4 rfl) ?_
  refine lv_iconst (v := nI 0) hx hb dL_rail_2 (by decide) ?_
  refine lv_aload_n hx hb dL_rail_3 rfl (lv_at hl 0 rfl) ?_
  refine lv_iload_n hx hb dL_rail_4 rfl (lv_at hl 1 rfl) ?_
  refine lv_iload_n hx hb dL_rail_5 rfl (lv_at hl 2 rfl) ?_
  refine lv_iload_n hx hb dL_rail_6 rfl (lv_at hl 3 rfl) ?_
  refine xx_callV (C := "NetlistBench") (n := 3) [.int x, .int b, .int k] (c_X3_rail l hls hP hz x b k hb01) hx hb hml hown hts hE hF hS (xw_recv hE hP (0, 0) rfl rfl) rfl rfl q_43 q_451 q_454 q_452 q_453 (by decide) rfl ⟨by rw [hRf]; decide, by rw [hRl]; decide⟩ hl.1 rfl (Nat.le_of_ble_eq_true rfl) dL_rail_7 ⟨by rw [hRc]; decide, by rw [hRs]; decide⟩ (fun E ce q9 H1 locs hp hS hce hcv hcl => ?_) (fun v H1 locs hp hS => ?_)
  · obtain ⟨hx1, hB⟩ := hp
    rcases hx1 with ⟨h1, rfl⟩ | ⟨h1, rfl⟩ | ⟨h1, rfl⟩
    · refine vx_catch (own := "NetlistBenchLaw") (name := "java/lang/IndexOutOfBoundsException") hown [] ⟨0, 19, 22, 19⟩ [⟨0, 19, 26, 21⟩] (hT.trans rfl) (fun _ h => nomatch h) (by decide) (by decide) (hts _ q_449) (show (Cond.castable eIOB "java/lang/IndexOutOfBoundsException").before args s = true from va_Nw.use rfl (hF.1 (.castable "java/lang/IndexOutOfBoundsException" "java/lang/IndexOutOfBoundsException") (List.mem_of_elem_eq_true rfl))) hce hcv hcl ?_
      refine lv_astore (lv' := [(5, .ref q9), (0, .ref (ad (0, 0))), (1, .int x), (2, .int b), (3, .int k), (4, .ref (ad (40, 0)))]) hx hb dL_rail_22 hl (by decide) rfl (fun ls hl => ?_)
      refine lv_iconst (v := nI 1) hx hb dL_rail_24 (by decide) ?_
      exact xe_iret hQ hx hb hr hlocks hH hS (by decide) (by decide) (xLp_x h1 (by decide) hz h0n h0e hB) dL_rail_25
    · refine vx_catch (own := "NetlistBenchLaw") (name := "java/lang/IllegalArgumentException") hown [⟨0, 19, 22, 19⟩] ⟨0, 19, 26, 21⟩ [] (hT.trans rfl) (List.forall_mem_cons.mpr ⟨Or.inr ⟨by decide, "java/lang/IndexOutOfBoundsException", hts _ q_449, hN.1⟩, (List.forall_mem_nil _)⟩) (by decide) (by decide) (hts _ q_450) (show (Cond.castable eIAE "java/lang/IllegalArgumentException").before args s = true from va_Nw.use rfl (hF.1 (.castable "java/lang/IllegalArgumentException" "java/lang/IllegalArgumentException") (List.mem_of_elem_eq_true rfl))) hce hcv hcl ?_
      refine lv_astore (lv' := [(5, .ref q9), (0, .ref (ad (0, 0))), (1, .int x), (2, .int b), (3, .int k), (4, .ref (ad (40, 0)))]) hx hb dL_rail_26 hl (by decide) rfl (fun ls hl => ?_)
      refine lv_iconst (v := nI 2) hx hb dL_rail_28 (by decide) ?_
      exact xe_iret hQ hx hb hr hlocks hH hS (by decide) (by decide) (xLp_x h1 (by decide) hz h0n h0e hB) dL_rail_29
    · exact absurd h1 (by unfold tRail; (repeat' split) <;> decide)
  obtain ⟨hv, ht, g2, pl2, kn2, rw2, mi2, un2, hP⟩ := hp; subst hv; generalize H1 = H at hP hS ⊢
  refine lv_if_eq (tgt := 17) hx hb dL_rail_10 (by decide) (fun c0 => ?_) (fun c0 => ?_)
  · refine lv_lconst (v := 0) hx hb dL_rail_17 (by decide) ?_
    refine xo_last hx hb hE hP hS rfl dL_rail_18 (fun H locs hP hS => ?_)
    refine lv_goto (tgt := 30) hx hb dL_rail_19 (by decide) ?_
    refine lv_iconst (v := nI 0) hx hb dL_rail_30 (by decide) ?_
    exact xe_iret hQ hx hb hr hlocks hH hS (by decide) (by decide) (xLp_r ht (fun _ _ => rfl) rfl h0n h0e ⟨wf_rail hz.w hb01 ht, hz.2.1, hz.2.2.1, hz.2.2.2⟩ (if_pos c0).symm hP.B) dL_rail_31
  · refine lv_lconst (v := 1) hx hb dL_rail_13 (by decide) ?_
    refine lv_goto (tgt := 18) hx hb dL_rail_14 (by decide) ?_
    refine xo_last hx hb hE hP hS rfl dL_rail_18 (fun H locs hP hS => ?_)
    refine lv_goto (tgt := 30) hx hb dL_rail_19 (by decide) ?_
    refine lv_iconst (v := nI 0) hx hb dL_rail_30 (by decide) ?_
    exact xe_iret hQ hx hb hr hlocks hH hS (by decide) (by decide) (xLp_r ht (fun _ _ => rfl) rfl h0n h0e ⟨wf_rail hz.w hb01 ht, hz.2.1, hz.2.2.1, hz.2.2.2⟩ (if_neg c0).symm hP.B) dL_rail_31

set_option maxHeartbeats 4000000 in
set_option maxRecDepth 100000 in
theorem c_L_addElement (l : Launch) (hls : l.stackTraces = false) {D : va_G} {y : Nat → ClassId} {A : Nat → Prop} {e0 : Nat} {ad : xL → Nat} {bl : xM} {z : xC} {g : Nat → Int32} {pl : Nat → Int32} {kn : Nat → Int64} {rw : Nat → Nat → Int64} {mi : Nat → Int64} {un : Int32} {fR : Nat → Nat → Option va_E} {oj : Nat → Int64} {od : Nat → UInt64} {Hs : Heap} (hP : xW D A ad (wU (wB y ad bl z g pl kn rw mi un) fR (wO y oj od)) Hs) (hz : bOk bl z) (h0n : nN z = 0 → ad (2, 0) = e0) (h0e : nE z = 0 → ad (4, 0) = e0) {sr a b x : Int32} (hsr : sr = 0 ∨ sr = 1) : Met l yL_addElement (.codeWith yL_addElement cL_addElement 7 (some .int) [(0, 14, 17, 19), (0, 14, 21, 21), (0, 14, 25, 13)] :: WG) { frames := 8, cells := 6, slots := 80, locals := 300 } (xPcL [.ref (ad (0, 0)), .int sr, .int a, .int b, .int x, .ref (ad (40, 0))] D y A e0 Hs) (xQ (xLp D A y ad e0 fR od (tAddEl z sr a b x) z (zAddEl z sr a b x) ((nI (nE z)).toInt64)) A) 6 80 A := by
  refine xM_goL (by decide) (Nat.le_of_ble_eq_true rfl) (fun p e s m args below meth c ls R Q hx hb hr hlocks hml hown hts hH hE hnm hRf hRl hRc hRs hQ hS hl hF hG hN hT => ?_)
  have hRf : R.frames = 8 := hRf
  have hRl : R.locals = 300 := hRl
  have hRc : R.cells = 6 := hRc
  have hRs : R.slots = 80 := hRs
  have hl : lv_has ls 7 [(0, .ref (ad (0, 0))), (1, .int sr), (2, .int a), (3, .int b), (4, .int x), (5, .ref (ad (40, 0)))] := hl
  refine lv_aload hx hb dL_addElement_0 (lv_at hl 5 rfl) ?_
  refine lv_iconst (v := nI 0) hx hb dL_addElement_2 (by decide) ?_
  refine lv_aload_n hx hb dL_addElement_3 rfl (lv_at hl 0 rfl) ?_
  refine lv_iload_n hx hb dL_addElement_4 rfl (lv_at hl 1 rfl) ?_
  refine lv_iload_n hx hb dL_addElement_5 rfl (lv_at hl 2 rfl) ?_
  refine lv_iload_n hx hb dL_addElement_6 rfl (lv_at hl 3 rfl) ?_
  refine lv_iload hx hb dL_addElement_7 (lv_at hl 4 rfl) ?_
  refine xx2_callV (C := "NetlistBench") (n := 4) [.int sr, .int a, .int b, .int x] (c_X3_addElement l hls hP hz h0n h0e (sr := sr) (a := a) (b := b) (x := x) hsr) hx hb hml hown hts hE hF hG hS (xw_recv hE hP (0, 0) rfl rfl) rfl rfl q_43 q_494 q_497 q_495 q_496 (by decide) rfl ⟨by rw [hRf]; decide, by rw [hRl]; decide⟩ hl.1 rfl (Nat.le_of_ble_eq_true rfl) dL_addElement_9 ⟨by rw [hRc]; decide, by rw [hRs]; decide⟩ (fun E ce q9 H1 locs hp hS hce hcv hcl => ?_) (fun v H1 locs hp hS => ?_)
  · obtain ⟨hx1, hB⟩ := hp
    rcases hx1 with ⟨h1, rfl⟩ | ⟨h1, rfl⟩ | ⟨h1, rfl⟩
    · refine vx_catch (own := "NetlistBenchLaw") (name := "java/lang/IndexOutOfBoundsException") hown [] ⟨0, 14, 17, 19⟩ [⟨0, 14, 21, 21⟩, ⟨0, 14, 25, 13⟩] (hT.trans rfl) (fun _ h => nomatch h) (by decide) (by decide) (hts _ q_449) (show (Cond.castable eIOB "java/lang/IndexOutOfBoundsException").before args s = true from va_Nw.use rfl (hF.1 (.castable "java/lang/IndexOutOfBoundsException" "java/lang/IndexOutOfBoundsException") (List.mem_of_elem_eq_true rfl))) hce hcv hcl ?_
      refine lv_astore (lv' := [(6, .ref q9), (0, .ref (ad (0, 0))), (1, .int sr), (2, .int a), (3, .int b), (4, .int x), (5, .ref (ad (40, 0)))]) hx hb dL_addElement_17 hl (by decide) rfl (fun ls hl => ?_)
      refine lv_iconst (v := nI 1) hx hb dL_addElement_19 (by decide) ?_
      exact xe_iret hQ hx hb hr hlocks hH hS (by decide) (by decide) (xLp_x h1 (by decide) hz h0n h0e hB) dL_addElement_20
    · refine vx_catch (own := "NetlistBenchLaw") (name := "java/lang/IllegalArgumentException") hown [⟨0, 14, 17, 19⟩] ⟨0, 14, 21, 21⟩ [⟨0, 14, 25, 13⟩] (hT.trans rfl) (List.forall_mem_cons.mpr ⟨Or.inr ⟨by decide, "java/lang/IndexOutOfBoundsException", hts _ q_449, hN.1⟩, (List.forall_mem_nil _)⟩) (by decide) (by decide) (hts _ q_450) (show (Cond.castable eIAE "java/lang/IllegalArgumentException").before args s = true from va_Nw.use rfl (hF.1 (.castable "java/lang/IllegalArgumentException" "java/lang/IllegalArgumentException") (List.mem_of_elem_eq_true rfl))) hce hcv hcl ?_
      refine lv_astore (lv' := [(6, .ref q9), (0, .ref (ad (0, 0))), (1, .int sr), (2, .int a), (3, .int b), (4, .int x), (5, .ref (ad (40, 0)))]) hx hb dL_addElement_21 hl (by decide) rfl (fun ls hl => ?_)
      refine lv_iconst (v := nI 2) hx hb dL_addElement_23 (by decide) ?_
      exact xe_iret hQ hx hb hr hlocks hH hS (by decide) (by decide) (xLp_x h1 (by decide) hz h0n h0e hB) dL_addElement_24
    · refine vx_catch (own := "NetlistBenchLaw") (name := "java/lang/IllegalStateException") hown [⟨0, 14, 17, 19⟩, ⟨0, 14, 21, 21⟩] ⟨0, 14, 25, 13⟩ [] (hT.trans rfl) (List.forall_mem_cons.mpr ⟨Or.inr ⟨by decide, "java/lang/IndexOutOfBoundsException", hts _ q_449, hN.2.1⟩, (List.forall_mem_cons.mpr ⟨Or.inr ⟨by decide, "java/lang/IllegalArgumentException", hts _ q_450, hN.2.2⟩, (List.forall_mem_nil _)⟩)⟩) (by decide) (by decide) (hts _ q_303) (show (Cond.castable eISE "java/lang/IllegalStateException").before args s = true from va_Nw.use rfl (hF.1 (.castable "java/lang/IllegalStateException" "java/lang/IllegalStateException") (List.mem_of_elem_eq_true rfl))) hce hcv hcl ?_
      refine lv_astore (lv' := [(6, .ref q9), (0, .ref (ad (0, 0))), (1, .int sr), (2, .int a), (3, .int b), (4, .int x), (5, .ref (ad (40, 0)))]) hx hb dL_addElement_25 hl (by decide) rfl (fun ls hl => ?_)
      refine lv_iconst (v := nI 3) hx hb dL_addElement_27 (by decide) ?_
      exact xe_iret hQ hx hb hr hlocks hH hS (by decide) (by decide) (xLp_x h1 (by decide) hz h0n h0e hB) dL_addElement_28
  obtain ⟨hv, ht, ad', bl', k1, k2, k3, k4, k5, g2, pl2, kn2, rw2, mi2, un2, hP⟩ := hp; subst hv; generalize H1 = H at hP hS ⊢
  refine lv_i2l (v := (nI (nE z)).toInt64) hx hb dL_addElement_12 rfl ?_
  refine xo_last hx hb hE hP hS (k1 (40, 0) (by decide)) dL_addElement_13 (fun H locs hP hS => ?_)
  refine lv_goto (tgt := 29) hx hb dL_addElement_14 (by decide) ?_
  refine lv_iconst (v := nI 0) hx hb dL_addElement_29 (by decide) ?_
  exact xe_iret hQ hx hb hr hlocks hH hS (by decide) (by decide) (xLp_r ht k1 k2 k3 k4 k5 rfl hP.B) dL_addElement_30

set_option maxHeartbeats 4000000 in
set_option maxRecDepth 100000 in
theorem c_L_resize (l : Launch) (hls : l.stackTraces = false) {D : va_G} {y : Nat → ClassId} {A : Nat → Prop} {e0 : Nat} {ad : xL → Nat} {bl : xM} {z : xC} {g : Nat → Int32} {pl : Nat → Int32} {kn : Nat → Int64} {rw : Nat → Nat → Int64} {mi : Nat → Int64} {un : Int32} {fR : Nat → Nat → Option va_E} {oj : Nat → Int64} {od : Nat → UInt64} {Hs : Heap} (hP : xW D A ad (wU (wB y ad bl z g pl kn rw mi un) fR (wO y oj od)) Hs) (hz : bOk bl z) (h0n : nN z = 0 → ad (2, 0) = e0) (h0e : nE z = 0 → ad (4, 0) = e0) {x k : Int32} : Met l yL_resize (.codeWith yL_resize cL_resize 5 (some .int) [(0, 10, 13, 19), (0, 10, 17, 21)] :: WG) { frames := 8, cells := 2, slots := 12, locals := 300 } (xPcL [.ref (ad (0, 0)), .int x, .int k, .ref (ad (40, 0))] D y A e0 Hs) (xQ (xLp D A y ad e0 fR od (tRes z x k) z (s_eZ z (upd (eZ z) (clN x) k)) ((eZ z (clN x)).toInt64)) A) 2 12 A := by
  refine xM_goL (by decide) (Nat.le_of_ble_eq_true rfl) (fun p e s m args below meth c ls R Q hx hb hr hlocks hml hown hts hH hE hnm hRf hRl hRc hRs hQ hS hl hF hG hN hT => ?_)
  have hRf : R.frames = 8 := hRf
  have hRl : R.locals = 300 := hRl
  have hRc : R.cells = 2 := hRc
  have hRs : R.slots = 12 := hRs
  have hl : lv_has ls 5 [(0, .ref (ad (0, 0))), (1, .int x), (2, .int k), (3, .ref (ad (40, 0)))] := hl
  refine lv_aload_n hx hb dL_resize_0 rfl (lv_at hl 3 rfl) ?_
  refine lv_iconst (v := nI 0) hx hb dL_resize_1 (by decide) ?_
  refine lv_aload_n hx hb dL_resize_2 rfl (lv_at hl 0 rfl) ?_
  refine lv_iload_n hx hb dL_resize_3 rfl (lv_at hl 1 rfl) ?_
  refine lv_iload_n hx hb dL_resize_4 rfl (lv_at hl 2 rfl) ?_
  refine xx_callV (C := "NetlistBench") (n := 2) [.int x, .int k] (c_X3_resize l hls hP hz x k) hx hb hml hown hts hE hF hS (xw_recv hE hP (0, 0) rfl rfl) rfl rfl q_43 q_539 q_542 q_540 q_541 (by decide) rfl ⟨by rw [hRf]; decide, by rw [hRl]; decide⟩ hl.1 rfl (Nat.le_of_ble_eq_true rfl) dL_resize_5 ⟨by rw [hRc]; decide, by rw [hRs]; decide⟩ (fun E ce q9 H1 locs hp hS hce hcv hcl => ?_) (fun v H1 locs hp hS => ?_)
  · obtain ⟨hx1, hB⟩ := hp
    rcases hx1 with ⟨h1, rfl⟩ | ⟨h1, rfl⟩ | ⟨h1, rfl⟩
    · refine vx_catch (own := "NetlistBenchLaw") (name := "java/lang/IndexOutOfBoundsException") hown [] ⟨0, 10, 13, 19⟩ [⟨0, 10, 17, 21⟩] (hT.trans rfl) (fun _ h => nomatch h) (by decide) (by decide) (hts _ q_449) (show (Cond.castable eIOB "java/lang/IndexOutOfBoundsException").before args s = true from va_Nw.use rfl (hF.1 (.castable "java/lang/IndexOutOfBoundsException" "java/lang/IndexOutOfBoundsException") (List.mem_of_elem_eq_true rfl))) hce hcv hcl ?_
      refine lv_astore (lv' := [(4, .ref q9), (0, .ref (ad (0, 0))), (1, .int x), (2, .int k), (3, .ref (ad (40, 0)))]) hx hb dL_resize_13 hl (by decide) rfl (fun ls hl => ?_)
      refine lv_iconst (v := nI 1) hx hb dL_resize_15 (by decide) ?_
      exact xe_iret hQ hx hb hr hlocks hH hS (by decide) (by decide) (xLp_x h1 (by decide) hz h0n h0e hB) dL_resize_16
    · refine vx_catch (own := "NetlistBenchLaw") (name := "java/lang/IllegalArgumentException") hown [⟨0, 10, 13, 19⟩] ⟨0, 10, 17, 21⟩ [] (hT.trans rfl) (List.forall_mem_cons.mpr ⟨Or.inr ⟨by decide, "java/lang/IndexOutOfBoundsException", hts _ q_449, hN.1⟩, (List.forall_mem_nil _)⟩) (by decide) (by decide) (hts _ q_450) (show (Cond.castable eIAE "java/lang/IllegalArgumentException").before args s = true from va_Nw.use rfl (hF.1 (.castable "java/lang/IllegalArgumentException" "java/lang/IllegalArgumentException") (List.mem_of_elem_eq_true rfl))) hce hcv hcl ?_
      refine lv_astore (lv' := [(4, .ref q9), (0, .ref (ad (0, 0))), (1, .int x), (2, .int k), (3, .ref (ad (40, 0)))]) hx hb dL_resize_17 hl (by decide) rfl (fun ls hl => ?_)
      refine lv_iconst (v := nI 2) hx hb dL_resize_19 (by decide) ?_
      exact xe_iret hQ hx hb hr hlocks hH hS (by decide) (by decide) (xLp_x h1 (by decide) hz h0n h0e hB) dL_resize_20
    · exact absurd h1 (by unfold tRes; (repeat' split) <;> decide)
  obtain ⟨hv, ht, g2, pl2, kn2, rw2, mi2, un2, hP⟩ := hp; subst hv; generalize H1 = H at hP hS ⊢
  refine lv_i2l (v := (eZ z (clN x)).toInt64) hx hb dL_resize_8 rfl ?_
  refine xo_last hx hb hE hP hS rfl dL_resize_9 (fun H locs hP hS => ?_)
  refine lv_goto (tgt := 21) hx hb dL_resize_10 (by decide) ?_
  refine lv_iconst (v := nI 0) hx hb dL_resize_21 (by decide) ?_
  exact xe_iret hQ hx hb hr hlocks hH hS (by decide) (by decide) (xLp_r ht (fun _ _ => rfl) rfl h0n h0e ⟨wf_eZ hz.w ht, hz.2.1, hz.2.2.1, hz.2.2.2⟩ rfl hP.B) dL_resize_22

set_option maxHeartbeats 4000000 in
set_option maxRecDepth 100000 in
theorem c_L_begin (l : Launch) (hls : l.stackTraces = false) {D : va_G} {y : Nat → ClassId} {A : Nat → Prop} {e0 : Nat} {ad : xL → Nat} {bl : xM} {z : xC} {g : Nat → Int32} {pl : Nat → Int32} {kn : Nat → Int64} {rw : Nat → Nat → Int64} {mi : Nat → Int64} {un : Int32} {fR : Nat → Nat → Option va_E} {oj : Nat → Int64} {od : Nat → UInt64} {Hs : Heap} (hP : xW D A ad (wU (wB y ad bl z g pl kn rw mi un) fR (wO y oj od)) Hs) (hz : bOk bl z) (h0n : nN z = 0 → ad (2, 0) = e0) (h0e : nE z = 0 → ad (4, 0) = e0) {x b : Int32} (hb01 : b = 0 ∨ b = 1) : Met l yL_begin (.codeWith yL_begin cL_begin 5 (some .int) [(0, 17, 20, 19)] :: WG) { frames := 8, cells := 1, slots := 6, locals := 300 } (xPcL [.ref (ad (0, 0)), .int x, .int b, .ref (ad (40, 0))] D y A e0 Hs) (xQ (xLp D A y ad e0 fR od (tBeg z x) z (s_eO z (upd (eO z) (clN x) b)) (bL (eO z (clN x)))) A) 1 6 A := by
  refine xM_goL (by decide) (Nat.le_of_ble_eq_true rfl) (fun p e s m args below meth c ls R Q hx hb hr hlocks hml hown hts hH hE hnm hRf hRl hRc hRs hQ hS hl hF hG hN hT => ?_)
  have hRf : R.frames = 8 := hRf
  have hRl : R.locals = 300 := hRl
  have hRc : R.cells = 1 := hRc
  have hRs : R.slots = 6 := hRs
  have hl : lv_has ls 5 [(0, .ref (ad (0, 0))), (1, .int x), (2, .int b), (3, .ref (ad (40, 0)))] := hl
  refine lv_aload_n hx hb dL_begin_0 rfl (lv_at hl 3 rfl) ?_
  refine lv_iconst (v := nI 0) hx hb dL_begin_1 (by decide) ?_
  refine lv_aload_n hx hb dL_begin_2 rfl (lv_at hl 0 rfl) ?_
  refine lv_iload_n hx hb dL_begin_3 rfl (lv_at hl 1 rfl) ?_
  refine lv_iload_n hx hb dL_begin_4 rfl (lv_at hl 2 rfl) ?_
  refine xx_callV (C := "NetlistBench") (n := 2) [.int x, .int b] (c_X3_begin l hls hP hz x b hb01) hx hb hml hown hts hE hF hS (xw_recv hE hP (0, 0) rfl rfl) rfl rfl q_43 q_551 q_554 q_552 q_553 (by decide) rfl ⟨by rw [hRf]; decide, by rw [hRl]; decide⟩ hl.1 rfl (Nat.le_of_ble_eq_true rfl) dL_begin_5 ⟨by rw [hRc]; decide, by rw [hRs]; decide⟩ (fun E ce q9 H1 locs hp hS hce hcv hcl => ?_) (fun v H1 locs hp hS => ?_)
  · obtain ⟨hx1, hB⟩ := hp
    obtain ⟨h1, rfl⟩ := hx1
    refine vx_catch (own := "NetlistBenchLaw") (name := "java/lang/IndexOutOfBoundsException") hown [] ⟨0, 17, 20, 19⟩ [] (hT.trans rfl) (fun _ h => nomatch h) (by decide) (by decide) (hts _ q_449) (show (Cond.castable eIOB "java/lang/IndexOutOfBoundsException").before args s = true from va_Nw.use rfl (hF.1 (.castable "java/lang/IndexOutOfBoundsException" "java/lang/IndexOutOfBoundsException") (List.mem_of_elem_eq_true rfl))) hce hcv hcl ?_
    refine lv_astore (lv' := [(4, .ref q9), (0, .ref (ad (0, 0))), (1, .int x), (2, .int b), (3, .ref (ad (40, 0)))]) hx hb dL_begin_20 hl (by decide) rfl (fun ls hl => ?_)
    refine lv_iconst (v := nI 1) hx hb dL_begin_22 (by decide) ?_
    exact xe_iret hQ hx hb hr hlocks hH hS (by decide) (by decide) (xLp_x h1 (by decide) hz h0n h0e hB) dL_begin_23
  obtain ⟨hv, ht, g2, pl2, kn2, rw2, mi2, un2, hP⟩ := hp; subst hv; generalize H1 = H at hP hS ⊢
  refine lv_if_eq (tgt := 15) hx hb dL_begin_8 (by decide) (fun c0 => ?_) (fun c0 => ?_)
  · refine lv_lconst (v := 0) hx hb dL_begin_15 (by decide) ?_
    refine xo_last hx hb hE hP hS rfl dL_begin_16 (fun H locs hP hS => ?_)
    refine lv_goto (tgt := 24) hx hb dL_begin_17 (by decide) ?_
    refine lv_iconst (v := nI 0) hx hb dL_begin_24 (by decide) ?_
    exact xe_iret hQ hx hb hr hlocks hH hS (by decide) (by decide) (xLp_r ht (fun _ _ => rfl) rfl h0n h0e ⟨wf_eO hz.w hb01, hz.2.1, hz.2.2.1, hz.2.2.2⟩ (if_pos c0).symm hP.B) dL_begin_25
  · refine lv_lconst (v := 1) hx hb dL_begin_11 (by decide) ?_
    refine lv_goto (tgt := 16) hx hb dL_begin_12 (by decide) ?_
    refine xo_last hx hb hE hP hS rfl dL_begin_16 (fun H locs hP hS => ?_)
    refine lv_goto (tgt := 24) hx hb dL_begin_17 (by decide) ?_
    refine lv_iconst (v := nI 0) hx hb dL_begin_24 (by decide) ?_
    exact xe_iret hQ hx hb hr hlocks hH hS (by decide) (by decide) (xLp_r ht (fun _ _ => rfl) rfl h0n h0e ⟨wf_eO hz.w hb01, hz.2.1, hz.2.2.1, hz.2.2.2⟩ (if_neg c0).symm hP.B) dL_begin_25

set_option maxHeartbeats 4000000 in
set_option maxRecDepth 100000 in
theorem c_L_toggle (l : Launch) (hls : l.stackTraces = false) {D : va_G} {y : Nat → ClassId} {A : Nat → Prop} {e0 : Nat} {ad : xL → Nat} {bl : xM} {z : xC} {g : Nat → Int32} {pl : Nat → Int32} {kn : Nat → Int64} {rw : Nat → Nat → Int64} {mi : Nat → Int64} {un : Int32} {fR : Nat → Nat → Option va_E} {oj : Nat → Int64} {od : Nat → UInt64} {Hs : Heap} (hP : xW D A ad (wU (wB y ad bl z g pl kn rw mi un) fR (wO y oj od)) Hs) (hz : bOk bl z) (h0n : nN z = 0 → ad (2, 0) = e0) (h0e : nE z = 0 → ad (4, 0) = e0) {x t : Int32} : Met l yL_toggle (.codeWith yL_toggle cL_toggle 5 (some .int) [(0, 10, 13, 19), (0, 10, 17, 21), (0, 10, 21, 13)] :: WG) { frames := 8, cells := 2, slots := 12, locals := 300 } (xPcL [.ref (ad (0, 0)), .int x, .int t, .ref (ad (40, 0))] D y A e0 Hs) (xQ (xLp D A y ad e0 fR od (tTog z x t) z (zTog z (clN x) t) ((eT (zTog z (clN x) t) (clN x)).toInt64)) A) 2 12 A := by
  refine xM_goL (by decide) (Nat.le_of_ble_eq_true rfl) (fun p e s m args below meth c ls R Q hx hb hr hlocks hml hown hts hH hE hnm hRf hRl hRc hRs hQ hS hl hF hG hN hT => ?_)
  have hRf : R.frames = 8 := hRf
  have hRl : R.locals = 300 := hRl
  have hRc : R.cells = 2 := hRc
  have hRs : R.slots = 12 := hRs
  have hl : lv_has ls 5 [(0, .ref (ad (0, 0))), (1, .int x), (2, .int t), (3, .ref (ad (40, 0)))] := hl
  refine lv_aload_n hx hb dL_toggle_0 rfl (lv_at hl 3 rfl) ?_
  refine lv_iconst (v := nI 0) hx hb dL_toggle_1 (by decide) ?_
  refine lv_aload_n hx hb dL_toggle_2 rfl (lv_at hl 0 rfl) ?_
  refine lv_iload_n hx hb dL_toggle_3 rfl (lv_at hl 1 rfl) ?_
  refine lv_iload_n hx hb dL_toggle_4 rfl (lv_at hl 2 rfl) ?_
  refine xx_callV (C := "NetlistBench") (n := 2) [.int x, .int t] (c_X3_toggle l hls hP hz x t) hx hb hml hown hts hE hF hS (xw_recv hE hP (0, 0) rfl rfl) rfl rfl q_43 q_558 q_561 q_559 q_560 (by decide) rfl ⟨by rw [hRf]; decide, by rw [hRl]; decide⟩ hl.1 rfl (Nat.le_of_ble_eq_true rfl) dL_toggle_5 ⟨by rw [hRc]; decide, by rw [hRs]; decide⟩ (fun E ce q9 H1 locs hp hS hce hcv hcl => ?_) (fun v H1 locs hp hS => ?_)
  · obtain ⟨hx1, hB⟩ := hp
    rcases hx1 with ⟨h1, rfl⟩ | ⟨h1, rfl⟩ | ⟨h1, rfl⟩
    · refine vx_catch (own := "NetlistBenchLaw") (name := "java/lang/IndexOutOfBoundsException") hown [] ⟨0, 10, 13, 19⟩ [⟨0, 10, 17, 21⟩, ⟨0, 10, 21, 13⟩] (hT.trans rfl) (fun _ h => nomatch h) (by decide) (by decide) (hts _ q_449) (show (Cond.castable eIOB "java/lang/IndexOutOfBoundsException").before args s = true from va_Nw.use rfl (hF.1 (.castable "java/lang/IndexOutOfBoundsException" "java/lang/IndexOutOfBoundsException") (List.mem_of_elem_eq_true rfl))) hce hcv hcl ?_
      refine lv_astore (lv' := [(4, .ref q9), (0, .ref (ad (0, 0))), (1, .int x), (2, .int t), (3, .ref (ad (40, 0)))]) hx hb dL_toggle_13 hl (by decide) rfl (fun ls hl => ?_)
      refine lv_iconst (v := nI 1) hx hb dL_toggle_15 (by decide) ?_
      exact xe_iret hQ hx hb hr hlocks hH hS (by decide) (by decide) (xLp_x h1 (by decide) hz h0n h0e hB) dL_toggle_16
    · refine vx_catch (own := "NetlistBenchLaw") (name := "java/lang/IllegalArgumentException") hown [⟨0, 10, 13, 19⟩] ⟨0, 10, 17, 21⟩ [⟨0, 10, 21, 13⟩] (hT.trans rfl) (List.forall_mem_cons.mpr ⟨Or.inr ⟨by decide, "java/lang/IndexOutOfBoundsException", hts _ q_449, hN.1⟩, (List.forall_mem_nil _)⟩) (by decide) (by decide) (hts _ q_450) (show (Cond.castable eIAE "java/lang/IllegalArgumentException").before args s = true from va_Nw.use rfl (hF.1 (.castable "java/lang/IllegalArgumentException" "java/lang/IllegalArgumentException") (List.mem_of_elem_eq_true rfl))) hce hcv hcl ?_
      refine lv_astore (lv' := [(4, .ref q9), (0, .ref (ad (0, 0))), (1, .int x), (2, .int t), (3, .ref (ad (40, 0)))]) hx hb dL_toggle_17 hl (by decide) rfl (fun ls hl => ?_)
      refine lv_iconst (v := nI 2) hx hb dL_toggle_19 (by decide) ?_
      exact xe_iret hQ hx hb hr hlocks hH hS (by decide) (by decide) (xLp_x h1 (by decide) hz h0n h0e hB) dL_toggle_20
    · refine vx_catch (own := "NetlistBenchLaw") (name := "java/lang/IllegalStateException") hown [⟨0, 10, 13, 19⟩, ⟨0, 10, 17, 21⟩] ⟨0, 10, 21, 13⟩ [] (hT.trans rfl) (List.forall_mem_cons.mpr ⟨Or.inr ⟨by decide, "java/lang/IndexOutOfBoundsException", hts _ q_449, hN.2.1⟩, (List.forall_mem_cons.mpr ⟨Or.inr ⟨by decide, "java/lang/IllegalArgumentException", hts _ q_450, hN.2.2⟩, (List.forall_mem_nil _)⟩)⟩) (by decide) (by decide) (hts _ q_303) (show (Cond.castable eISE "java/lang/IllegalStateException").before args s = true from va_Nw.use rfl (hF.1 (.castable "java/lang/IllegalStateException" "java/lang/IllegalStateException") (List.mem_of_elem_eq_true rfl))) hce hcv hcl ?_
      refine lv_astore (lv' := [(4, .ref q9), (0, .ref (ad (0, 0))), (1, .int x), (2, .int t), (3, .ref (ad (40, 0)))]) hx hb dL_toggle_21 hl (by decide) rfl (fun ls hl => ?_)
      refine lv_iconst (v := nI 3) hx hb dL_toggle_23 (by decide) ?_
      exact xe_iret hQ hx hb hr hlocks hH hS (by decide) (by decide) (xLp_x h1 (by decide) hz h0n h0e hB) dL_toggle_24
  obtain ⟨hv, ht, g2, pl2, kn2, rw2, mi2, un2, hP⟩ := hp; subst hv; generalize H1 = H at hP hS ⊢
  refine lv_i2l (v := (eT (zTog z (clN x) t) (clN x)).toInt64) hx hb dL_toggle_8 rfl ?_
  refine xo_last hx hb hE hP hS rfl dL_toggle_9 (fun H locs hP hS => ?_)
  refine lv_goto (tgt := 25) hx hb dL_toggle_10 (by decide) ?_
  refine lv_iconst (v := nI 0) hx hb dL_toggle_25 (by decide) ?_
  exact xe_iret hQ hx hb hr hlocks hH hS (by decide) (by decide) (xLp_r ht (fun _ _ => rfl) rfl (fun q => h0n (nN_tog.symm.trans q)) (fun q => h0e (nE_tog.symm.trans q)) ⟨wf_tog hz.w ht, nN_tog.symm ▸ hz.2.1, nE_tog.symm ▸ hz.2.2.1, hz.2.2.2⟩ rfl hP.B) dL_toggle_26

set_option maxHeartbeats 4000000 in
set_option maxRecDepth 100000 in
theorem c_L_count (l : Launch) (hls : l.stackTraces = false) {D : va_G} {y : Nat → ClassId} {A : Nat → Prop} {e0 : Nat} {ad : xL → Nat} {bl : xM} {z : xC} {g : Nat → Int32} {pl : Nat → Int32} {kn : Nat → Int64} {rw : Nat → Nat → Int64} {mi : Nat → Int64} {un : Int32} {fR : Nat → Nat → Option va_E} {oj : Nat → Int64} {od : Nat → UInt64} {Hs : Heap} (hP : xW D A ad (wU (wB y ad bl z g pl kn rw mi un) fR (wO y oj od)) Hs) (hz : bOk bl z) (h0n : nN z = 0 → ad (2, 0) = e0) (h0e : nE z = 0 → ad (4, 0) = e0) {k : Int32} : Met l yL_count (.codeWith yL_count cL_count 4 (some .int) [(0, 9, 12, 19)] :: WG) { frames := 8, cells := 1, slots := 6, locals := 300 } (xPcL [.ref (ad (0, 0)), .int k, .ref (ad (40, 0))] D y A e0 Hs) (xQ (xLp D A y ad e0 fR od (tCount k) z (z) ((nI (cnt z (clN k))).toInt64)) A) 1 6 A := by
  refine xM_goL (by decide) (Nat.le_of_ble_eq_true rfl) (fun p e s m args below meth c ls R Q hx hb hr hlocks hml hown hts hH hE hnm hRf hRl hRc hRs hQ hS hl hF hG hN hT => ?_)
  have hRf : R.frames = 8 := hRf
  have hRl : R.locals = 300 := hRl
  have hRc : R.cells = 1 := hRc
  have hRs : R.slots = 6 := hRs
  have hl : lv_has ls 4 [(0, .ref (ad (0, 0))), (1, .int k), (2, .ref (ad (40, 0)))] := hl
  refine lv_aload_n hx hb dL_count_0 rfl (lv_at hl 2 rfl) ?_
  refine lv_iconst (v := nI 0) hx hb dL_count_1 (by decide) ?_
  refine lv_aload_n hx hb dL_count_2 rfl (lv_at hl 0 rfl) ?_
  refine lv_iload_n hx hb dL_count_3 rfl (lv_at hl 1 rfl) ?_
  refine xx_callV (C := "NetlistBench") (n := 1) [.int k] (c_X3_count l hls hP hz k) hx hb hml hown hts hE hF hS (xw_recv hE hP (0, 0) rfl rfl) rfl rfl q_43 q_579 q_582 q_580 q_581 (by decide) rfl ⟨by rw [hRf]; decide, by rw [hRl]; decide⟩ hl.1 rfl (Nat.le_of_ble_eq_true rfl) dL_count_4 ⟨by rw [hRc]; decide, by rw [hRs]; decide⟩ (fun E ce q9 H1 locs hp hS hce hcv hcl => ?_) (fun v H1 locs hp hS => ?_)
  · obtain ⟨hx1, hB⟩ := hp
    obtain ⟨h1, rfl⟩ := hx1
    refine vx_catch (own := "NetlistBenchLaw") (name := "java/lang/IndexOutOfBoundsException") hown [] ⟨0, 9, 12, 19⟩ [] (hT.trans rfl) (fun _ h => nomatch h) (by decide) (by decide) (hts _ q_449) (show (Cond.castable eIOB "java/lang/IndexOutOfBoundsException").before args s = true from va_Nw.use rfl (hF.1 (.castable "java/lang/IndexOutOfBoundsException" "java/lang/IndexOutOfBoundsException") (List.mem_of_elem_eq_true rfl))) hce hcv hcl ?_
    refine lv_astore_n (lv' := [(3, .ref q9), (0, .ref (ad (0, 0))), (1, .int k), (2, .ref (ad (40, 0)))]) hx hb dL_count_12 rfl hl (by decide) rfl (fun ls hl => ?_)
    refine lv_iconst (v := nI 1) hx hb dL_count_13 (by decide) ?_
    exact xe_iret hQ hx hb hr hlocks hH hS (by decide) (by decide) (xLp_x h1 (by decide) hz h0n h0e hB) dL_count_14
  obtain ⟨hv, ht, g2, pl2, kn2, rw2, mi2, un2, hP⟩ := hp; subst hv; generalize H1 = H at hP hS ⊢
  refine lv_i2l (v := (nI (cnt z (clN k))).toInt64) hx hb dL_count_7 rfl ?_
  refine xo_last hx hb hE hP hS rfl dL_count_8 (fun H locs hP hS => ?_)
  refine lv_goto (tgt := 15) hx hb dL_count_9 (by decide) ?_
  refine lv_iconst (v := nI 0) hx hb dL_count_15 (by decide) ?_
  exact xe_iret hQ hx hb hr hlocks hH hS (by decide) (by decide) (xLp_r ht (fun _ _ => rfl) rfl h0n h0e ⟨hz.w, hz.2.1, hz.2.2.1, hz.2.2.2⟩ rfl hP.B) dL_count_16

set_option maxHeartbeats 4000000 in
set_option maxRecDepth 100000 in
theorem c_L_element (l : Launch) (hls : l.stackTraces = false) {D : va_G} {y : Nat → ClassId} {A : Nat → Prop} {e0 : Nat} {ad : xL → Nat} {bl : xM} {z : xC} {g : Nat → Int32} {pl : Nat → Int32} {kn : Nat → Int64} {rw : Nat → Nat → Int64} {mi : Nat → Int64} {un : Int32} {fR : Nat → Nat → Option va_E} {oj : Nat → Int64} {od : Nat → UInt64} {Hs : Heap} (hP : xW D A ad (wU (wB y ad bl z g pl kn rw mi un) fR (wO y oj od)) Hs) (hz : bOk bl z) (h0n : nN z = 0 → ad (2, 0) = e0) (h0e : nE z = 0 → ad (4, 0) = e0) {x k : Int32} : Met l yL_element (.codeWith yL_element cL_element 5 (some .int) [(0, 10, 13, 19)] :: WG) { frames := 8, cells := 2, slots := 12, locals := 300 } (xPcL [.ref (ad (0, 0)), .int x, .int k, .ref (ad (40, 0))] D y A e0 Hs) (xQ (xLp D A y ad e0 fR od (tElem z x k) z (z) ((trt z (clN x) (clN k)).toInt64)) A) 2 12 A := by
  refine xM_goL (by decide) (Nat.le_of_ble_eq_true rfl) (fun p e s m args below meth c ls R Q hx hb hr hlocks hml hown hts hH hE hnm hRf hRl hRc hRs hQ hS hl hF hG hN hT => ?_)
  have hRf : R.frames = 8 := hRf
  have hRl : R.locals = 300 := hRl
  have hRc : R.cells = 2 := hRc
  have hRs : R.slots = 12 := hRs
  have hl : lv_has ls 5 [(0, .ref (ad (0, 0))), (1, .int x), (2, .int k), (3, .ref (ad (40, 0)))] := hl
  refine lv_aload_n hx hb dL_element_0 rfl (lv_at hl 3 rfl) ?_
  refine lv_iconst (v := nI 0) hx hb dL_element_1 (by decide) ?_
  refine lv_aload_n hx hb dL_element_2 rfl (lv_at hl 0 rfl) ?_
  refine lv_iload_n hx hb dL_element_3 rfl (lv_at hl 1 rfl) ?_
  refine lv_iload_n hx hb dL_element_4 rfl (lv_at hl 2 rfl) ?_
  refine xx_callV (C := "NetlistBench") (n := 2) [.int x, .int k] (c_X3_element l hls hP hz x k) hx hb hml hown hts hE hF hS (xw_recv hE hP (0, 0) rfl rfl) rfl rfl q_43 q_587 q_590 q_588 q_589 (by decide) rfl ⟨by rw [hRf]; decide, by rw [hRl]; decide⟩ hl.1 rfl (Nat.le_of_ble_eq_true rfl) dL_element_5 ⟨by rw [hRc]; decide, by rw [hRs]; decide⟩ (fun E ce q9 H1 locs hp hS hce hcv hcl => ?_) (fun v H1 locs hp hS => ?_)
  · obtain ⟨hx1, hB⟩ := hp
    rcases hx1 with ⟨h1, rfl⟩ | ⟨h1, rfl⟩ | ⟨h1, rfl⟩
    · refine vx_catch (own := "NetlistBenchLaw") (name := "java/lang/IndexOutOfBoundsException") hown [] ⟨0, 10, 13, 19⟩ [] (hT.trans rfl) (fun _ h => nomatch h) (by decide) (by decide) (hts _ q_449) (show (Cond.castable eIOB "java/lang/IndexOutOfBoundsException").before args s = true from va_Nw.use rfl (hF.1 (.castable "java/lang/IndexOutOfBoundsException" "java/lang/IndexOutOfBoundsException") (List.mem_of_elem_eq_true rfl))) hce hcv hcl ?_
      refine lv_astore (lv' := [(4, .ref q9), (0, .ref (ad (0, 0))), (1, .int x), (2, .int k), (3, .ref (ad (40, 0)))]) hx hb dL_element_13 hl (by decide) rfl (fun ls hl => ?_)
      refine lv_iconst (v := nI 1) hx hb dL_element_15 (by decide) ?_
      exact xe_iret hQ hx hb hr hlocks hH hS (by decide) (by decide) (xLp_x h1 (by decide) hz h0n h0e hB) dL_element_16
    · exact absurd h1 (by unfold tElem; (repeat' split) <;> decide)
    · exact absurd h1 (by unfold tElem; (repeat' split) <;> decide)
  obtain ⟨hv, ht, g2, pl2, kn2, rw2, mi2, un2, hP⟩ := hp; subst hv; generalize H1 = H at hP hS ⊢
  refine lv_i2l (v := (trt z (clN x) (clN k)).toInt64) hx hb dL_element_8 rfl ?_
  refine xo_last hx hb hE hP hS rfl dL_element_9 (fun H locs hP hS => ?_)
  refine lv_goto (tgt := 17) hx hb dL_element_10 (by decide) ?_
  refine lv_iconst (v := nI 0) hx hb dL_element_17 (by decide) ?_
  exact xe_iret hQ hx hb hr hlocks hH hS (by decide) (by decide) (xLp_r ht (fun _ _ => rfl) rfl h0n h0e ⟨hz.w, hz.2.1, hz.2.2.1, hz.2.2.2⟩ rfl hP.B) dL_element_18
