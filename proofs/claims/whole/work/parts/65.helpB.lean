/-! the helpers of the law -/
set_option maxHeartbeats 4000000 in
set_option maxRecDepth 100000 in
theorem c_L_toggleAt (l : Launch) (hls : l.stackTraces = false) {D : va_G} {y : Nat → ClassId} {A : Nat → Prop} {e0 : Nat} {ad : xL → Nat} {bl : xM} {z : xC} {g : Nat → Int32} {pl : Nat → Int32} {kn : Nat → Int64} {rw : Nat → Nat → Int64} {mi : Nat → Int64} {un : Int32} {fR : Nat → Nat → Option va_E} {oj : Nat → Int64} {od : Nat → UInt64} {Hs : Heap} (hP : xW D A ad (wU (wB y ad bl z g pl kn rw mi un) fR (wO y oj od)) Hs) (hz : bOk bl z) (h0n : nN z = 0 → ad (2, 0) = e0) (h0e : nE z = 0 → ad (4, 0) = e0) {x k : Int32} : Met l yL_toggleAt (.codeWith yL_toggleAt cL_toggleAt 5 (some .int) [(0, 10, 13, 19)] :: WG) { frames := 8, cells := 2, slots := 12, locals := 300 } (xPcL [.ref (ad (0, 0)), .int x, .int k, .ref (ad (40, 0))] D y A e0 Hs) (xQ (xLp D A y ad e0 fR od (tTgAt z x k) z (z) ((tT z (6 * clN x + clN k)).toInt64)) A) 2 12 A := by
  refine xM_goL (by decide) (Nat.le_of_ble_eq_true rfl) (fun p e s m args below meth c ls R Q hx hb hr hlocks hml hown hts hH hE hnm hRf hRl hRc hRs hQ hS hl hF hG hN hT => ?_)
  have hRf : R.frames = 8 := hRf
  have hRl : R.locals = 300 := hRl
  have hRc : R.cells = 2 := hRc
  have hRs : R.slots = 12 := hRs
  have hl : lv_has ls 5 [(0, .ref (ad (0, 0))), (1, .int x), (2, .int k), (3, .ref (ad (40, 0)))] := hl
  refine lv_aload_n hx hb dL_toggleAt_0 rfl (lv_at hl 3 rfl) ?_
  refine lv_iconst (v := nI 0) hx hb dL_toggleAt_1 (by decide) ?_
  refine lv_aload_n hx hb dL_toggleAt_2 rfl (lv_at hl 0 rfl) ?_
  refine lv_iload_n hx hb dL_toggleAt_3 rfl (lv_at hl 1 rfl) ?_
  refine lv_iload_n hx hb dL_toggleAt_4 rfl (lv_at hl 2 rfl) ?_
  refine xx_callV (C := "NetlistBench") (n := 2) [.int x, .int k] (c_X3_toggleAt l hls hP hz x k) hx hb hml hown hts hE hF hS (xw_recv hE hP (0, 0) rfl rfl) rfl rfl q_43 q_595 q_598 q_596 q_597 (by decide) rfl ⟨by rw [hRf]; decide, by rw [hRl]; decide⟩ hl.1 rfl (Nat.le_of_ble_eq_true rfl) dL_toggleAt_5 ⟨by rw [hRc]; decide, by rw [hRs]; decide⟩ (fun E ce q9 H1 locs hp hS hce hcv hcl => ?_) (fun v H1 locs hp hS => ?_)
  · obtain ⟨hx1, hB⟩ := hp
    rcases hx1 with ⟨h1, rfl⟩ | ⟨h1, rfl⟩ | ⟨h1, rfl⟩
    · refine vx_catch (own := "NetlistBenchLaw") (name := "java/lang/IndexOutOfBoundsException") hown [] ⟨0, 10, 13, 19⟩ [] (hT.trans rfl) (fun _ h => nomatch h) (by decide) (by decide) (hts _ q_449) (show (Cond.castable eIOB "java/lang/IndexOutOfBoundsException").before args s = true from va_Nw.use rfl (hF.1 (.castable "java/lang/IndexOutOfBoundsException" "java/lang/IndexOutOfBoundsException") (List.mem_of_elem_eq_true rfl))) hce hcv hcl ?_
      refine lv_astore (lv' := [(4, .ref q9), (0, .ref (ad (0, 0))), (1, .int x), (2, .int k), (3, .ref (ad (40, 0)))]) hx hb dL_toggleAt_13 hl (by decide) rfl (fun ls hl => ?_)
      refine lv_iconst (v := nI 1) hx hb dL_toggleAt_15 (by decide) ?_
      exact xe_iret hQ hx hb hr hlocks hH hS (by decide) (by decide) (xLp_x h1 (by decide) hz h0n h0e hB) dL_toggleAt_16
    · exact absurd h1 (by unfold tTgAt; (repeat' split) <;> decide)
    · exact absurd h1 (by unfold tTgAt; (repeat' split) <;> decide)
  obtain ⟨hv, ht, g2, pl2, kn2, rw2, mi2, un2, hP⟩ := hp; subst hv; generalize H1 = H at hP hS ⊢
  refine lv_i2l (v := (tT z (6 * clN x + clN k)).toInt64) hx hb dL_toggleAt_8 rfl ?_
  refine xo_last hx hb hE hP hS rfl dL_toggleAt_9 (fun H locs hP hS => ?_)
  refine lv_goto (tgt := 17) hx hb dL_toggleAt_10 (by decide) ?_
  refine lv_iconst (v := nI 0) hx hb dL_toggleAt_17 (by decide) ?_
  exact xe_iret hQ hx hb hr hlocks hH hS (by decide) (by decide) (xLp_r ht (fun _ _ => rfl) rfl h0n h0e ⟨hz.w, hz.2.1, hz.2.2.1, hz.2.2.2⟩ rfl hP.B) dL_toggleAt_18

set_option maxHeartbeats 4000000 in
set_option maxRecDepth 100000 in
theorem c_L_isOn (l : Launch) (hls : l.stackTraces = false) {D : va_G} {y : Nat → ClassId} {A : Nat → Prop} {e0 : Nat} {ad : xL → Nat} {bl : xM} {z : xC} {g : Nat → Int32} {pl : Nat → Int32} {kn : Nat → Int64} {rw : Nat → Nat → Int64} {mi : Nat → Int64} {un : Int32} {fR : Nat → Nat → Option va_E} {oj : Nat → Int64} {od : Nat → UInt64} {Hs : Heap} (hP : xW D A ad (wU (wB y ad bl z g pl kn rw mi un) fR (wO y oj od)) Hs) (hz : bOk bl z) (h0n : nN z = 0 → ad (2, 0) = e0) (h0e : nE z = 0 → ad (4, 0) = e0) {x t : Int32} : Met l yL_isOn (.codeWith yL_isOn cL_isOn 5 (some .int) [(0, 17, 20, 19), (0, 17, 24, 21)] :: WG) { frames := 8, cells := 2, slots := 12, locals := 300 } (xPcL [.ref (ad (0, 0)), .int x, .int t, .ref (ad (40, 0))] D y A e0 Hs) (xQ (xLp D A y ad e0 fR od (tOn z x t) z (z) (bL (onI z (clN x) t))) A) 2 12 A := by
  refine xM_goL (by decide) (Nat.le_of_ble_eq_true rfl) (fun p e s m args below meth c ls R Q hx hb hr hlocks hml hown hts hH hE hnm hRf hRl hRc hRs hQ hS hl hF hG hN hT => ?_)
  have hRf : R.frames = 8 := hRf
  have hRl : R.locals = 300 := hRl
  have hRc : R.cells = 2 := hRc
  have hRs : R.slots = 12 := hRs
  have hl : lv_has ls 5 [(0, .ref (ad (0, 0))), (1, .int x), (2, .int t), (3, .ref (ad (40, 0)))] := hl
  refine lv_aload_n hx hb dL_isOn_0 rfl (lv_at hl 3 rfl) ?_
  refine lv_iconst (v := nI 0) hx hb dL_isOn_1 (by decide) ?_
  refine lv_aload_n hx hb dL_isOn_2 rfl (lv_at hl 0 rfl) ?_
  refine lv_iload_n hx hb dL_isOn_3 rfl (lv_at hl 1 rfl) ?_
  refine lv_iload_n hx hb dL_isOn_4 rfl (lv_at hl 2 rfl) ?_
  refine xx_callV (C := "NetlistBench") (n := 2) [.int x, .int t] (c_X3_isOn l hls hP hz x t) hx hb hml hown hts hE hF hS (xw_recv hE hP (0, 0) rfl rfl) rfl rfl q_43 q_603 q_606 q_604 q_605 (by decide) rfl ⟨by rw [hRf]; decide, by rw [hRl]; decide⟩ hl.1 rfl (Nat.le_of_ble_eq_true rfl) dL_isOn_5 ⟨by rw [hRc]; decide, by rw [hRs]; decide⟩ (fun E ce q9 H1 locs hp hS hce hcv hcl => ?_) (fun v H1 locs hp hS => ?_)
  · obtain ⟨hx1, hB⟩ := hp
    rcases hx1 with ⟨h1, rfl⟩ | ⟨h1, rfl⟩ | ⟨h1, rfl⟩
    · refine vx_catch (own := "NetlistBenchLaw") (name := "java/lang/IndexOutOfBoundsException") hown [] ⟨0, 17, 20, 19⟩ [⟨0, 17, 24, 21⟩] (hT.trans rfl) (fun _ h => nomatch h) (by decide) (by decide) (hts _ q_449) (show (Cond.castable eIOB "java/lang/IndexOutOfBoundsException").before args s = true from va_Nw.use rfl (hF.1 (.castable "java/lang/IndexOutOfBoundsException" "java/lang/IndexOutOfBoundsException") (List.mem_of_elem_eq_true rfl))) hce hcv hcl ?_
      refine lv_astore (lv' := [(4, .ref q9), (0, .ref (ad (0, 0))), (1, .int x), (2, .int t), (3, .ref (ad (40, 0)))]) hx hb dL_isOn_20 hl (by decide) rfl (fun ls hl => ?_)
      refine lv_iconst (v := nI 1) hx hb dL_isOn_22 (by decide) ?_
      exact xe_iret hQ hx hb hr hlocks hH hS (by decide) (by decide) (xLp_x h1 (by decide) hz h0n h0e hB) dL_isOn_23
    · refine vx_catch (own := "NetlistBenchLaw") (name := "java/lang/IllegalArgumentException") hown [⟨0, 17, 20, 19⟩] ⟨0, 17, 24, 21⟩ [] (hT.trans rfl) (List.forall_mem_cons.mpr ⟨Or.inr ⟨by decide, "java/lang/IndexOutOfBoundsException", hts _ q_449, hN.1⟩, (List.forall_mem_nil _)⟩) (by decide) (by decide) (hts _ q_450) (show (Cond.castable eIAE "java/lang/IllegalArgumentException").before args s = true from va_Nw.use rfl (hF.1 (.castable "java/lang/IllegalArgumentException" "java/lang/IllegalArgumentException") (List.mem_of_elem_eq_true rfl))) hce hcv hcl ?_
      refine lv_astore (lv' := [(4, .ref q9), (0, .ref (ad (0, 0))), (1, .int x), (2, .int t), (3, .ref (ad (40, 0)))]) hx hb dL_isOn_24 hl (by decide) rfl (fun ls hl => ?_)
      refine lv_iconst (v := nI 2) hx hb dL_isOn_26 (by decide) ?_
      exact xe_iret hQ hx hb hr hlocks hH hS (by decide) (by decide) (xLp_x h1 (by decide) hz h0n h0e hB) dL_isOn_27
    · exact absurd h1 (by unfold tOn; (repeat' split) <;> decide)
  obtain ⟨hv, ht, g2, pl2, kn2, rw2, mi2, un2, hP⟩ := hp; subst hv; generalize H1 = H at hP hS ⊢
  refine lv_if_eq (tgt := 15) hx hb dL_isOn_8 (by decide) (fun c0 => ?_) (fun c0 => ?_)
  · refine lv_lconst (v := 0) hx hb dL_isOn_15 (by decide) ?_
    refine xo_last hx hb hE hP hS rfl dL_isOn_16 (fun H locs hP hS => ?_)
    refine lv_goto (tgt := 28) hx hb dL_isOn_17 (by decide) ?_
    refine lv_iconst (v := nI 0) hx hb dL_isOn_28 (by decide) ?_
    exact xe_iret hQ hx hb hr hlocks hH hS (by decide) (by decide) (xLp_r ht (fun _ _ => rfl) rfl h0n h0e ⟨hz.w, hz.2.1, hz.2.2.1, hz.2.2.2⟩ (if_pos c0).symm hP.B) dL_isOn_29
  · refine lv_lconst (v := 1) hx hb dL_isOn_11 (by decide) ?_
    refine lv_goto (tgt := 16) hx hb dL_isOn_12 (by decide) ?_
    refine xo_last hx hb hE hP hS rfl dL_isOn_16 (fun H locs hP hS => ?_)
    refine lv_goto (tgt := 28) hx hb dL_isOn_17 (by decide) ?_
    refine lv_iconst (v := nI 0) hx hb dL_isOn_28 (by decide) ?_
    exact xe_iret hQ hx hb hr hlocks hH hS (by decide) (by decide) (xLp_r ht (fun _ _ => rfl) rfl h0n h0e ⟨hz.w, hz.2.1, hz.2.2.1, hz.2.2.2⟩ (if_neg c0).symm hP.B) dL_isOn_29

set_option maxHeartbeats 4000000 in
set_option maxRecDepth 100000 in
theorem c_L_together (l : Launch) (hls : l.stackTraces = false) {D : va_G} {y : Nat → ClassId} {A : Nat → Prop} {e0 : Nat} {ad : xL → Nat} {bl : xM} {z : xC} {g : Nat → Int32} {pl : Nat → Int32} {kn : Nat → Int64} {rw : Nat → Nat → Int64} {mi : Nat → Int64} {un : Int32} {fR : Nat → Nat → Option va_E} {oj : Nat → Int64} {od : Nat → UInt64} {Hs : Heap} (hP : xW D A ad (wU (wB y ad bl z g pl kn rw mi un) fR (wO y oj od)) Hs) (hz : bOk bl z) (h0n : nN z = 0 → ad (2, 0) = e0) (h0e : nE z = 0 → ad (4, 0) = e0) {x t : Int32} : Met l yL_together (.codeWith yL_together cL_together 5 (some .int) [(0, 10, 13, 19), (0, 10, 17, 21)] :: WG) { frames := 8, cells := 2, slots := 12, locals := 300 } (xPcL [.ref (ad (0, 0)), .int x, .int t, .ref (ad (40, 0))] D y A e0 Hs) (xQ (xLp D A y ad e0 fR od (tNd z x t) z (z) ((nI (gM z t (clN x))).toInt64)) A) 2 12 A := by
  refine xM_goL (by decide) (Nat.le_of_ble_eq_true rfl) (fun p e s m args below meth c ls R Q hx hb hr hlocks hml hown hts hH hE hnm hRf hRl hRc hRs hQ hS hl hF hG hN hT => ?_)
  have hRf : R.frames = 8 := hRf
  have hRl : R.locals = 300 := hRl
  have hRc : R.cells = 2 := hRc
  have hRs : R.slots = 12 := hRs
  have hl : lv_has ls 5 [(0, .ref (ad (0, 0))), (1, .int x), (2, .int t), (3, .ref (ad (40, 0)))] := hl
  refine lv_aload_n hx hb dL_together_0 rfl (lv_at hl 3 rfl) ?_
  refine lv_iconst (v := nI 0) hx hb dL_together_1 (by decide) ?_
  refine lv_aload_n hx hb dL_together_2 rfl (lv_at hl 0 rfl) ?_
  refine lv_iload_n hx hb dL_together_3 rfl (lv_at hl 1 rfl) ?_
  refine lv_iload_n hx hb dL_together_4 rfl (lv_at hl 2 rfl) ?_
  refine xx_callV (C := "NetlistBench") (n := 2) [.int x, .int t] (c_X3_together l hls hP hz x t) hx hb hml hown hts hE hF hS (xw_recv hE hP (0, 0) rfl rfl) rfl rfl q_43 q_614 q_617 q_615 q_616 (by decide) rfl ⟨by rw [hRf]; decide, by rw [hRl]; decide⟩ hl.1 rfl (Nat.le_of_ble_eq_true rfl) dL_together_5 ⟨by rw [hRc]; decide, by rw [hRs]; decide⟩ (fun E ce q9 H1 locs hp hS hce hcv hcl => ?_) (fun v H1 locs hp hS => ?_)
  · obtain ⟨hx1, hB⟩ := hp
    rcases hx1 with ⟨h1, rfl⟩ | ⟨h1, rfl⟩ | ⟨h1, rfl⟩
    · refine vx_catch (own := "NetlistBenchLaw") (name := "java/lang/IndexOutOfBoundsException") hown [] ⟨0, 10, 13, 19⟩ [⟨0, 10, 17, 21⟩] (hT.trans rfl) (fun _ h => nomatch h) (by decide) (by decide) (hts _ q_449) (show (Cond.castable eIOB "java/lang/IndexOutOfBoundsException").before args s = true from va_Nw.use rfl (hF.1 (.castable "java/lang/IndexOutOfBoundsException" "java/lang/IndexOutOfBoundsException") (List.mem_of_elem_eq_true rfl))) hce hcv hcl ?_
      refine lv_astore (lv' := [(4, .ref q9), (0, .ref (ad (0, 0))), (1, .int x), (2, .int t), (3, .ref (ad (40, 0)))]) hx hb dL_together_13 hl (by decide) rfl (fun ls hl => ?_)
      refine lv_iconst (v := nI 1) hx hb dL_together_15 (by decide) ?_
      exact xe_iret hQ hx hb hr hlocks hH hS (by decide) (by decide) (xLp_x h1 (by decide) hz h0n h0e hB) dL_together_16
    · refine vx_catch (own := "NetlistBenchLaw") (name := "java/lang/IllegalArgumentException") hown [⟨0, 10, 13, 19⟩] ⟨0, 10, 17, 21⟩ [] (hT.trans rfl) (List.forall_mem_cons.mpr ⟨Or.inr ⟨by decide, "java/lang/IndexOutOfBoundsException", hts _ q_449, hN.1⟩, (List.forall_mem_nil _)⟩) (by decide) (by decide) (hts _ q_450) (show (Cond.castable eIAE "java/lang/IllegalArgumentException").before args s = true from va_Nw.use rfl (hF.1 (.castable "java/lang/IllegalArgumentException" "java/lang/IllegalArgumentException") (List.mem_of_elem_eq_true rfl))) hce hcv hcl ?_
      refine lv_astore (lv' := [(4, .ref q9), (0, .ref (ad (0, 0))), (1, .int x), (2, .int t), (3, .ref (ad (40, 0)))]) hx hb dL_together_17 hl (by decide) rfl (fun ls hl => ?_)
      refine lv_iconst (v := nI 2) hx hb dL_together_19 (by decide) ?_
      exact xe_iret hQ hx hb hr hlocks hH hS (by decide) (by decide) (xLp_x h1 (by decide) hz h0n h0e hB) dL_together_20
    · exact absurd h1 (by unfold tNd; (repeat' split) <;> decide)
  obtain ⟨hv, ht, g2, pl2, kn2, rw2, mi2, un2, hP⟩ := hp; subst hv; generalize H1 = H at hP hS ⊢
  refine lv_i2l (v := (nI (gM z t (clN x))).toInt64) hx hb dL_together_8 rfl ?_
  refine xo_last hx hb hE hP hS rfl dL_together_9 (fun H locs hP hS => ?_)
  refine lv_goto (tgt := 21) hx hb dL_together_10 (by decide) ?_
  refine lv_iconst (v := nI 0) hx hb dL_together_21 (by decide) ?_
  exact xe_iret hQ hx hb hr hlocks hH hS (by decide) (by decide) (xLp_r ht (fun _ _ => rfl) rfl h0n h0e ⟨hz.w, hz.2.1, hz.2.2.1, hz.2.2.2⟩ rfl hP.B) dL_together_22

set_option maxHeartbeats 4000000 in
set_option maxRecDepth 100000 in
theorem c_L_floats (l : Launch) (hls : l.stackTraces = false) {D : va_G} {y : Nat → ClassId} {A : Nat → Prop} {e0 : Nat} {ad : xL → Nat} {bl : xM} {z : xC} {g : Nat → Int32} {pl : Nat → Int32} {kn : Nat → Int64} {rw : Nat → Nat → Int64} {mi : Nat → Int64} {un : Int32} {fR : Nat → Nat → Option va_E} {oj : Nat → Int64} {od : Nat → UInt64} {Hs : Heap} (hP : xW D A ad (wU (wB y ad bl z g pl kn rw mi un) fR (wO y oj od)) Hs) (hz : bOk bl z) (h0n : nN z = 0 → ad (2, 0) = e0) (h0e : nE z = 0 → ad (4, 0) = e0) {x t : Int32} : Met l yL_floats (.codeWith yL_floats cL_floats 5 (some .int) [(0, 17, 20, 19), (0, 17, 24, 21)] :: WG) { frames := 8, cells := 2, slots := 12, locals := 300 } (xPcL [.ref (ad (0, 0)), .int x, .int t, .ref (ad (40, 0))] D y A e0 Hs) (xQ (xLp D A y ad e0 fR od (tNd z x t) z (z) (bL (aflI z (gM z t (clN x))))) A) 2 12 A := by
  refine xM_goL (by decide) (Nat.le_of_ble_eq_true rfl) (fun p e s m args below meth c ls R Q hx hb hr hlocks hml hown hts hH hE hnm hRf hRl hRc hRs hQ hS hl hF hG hN hT => ?_)
  have hRf : R.frames = 8 := hRf
  have hRl : R.locals = 300 := hRl
  have hRc : R.cells = 2 := hRc
  have hRs : R.slots = 12 := hRs
  have hl : lv_has ls 5 [(0, .ref (ad (0, 0))), (1, .int x), (2, .int t), (3, .ref (ad (40, 0)))] := hl
  refine lv_aload_n hx hb dL_floats_0 rfl (lv_at hl 3 rfl) ?_
  refine lv_iconst (v := nI 0) hx hb dL_floats_1 (by decide) ?_
  refine lv_aload_n hx hb dL_floats_2 rfl (lv_at hl 0 rfl) ?_
  refine lv_iload_n hx hb dL_floats_3 rfl (lv_at hl 1 rfl) ?_
  refine lv_iload_n hx hb dL_floats_4 rfl (lv_at hl 2 rfl) ?_
  refine xx_callV (C := "NetlistBench") (n := 2) [.int x, .int t] (c_X3_floats l hls hP hz x t) hx hb hml hown hts hE hF hS (xw_recv hE hP (0, 0) rfl rfl) rfl rfl q_43 q_621 q_624 q_622 q_623 (by decide) rfl ⟨by rw [hRf]; decide, by rw [hRl]; decide⟩ hl.1 rfl (Nat.le_of_ble_eq_true rfl) dL_floats_5 ⟨by rw [hRc]; decide, by rw [hRs]; decide⟩ (fun E ce q9 H1 locs hp hS hce hcv hcl => ?_) (fun v H1 locs hp hS => ?_)
  · obtain ⟨hx1, hB⟩ := hp
    rcases hx1 with ⟨h1, rfl⟩ | ⟨h1, rfl⟩ | ⟨h1, rfl⟩
    · refine vx_catch (own := "NetlistBenchLaw") (name := "java/lang/IndexOutOfBoundsException") hown [] ⟨0, 17, 20, 19⟩ [⟨0, 17, 24, 21⟩] (hT.trans rfl) (fun _ h => nomatch h) (by decide) (by decide) (hts _ q_449) (show (Cond.castable eIOB "java/lang/IndexOutOfBoundsException").before args s = true from va_Nw.use rfl (hF.1 (.castable "java/lang/IndexOutOfBoundsException" "java/lang/IndexOutOfBoundsException") (List.mem_of_elem_eq_true rfl))) hce hcv hcl ?_
      refine lv_astore (lv' := [(4, .ref q9), (0, .ref (ad (0, 0))), (1, .int x), (2, .int t), (3, .ref (ad (40, 0)))]) hx hb dL_floats_20 hl (by decide) rfl (fun ls hl => ?_)
      refine lv_iconst (v := nI 1) hx hb dL_floats_22 (by decide) ?_
      exact xe_iret hQ hx hb hr hlocks hH hS (by decide) (by decide) (xLp_x h1 (by decide) hz h0n h0e hB) dL_floats_23
    · refine vx_catch (own := "NetlistBenchLaw") (name := "java/lang/IllegalArgumentException") hown [⟨0, 17, 20, 19⟩] ⟨0, 17, 24, 21⟩ [] (hT.trans rfl) (List.forall_mem_cons.mpr ⟨Or.inr ⟨by decide, "java/lang/IndexOutOfBoundsException", hts _ q_449, hN.1⟩, (List.forall_mem_nil _)⟩) (by decide) (by decide) (hts _ q_450) (show (Cond.castable eIAE "java/lang/IllegalArgumentException").before args s = true from va_Nw.use rfl (hF.1 (.castable "java/lang/IllegalArgumentException" "java/lang/IllegalArgumentException") (List.mem_of_elem_eq_true rfl))) hce hcv hcl ?_
      refine lv_astore (lv' := [(4, .ref q9), (0, .ref (ad (0, 0))), (1, .int x), (2, .int t), (3, .ref (ad (40, 0)))]) hx hb dL_floats_24 hl (by decide) rfl (fun ls hl => ?_)
      refine lv_iconst (v := nI 2) hx hb dL_floats_26 (by decide) ?_
      exact xe_iret hQ hx hb hr hlocks hH hS (by decide) (by decide) (xLp_x h1 (by decide) hz h0n h0e hB) dL_floats_27
    · exact absurd h1 (by unfold tNd; (repeat' split) <;> decide)
  obtain ⟨hv, ht, g2, pl2, kn2, rw2, mi2, un2, hP⟩ := hp; subst hv; generalize H1 = H at hP hS ⊢
  refine lv_if_eq (tgt := 15) hx hb dL_floats_8 (by decide) (fun c0 => ?_) (fun c0 => ?_)
  · refine lv_lconst (v := 0) hx hb dL_floats_15 (by decide) ?_
    refine xo_last hx hb hE hP hS rfl dL_floats_16 (fun H locs hP hS => ?_)
    refine lv_goto (tgt := 28) hx hb dL_floats_17 (by decide) ?_
    refine lv_iconst (v := nI 0) hx hb dL_floats_28 (by decide) ?_
    exact xe_iret hQ hx hb hr hlocks hH hS (by decide) (by decide) (xLp_r ht (fun _ _ => rfl) rfl h0n h0e ⟨hz.w, hz.2.1, hz.2.2.1, hz.2.2.2⟩ (if_pos c0).symm hP.B) dL_floats_29
  · refine lv_lconst (v := 1) hx hb dL_floats_11 (by decide) ?_
    refine lv_goto (tgt := 16) hx hb dL_floats_12 (by decide) ?_
    refine xo_last hx hb hE hP hS rfl dL_floats_16 (fun H locs hP hS => ?_)
    refine lv_goto (tgt := 28) hx hb dL_floats_17 (by decide) ?_
    refine lv_iconst (v := nI 0) hx hb dL_floats_28 (by decide) ?_
    exact xe_iret hQ hx hb hr hlocks hH hS (by decide) (by decide) (xLp_r ht (fun _ _ => rfl) rfl h0n h0e ⟨hz.w, hz.2.1, hz.2.2.1, hz.2.2.2⟩ (if_neg c0).symm hP.B) dL_floats_29

set_option maxHeartbeats 4000000 in
set_option maxRecDepth 100000 in
theorem c_L_potential (l : Launch) (hls : l.stackTraces = false) {D : va_G} {y : Nat → ClassId} {A : Nat → Prop} {e0 : Nat} {ad : xL → Nat} {bl : xM} {z : xC} {g : Nat → Int32} {pl : Nat → Int32} {kn : Nat → Int64} {rw : Nat → Nat → Int64} {mi : Nat → Int64} {un : Int32} {fR : Nat → Nat → Option va_E} {oj : Nat → Int64} {od : Nat → UInt64} {Hs : Heap} (hP : xW D A ad (wU (wB y ad bl z g pl kn rw mi un) fR (wO y oj od)) Hs) (hz : bOk bl z) (h0n : nN z = 0 → ad (2, 0) = e0) (h0e : nE z = 0 → ad (4, 0) = e0) {x t f : Int32} : Met l yL_potential (.codeWith yL_potential cL_potential 6 (some .int) [(0, 11, 14, 19), (0, 11, 18, 21), (0, 11, 22, 13)] :: WG) { frames := 8, cells := 3, slots := 18, locals := 300 } (xPcL [.ref (ad (0, 0)), .int x, .int t, .int f, .ref (ad (40, 0))] D y A e0 Hs) (xQ (xLp D A y ad e0 fR od (tPot z x t) z (z) (rPot z x t f)) A) 3 18 A := by
  refine xM_goL (by decide) (Nat.le_of_ble_eq_true rfl) (fun p e s m args below meth c ls R Q hx hb hr hlocks hml hown hts hH hE hnm hRf hRl hRc hRs hQ hS hl hF hG hN hT => ?_)
  have hRf : R.frames = 8 := hRf
  have hRl : R.locals = 300 := hRl
  have hRc : R.cells = 3 := hRc
  have hRs : R.slots = 18 := hRs
  have hl : lv_has ls 6 [(0, .ref (ad (0, 0))), (1, .int x), (2, .int t), (3, .int f), (4, .ref (ad (40, 0)))] := hl
  refine lv_aload hx hb dL_potential_0 (lv_at hl 4 rfl) ?_
  refine lv_iconst (v := nI 0) hx hb dL_potential_2 (by decide) ?_
  refine lv_aload_n hx hb dL_potential_3 rfl (lv_at hl 0 rfl) ?_
  refine lv_iload_n hx hb dL_potential_4 rfl (lv_at hl 1 rfl) ?_
  refine lv_iload_n hx hb dL_potential_5 rfl (lv_at hl 2 rfl) ?_
  refine lv_iload_n hx hb dL_potential_6 rfl (lv_at hl 3 rfl) ?_
  refine xx_callV (C := "NetlistBench") (n := 3) [.int x, .int t, .int f] (c_X3_potential l hls hP hz x t f) hx hb hml hown hts hE hF hS (xw_recv hE hP (0, 0) rfl rfl) rfl rfl q_43 q_628 q_631 q_629 q_630 (by decide) rfl ⟨by rw [hRf]; decide, by rw [hRl]; decide⟩ hl.1 rfl (Nat.le_of_ble_eq_true rfl) dL_potential_7 ⟨by rw [hRc]; decide, by rw [hRs]; decide⟩ (fun E ce q9 H1 locs hp hS hce hcv hcl => ?_) (fun v H1 locs hp hS => ?_)
  · obtain ⟨hx1, hB⟩ := hp
    rcases hx1 with ⟨h1, rfl⟩ | ⟨h1, rfl⟩ | ⟨h1, rfl⟩
    · refine vx_catch (own := "NetlistBenchLaw") (name := "java/lang/IndexOutOfBoundsException") hown [] ⟨0, 11, 14, 19⟩ [⟨0, 11, 18, 21⟩, ⟨0, 11, 22, 13⟩] (hT.trans rfl) (fun _ h => nomatch h) (by decide) (by decide) (hts _ q_449) (show (Cond.castable eIOB "java/lang/IndexOutOfBoundsException").before args s = true from va_Nw.use rfl (hF.1 (.castable "java/lang/IndexOutOfBoundsException" "java/lang/IndexOutOfBoundsException") (List.mem_of_elem_eq_true rfl))) hce hcv hcl ?_
      refine lv_astore (lv' := [(5, .ref q9), (0, .ref (ad (0, 0))), (1, .int x), (2, .int t), (3, .int f), (4, .ref (ad (40, 0)))]) hx hb dL_potential_14 hl (by decide) rfl (fun ls hl => ?_)
      refine lv_iconst (v := nI 1) hx hb dL_potential_16 (by decide) ?_
      exact xe_iret hQ hx hb hr hlocks hH hS (by decide) (by decide) (xLp_x h1 (by decide) hz h0n h0e hB) dL_potential_17
    · refine vx_catch (own := "NetlistBenchLaw") (name := "java/lang/IllegalArgumentException") hown [⟨0, 11, 14, 19⟩] ⟨0, 11, 18, 21⟩ [⟨0, 11, 22, 13⟩] (hT.trans rfl) (List.forall_mem_cons.mpr ⟨Or.inr ⟨by decide, "java/lang/IndexOutOfBoundsException", hts _ q_449, hN.1⟩, (List.forall_mem_nil _)⟩) (by decide) (by decide) (hts _ q_450) (show (Cond.castable eIAE "java/lang/IllegalArgumentException").before args s = true from va_Nw.use rfl (hF.1 (.castable "java/lang/IllegalArgumentException" "java/lang/IllegalArgumentException") (List.mem_of_elem_eq_true rfl))) hce hcv hcl ?_
      refine lv_astore (lv' := [(5, .ref q9), (0, .ref (ad (0, 0))), (1, .int x), (2, .int t), (3, .int f), (4, .ref (ad (40, 0)))]) hx hb dL_potential_18 hl (by decide) rfl (fun ls hl => ?_)
      refine lv_iconst (v := nI 2) hx hb dL_potential_20 (by decide) ?_
      exact xe_iret hQ hx hb hr hlocks hH hS (by decide) (by decide) (xLp_x h1 (by decide) hz h0n h0e hB) dL_potential_21
    · refine vx_catch (own := "NetlistBenchLaw") (name := "java/lang/IllegalStateException") hown [⟨0, 11, 14, 19⟩, ⟨0, 11, 18, 21⟩] ⟨0, 11, 22, 13⟩ [] (hT.trans rfl) (List.forall_mem_cons.mpr ⟨Or.inr ⟨by decide, "java/lang/IndexOutOfBoundsException", hts _ q_449, hN.2.1⟩, (List.forall_mem_cons.mpr ⟨Or.inr ⟨by decide, "java/lang/IllegalArgumentException", hts _ q_450, hN.2.2⟩, (List.forall_mem_nil _)⟩)⟩) (by decide) (by decide) (hts _ q_303) (show (Cond.castable eISE "java/lang/IllegalStateException").before args s = true from va_Nw.use rfl (hF.1 (.castable "java/lang/IllegalStateException" "java/lang/IllegalStateException") (List.mem_of_elem_eq_true rfl))) hce hcv hcl ?_
      refine lv_astore (lv' := [(5, .ref q9), (0, .ref (ad (0, 0))), (1, .int x), (2, .int t), (3, .int f), (4, .ref (ad (40, 0)))]) hx hb dL_potential_22 hl (by decide) rfl (fun ls hl => ?_)
      refine lv_iconst (v := nI 3) hx hb dL_potential_24 (by decide) ?_
      exact xe_iret hQ hx hb hr hlocks hH hS (by decide) (by decide) (xLp_x h1 (by decide) hz h0n h0e hB) dL_potential_25
  obtain ⟨hv, ht, g2, pl2, kn2, rw2, mi2, un2, hP⟩ := hp; subst hv; generalize H1 = H at hP hS ⊢
  refine xo_last hx hb hE hP hS rfl dL_potential_10 (fun H locs hP hS => ?_)
  refine lv_goto (tgt := 26) hx hb dL_potential_11 (by decide) ?_
  refine lv_iconst (v := nI 0) hx hb dL_potential_26 (by decide) ?_
  exact xe_iret hQ hx hb hr hlocks hH hS (by decide) (by decide) (xLp_r ht (fun _ _ => rfl) rfl h0n h0e ⟨hz.w, hz.2.1, hz.2.2.1, hz.2.2.2⟩ rfl hP.B) dL_potential_27

set_option maxHeartbeats 4000000 in
set_option maxRecDepth 100000 in
theorem c_L_current (l : Launch) (hls : l.stackTraces = false) {D : va_G} {y : Nat → ClassId} {A : Nat → Prop} {e0 : Nat} {ad : xL → Nat} {bl : xM} {z : xC} {g : Nat → Int32} {pl : Nat → Int32} {kn : Nat → Int64} {rw : Nat → Nat → Int64} {mi : Nat → Int64} {un : Int32} {fR : Nat → Nat → Option va_E} {oj : Nat → Int64} {od : Nat → UInt64} {Hs : Heap} (hP : xW D A ad (wU (wB y ad bl z g pl kn rw mi un) fR (wO y oj od)) Hs) (hz : bOk bl z) (h0n : nN z = 0 → ad (2, 0) = e0) (h0e : nE z = 0 → ad (4, 0) = e0) {x t f : Int32} : Met l yL_current (.codeWith yL_current cL_current 6 (some .int) [(0, 11, 14, 19), (0, 11, 18, 21), (0, 11, 22, 13)] :: WG) { frames := 8, cells := 3, slots := 18, locals := 300 } (xPcL [.ref (ad (0, 0)), .int x, .int t, .int f, .ref (ad (40, 0))] D y A e0 Hs) (xQ (xLp D A y ad e0 fR od (tCur z x t) z (z) (rCur z x t f)) A) 3 18 A := by
  refine xM_goL (by decide) (Nat.le_of_ble_eq_true rfl) (fun p e s m args below meth c ls R Q hx hb hr hlocks hml hown hts hH hE hnm hRf hRl hRc hRs hQ hS hl hF hG hN hT => ?_)
  have hRf : R.frames = 8 := hRf
  have hRl : R.locals = 300 := hRl
  have hRc : R.cells = 3 := hRc
  have hRs : R.slots = 18 := hRs
  have hl : lv_has ls 6 [(0, .ref (ad (0, 0))), (1, .int x), (2, .int t), (3, .int f), (4, .ref (ad (40, 0)))] := hl
  refine lv_aload hx hb dL_current_0 (lv_at hl 4 rfl) ?_
  refine lv_iconst (v := nI 0) hx hb dL_current_2 (by decide) ?_
  refine lv_aload_n hx hb dL_current_3 rfl (lv_at hl 0 rfl) ?_
  refine lv_iload_n hx hb dL_current_4 rfl (lv_at hl 1 rfl) ?_
  refine lv_iload_n hx hb dL_current_5 rfl (lv_at hl 2 rfl) ?_
  refine lv_iload_n hx hb dL_current_6 rfl (lv_at hl 3 rfl) ?_
  refine xx_callV (C := "NetlistBench") (n := 3) [.int x, .int t, .int f] (c_X3_current l hls hP hz x t f) hx hb hml hown hts hE hF hS (xw_recv hE hP (0, 0) rfl rfl) rfl rfl q_43 q_640 q_643 q_641 q_642 (by decide) rfl ⟨by rw [hRf]; decide, by rw [hRl]; decide⟩ hl.1 rfl (Nat.le_of_ble_eq_true rfl) dL_current_7 ⟨by rw [hRc]; decide, by rw [hRs]; decide⟩ (fun E ce q9 H1 locs hp hS hce hcv hcl => ?_) (fun v H1 locs hp hS => ?_)
  · obtain ⟨hx1, hB⟩ := hp
    rcases hx1 with ⟨h1, rfl⟩ | ⟨h1, rfl⟩ | ⟨h1, rfl⟩
    · refine vx_catch (own := "NetlistBenchLaw") (name := "java/lang/IndexOutOfBoundsException") hown [] ⟨0, 11, 14, 19⟩ [⟨0, 11, 18, 21⟩, ⟨0, 11, 22, 13⟩] (hT.trans rfl) (fun _ h => nomatch h) (by decide) (by decide) (hts _ q_449) (show (Cond.castable eIOB "java/lang/IndexOutOfBoundsException").before args s = true from va_Nw.use rfl (hF.1 (.castable "java/lang/IndexOutOfBoundsException" "java/lang/IndexOutOfBoundsException") (List.mem_of_elem_eq_true rfl))) hce hcv hcl ?_
      refine lv_astore (lv' := [(5, .ref q9), (0, .ref (ad (0, 0))), (1, .int x), (2, .int t), (3, .int f), (4, .ref (ad (40, 0)))]) hx hb dL_current_14 hl (by decide) rfl (fun ls hl => ?_)
      refine lv_iconst (v := nI 1) hx hb dL_current_16 (by decide) ?_
      exact xe_iret hQ hx hb hr hlocks hH hS (by decide) (by decide) (xLp_x h1 (by decide) hz h0n h0e hB) dL_current_17
    · refine vx_catch (own := "NetlistBenchLaw") (name := "java/lang/IllegalArgumentException") hown [⟨0, 11, 14, 19⟩] ⟨0, 11, 18, 21⟩ [⟨0, 11, 22, 13⟩] (hT.trans rfl) (List.forall_mem_cons.mpr ⟨Or.inr ⟨by decide, "java/lang/IndexOutOfBoundsException", hts _ q_449, hN.1⟩, (List.forall_mem_nil _)⟩) (by decide) (by decide) (hts _ q_450) (show (Cond.castable eIAE "java/lang/IllegalArgumentException").before args s = true from va_Nw.use rfl (hF.1 (.castable "java/lang/IllegalArgumentException" "java/lang/IllegalArgumentException") (List.mem_of_elem_eq_true rfl))) hce hcv hcl ?_
      refine lv_astore (lv' := [(5, .ref q9), (0, .ref (ad (0, 0))), (1, .int x), (2, .int t), (3, .int f), (4, .ref (ad (40, 0)))]) hx hb dL_current_18 hl (by decide) rfl (fun ls hl => ?_)
      refine lv_iconst (v := nI 2) hx hb dL_current_20 (by decide) ?_
      exact xe_iret hQ hx hb hr hlocks hH hS (by decide) (by decide) (xLp_x h1 (by decide) hz h0n h0e hB) dL_current_21
    · refine vx_catch (own := "NetlistBenchLaw") (name := "java/lang/IllegalStateException") hown [⟨0, 11, 14, 19⟩, ⟨0, 11, 18, 21⟩] ⟨0, 11, 22, 13⟩ [] (hT.trans rfl) (List.forall_mem_cons.mpr ⟨Or.inr ⟨by decide, "java/lang/IndexOutOfBoundsException", hts _ q_449, hN.2.1⟩, (List.forall_mem_cons.mpr ⟨Or.inr ⟨by decide, "java/lang/IllegalArgumentException", hts _ q_450, hN.2.2⟩, (List.forall_mem_nil _)⟩)⟩) (by decide) (by decide) (hts _ q_303) (show (Cond.castable eISE "java/lang/IllegalStateException").before args s = true from va_Nw.use rfl (hF.1 (.castable "java/lang/IllegalStateException" "java/lang/IllegalStateException") (List.mem_of_elem_eq_true rfl))) hce hcv hcl ?_
      refine lv_astore (lv' := [(5, .ref q9), (0, .ref (ad (0, 0))), (1, .int x), (2, .int t), (3, .int f), (4, .ref (ad (40, 0)))]) hx hb dL_current_22 hl (by decide) rfl (fun ls hl => ?_)
      refine lv_iconst (v := nI 3) hx hb dL_current_24 (by decide) ?_
      exact xe_iret hQ hx hb hr hlocks hH hS (by decide) (by decide) (xLp_x h1 (by decide) hz h0n h0e hB) dL_current_25
  obtain ⟨hv, ht, g2, pl2, kn2, rw2, mi2, un2, hP⟩ := hp; subst hv; generalize H1 = H at hP hS ⊢
  refine xo_last hx hb hE hP hS rfl dL_current_10 (fun H locs hP hS => ?_)
  refine lv_goto (tgt := 26) hx hb dL_current_11 (by decide) ?_
  refine lv_iconst (v := nI 0) hx hb dL_current_26 (by decide) ?_
  exact xe_iret hQ hx hb hr hlocks hH hS (by decide) (by decide) (xLp_r ht (fun _ _ => rfl) rfl h0n h0e ⟨hz.w, hz.2.1, hz.2.2.1, hz.2.2.2⟩ rfl hP.B) dL_current_27

set_option maxHeartbeats 4000000 in
set_option maxRecDepth 100000 in
theorem c_L_feed (l : Launch) (hls : l.stackTraces = false) {D : va_G} {y : Nat → ClassId} {A : Nat → Prop} {e0 : Nat} {ad : xL → Nat} {bl : xM} {z : xC} {g : Nat → Int32} {pl : Nat → Int32} {kn : Nat → Int64} {rw : Nat → Nat → Int64} {mi : Nat → Int64} {un : Int32} {fR : Nat → Nat → Option va_E} {oj : Nat → Int64} {od : Nat → UInt64} {Hs : Heap} (hP : xW D A ad (wU (wB y ad bl z g pl kn rw mi un) fR (wO y oj od)) Hs) (hz : bOk bl z) (h0n : nN z = 0 → ad (2, 0) = e0) (h0e : nE z = 0 → ad (4, 0) = e0) {x t f : Int32} : Met l yL_feed (.codeWith yL_feed cL_feed 6 (some .int) [(0, 11, 14, 19), (0, 11, 18, 21), (0, 11, 22, 13)] :: WG) { frames := 8, cells := 3, slots := 18, locals := 300 } (xPcL [.ref (ad (0, 0)), .int x, .int t, .int f, .ref (ad (40, 0))] D y A e0 Hs) (xQ (xLp D A y ad e0 fR od (tFeed z x t) z (z) (rFeed z x t f)) A) 3 18 A := by
  refine xM_goL (by decide) (Nat.le_of_ble_eq_true rfl) (fun p e s m args below meth c ls R Q hx hb hr hlocks hml hown hts hH hE hnm hRf hRl hRc hRs hQ hS hl hF hG hN hT => ?_)
  have hRf : R.frames = 8 := hRf
  have hRl : R.locals = 300 := hRl
  have hRc : R.cells = 3 := hRc
  have hRs : R.slots = 18 := hRs
  have hl : lv_has ls 6 [(0, .ref (ad (0, 0))), (1, .int x), (2, .int t), (3, .int f), (4, .ref (ad (40, 0)))] := hl
  refine lv_aload hx hb dL_feed_0 (lv_at hl 4 rfl) ?_
  refine lv_iconst (v := nI 0) hx hb dL_feed_2 (by decide) ?_
  refine lv_aload_n hx hb dL_feed_3 rfl (lv_at hl 0 rfl) ?_
  refine lv_iload_n hx hb dL_feed_4 rfl (lv_at hl 1 rfl) ?_
  refine lv_iload_n hx hb dL_feed_5 rfl (lv_at hl 2 rfl) ?_
  refine lv_iload_n hx hb dL_feed_6 rfl (lv_at hl 3 rfl) ?_
  refine xx_callV (C := "NetlistBench") (n := 3) [.int x, .int t, .int f] (c_X3_feed l hls hP hz x t f) hx hb hml hown hts hE hF hS (xw_recv hE hP (0, 0) rfl rfl) rfl rfl q_43 q_651 q_654 q_652 q_653 (by decide) rfl ⟨by rw [hRf]; decide, by rw [hRl]; decide⟩ hl.1 rfl (Nat.le_of_ble_eq_true rfl) dL_feed_7 ⟨by rw [hRc]; decide, by rw [hRs]; decide⟩ (fun E ce q9 H1 locs hp hS hce hcv hcl => ?_) (fun v H1 locs hp hS => ?_)
  · obtain ⟨hx1, hB⟩ := hp
    rcases hx1 with ⟨h1, rfl⟩ | ⟨h1, rfl⟩ | ⟨h1, rfl⟩
    · refine vx_catch (own := "NetlistBenchLaw") (name := "java/lang/IndexOutOfBoundsException") hown [] ⟨0, 11, 14, 19⟩ [⟨0, 11, 18, 21⟩, ⟨0, 11, 22, 13⟩] (hT.trans rfl) (fun _ h => nomatch h) (by decide) (by decide) (hts _ q_449) (show (Cond.castable eIOB "java/lang/IndexOutOfBoundsException").before args s = true from va_Nw.use rfl (hF.1 (.castable "java/lang/IndexOutOfBoundsException" "java/lang/IndexOutOfBoundsException") (List.mem_of_elem_eq_true rfl))) hce hcv hcl ?_
      refine lv_astore (lv' := [(5, .ref q9), (0, .ref (ad (0, 0))), (1, .int x), (2, .int t), (3, .int f), (4, .ref (ad (40, 0)))]) hx hb dL_feed_14 hl (by decide) rfl (fun ls hl => ?_)
      refine lv_iconst (v := nI 1) hx hb dL_feed_16 (by decide) ?_
      exact xe_iret hQ hx hb hr hlocks hH hS (by decide) (by decide) (xLp_x h1 (by decide) hz h0n h0e hB) dL_feed_17
    · refine vx_catch (own := "NetlistBenchLaw") (name := "java/lang/IllegalArgumentException") hown [⟨0, 11, 14, 19⟩] ⟨0, 11, 18, 21⟩ [⟨0, 11, 22, 13⟩] (hT.trans rfl) (List.forall_mem_cons.mpr ⟨Or.inr ⟨by decide, "java/lang/IndexOutOfBoundsException", hts _ q_449, hN.1⟩, (List.forall_mem_nil _)⟩) (by decide) (by decide) (hts _ q_450) (show (Cond.castable eIAE "java/lang/IllegalArgumentException").before args s = true from va_Nw.use rfl (hF.1 (.castable "java/lang/IllegalArgumentException" "java/lang/IllegalArgumentException") (List.mem_of_elem_eq_true rfl))) hce hcv hcl ?_
      refine lv_astore (lv' := [(5, .ref q9), (0, .ref (ad (0, 0))), (1, .int x), (2, .int t), (3, .int f), (4, .ref (ad (40, 0)))]) hx hb dL_feed_18 hl (by decide) rfl (fun ls hl => ?_)
      refine lv_iconst (v := nI 2) hx hb dL_feed_20 (by decide) ?_
      exact xe_iret hQ hx hb hr hlocks hH hS (by decide) (by decide) (xLp_x h1 (by decide) hz h0n h0e hB) dL_feed_21
    · refine vx_catch (own := "NetlistBenchLaw") (name := "java/lang/IllegalStateException") hown [⟨0, 11, 14, 19⟩, ⟨0, 11, 18, 21⟩] ⟨0, 11, 22, 13⟩ [] (hT.trans rfl) (List.forall_mem_cons.mpr ⟨Or.inr ⟨by decide, "java/lang/IndexOutOfBoundsException", hts _ q_449, hN.2.1⟩, (List.forall_mem_cons.mpr ⟨Or.inr ⟨by decide, "java/lang/IllegalArgumentException", hts _ q_450, hN.2.2⟩, (List.forall_mem_nil _)⟩)⟩) (by decide) (by decide) (hts _ q_303) (show (Cond.castable eISE "java/lang/IllegalStateException").before args s = true from va_Nw.use rfl (hF.1 (.castable "java/lang/IllegalStateException" "java/lang/IllegalStateException") (List.mem_of_elem_eq_true rfl))) hce hcv hcl ?_
      refine lv_astore (lv' := [(5, .ref q9), (0, .ref (ad (0, 0))), (1, .int x), (2, .int t), (3, .int f), (4, .ref (ad (40, 0)))]) hx hb dL_feed_22 hl (by decide) rfl (fun ls hl => ?_)
      refine lv_iconst (v := nI 3) hx hb dL_feed_24 (by decide) ?_
      exact xe_iret hQ hx hb hr hlocks hH hS (by decide) (by decide) (xLp_x h1 (by decide) hz h0n h0e hB) dL_feed_25
  obtain ⟨hv, ht, g2, pl2, kn2, rw2, mi2, un2, hP⟩ := hp; subst hv; generalize H1 = H at hP hS ⊢
  refine xo_last hx hb hE hP hS rfl dL_feed_10 (fun H locs hP hS => ?_)
  refine lv_goto (tgt := 26) hx hb dL_feed_11 (by decide) ?_
  refine lv_iconst (v := nI 0) hx hb dL_feed_26 (by decide) ?_
  exact xe_iret hQ hx hb hr hlocks hH hS (by decide) (by decide) (xLp_r ht (fun _ _ => rfl) rfl h0n h0e ⟨hz.w, hz.2.1, hz.2.2.1, hz.2.2.2⟩ rfl hP.B) dL_feed_27

set_option maxHeartbeats 4000000 in
set_option maxRecDepth 100000 in
theorem c_L_resistance (l : Launch) (hls : l.stackTraces = false) {D : va_G} {y : Nat → ClassId} {A : Nat → Prop} {e0 : Nat} {ad : xL → Nat} {bl : xM} {z : xC} {g : Nat → Int32} {pl : Nat → Int32} {kn : Nat → Int64} {rw : Nat → Nat → Int64} {mi : Nat → Int64} {un : Int32} {fR : Nat → Nat → Option va_E} {oj : Nat → Int64} {od : Nat → UInt64} {Hs : Heap} (hP : xW D A ad (wU (wB y ad bl z g pl kn rw mi un) fR (wO y oj od)) Hs) (hz : bOk bl z) (h0n : nN z = 0 → ad (2, 0) = e0) (h0e : nE z = 0 → ad (4, 0) = e0) {a b t f : Int32} : Met l yL_resistance (.codeWith yL_resistance cL_resistance 7 (some .int) [(0, 13, 16, 19), (0, 13, 20, 21), (0, 13, 24, 13)] :: WG) { frames := 8, cells := 4, slots := 24, locals := 300 } (xPcL [.ref (ad (0, 0)), .int a, .int b, .int t, .int f, .ref (ad (40, 0))] D y A e0 Hs) (xQ (xLp D A y ad e0 fR od (tRst z a b t) z (z) (rRst z a b t f)) A) 4 24 A := by
  refine xM_goL (by decide) (Nat.le_of_ble_eq_true rfl) (fun p e s m args below meth c ls R Q hx hb hr hlocks hml hown hts hH hE hnm hRf hRl hRc hRs hQ hS hl hF hG hN hT => ?_)
  have hRf : R.frames = 8 := hRf
  have hRl : R.locals = 300 := hRl
  have hRc : R.cells = 4 := hRc
  have hRs : R.slots = 24 := hRs
  have hl : lv_has ls 7 [(0, .ref (ad (0, 0))), (1, .int a), (2, .int b), (3, .int t), (4, .int f), (5, .ref (ad (40, 0)))] := hl
  refine lv_aload hx hb dL_resistance_0 (lv_at hl 5 rfl) ?_
  refine lv_iconst (v := nI 0) hx hb dL_resistance_2 (by decide) ?_
  refine lv_aload_n hx hb dL_resistance_3 rfl (lv_at hl 0 rfl) ?_
  refine lv_iload_n hx hb dL_resistance_4 rfl (lv_at hl 1 rfl) ?_
  refine lv_iload_n hx hb dL_resistance_5 rfl (lv_at hl 2 rfl) ?_
  refine lv_iload_n hx hb dL_resistance_6 rfl (lv_at hl 3 rfl) ?_
  refine lv_iload hx hb dL_resistance_7 (lv_at hl 4 rfl) ?_
  refine xx_callV (C := "NetlistBench") (n := 4) [.int a, .int b, .int t, .int f] (c_X3_resistance l hls hP hz a b t f) hx hb hml hown hts hE hF hS (xw_recv hE hP (0, 0) rfl rfl) rfl rfl q_43 q_659 q_662 q_660 q_661 (by decide) rfl ⟨by rw [hRf]; decide, by rw [hRl]; decide⟩ hl.1 rfl (Nat.le_of_ble_eq_true rfl) dL_resistance_9 ⟨by rw [hRc]; decide, by rw [hRs]; decide⟩ (fun E ce q9 H1 locs hp hS hce hcv hcl => ?_) (fun v H1 locs hp hS => ?_)
  · obtain ⟨hx1, hB⟩ := hp
    rcases hx1 with ⟨h1, rfl⟩ | ⟨h1, rfl⟩ | ⟨h1, rfl⟩
    · refine vx_catch (own := "NetlistBenchLaw") (name := "java/lang/IndexOutOfBoundsException") hown [] ⟨0, 13, 16, 19⟩ [⟨0, 13, 20, 21⟩, ⟨0, 13, 24, 13⟩] (hT.trans rfl) (fun _ h => nomatch h) (by decide) (by decide) (hts _ q_449) (show (Cond.castable eIOB "java/lang/IndexOutOfBoundsException").before args s = true from va_Nw.use rfl (hF.1 (.castable "java/lang/IndexOutOfBoundsException" "java/lang/IndexOutOfBoundsException") (List.mem_of_elem_eq_true rfl))) hce hcv hcl ?_
      refine lv_astore (lv' := [(6, .ref q9), (0, .ref (ad (0, 0))), (1, .int a), (2, .int b), (3, .int t), (4, .int f), (5, .ref (ad (40, 0)))]) hx hb dL_resistance_16 hl (by decide) rfl (fun ls hl => ?_)
      refine lv_iconst (v := nI 1) hx hb dL_resistance_18 (by decide) ?_
      exact xe_iret hQ hx hb hr hlocks hH hS (by decide) (by decide) (xLp_x h1 (by decide) hz h0n h0e hB) dL_resistance_19
    · refine vx_catch (own := "NetlistBenchLaw") (name := "java/lang/IllegalArgumentException") hown [⟨0, 13, 16, 19⟩] ⟨0, 13, 20, 21⟩ [⟨0, 13, 24, 13⟩] (hT.trans rfl) (List.forall_mem_cons.mpr ⟨Or.inr ⟨by decide, "java/lang/IndexOutOfBoundsException", hts _ q_449, hN.1⟩, (List.forall_mem_nil _)⟩) (by decide) (by decide) (hts _ q_450) (show (Cond.castable eIAE "java/lang/IllegalArgumentException").before args s = true from va_Nw.use rfl (hF.1 (.castable "java/lang/IllegalArgumentException" "java/lang/IllegalArgumentException") (List.mem_of_elem_eq_true rfl))) hce hcv hcl ?_
      refine lv_astore (lv' := [(6, .ref q9), (0, .ref (ad (0, 0))), (1, .int a), (2, .int b), (3, .int t), (4, .int f), (5, .ref (ad (40, 0)))]) hx hb dL_resistance_20 hl (by decide) rfl (fun ls hl => ?_)
      refine lv_iconst (v := nI 2) hx hb dL_resistance_22 (by decide) ?_
      exact xe_iret hQ hx hb hr hlocks hH hS (by decide) (by decide) (xLp_x h1 (by decide) hz h0n h0e hB) dL_resistance_23
    · refine vx_catch (own := "NetlistBenchLaw") (name := "java/lang/IllegalStateException") hown [⟨0, 13, 16, 19⟩, ⟨0, 13, 20, 21⟩] ⟨0, 13, 24, 13⟩ [] (hT.trans rfl) (List.forall_mem_cons.mpr ⟨Or.inr ⟨by decide, "java/lang/IndexOutOfBoundsException", hts _ q_449, hN.2.1⟩, (List.forall_mem_cons.mpr ⟨Or.inr ⟨by decide, "java/lang/IllegalArgumentException", hts _ q_450, hN.2.2⟩, (List.forall_mem_nil _)⟩)⟩) (by decide) (by decide) (hts _ q_303) (show (Cond.castable eISE "java/lang/IllegalStateException").before args s = true from va_Nw.use rfl (hF.1 (.castable "java/lang/IllegalStateException" "java/lang/IllegalStateException") (List.mem_of_elem_eq_true rfl))) hce hcv hcl ?_
      refine lv_astore (lv' := [(6, .ref q9), (0, .ref (ad (0, 0))), (1, .int a), (2, .int b), (3, .int t), (4, .int f), (5, .ref (ad (40, 0)))]) hx hb dL_resistance_24 hl (by decide) rfl (fun ls hl => ?_)
      refine lv_iconst (v := nI 3) hx hb dL_resistance_26 (by decide) ?_
      exact xe_iret hQ hx hb hr hlocks hH hS (by decide) (by decide) (xLp_x h1 (by decide) hz h0n h0e hB) dL_resistance_27
  obtain ⟨hv, ht, g2, pl2, kn2, rw2, mi2, un2, hP⟩ := hp; subst hv; generalize H1 = H at hP hS ⊢
  refine xo_last hx hb hE hP hS rfl dL_resistance_12 (fun H locs hP hS => ?_)
  refine lv_goto (tgt := 28) hx hb dL_resistance_13 (by decide) ?_
  refine lv_iconst (v := nI 0) hx hb dL_resistance_28 (by decide) ?_
  exact xe_iret hQ hx hb hr hlocks hH hS (by decide) (by decide) (xLp_r ht (fun _ _ => rfl) rfl h0n h0e ⟨hz.w, hz.2.1, hz.2.2.1, hz.2.2.2⟩ rfl hP.B) dL_resistance_29
