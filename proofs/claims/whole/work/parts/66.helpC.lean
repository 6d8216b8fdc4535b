/-! the helpers of the law -/
set_option maxHeartbeats 4000000 in
set_option maxRecDepth 100000 in
theorem c_L_power (l : Launch) (hls : l.stackTraces = false) {D : va_G} {y : Nat → ClassId} {A : Nat → Prop} {e0 : Nat} {ad : xL → Nat} {bl : xM} {z : xC} {g : Nat → Int32} {pl : Nat → Int32} {kn : Nat → Int64} {rw : Nat → Nat → Int64} {mi : Nat → Int64} {un : Int32} {fR : Nat → Nat → Option va_E} {oj : Nat → Int64} {od : Nat → UInt64} {Hs : Heap} (hP : xW D A ad (wU (wB y ad bl z g pl kn rw mi un) fR (wO y oj od)) Hs) (hz : bOk bl z) {t : Int32} : Met l yL_power (.codeWith yL_power cL_power 4 (some .int) [(0, 8, 11, 21)] :: WG) { frames := 8, cells := 1, slots := 6, locals := 300 } (xPcL [.ref (ad (0, 0)), .int t, .ref (ad (41, 0))] D y A e0 Hs) (xQ (xLpD D A y ad fR oj (tTm t) bl z (pwS z t (nE z))) A) 1 6 A := by
  refine xM_goL (by decide) (Nat.le_of_ble_eq_true rfl) (fun p e s m args below meth c ls R Q hx hb hr hlocks hml hown hts hH hE hnm hRf hRl hRc hRs hQ hS hl hF hG hN hT => ?_)
  have hRf : R.frames = 8 := hRf
  have hRl : R.locals = 300 := hRl
  have hRc : R.cells = 1 := hRc
  have hRs : R.slots = 6 := hRs
  have hl : lv_has ls 4 [(0, .ref (ad (0, 0))), (1, .int t), (2, .ref (ad (41, 0)))] := hl
  refine lv_aload_n hx hb dL_power_0 rfl (lv_at hl 2 rfl) ?_
  refine lv_iconst (v := nI 0) hx hb dL_power_1 (by decide) ?_
  refine lv_aload_n hx hb dL_power_2 rfl (lv_at hl 0 rfl) ?_
  refine lv_iload_n hx hb dL_power_3 rfl (lv_at hl 1 rfl) ?_
  refine xx_callV (C := "NetlistBench") (n := 1) [.int t] (c_X3_power l hls hP hz t) hx hb hml hown hts hE hF hS (xw_recv hE hP (0, 0) rfl rfl) rfl rfl q_43 q_671 q_674 q_672 q_673 (by decide) rfl ⟨by rw [hRf]; decide, by rw [hRl]; decide⟩ hl.1 rfl (Nat.le_of_ble_eq_true rfl) dL_power_4 ⟨by rw [hRc]; decide, by rw [hRs]; decide⟩ (fun E ce q9 H1 locs hp hS hce hcv hcl => ?_) (fun v H1 locs hp hS => ?_)
  · obtain ⟨hx1, hB⟩ := hp
    obtain ⟨h1, rfl⟩ := hx1
    refine vx_catch (own := "NetlistBenchLaw") (name := "java/lang/IllegalArgumentException") hown [] ⟨0, 8, 11, 21⟩ [] (hT.trans rfl) (fun _ h => nomatch h) (by decide) (by decide) (hts _ q_450) (show (Cond.castable eIAE "java/lang/IllegalArgumentException").before args s = true from va_Nw.use rfl (hF.1 (.castable "java/lang/IllegalArgumentException" "java/lang/IllegalArgumentException") (List.mem_of_elem_eq_true rfl))) hce hcv hcl ?_
    refine lv_astore_n (lv' := [(3, .ref q9), (0, .ref (ad (0, 0))), (1, .int t), (2, .ref (ad (41, 0)))]) hx hb dL_power_11 rfl hl (by decide) rfl (fun ls hl => ?_)
    refine lv_iconst (v := nI 1) hx hb dL_power_12 (by decide) ?_
    exact xe_iret hQ hx hb hr hlocks hH hS (by decide) (by decide) (⟨congrArg (fun q => some (Value.int q)) h1.symm, od, fun q => absurd (h1.symm.trans q) (by decide), hB⟩) dL_power_13
  obtain ⟨hv, ht, g2, pl2, kn2, rw2, mi2, un2, hP⟩ := hp; subst hv; generalize H1 = H at hP hS ⊢
  refine xo_dast hx hb hE hP hS rfl dL_power_7 (fun H locs hP hS => ?_)
  refine lv_goto (tgt := 14) hx hb dL_power_8 (by decide) ?_
  refine lv_iconst (v := nI 0) hx hb dL_power_14 (by decide) ?_
  exact xe_iret hQ hx hb hr hlocks hH hS (by decide) (by decide) (⟨congrArg (fun q => some (Value.int q)) ht.symm, _, fun _ => rfl, hP.B⟩) dL_power_15

set_option maxHeartbeats 4000000 in
set_option maxRecDepth 100000 in
theorem c_L_nextToggle (l : Launch) (hls : l.stackTraces = false) {D : va_G} {y : Nat → ClassId} {A : Nat → Prop} {e0 : Nat} {ad : xL → Nat} {bl : xM} {z : xC} {g : Nat → Int32} {pl : Nat → Int32} {kn : Nat → Int64} {rw : Nat → Nat → Int64} {mi : Nat → Int64} {un : Int32} {fR : Nat → Nat → Option va_E} {oj : Nat → Int64} {od : Nat → UInt64} {Hs : Heap} (hP : xW D A ad (wU (wB y ad bl z g pl kn rw mi un) fR (wO y oj od)) Hs) (hz : bOk bl z) (h0n : nN z = 0 → ad (2, 0) = e0) (h0e : nE z = 0 → ad (4, 0) = e0) {t : Int32} : Met l yL_nextToggle (.codeWith yL_nextToggle cL_nextToggle 4 (some .int) [(0, 9, 12, 21)] :: WG) { frames := 8, cells := 1, slots := 6, locals := 300 } (xPcL [.ref (ad (0, 0)), .int t, .ref (ad (40, 0))] D y A e0 Hs) (xQ (xLp D A y ad e0 fR od (tTm t) z (z) ((ftS z t (nE z)).toInt64)) A) 1 6 A := by
  refine xM_goL (by decide) (Nat.le_of_ble_eq_true rfl) (fun p e s m args below meth c ls R Q hx hb hr hlocks hml hown hts hH hE hnm hRf hRl hRc hRs hQ hS hl hF hG hN hT => ?_)
  have hRf : R.frames = 8 := hRf
  have hRl : R.locals = 300 := hRl
  have hRc : R.cells = 1 := hRc
  have hRs : R.slots = 6 := hRs
  have hl : lv_has ls 4 [(0, .ref (ad (0, 0))), (1, .int t), (2, .ref (ad (40, 0)))] := hl
  refine lv_aload_n hx hb dL_nextToggle_0 rfl (lv_at hl 2 rfl) ?_
  refine lv_iconst (v := nI 0) hx hb dL_nextToggle_1 (by decide) ?_
  refine lv_aload_n hx hb dL_nextToggle_2 rfl (lv_at hl 0 rfl) ?_
  refine lv_iload_n hx hb dL_nextToggle_3 rfl (lv_at hl 1 rfl) ?_
  refine xx_callV (C := "NetlistBench") (n := 1) [.int t] (c_X3_nextToggle l hls hP hz t) hx hb hml hown hts hE hF hS (xw_recv hE hP (0, 0) rfl rfl) rfl rfl q_43 q_682 q_685 q_683 q_684 (by decide) rfl ⟨by rw [hRf]; decide, by rw [hRl]; decide⟩ hl.1 rfl (Nat.le_of_ble_eq_true rfl) dL_nextToggle_4 ⟨by rw [hRc]; decide, by rw [hRs]; decide⟩ (fun E ce q9 H1 locs hp hS hce hcv hcl => ?_) (fun v H1 locs hp hS => ?_)
  · obtain ⟨hx1, hB⟩ := hp
    obtain ⟨h1, rfl⟩ := hx1
    refine vx_catch (own := "NetlistBenchLaw") (name := "java/lang/IllegalArgumentException") hown [] ⟨0, 9, 12, 21⟩ [] (hT.trans rfl) (fun _ h => nomatch h) (by decide) (by decide) (hts _ q_450) (show (Cond.castable eIAE "java/lang/IllegalArgumentException").before args s = true from va_Nw.use rfl (hF.1 (.castable "java/lang/IllegalArgumentException" "java/lang/IllegalArgumentException") (List.mem_of_elem_eq_true rfl))) hce hcv hcl ?_
    refine lv_astore_n (lv' := [(3, .ref q9), (0, .ref (ad (0, 0))), (1, .int t), (2, .ref (ad (40, 0)))]) hx hb dL_nextToggle_12 rfl hl (by decide) rfl (fun ls hl => ?_)
    refine lv_iconst (v := nI 1) hx hb dL_nextToggle_13 (by decide) ?_
    exact xe_iret hQ hx hb hr hlocks hH hS (by decide) (by decide) (xLp_x h1 (by decide) hz h0n h0e hB) dL_nextToggle_14
  obtain ⟨hv, ht, g2, pl2, kn2, rw2, mi2, un2, hP⟩ := hp; subst hv; generalize H1 = H at hP hS ⊢
  refine lv_i2l (v := (ftS z t (nE z)).toInt64) hx hb dL_nextToggle_7 rfl ?_
  refine xo_last hx hb hE hP hS rfl dL_nextToggle_8 (fun H locs hP hS => ?_)
  refine lv_goto (tgt := 15) hx hb dL_nextToggle_9 (by decide) ?_
  refine lv_iconst (v := nI 0) hx hb dL_nextToggle_15 (by decide) ?_
  exact xe_iret hQ hx hb hr hlocks hH hS (by decide) (by decide) (xLp_r ht (fun _ _ => rfl) rfl h0n h0e ⟨hz.w, hz.2.1, hz.2.2.1, hz.2.2.2⟩ rfl hP.B) dL_nextToggle_16

set_option maxHeartbeats 4000000 in
set_option maxRecDepth 100000 in
theorem c_L_probe (l : Launch) (hls : l.stackTraces = false) {D : va_G} {y : Nat → ClassId} {A : Nat → Prop} {e0 : Nat} {ad : xL → Nat} {bl : xM} {z : xC} {g : Nat → Int32} {pl : Nat → Int32} {kn : Nat → Int64} {rw : Nat → Nat → Int64} {mi : Nat → Int64} {un : Int32} {fR : Nat → Nat → Option va_E} {oj : Nat → Int64} {od : Nat → UInt64} {Hs : Heap} (hP : xW D A ad (wU (wB y ad bl z g pl kn rw mi un) fR (wO y oj od)) Hs) (hz : bOk bl z) (h0n : nN z = 0 → ad (2, 0) = e0) (h0e : nE z = 0 → ad (4, 0) = e0) {x f q m1 : Int32} : Met l yL_probe (.codeWith yL_probe cL_probe 7 (some .int) [(0, 14, 17, 19), (0, 14, 21, 21)] :: WG) { frames := 8, cells := 4, slots := 24, locals := 300 } (xPcL [.ref (ad (0, 0)), .int x, .int f, .int q, .int m1, .ref (ad (40, 0))] D y A e0 Hs) (xQ (xLp D A y ad e0 fR od (tPrb z x f q) z (z) ((rPrb z x f q m1).toInt64)) A) 4 24 A := by
  refine xM_goL (by decide) (Nat.le_of_ble_eq_true rfl) (fun p e s m args below meth c ls R Q hx hb hr hlocks hml hown hts hH hE hnm hRf hRl hRc hRs hQ hS hl hF hG hN hT => ?_)
  have hRf : R.frames = 8 := hRf
  have hRl : R.locals = 300 := hRl
  have hRc : R.cells = 4 := hRc
  have hRs : R.slots = 24 := hRs
  have hl : lv_has ls 7 [(0, .ref (ad (0, 0))), (1, .int x), (2, .int f), (3, .int q), (4, .int m1), (5, .ref (ad (40, 0)))] := hl
  refine lv_aload hx hb dL_probe_0 (lv_at hl 5 rfl) ?_
  refine lv_iconst (v := nI 0) hx hb dL_probe_2 (by decide) ?_
  refine lv_aload_n hx hb dL_probe_3 rfl (lv_at hl 0 rfl) ?_
  refine lv_iload_n hx hb dL_probe_4 rfl (lv_at hl 1 rfl) ?_
  refine lv_iload_n hx hb dL_probe_5 rfl (lv_at hl 2 rfl) ?_
  refine lv_iload_n hx hb dL_probe_6 rfl (lv_at hl 3 rfl) ?_
  refine lv_iload hx hb dL_probe_7 (lv_at hl 4 rfl) ?_
  refine xx_callV (C := "NetlistBench") (n := 4) [.int x, .int f, .int q, .int m1] (c_X3_probe l hls hP hz x f q m1) hx hb hml hown hts hE hF hS (xw_recv hE hP (0, 0) rfl rfl) rfl rfl q_43 q_689 q_692 q_690 q_691 (by decide) rfl ⟨by rw [hRf]; decide, by rw [hRl]; decide⟩ hl.1 rfl (Nat.le_of_ble_eq_true rfl) dL_probe_9 ⟨by rw [hRc]; decide, by rw [hRs]; decide⟩ (fun E ce q9 H1 locs hp hS hce hcv hcl => ?_) (fun v H1 locs hp hS => ?_)
  · obtain ⟨hx1, hB⟩ := hp
    rcases hx1 with ⟨h1, rfl⟩ | ⟨h1, rfl⟩ | ⟨h1, rfl⟩
    · refine vx_catch (own := "NetlistBenchLaw") (name := "java/lang/IndexOutOfBoundsException") hown [] ⟨0, 14, 17, 19⟩ [⟨0, 14, 21, 21⟩] (hT.trans rfl) (fun _ h => nomatch h) (by decide) (by decide) (hts _ q_449) (show (Cond.castable eIOB "java/lang/IndexOutOfBoundsException").before args s = true from va_Nw.use rfl (hF.1 (.castable "java/lang/IndexOutOfBoundsException" "java/lang/IndexOutOfBoundsException") (List.mem_of_elem_eq_true rfl))) hce hcv hcl ?_
      refine lv_astore (lv' := [(6, .ref q9), (0, .ref (ad (0, 0))), (1, .int x), (2, .int f), (3, .int q), (4, .int m1), (5, .ref (ad (40, 0)))]) hx hb dL_probe_17 hl (by decide) rfl (fun ls hl => ?_)
      refine lv_iconst (v := nI 1) hx hb dL_probe_19 (by decide) ?_
      exact xe_iret hQ hx hb hr hlocks hH hS (by decide) (by decide) (xLp_x h1 (by decide) hz h0n h0e hB) dL_probe_20
    · refine vx_catch (own := "NetlistBenchLaw") (name := "java/lang/IllegalArgumentException") hown [⟨0, 14, 17, 19⟩] ⟨0, 14, 21, 21⟩ [] (hT.trans rfl) (List.forall_mem_cons.mpr ⟨Or.inr ⟨by decide, "java/lang/IndexOutOfBoundsException", hts _ q_449, hN.1⟩, (List.forall_mem_nil _)⟩) (by decide) (by decide) (hts _ q_450) (show (Cond.castable eIAE "java/lang/IllegalArgumentException").before args s = true from va_Nw.use rfl (hF.1 (.castable "java/lang/IllegalArgumentException" "java/lang/IllegalArgumentException") (List.mem_of_elem_eq_true rfl))) hce hcv hcl ?_
      refine lv_astore (lv' := [(6, .ref q9), (0, .ref (ad (0, 0))), (1, .int x), (2, .int f), (3, .int q), (4, .int m1), (5, .ref (ad (40, 0)))]) hx hb dL_probe_21 hl (by decide) rfl (fun ls hl => ?_)
      refine lv_iconst (v := nI 2) hx hb dL_probe_23 (by decide) ?_
      exact xe_iret hQ hx hb hr hlocks hH hS (by decide) (by decide) (xLp_x h1 (by decide) hz h0n h0e hB) dL_probe_24
    · exact absurd h1 (by unfold tPrb; (repeat' split) <;> decide)
  obtain ⟨hv, ht, g2, pl2, kn2, rw2, mi2, un2, hP⟩ := hp; subst hv; generalize H1 = H at hP hS ⊢
  refine lv_i2l (v := (rPrb z x f q m1).toInt64) hx hb dL_probe_12 rfl ?_
  refine xo_last hx hb hE hP hS rfl dL_probe_13 (fun H locs hP hS => ?_)
  refine lv_goto (tgt := 25) hx hb dL_probe_14 (by decide) ?_
  refine lv_iconst (v := nI 0) hx hb dL_probe_25 (by decide) ?_
  exact xe_iret hQ hx hb hr hlocks hH hS (by decide) (by decide) (xLp_r ht (fun _ _ => rfl) rfl h0n h0e ⟨hz.w, hz.2.1, hz.2.2.1, hz.2.2.2⟩ rfl hP.B) dL_probe_26

set_option maxHeartbeats 4000000 in
set_option maxRecDepth 100000 in
theorem c_L_compare (l : Launch) (hls : l.stackTraces = false) {D : va_G} {y : Nat → ClassId} {A : Nat → Prop} {e0 : Nat} {ad : xL → Nat} {bl : xM} {z : xC} {g : Nat → Int32} {pl : Nat → Int32} {kn : Nat → Int64} {rw : Nat → Nat → Int64} {mi : Nat → Int64} {un : Int32} {fR : Nat → Nat → Option va_E} {oj : Nat → Int64} {od : Nat → UInt64} {Hs : Heap} (hP : xW D A ad (wU (wB y ad bl z g pl kn rw mi un) fR (wO y oj od)) Hs) (hz : bOk bl z) (h0n : nN z = 0 → ad (2, 0) = e0) (h0e : nE z = 0 → ad (4, 0) = e0) {x t u w : Int32} : Met l yL_compare (.codeWith yL_compare cL_compare 7 (some .int) [(0, 14, 17, 19), (0, 14, 21, 21), (0, 14, 25, 13)] :: WG) { frames := 8, cells := 3, slots := 18, locals := 300 } (xPcL [.ref (ad (0, 0)), .int x, .int t, .int u, .int w, .ref (ad (40, 0))] D y A e0 Hs) (xQ (xLp D A y ad e0 fR od (tCmp z x t u w) z (z) ((rCmp z x t u w).toInt64)) A) 3 18 A := by
  refine xM_goL (by decide) (Nat.le_of_ble_eq_true rfl) (fun p e s m args below meth c ls R Q hx hb hr hlocks hml hown hts hH hE hnm hRf hRl hRc hRs hQ hS hl hF hG hN hT => ?_)
  have hRf : R.frames = 8 := hRf
  have hRl : R.locals = 300 := hRl
  have hRc : R.cells = 3 := hRc
  have hRs : R.slots = 18 := hRs
  have hl : lv_has ls 7 [(0, .ref (ad (0, 0))), (1, .int x), (2, .int t), (3, .int u), (4, .int w), (5, .ref (ad (40, 0)))] := hl
  refine lv_aload hx hb dL_compare_0 (lv_at hl 5 rfl) ?_
  refine lv_iconst (v := nI 0) hx hb dL_compare_2 (by decide) ?_
  refine lv_aload_n hx hb dL_compare_3 rfl (lv_at hl 0 rfl) ?_
  refine lv_iload_n hx hb dL_compare_4 rfl (lv_at hl 1 rfl) ?_
  refine lv_iload_n hx hb dL_compare_5 rfl (lv_at hl 2 rfl) ?_
  refine lv_iload_n hx hb dL_compare_6 rfl (lv_at hl 3 rfl) ?_
  refine lv_iload hx hb dL_compare_7 (lv_at hl 4 rfl) ?_
  refine xx_callV (C := "NetlistBench") (n := 4) [.int x, .int t, .int u, .int w] (c_X3_compare l hls hP hz x t u w) hx hb hml hown hts hE hF hS (xw_recv hE hP (0, 0) rfl rfl) rfl rfl q_43 q_706 q_709 q_707 q_708 (by decide) rfl ⟨by rw [hRf]; decide, by rw [hRl]; decide⟩ hl.1 rfl (Nat.le_of_ble_eq_true rfl) dL_compare_9 ⟨by rw [hRc]; decide, by rw [hRs]; decide⟩ (fun E ce q9 H1 locs hp hS hce hcv hcl => ?_) (fun v H1 locs hp hS => ?_)
  · obtain ⟨hx1, hB⟩ := hp
    rcases hx1 with ⟨h1, rfl⟩ | ⟨h1, rfl⟩ | ⟨h1, rfl⟩
    · refine vx_catch (own := "NetlistBenchLaw") (name := "java/lang/IndexOutOfBoundsException") hown [] ⟨0, 14, 17, 19⟩ [⟨0, 14, 21, 21⟩, ⟨0, 14, 25, 13⟩] (hT.trans rfl) (fun _ h => nomatch h) (by decide) (by decide) (hts _ q_449) (show (Cond.castable eIOB "java/lang/IndexOutOfBoundsException").before args s = true from va_Nw.use rfl (hF.1 (.castable "java/lang/IndexOutOfBoundsException" "java/lang/IndexOutOfBoundsException") (List.mem_of_elem_eq_true rfl))) hce hcv hcl ?_
      refine lv_astore (lv' := [(6, .ref q9), (0, .ref (ad (0, 0))), (1, .int x), (2, .int t), (3, .int u), (4, .int w), (5, .ref (ad (40, 0)))]) hx hb dL_compare_17 hl (by decide) rfl (fun ls hl => ?_)
      refine lv_iconst (v := nI 1) hx hb dL_compare_19 (by decide) ?_
      exact xe_iret hQ hx hb hr hlocks hH hS (by decide) (by decide) (xLp_x h1 (by decide) hz h0n h0e hB) dL_compare_20
    · refine vx_catch (own := "NetlistBenchLaw") (name := "java/lang/IllegalArgumentException") hown [⟨0, 14, 17, 19⟩] ⟨0, 14, 21, 21⟩ [⟨0, 14, 25, 13⟩] (hT.trans rfl) (List.forall_mem_cons.mpr ⟨Or.inr ⟨by decide, "java/lang/IndexOutOfBoundsException", hts _ q_449, hN.1⟩, (List.forall_mem_nil _)⟩) (by decide) (by decide) (hts _ q_450) (show (Cond.castable eIAE "java/lang/IllegalArgumentException").before args s = true from va_Nw.use rfl (hF.1 (.castable "java/lang/IllegalArgumentException" "java/lang/IllegalArgumentException") (List.mem_of_elem_eq_true rfl))) hce hcv hcl ?_
      refine lv_astore (lv' := [(6, .ref q9), (0, .ref (ad (0, 0))), (1, .int x), (2, .int t), (3, .int u), (4, .int w), (5, .ref (ad (40, 0)))]) hx hb dL_compare_21 hl (by decide) rfl (fun ls hl => ?_)
      refine lv_iconst (v := nI 2) hx hb dL_compare_23 (by decide) ?_
      exact xe_iret hQ hx hb hr hlocks hH hS (by decide) (by decide) (xLp_x h1 (by decide) hz h0n h0e hB) dL_compare_24
    · refine vx_catch (own := "NetlistBenchLaw") (name := "java/lang/IllegalStateException") hown [⟨0, 14, 17, 19⟩, ⟨0, 14, 21, 21⟩] ⟨0, 14, 25, 13⟩ [] (hT.trans rfl) (List.forall_mem_cons.mpr ⟨Or.inr ⟨by decide, "java/lang/IndexOutOfBoundsException", hts _ q_449, hN.2.1⟩, (List.forall_mem_cons.mpr ⟨Or.inr ⟨by decide, "java/lang/IllegalArgumentException", hts _ q_450, hN.2.2⟩, (List.forall_mem_nil _)⟩)⟩) (by decide) (by decide) (hts _ q_303) (show (Cond.castable eISE "java/lang/IllegalStateException").before args s = true from va_Nw.use rfl (hF.1 (.castable "java/lang/IllegalStateException" "java/lang/IllegalStateException") (List.mem_of_elem_eq_true rfl))) hce hcv hcl ?_
      refine lv_astore (lv' := [(6, .ref q9), (0, .ref (ad (0, 0))), (1, .int x), (2, .int t), (3, .int u), (4, .int w), (5, .ref (ad (40, 0)))]) hx hb dL_compare_25 hl (by decide) rfl (fun ls hl => ?_)
      refine lv_iconst (v := nI 3) hx hb dL_compare_27 (by decide) ?_
      exact xe_iret hQ hx hb hr hlocks hH hS (by decide) (by decide) (xLp_x h1 (by decide) hz h0n h0e hB) dL_compare_28
  obtain ⟨hv, ht, g2, pl2, kn2, rw2, mi2, un2, hP⟩ := hp; subst hv; generalize H1 = H at hP hS ⊢
  refine lv_i2l (v := (rCmp z x t u w).toInt64) hx hb dL_compare_12 rfl ?_
  refine xo_last hx hb hE hP hS rfl dL_compare_13 (fun H locs hP hS => ?_)
  refine lv_goto (tgt := 29) hx hb dL_compare_14 (by decide) ?_
  refine lv_iconst (v := nI 0) hx hb dL_compare_29 (by decide) ?_
  exact xe_iret hQ hx hb hr hlocks hH hS (by decide) (by decide) (xLp_r ht (fun _ _ => rfl) rfl h0n h0e ⟨hz.w, hz.2.1, hz.2.2.1, hz.2.2.2⟩ rfl hP.B) dL_compare_30

set_option maxHeartbeats 4000000 in
set_option maxRecDepth 100000 in
theorem c_L_levels (l : Launch) (hls : l.stackTraces = false) {D : va_G} {y : Nat → ClassId} {A : Nat → Prop} {e0 : Nat} {ad : xL → Nat} {bl : xM} {z : xC} {g : Nat → Int32} {pl : Nat → Int32} {kn : Nat → Int64} {rw : Nat → Nat → Int64} {mi : Nat → Int64} {un : Int32} {fR : Nat → Nat → Option va_E} {oj : Nat → Int64} {od : Nat → UInt64} {Hs : Heap} (hP : xW D A ad (wU (wB y ad bl z g pl kn rw mi un) fR (wO y oj od)) Hs) (hz : bOk bl z) (h0n : nN z = 0 → ad (2, 0) = e0) (h0e : nE z = 0 → ad (4, 0) = e0) {t : Int32} : Met l yL_levels (.codeWith yL_levels cL_levels 4 (some .int) [(0, 9, 12, 21)] :: WG) { frames := 8, cells := 1, slots := 6, locals := 300 } (xPcL [.ref (ad (0, 0)), .int t, .ref (ad (40, 0))] D y A e0 Hs) (xQ (xLp D A y ad e0 fR od (tTm t) z (z) ((nI (lvS z t (nN z))).toInt64)) A) 1 6 A := by
  refine xM_goL (by decide) (Nat.le_of_ble_eq_true rfl) (fun p e s m args below meth c ls R Q hx hb hr hlocks hml hown hts hH hE hnm hRf hRl hRc hRs hQ hS hl hF hG hN hT => ?_)
  have hRf : R.frames = 8 := hRf
  have hRl : R.locals = 300 := hRl
  have hRc : R.cells = 1 := hRc
  have hRs : R.slots = 6 := hRs
  have hl : lv_has ls 4 [(0, .ref (ad (0, 0))), (1, .int t), (2, .ref (ad (40, 0)))] := hl
  refine lv_aload_n hx hb dL_levels_0 rfl (lv_at hl 2 rfl) ?_
  refine lv_iconst (v := nI 0) hx hb dL_levels_1 (by decide) ?_
  refine lv_aload_n hx hb dL_levels_2 rfl (lv_at hl 0 rfl) ?_
  refine lv_iload_n hx hb dL_levels_3 rfl (lv_at hl 1 rfl) ?_
  refine xx_callV (C := "NetlistBench") (n := 1) [.int t] (c_X3_levels l hls hP hz t) hx hb hml hown hts hE hF hS (xw_recv hE hP (0, 0) rfl rfl) rfl rfl q_43 q_714 q_717 q_715 q_716 (by decide) rfl ⟨by rw [hRf]; decide, by rw [hRl]; decide⟩ hl.1 rfl (Nat.le_of_ble_eq_true rfl) dL_levels_4 ⟨by rw [hRc]; decide, by rw [hRs]; decide⟩ (fun E ce q9 H1 locs hp hS hce hcv hcl => ?_) (fun v H1 locs hp hS => ?_)
  · obtain ⟨hx1, hB⟩ := hp
    obtain ⟨h1, rfl⟩ := hx1
    refine vx_catch (own := "NetlistBenchLaw") (name := "java/lang/IllegalArgumentException") hown [] ⟨0, 9, 12, 21⟩ [] (hT.trans rfl) (fun _ h => nomatch h) (by decide) (by decide) (hts _ q_450) (show (Cond.castable eIAE "java/lang/IllegalArgumentException").before args s = true from va_Nw.use rfl (hF.1 (.castable "java/lang/IllegalArgumentException" "java/lang/IllegalArgumentException") (List.mem_of_elem_eq_true rfl))) hce hcv hcl ?_
    refine lv_astore_n (lv' := [(3, .ref q9), (0, .ref (ad (0, 0))), (1, .int t), (2, .ref (ad (40, 0)))]) hx hb dL_levels_12 rfl hl (by decide) rfl (fun ls hl => ?_)
    refine lv_iconst (v := nI 1) hx hb dL_levels_13 (by decide) ?_
    exact xe_iret hQ hx hb hr hlocks hH hS (by decide) (by decide) (xLp_x h1 (by decide) hz h0n h0e hB) dL_levels_14
  obtain ⟨hv, ht, g2, pl2, kn2, rw2, mi2, un2, hP⟩ := hp; subst hv; generalize H1 = H at hP hS ⊢
  refine lv_i2l (v := (nI (lvS z t (nN z))).toInt64) hx hb dL_levels_7 rfl ?_
  refine xo_last hx hb hE hP hS rfl dL_levels_8 (fun H locs hP hS => ?_)
  refine lv_goto (tgt := 15) hx hb dL_levels_9 (by decide) ?_
  refine lv_iconst (v := nI 0) hx hb dL_levels_15 (by decide) ?_
  exact xe_iret hQ hx hb hr hlocks hH hS (by decide) (by decide) (xLp_r ht (fun _ _ => rfl) rfl h0n h0e ⟨hz.w, hz.2.1, hz.2.2.1, hz.2.2.2⟩ rfl hP.B) dL_levels_16
