/-! power, on both sides -/
section XD
variable {p : Program} {l : Launch} {e : Env} {R : Room} {s : State} {m : MethodId} {args : Array Value} {below : List Frame} {meth : Method} {c : Code} {H H0 : Heap} {locs : List Loc} {cells slots mc ms : Nat} {Q : State → Prop}
variable {cc : ByteArray} {pc : Nat} {ls : Array Slot} {rest : List Value} {D : va_G} {y : Nat → ClassId} {A : Nat → Prop} {post : Option Value → Heap → Prop} {pX : String → Heap → Prop}
theorem xw_dret {v : UInt64} (hexec : p.tables.exec = Jvm.exec) (hb : c.code = cc) (hr : meth.sig.returnType = some .double) (hlocks : meth.locks = false) (hH : s.heap = H0) (hS : va_S A H0 H locs) (h1 : cells ≤ mc) (h2 : slots ≤ ms) (hp : post (some (.double v)) H) (hdg : decode cc pc = .ok (.dreturn, 1)) : W p l e R s m args below meth c H locs cells slots (MQ below (xQ post A) args s mc ms A) (F0 m pc ls [.double v]) :=
  W.widen h1 h2 (W.dret hexec hb hr (fun t ht _ => xq_end hH hS hp t ht) hS.2.2 hdg hlocks)
theorem xe_dret {v : UInt64} (hQ : Q = MQ below (xQ post A) args s mc ms A) (hexec : p.tables.exec = Jvm.exec) (hb : c.code = cc) (hr : meth.sig.returnType = some .double) (hlocks : meth.locks = false) (hH : s.heap = H0) (hS : va_S A H0 H locs) (h1 : cells ≤ mc) (h2 : slots ≤ ms) (hp : post (some (.double v)) H) (hdg : decode cc pc = .ok (.dreturn, 1)) : W p l e R s m args below meth c H locs cells slots Q (F0 m pc ls [.double v]) := by
  rw [hQ]; exact xw_dret hexec hb hr hlocks hH hS h1 h2 hp hdg
theorem xx_dret {v : UInt64} (hQ : Q = vx_MQ below (xQ post A) (xX pX A) args s mc ms A) (hexec : p.tables.exec = Jvm.exec) (hb : c.code = cc) (hr : meth.sig.returnType = some .double) (hlocks : meth.locks = false) (hH : s.heap = H0) (hS : va_S A H0 H locs) (h1 : cells ≤ mc) (h2 : slots ≤ ms) (hp : post (some (.double v)) H) (hdg : decode cc pc = .ok (.dreturn, 1)) : W p l e R s m args below meth c H locs cells slots Q (F0 m pc ls [.double v]) := by
  rw [hQ]; exact vx_ret (xw_dret hexec hb hr hlocks hH hS h1 h2 hp hdg)
end XD
set_option maxHeartbeats 4000000 in
set_option maxRecDepth 100000 in
theorem c_X3_quotientAt (l : Launch) {D : va_G} {y : Nat → ClassId} {A : Nat → Prop} {ad : xL → Nat} {n : Nat} {bl : xM} {z : xC} {g : Nat → Int32} {pl : Nat → Int32} {kn : Nat → Int64} {rw : Nat → Nat → Int64} {mi : Nat → Int64} {fR fO : Nat → Nat → Option va_E} {Hs : Heap} (hP : xW D A ad (wU (wB y ad bl z g pl kn rw mi (nI n)) fR fO) Hs) (hn : n ≤ 7) (hpl : plOk pl n) {j : Nat} (hj : j < 8) (hpos : 0 < ptF (upV pl kn mi n j) (mi (2 ^ n - 1)) 0) : Met l yX3_quotientAt (.code yX3_quotientAt cX3_quotientAt 6 (some .double) :: WG) { frames := 3, cells := 0, slots := 0, locals := 64 } (xPc [.ref (ad (0, 0)), .int (nI j)] D y Hs) (xQ (fun v H1 => v = some (.double (FP.ddiv (FP.l2d (ptF (upV pl kn mi n j) (mi (2 ^ n - 1)) 1)) (FP.l2d (ptF (upV pl kn mi n j) (mi (2 ^ n - 1)) 0)))) ∧ Hs = H1) A) 0 0 A := by
  refine xM_go (by decide) (Nat.le_of_ble_eq_true rfl) (fun p e s m args below meth c ls R Q hx hb hr hlocks hml hown hts hH hE hnm hRf hRl hRc hRs hQ hS hl => ?_)
  have hRf : R.frames = 3 := hRf
  have hRl : R.locals = 64 := hRl
  have hRc : R.cells = 0 := hRc
  have hRs : R.slots = 0 := hRs
  have hl : lv_has ls 6 [(0, .ref (ad (0, 0))), (1, .int (nI j))] := hl
  refine lv_aload_n hx hb dX3_quotientAt_0 rfl (lv_at hl 0 rfl) ?_
  refine fg_X3_equations hx hb hts hown hE hP q_105 dX3_quotientAt_1 ?_
  refine lv_iload_n hx hb dX3_quotientAt_4 rfl (lv_at hl 1 rfl) ?_
  refine xw_callV (C := "NetlistBench$Equations") (n := 1) [.int (nI j)] (c_X1_upper l hP (by omega) hpl (by omega)) hx hb hml hown hts hE hS (xw_recv hE hP (6, 0) rfl rfl) rfl rfl q_25 q_346 q_349 q_347 q_348 (by decide) rfl ⟨by rw [hRf]; decide, by rw [hRl]; decide⟩ hl.1 rfl (Nat.le_of_ble_eq_true rfl) dX3_quotientAt_5 ⟨by rw [hRc]; decide, by rw [hRs]; decide⟩ (fun v H1 locs hp hS => ?_)
  obtain ⟨hv, hh⟩ := hp; subst hv; subst hh
  refine lv_aload_n hx hb dX3_quotientAt_8 rfl (lv_at hl 0 rfl) ?_
  refine fg_X3_equations hx hb hts hown hE hP q_105 dX3_quotientAt_9 ?_
  refine xw_callV (C := "NetlistBench$Equations") (n := 0) [] (c_X1_lower l hP (by omega)) hx hb hml hown hts hE hS (xw_recv hE hP (6, 0) rfl rfl) rfl rfl q_25 q_342 q_345 q_343 q_344 (by decide) rfl ⟨by rw [hRf]; decide, by rw [hRl]; decide⟩ hl.1 rfl (Nat.le_of_ble_eq_true rfl) dX3_quotientAt_12 ⟨by rw [hRc]; decide, by rw [hRs]; decide⟩ (fun v H1 locs hp hS => ?_)
  obtain ⟨hv, hh⟩ := hp; subst hv; subst hh
  refine lv_iconst (v := nI 1) hx hb dX3_quotientAt_15 (by decide) ?_
  refine xw_callS (n := 3) [.long (upV pl kn mi n j), .long (mi (2 ^ n - 1)), .int (nI 1)] (c_X3_partOf l (upV pl kn mi n j) (mi (2 ^ n - 1)) 1) hx hb hml hown hts hE hS rfl rfl q_21 q_351 q_353 q_352 (by decide) rfl ⟨by rw [hRf]; decide, by rw [hRl]; decide⟩ hl.1 rfl (Nat.le_of_ble_eq_true rfl) dX3_quotientAt_16 ⟨by rw [hRc]; decide, by rw [hRs]; decide⟩ (fun v H1 locs hp hS => ?_)
  obtain ⟨hv, hh⟩ := hp; subst hv; subst hh
  refine lv_l2d hx hb dX3_quotientAt_19 ?_
  refine lv_dstore_n (lv' := [(2, .double (FP.l2d (ptF (upV pl kn mi n j) (mi (2 ^ n - 1)) 1))), (0, .ref (ad (0, 0))), (1, .int (nI j))]) hx hb dX3_quotientAt_20 rfl hl (by decide) rfl (fun ls hl => ?_)
  refine lv_aload_n hx hb dX3_quotientAt_21 rfl (lv_at hl 1 rfl) ?_
  refine fg_X3_equations hx hb hts hown hE hP q_105 dX3_quotientAt_22 ?_
  refine lv_iload_n hx hb dX3_quotientAt_25 rfl (lv_at hl 2 rfl) ?_
  refine xw_callV (C := "NetlistBench$Equations") (n := 1) [.int (nI j)] (c_X1_upper l hP (by omega) hpl (by omega)) hx hb hml hown hts hE hS (xw_recv hE hP (6, 0) rfl rfl) rfl rfl q_25 q_346 q_349 q_347 q_348 (by decide) rfl ⟨by rw [hRf]; decide, by rw [hRl]; decide⟩ hl.1 rfl (Nat.le_of_ble_eq_true rfl) dX3_quotientAt_26 ⟨by rw [hRc]; decide, by rw [hRs]; decide⟩ (fun v H1 locs hp hS => ?_)
  obtain ⟨hv, hh⟩ := hp; subst hv; subst hh
  refine lv_aload_n hx hb dX3_quotientAt_29 rfl (lv_at hl 1 rfl) ?_
  refine fg_X3_equations hx hb hts hown hE hP q_105 dX3_quotientAt_30 ?_
  refine xw_callV (C := "NetlistBench$Equations") (n := 0) [] (c_X1_lower l hP (by omega)) hx hb hml hown hts hE hS (xw_recv hE hP (6, 0) rfl rfl) rfl rfl q_25 q_342 q_345 q_343 q_344 (by decide) rfl ⟨by rw [hRf]; decide, by rw [hRl]; decide⟩ hl.1 rfl (Nat.le_of_ble_eq_true rfl) dX3_quotientAt_33 ⟨by rw [hRc]; decide, by rw [hRs]; decide⟩ (fun v H1 locs hp hS => ?_)
  obtain ⟨hv, hh⟩ := hp; subst hv; subst hh
  refine lv_iconst (v := nI 0) hx hb dX3_quotientAt_36 (by decide) ?_
  refine xw_callS (n := 3) [.long (upV pl kn mi n j), .long (mi (2 ^ n - 1)), .int (nI 0)] (c_X3_partOf l (upV pl kn mi n j) (mi (2 ^ n - 1)) 0) hx hb hml hown hts hE hS rfl rfl q_21 q_351 q_353 q_352 (by decide) rfl ⟨by rw [hRf]; decide, by rw [hRl]; decide⟩ hl.1 rfl (Nat.le_of_ble_eq_true rfl) dX3_quotientAt_37 ⟨by rw [hRc]; decide, by rw [hRs]; decide⟩ (fun v H1 locs hp hS => ?_)
  obtain ⟨hv, hh⟩ := hp; subst hv; subst hh
  refine lv_l2d hx hb dX3_quotientAt_40 ?_
  refine lv_dstore (lv' := [(4, .double (FP.l2d (ptF (upV pl kn mi n j) (mi (2 ^ n - 1)) 0))), (2, .double (FP.l2d (ptF (upV pl kn mi n j) (mi (2 ^ n - 1)) 1))), (0, .ref (ad (0, 0))), (1, .int (nI j))]) hx hb dX3_quotientAt_41 hl (by decide) rfl (fun ls hl => ?_)
  refine lv_dload hx hb dX3_quotientAt_43 (lv_at hl 0 rfl) ?_
  refine lv_dconst0 hx hb dX3_quotientAt_45 ?_
  refine lv_dcmp hx hb dX3_quotientAt_46 ?_
  refine xt_i (w := nI 1) (by rw [f_gt hpos]; rfl) ?_
  refine lv_if_le (tgt := 57) hx hb dX3_quotientAt_47 (by decide) (fun c47 => ?_) (fun c47 => ?_)
  · skip
    have c47 := ni_le (a := 1) (b := 0) (by omega) (by omega) c47
    exfalso; omega
  · skip
    have c47 := ni_nle (a := 1) (b := 0) (by omega) (by omega) c47
    refine lv_dload_n hx hb dX3_quotientAt_50 rfl (lv_at hl 1 rfl) ?_
    refine lv_dload hx hb dX3_quotientAt_51 (lv_at hl 0 rfl) ?_
    refine lv_ddiv hx hb dX3_quotientAt_53 (f_num (f_div (f_l2d _) hpos (by decide) (by decide))) ?_
    refine lv_goto (tgt := 58) hx hb dX3_quotientAt_54 (by decide) ?_
    exact xe_dret hQ hx hb hr hlocks hH hS (Nat.le_refl _) (Nat.le_refl _) (⟨rfl, rfl⟩) dX3_quotientAt_58

set_option maxHeartbeats 4000000 in
set_option maxRecDepth 100000 in
theorem c_X3_power (l : Launch) (hls : l.stackTraces = false) {D : va_G} {y : Nat → ClassId} {A : Nat → Prop} {ad : xL → Nat} {bl : xM} {z : xC} {g : Nat → Int32} {pl : Nat → Int32} {kn : Nat → Int64} {rw : Nat → Nat → Int64} {mi : Nat → Int64} {un : Int32} {fR fO : Nat → Nat → Option va_E} {Hs : Heap} (hP : xW D A ad (wU (wB y ad bl z g pl kn rw mi un) fR fO) Hs) (hz : bOk bl z) (t : Int32) : vx_Met l yX3_power (.code yX3_power cX3_power 8 (some .double) :: WG) { frames := 7, cells := 1, slots := 6, locals := 120 } (xPcX [.ref (ad (0, 0)), .int t] D y A Hs) (xQ (fun v H1 => v = some (.double (pwS z t (nE z))) ∧ tTm t = 0 ∧ xB D A y ad bl z fR fO H1) A) (xX (fun E H1 => exA (tTm t) E ∧ xB D A y ad bl z fR fO H1) A) 1 6 A := by
  refine xM_goX (by decide) (Nat.le_of_ble_eq_true rfl) (fun p e s m args below meth c ls R Q hx hb hr hlocks hml hown hts hH hE hnm hRf hRl hRc hRs hQ hS hl hF htab => ?_)
  have hRf : R.frames = 7 := hRf
  have hRl : R.locals = 120 := hRl
  have hRc : R.cells = 1 := hRc
  have hRs : R.slots = 6 := hRs
  have hl : lv_has ls 8 [(0, .ref (ad (0, 0))), (1, .int t)] := hl
  have hw := hz.w
  have hN := hw.N
  have hE20 := hw.E
  refine lv_iload_n hx hb dX3_power_0 rfl (lv_at hl 1 rfl) ?_
  refine xx_callS (n := 1) [.int t] (c_X3_checkTime l hls t) hx hb hml hown hts hE hF hS rfl rfl q_21 q_238 q_240 q_239 (by decide) rfl ⟨by rw [hRf]; decide, by rw [hRl]; decide⟩ hl.1 rfl (Nat.le_of_ble_eq_true rfl) dX3_power_1 ⟨by rw [hRc]; omega, by rw [hRs]; omega⟩ (fun E ce q9 H1 locs hp hS hce hcv hcl => ?_) (fun v H1 locs hp hS => ?_)
  · skip
    exact xx_out hQ htab hlocks hH hS hce hcv hcl (by omega) (by omega) (⟨⟨by rw [tTm, if_pos hp.2.1], hp.1⟩, (hP.kept hp.2.2.1 hp.2.2.2).B⟩)
  obtain ⟨hv, hh, ht⟩ := hp; subst hv; subst hh; obtain ⟨tm, htl, ex⟩ := timeP_i ht; subst ex
  refine lv_aload_n hx hb dX3_power_4 rfl (lv_at hl 0 rfl) ?_
  refine lv_iload_n hx hb dX3_power_5 rfl (lv_at hl 1 rfl) ?_
  refine xw_callV (C := "NetlistBench") (n := 1) [.int (nI tm)] (c_X3_settle l hP hz (nI tm)) hx hb hml hown hts hE hS (xw_recv hE hP (0, 0) rfl rfl) rfl rfl q_21 q_287 q_290 q_289 q_7 (by decide) rfl ⟨by rw [hRf]; decide, by rw [hRl]; decide⟩ hl.1 rfl (Nat.le_of_ble_eq_true rfl) dX3_power_6 ⟨by rw [hRc]; omega, by rw [hRs]; omega⟩ (fun v H1 locs hp hS => ?_)
  obtain ⟨hv, mi', hmi, hP⟩ := hp; subst hv
  generalize H1 = H at hP hS ⊢
  have hn7 := sN_le z (nI tm)
  refine lv_dconst0 hx hb dX3_power_9 ?_
  refine lv_dstore_n (lv' := [(2, .double FP.dconst0), (0, .ref (ad (0, 0))), (1, .int (nI tm))]) hx hb dX3_power_10 rfl hl (by decide) rfl (fun ls hl => ?_)
  refine lv_iconst (v := nI 0) hx hb dX3_power_11 (by decide) ?_
  refine lv_istore (lv' := [(4, .int (nI 0)), (2, .double FP.dconst0), (0, .ref (ad (0, 0))), (1, .int (nI tm))]) hx hb dX3_power_12 hl (by decide) rfl (fun ls hl => ?_)
  have K14 : ∀ (nn : Nat), ∀ (i : Nat), (i ≤ nE z) → nE z - i < nn → ∀ (H : Heap) (locs : List Loc) (ls : Array Slot), xW D A ad (wU (wB y ad bl z ((sG z (nI tm))) ((sP z (nI tm))) ((sK z (nI tm))) ((sR z (nI tm))) mi' (nI (sN z (nI tm)))) fR fO) H → va_S A Hs H locs → lv_has ls 8 [(4, .int (nI i)), (2, .double (pwS z (nI tm) i)), (1, .int (nI tm)), (0, .ref (ad (0, 0)))] → W p l e R s m args below meth c H locs 1 6 Q (F0 m 14 ls []) := by
    intro nn
    induction nn with
    | zero => intro i hi h; exact absurd h (Nat.not_lt_zero _)
    | succ nn ih14 =>
      intro i hi hn14 H locs ls hP hS hl
      refine lv_iload hx hb dX3_power_14 (lv_at hl 0 rfl) ?_
      refine lv_aload_n hx hb dX3_power_16 rfl (lv_at hl 3 rfl) ?_
      refine fg_X3_elements hx hb hts hown hE hP q_103 dX3_power_17 ?_
      refine xw_callV (C := "java/util/ArrayList") (n := 0) [] (c_size_elements l hP ) hx hb hml hown hts hE hS (xw_recv hE hP (3, 0) rfl rfl) rfl rfl q_24 q_123 q_126 q_124 q_125 (by decide) rfl ⟨by rw [hRf]; decide, by rw [hRl]; decide⟩ hl.1 rfl (Nat.le_of_ble_eq_true rfl) dX3_power_20 ⟨by rw [hRc]; omega, by rw [hRs]; omega⟩ (fun v H1 locs hp hS => ?_)
      obtain ⟨hv, hh⟩ := hp; subst hv; subst hh
      refine lv_icmp_ge (tgt := 111) hx hb dX3_power_23 (by decide) (fun c23 => ?_) (fun c23 => ?_)
      · skip
        have c23 := ni_le (a := (nE z)) (b := i) (by omega) (by omega) c23
        refine lv_dload_n hx hb dX3_power_111 rfl (lv_at hl 1 rfl) ?_
        exact xx_dret hQ hx hb hr hlocks hH hS (by omega) (by omega) (⟨by rw [show nE z = i by omega], by rw [tTm, if_neg (not_not_intro ht)], hP.B⟩) dX3_power_112
      · skip
        have c23 := ni_nle (a := (nE z)) (b := i) (by omega) (by omega) c23
        refine lv_aload_n hx hb dX3_power_26 rfl (lv_at hl 3 rfl) ?_
        refine fg_X3_elements hx hb hts hown hE hP q_103 dX3_power_27 ?_
        refine lv_iload hx hb dX3_power_30 (lv_at hl 0 rfl) ?_
        refine xw_callV (C := "java/util/ArrayList") (n := 1) [.int (nI i)] (c_get_elements l hP hz (by omega)) hx hb hml hown hts hE hS (xw_recv hE hP (3, 0) rfl rfl) rfl rfl q_24 q_195 q_198 q_196 q_197 (by decide) rfl ⟨by rw [hRf]; decide, by rw [hRl]; decide⟩ hl.1 rfl (Nat.le_of_ble_eq_true rfl) dX3_power_32 ⟨by rw [hRc]; omega, by rw [hRs]; omega⟩ (fun v H1 locs hp hS => ?_)
        obtain ⟨hv, hh⟩ := hp; subst hv; subst hh
        refine xc_el (i := i) hx hb hts hown hE hP (by first | assumption | omega) q_209 dX3_power_35 ?_
        refine lv_astore (lv' := [(5, .ref (ad (13, i))), (4, .int (nI i)), (2, .double (pwS z (nI tm) i)), (1, .int (nI tm)), (0, .ref (ad (0, 0)))]) hx hb dX3_power_38 hl (by decide) rfl (fun ls hl => ?_)
        have ha8 : cA z i < nN z := hw.a8 (i := i) (by omega)
        have hb8 : cB z i < nN z := hw.b8 (i := i) (by omega)
        refine lv_aload hx hb dX3_power_40 (lv_at hl 0 rfl) ?_
        refine fg_X0_isSource (i := i) (by first | assumption | omega) hx hb hts hown hE hP q_554 dX3_power_42 ?_
        refine lv_if_ne (tgt := 105) hx hb dX3_power_45 (by decide) (fun c45 => ?_) (fun c45 => ?_)
        · skip
          rw [show pwS z (nI tm) i = pwS z (nI tm) (i + 1) from (pwS_0 (fun h => c45 h.1.1)).symm] at hl
          refine lv_iinc (v := nI (i + 1)) (lv' := [(4, .int (nI (i + 1))), (5, .ref (ad (13, i))), (2, .double (pwS z (nI tm) (i + 1))), (1, .int (nI tm)), (0, .ref (ad (0, 0)))]) hx hb dX3_power_105 hl (k := 1) rfl (nI_1 _) (by decide) rfl (fun ls hl => ?_)
          refine lv_goto (tgt := 14) hx hb dX3_power_108 (by decide) ?_
          exact ih14 (i + 1) (by omega) (by omega) _ _ _ hP hS (lv_sub hl [0, 2, 3, 4] rfl)
        · skip
          refine lv_aload hx hb dX3_power_48 (lv_at hl 0 rfl) ?_
          refine lv_iload_n hx hb dX3_power_50 rfl (lv_at hl 3 rfl) ?_
          refine xw_callV (C := "NetlistBench$Element") (n := 1) [.int (nI tm)] (c_X0_runsAt l hP hw (by omega) (nI tm)) hx hb hml hown hts hE hS (xr_el hE hP (by first | assumption | omega)) rfl rfl q_40 q_246 q_249 q_247 q_248 (by decide) rfl ⟨by rw [hRf]; decide, by rw [hRl]; decide⟩ hl.1 rfl (Nat.le_of_ble_eq_true rfl) dX3_power_51 ⟨by rw [hRc]; omega, by rw [hRs]; omega⟩ (fun v H1 locs hp hS => ?_)
          obtain ⟨hv, hh⟩ := hp; subst hv; subst hh
          refine lv_if_eq (tgt := 105) hx hb dX3_power_54 (by decide) (fun c54 => ?_) (fun c54 => ?_)
          · skip
            rw [show pwS z (nI tm) i = pwS z (nI tm) (i + 1) from (pwS_0 (fun h => h.1.2 c54)).symm] at hl
            refine lv_iinc (v := nI (i + 1)) (lv' := [(4, .int (nI (i + 1))), (5, .ref (ad (13, i))), (2, .double (pwS z (nI tm) (i + 1))), (1, .int (nI tm)), (0, .ref (ad (0, 0)))]) hx hb dX3_power_105 hl (k := 1) rfl (nI_1 _) (by decide) rfl (fun ls hl => ?_)
            refine lv_goto (tgt := 14) hx hb dX3_power_108 (by decide) ?_
            exact ih14 (i + 1) (by omega) (by omega) _ _ _ hP hS (lv_sub hl [0, 2, 3, 4] rfl)
          · skip
            refine lv_aload_n hx hb dX3_power_57 rfl (lv_at hl 4 rfl) ?_
            refine lv_aload hx hb dX3_power_58 (lv_at hl 0 rfl) ?_
            refine fg_X0_a (i := i) (by first | assumption | omega) hx hb hts hown hE hP q_556 dX3_power_60 ?_
            refine xt_i (w := nI (cA z i)) (hw.a (by omega)) ?_
            refine xw_callV (C := "NetlistBench") (n := 1) [.int (nI (cA z i))] (c_X3_isAfloat l hP (m8 := (gM z (nI tm))) rfl (fun j hj => gM_lt hw _ hj) hz (by omega)) hx hb hml hown hts hE hS (xw_recv hE hP (0, 0) rfl rfl) rfl rfl q_21 q_262 q_265 q_264 q_6 (by decide) rfl ⟨by rw [hRf]; decide, by rw [hRl]; decide⟩ hl.1 rfl (Nat.le_of_ble_eq_true rfl) dX3_power_63 ⟨by rw [hRc]; omega, by rw [hRs]; omega⟩ (fun v H1 locs hp hS => ?_)
            obtain ⟨hv, hh⟩ := hp; subst hv; subst hh
            refine lv_if_ne (tgt := 105) hx hb dX3_power_66 (by decide) (fun c66 => ?_) (fun c66 => ?_)
            · skip
              rw [show pwS z (nI tm) i = pwS z (nI tm) (i + 1) from (pwS_0 (fun h => c66 h.2)).symm] at hl
              refine lv_iinc (v := nI (i + 1)) (lv' := [(4, .int (nI (i + 1))), (5, .ref (ad (13, i))), (2, .double (pwS z (nI tm) (i + 1))), (1, .int (nI tm)), (0, .ref (ad (0, 0)))]) hx hb dX3_power_105 hl (k := 1) rfl (nI_1 _) (by decide) rfl (fun ls hl => ?_)
              refine lv_goto (tgt := 14) hx hb dX3_power_108 (by decide) ?_
              exact ih14 (i + 1) (by omega) (by omega) _ _ _ hP hS (lv_sub hl [0, 2, 3, 4] rfl)
            · skip
              refine lv_aload_n hx hb dX3_power_69 rfl (lv_at hl 4 rfl) ?_
              refine lv_aload hx hb dX3_power_70 (lv_at hl 0 rfl) ?_
              refine fg_X0_a (i := i) (by first | assumption | omega) hx hb hts hown hE hP q_556 dX3_power_72 ?_
              refine xt_i (w := nI (cA z i)) (hw.a (by omega)) ?_
              refine xw_callV (C := "NetlistBench") (n := 1) [.int (nI (cA z i))] (c_X3_quotientAt l hP (by omega) (sP_ok z (nI tm)) (by omega) (by rw [upV_dm hmi (sP_ok z (nI tm)) (show cA z i < 8 by omega) hn7, den_dm hmi]; exact pt_pos (i64_pos.mpr (de_I hw _).1) (nu_min hw _ (by omega)))) hx hb hml hown hts hE hS (xw_recv hE hP (0, 0) rfl rfl) rfl rfl q_21 q_373 q_376 q_375 q_14 (by decide) rfl ⟨by rw [hRf]; decide, by rw [hRl]; decide⟩ hl.1 rfl (Nat.le_of_ble_eq_true rfl) dX3_power_75 ⟨by rw [hRc]; omega, by rw [hRs]; omega⟩ (fun v H1 locs hp hS => ?_)
              obtain ⟨hv, hh⟩ := hp; subst hv; subst hh
              refine xt_d (w := qtD z (nI tm) (cA z i)) (by rw [upV_dm hmi (sP_ok z (nI tm)) (show cA z i < 8 by omega) hn7, den_dm hmi]; rfl) ?_
              refine lv_aload_n hx hb dX3_power_78 rfl (lv_at hl 4 rfl) ?_
              refine lv_aload hx hb dX3_power_79 (lv_at hl 0 rfl) ?_
              refine fg_X0_b (i := i) (by first | assumption | omega) hx hb hts hown hE hP q_558 dX3_power_81 ?_
              refine xt_i (w := nI (cB z i)) (hw.b (by omega)) ?_
              refine xw_callV (C := "NetlistBench") (n := 1) [.int (nI (cB z i))] (c_X3_quotientAt l hP (by omega) (sP_ok z (nI tm)) (by omega) (by rw [upV_dm hmi (sP_ok z (nI tm)) (show cB z i < 8 by omega) hn7, den_dm hmi]; exact pt_pos (i64_pos.mpr (de_I hw _).1) (nu_min hw _ (by omega)))) hx hb hml hown hts hE hS (xw_recv hE hP (0, 0) rfl rfl) rfl rfl q_21 q_373 q_376 q_375 q_14 (by decide) rfl ⟨by rw [hRf]; decide, by rw [hRl]; decide⟩ hl.1 rfl (Nat.le_of_ble_eq_true rfl) dX3_power_84 ⟨by rw [hRc]; omega, by rw [hRs]; omega⟩ (fun v H1 locs hp hS => ?_)
              obtain ⟨hv, hh⟩ := hp; subst hv; subst hh
              refine xt_d (w := qtD z (nI tm) (cB z i)) (by rw [upV_dm hmi (sP_ok z (nI tm)) (show cB z i < 8 by omega) hn7, den_dm hmi]; rfl) ?_
              refine lv_dsub hx hb dX3_power_87 (f_num (f_sub (qt_f hw (nI tm) (j := cA z i) (by omega)) (qt_f hw (nI tm) (j := cB z i) (by omega)) (by decide) (by decide))) ?_
              refine xt_d (w := dfD z (nI tm) i) (rfl) ?_
              refine lv_dstore (lv' := [(6, .double (dfD z (nI tm) i)), (5, .ref (ad (13, i))), (4, .int (nI i)), (2, .double (pwS z (nI tm) i)), (1, .int (nI tm)), (0, .ref (ad (0, 0)))]) hx hb dX3_power_88 hl (by decide) rfl (fun ls hl => ?_)
              refine lv_dload_n hx hb dX3_power_90 rfl (lv_at hl 3 rfl) ?_
              refine lv_aload hx hb dX3_power_91 (lv_at hl 1 rfl) ?_
              refine fg_X0_size (i := i) (by first | assumption | omega) hx hb hts hown hE hP q_560 dX3_power_93 ?_
              refine lv_i2d hx hb dX3_power_96 ?_
              refine lv_dload hx hb dX3_power_97 (lv_at hl 0 rfl) ?_
              refine lv_dmul hx hb dX3_power_99 (f_num (p1_f hw (nI tm) (i := i) (by omega))) ?_
              refine lv_dload hx hb dX3_power_100 (lv_at hl 0 rfl) ?_
              refine lv_dmul hx hb dX3_power_102 (f_num (pt_f hw (nI tm) (i := i) (by omega))) ?_
              refine xt_d (w := pwT z (nI tm) i) (rfl) ?_
              refine lv_dadd hx hb dX3_power_103 (f_num (f_add (pw_f hw (nI tm) i (by omega)) ((pt_f hw (nI tm) (i := i) (by omega)).le (by omega)) (by omega) (by omega))) ?_
              refine xt_d (w := pwS z (nI tm) (i + 1)) ((pwS_1 ⟨⟨c45, c54⟩, c66⟩).symm) ?_
              refine lv_dstore_n (lv' := [(2, .double (pwS z (nI tm) (i + 1))), (6, .double (dfD z (nI tm) i)), (5, .ref (ad (13, i))), (4, .int (nI i)), (1, .int (nI tm)), (0, .ref (ad (0, 0)))]) hx hb dX3_power_104 rfl hl (by decide) rfl (fun ls hl => ?_)
              refine lv_iinc (v := nI (i + 1)) (lv' := [(4, .int (nI (i + 1))), (2, .double (pwS z (nI tm) (i + 1))), (6, .double (dfD z (nI tm) i)), (5, .ref (ad (13, i))), (1, .int (nI tm)), (0, .ref (ad (0, 0)))]) hx hb dX3_power_105 hl (k := 3) rfl (nI_1 _) (by decide) rfl (fun ls hl => ?_)
              refine lv_goto (tgt := 14) hx hb dX3_power_108 (by decide) ?_
              exact ih14 (i + 1) (by omega) (by omega) _ _ _ hP hS (lv_sub hl [0, 1, 4, 5] rfl)
  exact K14 _ 0 (by omega) (Nat.lt_succ_self _) _ _ _ hP hS (lv_sub hl [0, 1, 3, 2] rfl)
