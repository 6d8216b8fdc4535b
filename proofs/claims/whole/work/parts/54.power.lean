/-! power, on both sides -/
section XD
variable {p : Program} {l : Launch} {e : Env} {R : Room} {s : State} {m : MethodId} {args : Array Value} {below : List Frame} {meth : Method} {c : Code} {H H0 : Heap} {locs : List Loc} {cells slots mc ms : Nat} {Q : State → Prop}
variable {cc : ByteArray} {pc : Nat} {ls : Array Slot} {rest : List Value} {D : va_G} {y : Nat → ClassId} {A : Nat → Prop} {post : Option Value → Heap → Prop} {pX : String → Heap → Prop}
theorem xw_dret {v : UInt64} (hexec : p.tables.exec = Jvm.exec) (hb : c.code = cc) (hr : meth.sig.returnType = some .double) (hlocks : meth.locks = false) (hH : s.heap = H0) (hS : va_S A H0 H locs) (h1 : cells ≤ mc) (h2 : slots ≤ ms) (hp : post (some (.double v)) H) (hdg : decode cc pc = .ok (.dreturn, 1)) : W p l e R s m args below meth c H locs cells slots (MQ below (xQ post A) args s mc ms A) (F0 m pc ls [.double v]) :=
  W.widen h1 h2 (W.dret hexec hb hr (fun t ht _ => xq_end hH hS hp t ht) hS.2.2 hdg hlocks)
theorem xe_dret {v : UInt64} (hQ : Q = MQ below (xQ post A) args s mc ms A) (hexec : p.tables.exec = Jvm.exec) (hb : c.code = cc) (hr : meth.sig.returnType = some .double) (hlocks : meth.locks = false) (hH : s.heap = H0) (hS : va_S A H0 H locs) (h1 : cells ≤ mc) (h2 : slots ≤ ms) (hp : post (some (.double v)) H) (hdg : decode cc pc = .ok (.dreturn, 1)) : W p l e R s m args below meth c H locs cells slots Q (F0 m pc ls [.double v]) := by
  rw [hQ]; exact xw_dret hexec hb hr hlocks hH hS h1 h2 hp hdg
theorem xx_dret {v : UInt64} (hQ : Q = vx_MQ below (xQ post A) (xX pX A) args s mc ms A) (hexec : p.tables.exec = Jvm.exec) (hb : c.code = cc) (hr : meth.sig.returnType = some .double) (hlocks : meth.locks = false) (hH : s.heap = H0) (hS : va_S A H0 H locs) (h1 : cells ≤ mc) (h2 : slots ≤ ms) (hp : post (some (.double v)) H) (hdg : decode cc pc = .ok (.dreturn, 1)) : W p l e R s m args below meth c H locs cells slots Q (F0 m pc ls [.double v]) := by
  rw [hQ]; exact vx_ret (xw_dret hexec hb hr hlocks hH hS h1 h2 hp hdg)
end XD
set_option maxHeartbeats 4000000 in
set_option maxRecDepth 100000 in
theorem c_X3_quotientAt (l : Launch) {D : va_G} {y : Nat → ClassId} {A : Nat → Prop} {ad : xL → Nat} {n : Nat} {bl : xM} {z : xC} {g : Nat → Int32} {pl : Nat → Int32} {kn : Nat → Int64} {rw : Nat → Nat → Int64} {mi : Nat → Int64} {fR fO : Nat → Nat → Option va_E} {Hs : Heap} (hP : xW D A ad (wU (wB y ad bl z g pl kn rw mi (nI n)) fR fO) Hs) (hn : n ≤ 7) (hpl : plOk pl n) {j : Nat} (hj : j < 8) (hpos : 0 < ptF (upV pl kn mi n j) (mi (2 ^ n - 1)) 0) : Met l yX3_quotientAt (.code yX3_quotientAt cX3_quotientAt 6 (some .double) :: WG) { frames := 3, cells := 0, slots := 0, locals := 64 } (xPc [.ref (ad (0, 0)), .int (nI j)] D y Hs) (xQ (fun v H1 => v = some (.double (FP.ddiv (FP.l2d (ptF (upV pl kn mi n j) (mi (2 ^ n - 1)) 1)) (FP.l2d (ptF (upV pl kn mi n j) (mi (2 ^ n - 1)) 0)))) ∧ Hs = H1) A) 0 0 A := by
  refine xM_go (by decide) (Nat.le_of_ble_eq_true rfl) (fun p e s m args below meth c ls R Q hx hb hr hlocks hml hown hts hH hE hnm hRf hRl hRc hRs hQ hS hl => ?_)
  have hRf : R.frames = 3 := hRf
  have hRl : R.locals = 64 := hRl
  have hRc : R.cells = 0 := hRc
  have hRs : R.slots = 0 := hRs
  have hl : lv_has ls 6 [(0, .ref (ad (0, 0))), (1, .int (nI j))] := hl
  refine lv_aload_n hx hb dX3_quotientAt_0 rfl (lv_at hl 0 rfl) ?_
  refine fg_X3_equations hx hb hts hown hE hP q_127 dX3_quotientAt_1 ?_
  refine lv_iload_n hx hb dX3_quotientAt_4 rfl (lv_at hl 1 rfl) ?_
  refine xw_callV (C := "NetlistBench$Equations") (n := 1) [.int (nI j)] (c_X1_upper l hP (by omega) hpl (by omega)) hx hb hml hown hts hE hS (xw_recv hE hP (6, 0) rfl rfl) rfl rfl q_47 q_273 q_276 q_274 q_275 (by decide) rfl ⟨by rw [hRf]; decide, by rw [hRl]; decide⟩ hl.1 rfl (Nat.le_of_ble_eq_true rfl) dX3_quotientAt_5 ⟨by rw [hRc]; decide, by rw [hRs]; decide⟩ (fun v H1 locs hp hS => ?_)
  obtain ⟨hv, hh⟩ := hp; subst hv; subst hh
  refine lv_aload_n hx hb dX3_quotientAt_8 rfl (lv_at hl 0 rfl) ?_
  refine fg_X3_equations hx hb hts hown hE hP q_127 dX3_quotientAt_9 ?_
  refine xw_callV (C := "NetlistBench$Equations") (n := 0) [] (c_X1_lower l hP (by omega)) hx hb hml hown hts hE hS (xw_recv hE hP (6, 0) rfl rfl) rfl rfl q_47 q_281 q_280 q_278 q_279 (by decide) rfl ⟨by rw [hRf]; decide, by rw [hRl]; decide⟩ hl.1 rfl (Nat.le_of_ble_eq_true rfl) dX3_quotientAt_12 ⟨by rw [hRc]; decide, by rw [hRs]; decide⟩ (fun v H1 locs hp hS => ?_)
  obtain ⟨hv, hh⟩ := hp; subst hv; subst hh
  refine lv_iconst (v := nI 1) hx hb dX3_quotientAt_15 (by decide) ?_
  refine xw_callS (n := 3) [.long (upV pl kn mi n j), .long (mi (2 ^ n - 1)), .int (nI 1)] (c_X3_partOf l (upV pl kn mi n j) (mi (2 ^ n - 1)) 1) hx hb hml hown hts hE hS rfl rfl q_43 q_282 q_284 q_283 (by decide) rfl ⟨by rw [hRf]; decide, by rw [hRl]; decide⟩ hl.1 rfl (Nat.le_of_ble_eq_true rfl) dX3_quotientAt_16 ⟨by rw [hRc]; decide, by rw [hRs]; decide⟩ (fun v H1 locs hp hS => ?_)
  obtain ⟨hv, hh⟩ := hp; subst hv; subst hh
  refine lv_l2d hx hb dX3_quotientAt_19 ?_
  refine lv_dstore_n (lv' := [(2, .double (FP.l2d (ptF (upV pl kn mi n j) (mi (2 ^ n - 1)) 1))), (0, .ref (ad (0, 0))), (1, .int (nI j))]) hx hb dX3_quotientAt_20 rfl hl (by decide) rfl (fun ls hl => ?_)
  refine lv_aload_n hx hb dX3_quotientAt_21 rfl (lv_at hl 1 rfl) ?_
  refine fg_X3_equations hx hb hts hown hE hP q_127 dX3_quotientAt_22 ?_
  refine lv_iload_n hx hb dX3_quotientAt_25 rfl (lv_at hl 2 rfl) ?_
  refine xw_callV (C := "NetlistBench$Equations") (n := 1) [.int (nI j)] (c_X1_upper l hP (by omega) hpl (by omega)) hx hb hml hown hts hE hS (xw_recv hE hP (6, 0) rfl rfl) rfl rfl q_47 q_273 q_276 q_274 q_275 (by decide) rfl ⟨by rw [hRf]; decide, by rw [hRl]; decide⟩ hl.1 rfl (Nat.le_of_ble_eq_true rfl) dX3_quotientAt_26 ⟨by rw [hRc]; decide, by rw [hRs]; decide⟩ (fun v H1 locs hp hS => ?_)
  obtain ⟨hv, hh⟩ := hp; subst hv; subst hh
  refine lv_aload_n hx hb dX3_quotientAt_29 rfl (lv_at hl 1 rfl) ?_
  refine fg_X3_equations hx hb hts hown hE hP q_127 dX3_quotientAt_30 ?_
  refine xw_callV (C := "NetlistBench$Equations") (n := 0) [] (c_X1_lower l hP (by omega)) hx hb hml hown hts hE hS (xw_recv hE hP (6, 0) rfl rfl) rfl rfl q_47 q_281 q_280 q_278 q_279 (by decide) rfl ⟨by rw [hRf]; decide, by rw [hRl]; decide⟩ hl.1 rfl (Nat.le_of_ble_eq_true rfl) dX3_quotientAt_33 ⟨by rw [hRc]; decide, by rw [hRs]; decide⟩ (fun v H1 locs hp hS => ?_)
  obtain ⟨hv, hh⟩ := hp; subst hv; subst hh
  refine lv_iconst (v := nI 0) hx hb dX3_quotientAt_36 (by decide) ?_
  refine xw_callS (n := 3) [.long (upV pl kn mi n j), .long (mi (2 ^ n - 1)), .int (nI 0)] (c_X3_partOf l (upV pl kn mi n j) (mi (2 ^ n - 1)) 0) hx hb hml hown hts hE hS rfl rfl q_43 q_282 q_284 q_283 (by decide) rfl ⟨by rw [hRf]; decide, by rw [hRl]; decide⟩ hl.1 rfl (Nat.le_of_ble_eq_true rfl) dX3_quotientAt_37 ⟨by rw [hRc]; decide, by rw [hRs]; decide⟩ (fun v H1 locs hp hS => ?_)
  obtain ⟨hv, hh⟩ := hp; subst hv; subst hh
  refine lv_l2d hx hb dX3_quotientAt_40 ?_
  refine lv_dstore (lv' := [(4, .double (FP.l2d (ptF (upV pl kn mi n j) (mi (2 ^ n - 1)) 0))), (2, .double (FP.l2d (ptF (upV pl kn mi n j) (mi (2 ^ n - 1)) 1))), (0, .ref (ad (0, 0))), (1, .int (nI j))]) hx hb dX3_quotientAt_41 hl (by decide) rfl (fun ls hl => ?_)
  refine lv_dload hx hb dX3_quotientAt_43 (lv_at hl 0 rfl) ?_
  refine lv_dconst0 hx hb dX3_quotientAt_45 ?_
  refine lv_dcmp hx hb dX3_quotientAt_46 ?_
  refine xt_i (w := nI 1) (by rw [f_gt hpos]; rfl) ?_
  refine lv_if_le (tgt := 57) hx hb dX3_quotientAt_47 (by decide) (fun c47 => ?_) (fun c47 => ?_)
  · skip
    have c47 := ni_le (a := 1) (b := 0) (by omega) (by omega) c47
    exfalso; omega
  · skip
    have c47 := ni_nle (a := 1) (b := 0) (by omega) (by omega) c47
    refine lv_dload_n hx hb dX3_quotientAt_50 rfl (lv_at hl 1 rfl) ?_
    refine lv_dload hx hb dX3_quotientAt_51 (lv_at hl 0 rfl) ?_
    refine lv_ddiv hx hb dX3_quotientAt_53 (f_num (f_div (f_l2d _) hpos (by decide) (by decide))) ?_
    refine lv_goto (tgt := 58) hx hb dX3_quotientAt_54 (by decide) ?_
    exact xe_dret hQ hx hb hr hlocks hH hS (Nat.le_refl _) (Nat.le_refl _) (⟨rfl, rfl⟩) dX3_quotientAt_58

set_option maxHeartbeats 4000000 in
set_option maxRecDepth 100000 in
theorem c_X3_power (l : Launch) (hls : l.stackTraces = false) {D : va_G} {y : Nat → ClassId} {A : Nat → Prop} {ad : xL → Nat} {bl : xM} {z : xC} {g : Nat → Int32} {pl : Nat → Int32} {kn : Nat → Int64} {rw : Nat → Nat → Int64} {mi : Nat → Int64} {un : Int32} {fR fO : Nat → Nat → Option va_E} {Hs : Heap} (hP : xW D A ad (wU (wB y ad bl z g pl kn rw mi un) fR fO) Hs) (hz : bOk bl z) (t : Int32) : vx_Met l yX3_power (.code yX3_power cX3_power 8 (some .double) :: WG) { frames := 7, cells := 1, slots := 6, locals := 120 } (xPcX [.ref (ad (0, 0)), .int t] D y A Hs) (xQ (fun v H1 => v = some (.double (pwS z t (nE z))) ∧ tTm t = 0 ∧ xB D A y ad bl z fR fO H1) A) (xX (fun E H1 => exA (tTm t) E ∧ xB D A y ad bl z fR fO H1) A) 1 6 A := by
  refine xM_goX (by decide) (Nat.le_of_ble_eq_true rfl) (fun p e s m args below meth c ls R Q hx hb hr hlocks hml hown hts hH hE hnm hRf hRl hRc hRs hQ hS hl hF htab => ?_)
  have hRf : R.frames = 7 := hRf
  have hRl : R.locals = 120 := hRl
  have hRc : R.cells = 1 := hRc
  have hRs : R.slots = 6 := hRs
  have hl : lv_has ls 8 [(0, .ref (ad (0, 0))), (1, .int t)] := hl
  have hw := hz.w
  have hN := hw.N
  have hE20 := hw.E
  refine lv_iload_n hx hb dX3_power_0 rfl (lv_at hl 1 rfl) ?_
  refine xx_callS (n := 1) [.int t] (c_X3_checkTime l hls t) hx hb hml hown hts hE hF hS rfl rfl q_43 q_607 q_609 q_608 (by decide) rfl ⟨by rw [hRf]; decide, by rw [hRl]; decide⟩ hl.1 rfl (Nat.le_of_ble_eq_true rfl) dX3_power_1 ⟨by rw [hRc]; omega, by rw [hRs]; omega⟩ (fun E ce q9 H1 locs hp hS hce hcv hcl => ?_) (fun v H1 locs hp hS => ?_)
  · skip
    exact xx_out hQ htab hlocks hH hS hce hcv hcl (by omega) (by omega) (⟨⟨by rw [tTm, if_pos hp.2.1], hp.1⟩, (hP.kept hp.2.2.1 hp.2.2.2).B⟩)
  obtain ⟨hv, hh, ht⟩ := hp; subst hv; subst hh; obtain ⟨tm, htl, ex⟩ := timeP_i ht; subst ex
  refine lv_aload_n hx hb dX3_power_4 rfl (lv_at hl 0 rfl) ?_
  refine lv_iload_n hx hb dX3_power_5 rfl (lv_at hl 1 rfl) ?_
  refine xw_callV (C := "NetlistBench") (n := 1) [.int (nI tm)] (c_X3_settle l hP hz (nI tm)) hx hb hml hown hts hE hS (xw_recv hE hP (0, 0) rfl rfl) rfl rfl q_43 q_197 q_200 q_199 q_5 (by decide) rfl ⟨by rw [hRf]; decide, by rw [hRl]; decide⟩ hl.1 rfl (Nat.le_of_ble_eq_true rfl) dX3_power_6 ⟨by rw [hRc]; omega, by rw [hRs]; omega⟩ (fun v H1 locs hp hS => ?_)
  obtain ⟨hv, mi', hmi, hP⟩ := hp; subst hv
  generalize H1 = H at hP hS ⊢
  have hn7 := sN_le z (nI tm)
  refine lv_dconst0 hx hb dX3_power_9 ?_
  refine lv_dstore_n (lv' := [(2, .double FP.dconst0), (0, .ref (ad (0, 0))), (1, .int (nI tm))]) hx hb dX3_power_10 rfl hl (by decide) rfl (fun ls hl => ?_)
  refine lv_iconst (v := nI 0) hx hb dX3_power_11 (by decide) ?_
  refine lv_istore (lv' := [(4, .int (nI 0)), (2, .double FP.dconst0), (0, .ref (ad (0, 0))), (1, .int (nI tm))]) hx hb dX3_power_12 hl (by decide) rfl (fun ls hl => ?_)
  have K14 : ∀ (nn : Nat), ∀ (i : Nat), (i ≤ nE z) → nE z - i < nn → ∀ (H : Heap) (locs : List Loc) (ls : Array Slot), xW D A ad (wU (wB y ad bl z ((sG z (nI tm))) ((sP z (nI tm))) ((sK z (nI tm))) ((sR z (nI tm))) mi' (nI (sN z (nI tm)))) fR fO) H → va_S A Hs H locs → lv_has ls 8 [(4, .int (nI i)), (2, .double (pwS z (nI tm) i)), (1, .int (nI tm)), (0, .ref (ad (0, 0)))] → W p l e R s m args below meth c H locs 1 6 Q (F0 m 14 ls []) := by
    intro nn
    induction nn with
    | zero => intro i hi h; exact absurd h (Nat.not_lt_zero _)
    | succ nn ih14 =>
      intro i hi hn14 H locs ls hP hS hl
      refine lv_iload hx hb dX3_power_14 (lv_at hl 0 rfl) ?_
      refine lv_aload_n hx hb dX3_power_16 rfl (lv_at hl 3 rfl) ?_
      refine fg_X3_elements hx hb hts hown hE hP q_125 dX3_power_17 ?_
      refine xw_callV (C := "java/util/ArrayList") (n := 0) [] (c_size_elements l hP ) hx hb hml hown hts hE hS (xw_recv hE hP (3, 0) rfl rfl) rfl rfl q_46 q_150 q_153 q_151 q_152 (by decide) rfl ⟨by rw [hRf]; decide, by rw [hRl]; decide⟩ hl.1 rfl (Nat.le_of_ble_eq_true rfl) dX3_power_20 ⟨by rw [hRc]; omega, by rw [hRs]; omega⟩ (fun v H1 locs hp hS => ?_)
      obtain ⟨hv, hh⟩ := hp; subst hv; subst hh
      refine lv_icmp_ge (tgt := 111) hx hb dX3_power_23 (by decide) (fun c23 => ?_) (fun c23 => ?_)
      · skip
        have c23 := ni_le (a := (nE z)) (b := i) (by omega) (by omega) c23
        refine lv_dload_n hx hb dX3_power_111 rfl (lv_at hl 1 rfl) ?_
        exact xx_dret hQ hx hb hr hlocks hH hS (by omega) (by omega) (⟨by rw [show nE z = i by omega], by rw [tTm, if_neg (not_not_intro ht)], hP.B⟩) dX3_power_112
      · skip
        have c23 := ni_nle (a := (nE z)) (b := i) (by omega) (by omega) c23
        refine lv_aload_n hx hb dX3_power_26 rfl (lv_at hl 3 rfl) ?_
        refine fg_X3_elements hx hb hts hown hE hP q_125 dX3_power_27 ?_
        refine lv_iload hx hb dX3_power_30 (lv_at hl 0 rfl) ?_
        refine xw_callV (C := "java/util/ArrayList") (n := 1) [.int (nI i)] (c_get_elements l hP hz (by omega)) hx hb hml hown hts hE hS (xw_recv hE hP (3, 0) rfl rfl) rfl rfl q_46 q_158 q_161 q_159 q_160 (by decide) rfl ⟨by rw [hRf]; decide, by rw [hRl]; decide⟩ hl.1 rfl (Nat.le_of_ble_eq_true rfl) dX3_power_32 ⟨by rw [hRc]; omega, by rw [hRs]; omega⟩ (fun v H1 locs hp hS => ?_)
        obtain ⟨hv, hh⟩ := hp; subst hv; subst hh
        refine xc_el (i := i) hx hb hts hown hE hP (by first | assumption | omega) q_177 dX3_power_35 ?_
        refine lv_astore (lv' := [(5, .ref (ad (13, i))), (4, .int (nI i)), (2, .double (pwS z (nI tm) i)), (1, .int (nI tm)), (0, .ref (ad (0, 0)))]) hx hb dX3_power_38 hl (by decide) rfl (fun ls hl => ?_)
        have ha8 : cA z i < nN z := hw.a8 (i := i) (by omega)
        have hb8 : cB z i < nN z := hw.b8 (i := i) (by omega)
        refine lv_aload hx hb dX3_power_40 (lv_at hl 0 rfl) ?_
        refine fg_X0_isSource (i := i) (by first | assumption | omega) hx hb hts hown hE hP q_509 dX3_power_42 ?_
        refine lv_if_ne (tgt := 105) hx hb dX3_power_45 (by decide) (fun c45 => ?_) (fun c45 => ?_)
        · skip
          rw [show pwS z (nI tm) i = pwS z (nI tm) (i + 1) from (pwS_0 (fun h => c45 h.1.1)).symm] at hl
          refine lv_iinc (v := nI (i + 1)) (lv' := [(4, .int (nI (i + 1))), (5, .ref (ad (13, i))), (2, .double (pwS z (nI tm) (i + 1))), (1, .int (nI tm)), (0, .ref (ad (0, 0)))]) hx hb dX3_power_105 hl (k := 1) rfl (nI_1 _) (by decide) rfl (fun ls hl => ?_)
          refine lv_goto (tgt := 14) hx hb dX3_power_108 (by decide) ?_
          exact ih14 (i + 1) (by omega) (by omega) _ _ _ hP hS (lv_sub hl [0, 2, 3, 4] rfl)
        · skip
          refine lv_aload hx hb dX3_power_48 (lv_at hl 0 rfl) ?_
          refine lv_iload_n hx hb dX3_power_50 rfl (lv_at hl 3 rfl) ?_
          refine xw_callV (C := "NetlistBench$Element") (n := 1) [.int (nI tm)] (c_X0_runsAt l hP hw (by omega) (nI tm)) hx hb hml hown hts hE hS (xr_el hE hP (by first | assumption | omega)) rfl rfl q_62 q_205 q_208 q_206 q_207 (by decide) rfl ⟨by rw [hRf]; decide, by rw [hRl]; decide⟩ hl.1 rfl (Nat.le_of_ble_eq_true rfl) dX3_power_51 ⟨by rw [hRc]; omega, by rw [hRs]; omega⟩ (fun v H1 locs hp hS => ?_)
          obtain ⟨hv, hh⟩ := hp; subst hv; subst hh
          refine lv_if_eq (tgt := 105) hx hb dX3_power_54 (by decide) (fun c54 => ?_) (fun c54 => ?_)
          · skip
            rw [show pwS z (nI tm) i = pwS z (nI tm) (i + 1) from (pwS_0 (fun h => h.1.2 c54)).symm] at hl
            refine lv_iinc (v := nI (i + 1)) (lv' := [(4, .int (nI (i + 1))), (5, .ref (ad (13, i))), (2, .double (pwS z (nI tm) (i + 1))), (1, .int (nI tm)), (0, .ref (ad (0, 0)))]) hx hb dX3_power_105 hl (k := 1) rfl (nI_1 _) (by decide) rfl (fun ls hl => ?_)
            refine lv_goto (tgt := 14) hx hb dX3_power_108 (by decide) ?_
            exact ih14 (i + 1) (by omega) (by omega) _ _ _ hP hS (lv_sub hl [0, 2, 3, 4] rfl)
          · skip
            refine lv_aload_n hx hb dX3_power_57 rfl (lv_at hl 4 rfl) ?_
            refine lv_aload hx hb dX3_power_58 (lv_at hl 0 rfl) ?_
            refine fg_X0_a (i := i) (by first | assumption | omega) hx hb hts hown hE hP q_511 dX3_power_60 ?_
            refine xt_i (w := nI (cA z i)) (hw.a (by omega)) ?_
            refine xw_callV (C := "NetlistBench") (n := 1) [.int (nI (cA z i))] (c_X3_isAfloat l hP (m8 := (gM z (nI tm))) rfl (fun j hj => gM_lt hw _ hj) hz (by omega)) hx hb hml hown hts hE hS (xw_recv hE hP (0, 0) rfl rfl) rfl rfl q_43 q_229 q_232 q_231 q_9 (by decide) rfl ⟨by rw [hRf]; decide, by rw [hRl]; decide⟩ hl.1 rfl (Nat.le_of_ble_eq_true rfl) dX3_power_63 ⟨by rw [hRc]; omega, by rw [hRs]; omega⟩ (fun v H1 locs hp hS => ?_)
            obtain ⟨hv, hh⟩ := hp; subst hv; subst hh
            refine lv_if_ne (tgt := 105) hx hb dX3_power_66 (by decide) (fun c66 => ?_) (fun c66 => ?_)
            · skip
              rw [show pwS z (nI tm) i = pwS z (nI tm) (i + 1) from (pwS_0 (fun h => c66 h.2)).symm] at hl
              refine lv_iinc (v := nI (i + 1)) (lv' := [(4, .int (nI (i + 1))), (5, .ref (ad (13, i))), (2, .double (pwS z (nI tm) (i + 1))), (1, .int (nI tm)), (0, .ref (ad (0, 0)))]) hx hb dX3_power_105 hl (k := 1) rfl (nI_1 _) (by decide) rfl (fun ls hl => ?_)
              refine lv_goto (tgt := 14) hx hb dX3_power_108 (by decide) ?_
              exact ih14 (i + 1) (by omega) (by omega) _ _ _ hP hS (lv_sub hl [0, 2, 3, 4] rfl)
            · skip
              refine lv_aload_n hx hb dX3_power_69 rfl (lv_at hl 4 rfl) ?_
              refine lv_aload hx hb dX3_power_70 (lv_at hl 0 rfl) ?_
              refine fg_X0_a (i := i) (by first | assumption | omega) hx hb hts hown hE hP q_511 dX3_power_72 ?_
              refine xt_i (w := nI (cA z i)) (hw.a (by omega)) ?_
              refine xw_callV (C := "NetlistBench") (n := 1) [.int (nI (cA z i))] (c_X3_quotientAt l hP (by omega) (sP_ok z (nI tm)) (by omega) (by rw [upV_dm hmi (sP_ok z (nI tm)) (show cA z i < 8 by omega) hn7, den_dm hmi]; exact pt_pos (i64_pos.mpr (de_I hw _).1) (nu_min hw _ (by omega)))) hx hb hml hown hts hE hS (xw_recv hE hP (0, 0) rfl rfl) rfl rfl q_43 q_675 q_678 q_677 q_24 (by decide) rfl ⟨by rw [hRf]; decide, by rw [hRl]; decide⟩ hl.1 rfl (Nat.le_of_ble_eq_true rfl) dX3_power_75 ⟨by rw [hRc]; omega, by rw [hRs]; omega⟩ (fun v H1 locs hp hS => ?_)
              obtain ⟨hv, hh⟩ := hp; subst hv; subst hh
              refine xt_d (w := qtD z (nI tm) (cA z i)) (by rw [upV_dm hmi (sP_ok z (nI tm)) (show cA z i < 8 by omega) hn7, den_dm hmi]; rfl) ?_
              refine lv_aload_n hx hb dX3_power_78 rfl (lv_at hl 4 rfl) ?_
              refine lv_aload hx hb dX3_power_79 (lv_at hl 0 rfl) ?_
              refine fg_X0_b (i := i) (by first | assumption | omega) hx hb hts hown hE hP q_513 dX3_power_81 ?_
              refine xt_i (w := nI (cB z i)) (hw.b (by omega)) ?_
              refine xw_callV (C := "NetlistBench") (n := 1) [.int (nI (cB z i))] (c_X3_quotientAt l hP (by omega) (sP_ok z (nI tm)) (by omega) (by rw [upV_dm hmi (sP_ok z (nI tm)) (show cB z i < 8 by omega) hn7, den_dm hmi]; exact pt_pos (i64_pos.mpr (de_I hw _).1) (nu_min hw _ (by omega)))) hx hb hml hown hts hE hS (xw_recv hE hP (0, 0) rfl rfl) rfl rfl q_43 q_675 q_678 q_677 q_24 (by decide) rfl ⟨by rw [hRf]; decide, by rw [hRl]; decide⟩ hl.1 rfl (Nat.le_of_ble_eq_true rfl) dX3_power_84 ⟨by rw [hRc]; omega, by rw [hRs]; omega⟩ (fun v H1 locs hp hS => ?_)
              obtain ⟨hv, hh⟩ := hp; subst hv; subst hh
              refine xt_d (w := qtD z (nI tm) (cB z i)) (by rw [upV_dm hmi (sP_ok z (nI tm)) (show cB z i < 8 by omega) hn7, den_dm hmi]; rfl) ?_
              refine lv_dsub hx hb dX3_power_87 (f_num (f_sub (qt_f hw (nI tm) (j := cA z i) (by omega)) (qt_f hw (nI tm) (j := cB z i) (by omega)) (by decide) (by decide))) ?_
              refine xt_d (w := dfD z (nI tm) i) (rfl) ?_
              refine lv_dstore (lv' := [(6, .double (dfD z (nI tm) i)), (5, .ref (ad (13, i))), (4, .int (nI i)), (2, .double (pwS z (nI tm) i)), (1, .int (nI tm)), (0, .ref (ad (0, 0)))]) hx hb dX3_power_88 hl (by decide) rfl (fun ls hl => ?_)
              refine lv_dload_n hx hb dX3_power_90 rfl (lv_at hl 3 rfl) ?_
              refine lv_aload hx hb dX3_power_91 (lv_at hl 1 rfl) ?_
              refine fg_X0_size (i := i) (by first | assumption | omega) hx hb hts hown hE hP q_515 dX3_power_93 ?_
              refine lv_i2d hx hb dX3_power_96 ?_
              refine lv_dload hx hb dX3_power_97 (lv_at hl 0 rfl) ?_
              refine lv_dmul hx hb dX3_power_99 (f_num (p1_f hw (nI tm) (i := i) (by omega))) ?_
              refine lv_dload hx hb dX3_power_100 (lv_at hl 0 rfl) ?_
              refine lv_dmul hx hb dX3_power_102 (f_num (pt_f hw (nI tm) (i := i) (by omega))) ?_
              refine xt_d (w := pwT z (nI tm) i) (rfl) ?_
              refine lv_dadd hx hb dX3_power_103 (f_num (f_add (pw_f hw (nI tm) i (by omega)) ((pt_f hw (nI tm) (i := i) (by omega)).le (by omega)) (by omega) (by omega))) ?_
              refine xt_d (w := pwS z (nI tm) (i + 1)) ((pwS_1 ⟨⟨c45, c54⟩, c66⟩).symm) ?_
              refine lv_dstore_n (lv' := [(2, .double (pwS z (nI tm) (i + 1))), (6, .double (dfD z (nI tm) i)), (5, .ref (ad (13, i))), (4, .int (nI i)), (1, .int (nI tm)), (0, .ref (ad (0, 0)))]) hx hb dX3_power_104 rfl hl (by decide) rfl (fun ls hl => ?_)
              refine lv_iinc (v := nI (i + 1)) (lv' := [(4, .int (nI (i + 1))), (2, .double (pwS z (nI tm) (i + 1))), (6, .double (dfD z (nI tm) i)), (5, .ref (ad (13, i))), (1, .int (nI tm)), (0, .ref (ad (0, 0)))]) hx hb dX3_power_105 hl (k := 3) rfl (nI_1 _) (by decide) rfl (fun ls hl => ?_)
              refine lv_goto (tgt := 14) hx hb dX3_power_108 (by decide) ?_
              exact ih14 (i + 1) (by omega) (by omega) _ _ _ hP hS (lv_sub hl [0, 1, 4, 5] rfl)
  exact K14 _ 0 (by omega) (Nat.lt_succ_self _) _ _ _ hP hS (lv_sub hl [0, 1, 3, 2] rfl)

set_option maxHeartbeats 4000000 in
set_option maxRecDepth 100000 in
theorem c_X4_potentialOf (l : Launch) {D : va_G} {y : Nat → ClassId} {A : Nat → Prop} {ad : xL → Nat} {th : Int32} {w : xC} {qp : Nat → Int32} {qm : Nat → Int64} {qr : Nat → Int64} {qi : Nat → Int64} {qn : Nat → Int64} {qf : Nat → Int32} {qu : Int32} {qd : Int64} {fB fO : Nat → Nat → Option va_E} {Hs : Heap} (hP : xW D A ad (wU fB (wR y ad th w qp qm qr qi qn qf qu qd) fO) Hs) {j : Nat} (hj : j < 8) {U V : Int64} (hU : qn j = U) (hV : qd = V) (hV0 : 0 < V) (hU0 : U ≠ Int64.minValue) : Met l yX4_potentialOf (.code yX4_potentialOf cX4_potentialOf 2 (some .double) :: WG) { frames := 3, cells := 0, slots := 0, locals := 76 } (xPc [.ref (ad (20, 0)), .int (nI j)] D y Hs) (xQ (fun v H1 => v = some (.double (FP.ddiv (FP.l2d (ptF (U) (V) 1)) (FP.l2d (ptF (U) (V) 0)))) ∧ Hs = H1) A) 0 0 A := by
  refine xM_go (by decide) (Nat.le_of_ble_eq_true rfl) (fun p e s m args below meth c ls R Q hx hb hr hlocks hml hown hts hH hE hnm hRf hRl hRc hRs hQ hS hl => ?_)
  have hRf : R.frames = 3 := hRf
  have hRl : R.locals = 76 := hRl
  have hRc : R.cells = 0 := hRc
  have hRs : R.slots = 0 := hRs
  have hl : lv_has ls 2 [(0, .ref (ad (20, 0))), (1, .int (nI j))] := hl
  refine lv_aload_n hx hb dX4_potentialOf_0 rfl (lv_at hl 0 rfl) ?_
  refine fg_X4_numerators hx hb hts hown hE hP q_746 dX4_potentialOf_1 ?_
  refine lv_iload_n hx hb dX4_potentialOf_4 rfl (lv_at hl 1 rfl) ?_
  refine al_numerators hx hb hE hP (j := j) (by omega) dX4_potentialOf_5 ?_
  refine xt_l (w := U) (hU) ?_
  refine lv_aload_n hx hb dX4_potentialOf_6 rfl (lv_at hl 0 rfl) ?_
  refine fg_X4_denominator hx hb hts hown hE hP q_745 dX4_potentialOf_7 ?_
  refine xt_l (w := V) (hV) ?_
  refine lv_iconst (v := nI 1) hx hb dX4_potentialOf_10 (by decide) ?_
  refine xw_callS (n := 3) [.long U, .long V, .int (nI 1)] (c_X4_part l U V 1 (gcdW_ne hV0 hU0)) hx hb hml hown hts hE hS rfl rfl q_48 q_909 q_911 q_910 (by decide) rfl ⟨by rw [hRf]; decide, by rw [hRl]; decide⟩ hl.1 rfl (Nat.le_of_ble_eq_true rfl) dX4_potentialOf_11 ⟨by rw [hRc]; decide, by rw [hRs]; decide⟩ (fun v H1 locs hp hS => ?_)
  obtain ⟨hv, hh⟩ := hp; subst hv; subst hh
  refine xt_l (w := ptF U V 1) (pt_eq hV0 hU0 1) ?_
  refine lv_l2d hx hb dX4_potentialOf_14 ?_
  refine lv_aload_n hx hb dX4_potentialOf_15 rfl (lv_at hl 0 rfl) ?_
  refine fg_X4_numerators hx hb hts hown hE hP q_746 dX4_potentialOf_16 ?_
  refine lv_iload_n hx hb dX4_potentialOf_19 rfl (lv_at hl 1 rfl) ?_
  refine al_numerators hx hb hE hP (j := j) (by omega) dX4_potentialOf_20 ?_
  refine xt_l (w := U) (hU) ?_
  refine lv_aload_n hx hb dX4_potentialOf_21 rfl (lv_at hl 0 rfl) ?_
  refine fg_X4_denominator hx hb hts hown hE hP q_745 dX4_potentialOf_22 ?_
  refine xt_l (w := V) (hV) ?_
  refine lv_iconst (v := nI 0) hx hb dX4_potentialOf_25 (by decide) ?_
  refine xw_callS (n := 3) [.long U, .long V, .int (nI 0)] (c_X4_part l U V 0 (gcdW_ne hV0 hU0)) hx hb hml hown hts hE hS rfl rfl q_48 q_909 q_911 q_910 (by decide) rfl ⟨by rw [hRf]; decide, by rw [hRl]; decide⟩ hl.1 rfl (Nat.le_of_ble_eq_true rfl) dX4_potentialOf_26 ⟨by rw [hRc]; decide, by rw [hRs]; decide⟩ (fun v H1 locs hp hS => ?_)
  obtain ⟨hv, hh⟩ := hp; subst hv; subst hh
  refine xt_l (w := ptF U V 0) (pt_eq hV0 hU0 0) ?_
  refine lv_l2d hx hb dX4_potentialOf_29 ?_
  refine lv_ddiv hx hb dX4_potentialOf_30 (f_num (f_div (f_l2d _) (pt_pos hV0 hU0) (by decide) (by decide))) ?_
  exact xe_dret hQ hx hb hr hlocks hH hS (Nat.le_refl _) (Nat.le_refl _) (⟨rfl, rfl⟩) dX4_potentialOf_31

set_option maxHeartbeats 4000000 in
set_option maxRecDepth 100000 in
theorem c_X4_power (l : Launch) {D : va_G} {y : Nat → ClassId} {A : Nat → Prop} {ad : xL → Nat} {th : Int32} {w : xC} {qp : Nat → Int32} {qm : Nat → Int64} {qr : Nat → Int64} {qi : Nat → Int64} {qn : Nat → Int64} {qf : Nat → Int32} {qu : Int32} {qd : Int64} {fB fO : Nat → Nat → Option va_E} {Hs : Heap} (hP : xW D A ad (wU fB (wR y ad th w qp qm qr qi qn qf qu qd) fO) Hs) {z : xC} (hq : Rq z w) (hw : wf z) (hk : nOk z) (t : Int32) : Met l yX4_power (.code yX4_power cX4_power 7 (some .double) :: WG) { frames := 5, cells := 0, slots := 0, locals := 117 } (xPc [.ref (ad (20, 0)), .int t] D y Hs) (xQ (fun v H1 => ∃ r, v = some (.double r) ∧ (tTm t = 0 → r = pwS z t (nE z)) ∧ xRf D A y ad (z) fB fO (tTm t) H1) A) 0 0 A := by
  refine xM_go (by decide) (Nat.le_of_ble_eq_true rfl) (fun p e s m args below meth c ls R Q hx hb hr hlocks hml hown hts hH hE hnm hRf hRl hRc hRs hQ hS hl => ?_)
  have hRf : R.frames = 5 := hRf
  have hRl : R.locals = 117 := hRl
  have hRc : R.cells = 0 := hRc
  have hRs : R.slots = 0 := hRs
  have hl : lv_has ls 7 [(0, .ref (ad (20, 0))), (1, .int t)] := hl
  have hN := hw.N
  have hE20 := hw.E
  refine lv_aload_n hx hb dX4_power_0 rfl (lv_at hl 0 rfl) ?_
  refine lv_iload_n hx hb dX4_power_1 rfl (lv_at hl 1 rfl) ?_
  refine xw_callS (n := 1) [.int t] (c_X4_isTime l t) hx hb hml hown hts hE hS rfl rfl q_48 q_861 q_863 q_862 (by decide) rfl ⟨by rw [hRf]; decide, by rw [hRl]; decide⟩ hl.1 rfl (Nat.le_of_ble_eq_true rfl) dX4_power_2 ⟨by rw [hRc]; decide, by rw [hRs]; decide⟩ (fun v H1 locs hp hS => ?_)
  obtain ⟨hv, hh⟩ := hp; subst hv; subst hh
  refine lv_if_eq (tgt := 12) hx hb dX4_power_5 (by decide) (fun c5 => ?_) (fun c5 => ?_)
  · skip
    have c5 := b_f c5
    refine lv_iconst (v := nI 1) hx hb dX4_power_12 (by decide) ?_
    refine fp_X4_thrown hx hb hts hown hE hS hP q_728 dX4_power_13 (fun H locs hP hS => ?_)
    refine lv_aload_n hx hb dX4_power_16 rfl (lv_at hl 0 rfl) ?_
    refine fg_X4_thrown hx hb hts hown hE hP q_728 dX4_power_17 ?_
    refine lv_if_eq (tgt := 25) hx hb dX4_power_20 (by decide) (fun c20 => ?_) (fun c20 => ?_)
    · skip
      have c20 := ni_eq (a := 1) (b := 0) (by omega) (by omega) c20
      exfalso; omega
    · skip
      have c20 := ni_ne (a := 1) (b := 0) (by omega) (by omega) c20
      refine lv_dconst0 hx hb dX4_power_23 ?_
      have eT : tTm t = nI 1 := by rw [tTm, if_pos c5]; rfl
      exact xe_dret hQ hx hb hr hlocks hH hS (Nat.le_refl _) (Nat.le_refl _) (⟨_, rfl, fun h => absurd (eT.symm.trans h) (by decide), by rw [eT]; exact hP.R hq⟩) dX4_power_24
  · skip
    have c5 := b_t c5
    obtain ⟨tm, htm, ettm⟩ := timeP_i c5
    subst ettm
    refine lv_iconst (v := nI 0) hx hb dX4_power_8 (by decide) ?_
    refine lv_goto (tgt := 13) hx hb dX4_power_9 (by decide) ?_
    refine fp_X4_thrown hx hb hts hown hE hS hP q_728 dX4_power_13 (fun H locs hP hS => ?_)
    refine lv_aload_n hx hb dX4_power_16 rfl (lv_at hl 0 rfl) ?_
    refine fg_X4_thrown hx hb hts hown hE hP q_728 dX4_power_17 ?_
    refine lv_if_eq (tgt := 25) hx hb dX4_power_20 (by decide) (fun c20 => ?_) (fun c20 => ?_)
    · skip
      have c20 := ni_eq (a := 0) (b := 0) (by omega) (by omega) c20
      refine lv_aload_n hx hb dX4_power_25 rfl (lv_at hl 0 rfl) ?_
      refine lv_iload_n hx hb dX4_power_26 rfl (lv_at hl 1 rfl) ?_
      refine xw_callV (C := "NetlistBenchModel") (n := 1) [.int (nI tm)] (c_X4_solve l hP hq hw htm) hx hb hml hown hts hE hS (xw_recv hE hP (20, 0) rfl rfl) rfl rfl q_48 q_892 q_895 q_894 q_35 (by decide) rfl ⟨by rw [hRf]; decide, by rw [hRl]; decide⟩ hl.1 rfl (Nat.le_of_ble_eq_true rfl) dX4_power_27 ⟨by rw [hRc]; decide, by rw [hRs]; decide⟩ (fun v H1 locs hp hS => ?_)
      obtain ⟨qp9, qf9, qm9, qr9, qi9, qn9, qu9, hv, hnu, hP⟩ := hp; subst hv
      generalize H1 = H at hP hS ⊢
      refine lv_dconst0 hx hb dX4_power_30 ?_
      refine lv_dstore_n (lv' := [(2, .double FP.dconst0), (0, .ref (ad (20, 0))), (1, .int (nI tm))]) hx hb dX4_power_31 rfl hl (by decide) rfl (fun ls hl => ?_)
      refine lv_iconst (v := nI 0) hx hb dX4_power_32 (by decide) ?_
      refine lv_istore (lv' := [(4, .int (nI 0)), (2, .double FP.dconst0), (0, .ref (ad (20, 0))), (1, .int (nI tm))]) hx hb dX4_power_33 hl (by decide) rfl (fun ls hl => ?_)
      have K35 : ∀ (nn : Nat), ∀ (i : Nat), (i ≤ nE z) → nE z - i < nn → ∀ (H : Heap) (locs : List Loc) (ls : Array Slot), xW D A ad (wU fB (wR y ad (nI 0) w qp9 qm9 qr9 qi9 qn9 qf9 qu9 (deR z w (nI tm))) fO) H → va_S A Hs H locs → lv_has ls 7 [(4, .int (nI i)), (2, .double (pwS z (nI tm) i)), (1, .int (nI tm)), (0, .ref (ad (20, 0)))] → W p l e R s m args below meth c H locs 0 0 Q (F0 m 35 ls []) := by
        intro nn
        induction nn with
        | zero => intro i hi h; exact absurd h (Nat.not_lt_zero _)
        | succ nn ih35 =>
          intro i hi hn35 H locs ls hP hS hl
          refine lv_iload hx hb dX4_power_35 (lv_at hl 0 rfl) ?_
          refine lv_aload_n hx hb dX4_power_37 rfl (lv_at hl 3 rfl) ?_
          refine fg_X4_elements hx hb hts hown hE hP q_732 dX4_power_38 ?_
          refine xt_i (congrArg nI hq.E) ?_
          refine lv_icmp_ge (tgt := 120) hx hb dX4_power_41 (by decide) (fun c41 => ?_) (fun c41 => ?_)
          · skip
            have c41 := ni_le (a := (nE z)) (b := i) (by omega) (by omega) c41
            rw [show i = nE z by omega] at hl
            refine lv_dload_n hx hb dX4_power_120 rfl (lv_at hl 1 rfl) ?_
            have eT : tTm (nI tm) = 0 := by rw [tTm, if_neg (not_not_intro c5)]
            exact xe_dret hQ hx hb hr hlocks hH hS (Nat.le_refl _) (Nat.le_refl _) (⟨_, rfl, fun _ => rfl, by rw [eT]; exact hP.R hq⟩) dX4_power_121
          · skip
            have c41 := ni_nle (a := (nE z)) (b := i) (by omega) (by omega) c41
            have ha8 : cA z i < nN z := hw.a8 (i := i) (by omega)
            have hb8 : cB z i < nN z := hw.b8 (i := i) (by omega)
            refine lv_aload_n hx hb dX4_power_44 rfl (lv_at hl 3 rfl) ?_
            refine lv_iload hx hb dX4_power_45 (lv_at hl 0 rfl) ?_
            refine lv_iload_n hx hb dX4_power_47 rfl (lv_at hl 2 rfl) ?_
            refine xw_callV (C := "NetlistBenchModel") (n := 2) [.int (nI i), .int (nI tm)] (c_X4_conducts l hP hq hw (by omega) htm) hx hb hml hown hts hE hS (xw_recv hE hP (20, 0) rfl rfl) rfl rfl q_48 q_876 q_879 q_878 q_33 (by decide) rfl ⟨by rw [hRf]; decide, by rw [hRl]; decide⟩ hl.1 rfl (Nat.le_of_ble_eq_true rfl) dX4_power_48 ⟨by rw [hRc]; decide, by rw [hRs]; decide⟩ (fun v H1 locs hp hS => ?_)
            obtain ⟨hv, hh⟩ := hp; subst hv; subst hh
            refine lv_if_eq (tgt := 114) hx hb dX4_power_51 (by decide) (fun c51 => ?_) (fun c51 => ?_)
            · skip
              have c51 := b_f c51
              rw [show pwS z (nI tm) i = pwS z (nI tm) (i + 1) from (pwS_0 (fun h => c51 h.1)).symm] at hl
              refine lv_iinc (v := nI (i + 1)) (lv' := [(4, .int (nI (i + 1))), (2, .double (pwS z (nI tm) (i + 1))), (1, .int (nI tm)), (0, .ref (ad (20, 0)))]) hx hb dX4_power_114 hl (k := 0) rfl (nI_1 _) (by decide) rfl (fun ls hl => ?_)
              refine lv_goto (tgt := 35) hx hb dX4_power_117 (by decide) ?_
              exact ih35 (i + 1) (by omega) (by omega) _ _ _ hP hS (lv_sub hl [0, 1, 2, 3] rfl)
            · skip
              have c51 := b_t c51
              refine lv_aload_n hx hb dX4_power_54 rfl (lv_at hl 3 rfl) ?_
              refine fg_X4_areFloating hx hb hts hown hE hP q_747 dX4_power_55 ?_
              refine lv_aload_n hx hb dX4_power_58 rfl (lv_at hl 3 rfl) ?_
              refine fg_X4_as hx hb hts hown hE hP q_734 dX4_power_59 ?_
              refine lv_iload hx hb dX4_power_62 (lv_at hl 0 rfl) ?_
              refine al_as hx hb hE hP (j := i) (by omega) dX4_power_64 ?_
              refine xt_i (hq.a hw (by first | assumption | omega)) ?_
              refine al_areFloating hx hb hE hP (j := cA z i) (by omega) dX4_power_65 ?_
              refine xt_i (w := aflI z (gM z (nI tm) (cA z i))) ((hnu (cA z i) (by omega)).2) ?_
              refine lv_if_eq (tgt := 72) hx hb dX4_power_66 (by decide) (fun c66 => ?_) (fun c66 => ?_)
              · skip
                refine lv_aload_n hx hb dX4_power_72 rfl (lv_at hl 3 rfl) ?_
                refine lv_aload_n hx hb dX4_power_73 rfl (lv_at hl 3 rfl) ?_
                refine fg_X4_as hx hb hts hown hE hP q_734 dX4_power_74 ?_
                refine lv_iload hx hb dX4_power_77 (lv_at hl 0 rfl) ?_
                refine al_as hx hb hE hP (j := i) (by omega) dX4_power_79 ?_
                refine xt_i (hq.a hw (by first | assumption | omega)) ?_
                refine xw_callV (C := "NetlistBenchModel") (n := 1) [.int (nI (cA z i))] (c_X4_potentialOf l hP (by omega) ((hnu (cA z i) (by omega)).1.trans (br_nu2 hq hw _ (by omega))) (br_de hw _) (hk _).1 (nu_min hw _ (by omega))) hx hb hml hown hts hE hS (xw_recv hE hP (20, 0) rfl rfl) rfl rfl q_48 q_932 q_935 q_934 q_39 (by decide) rfl ⟨by rw [hRf]; decide, by rw [hRl]; decide⟩ hl.1 rfl (Nat.le_of_ble_eq_true rfl) dX4_power_80 ⟨by rw [hRc]; decide, by rw [hRs]; decide⟩ (fun v H1 locs hp hS => ?_)
                obtain ⟨hv, hh⟩ := hp; subst hv; subst hh
                refine xt_d (w := qtD z (nI tm) (cA z i)) (rfl) ?_
                refine lv_aload_n hx hb dX4_power_83 rfl (lv_at hl 3 rfl) ?_
                refine lv_aload_n hx hb dX4_power_84 rfl (lv_at hl 3 rfl) ?_
                refine fg_X4_bs hx hb hts hown hE hP q_735 dX4_power_85 ?_
                refine lv_iload hx hb dX4_power_88 (lv_at hl 0 rfl) ?_
                refine al_bs hx hb hE hP (j := i) (by omega) dX4_power_90 ?_
                refine xt_i (hq.b hw (by first | assumption | omega)) ?_
                refine xw_callV (C := "NetlistBenchModel") (n := 1) [.int (nI (cB z i))] (c_X4_potentialOf l hP (by omega) ((hnu (cB z i) (by omega)).1.trans (br_nu2 hq hw _ (by omega))) (br_de hw _) (hk _).1 (nu_min hw _ (by omega))) hx hb hml hown hts hE hS (xw_recv hE hP (20, 0) rfl rfl) rfl rfl q_48 q_932 q_935 q_934 q_39 (by decide) rfl ⟨by rw [hRf]; decide, by rw [hRl]; decide⟩ hl.1 rfl (Nat.le_of_ble_eq_true rfl) dX4_power_91 ⟨by rw [hRc]; decide, by rw [hRs]; decide⟩ (fun v H1 locs hp hS => ?_)
                obtain ⟨hv, hh⟩ := hp; subst hv; subst hh
                refine xt_d (w := qtD z (nI tm) (cB z i)) (rfl) ?_
                refine lv_dsub hx hb dX4_power_94 (f_num (f_sub (qt_f hw (nI tm) (j := cA z i) (by omega)) (qt_f hw (nI tm) (j := cB z i) (by omega)) (by decide) (by decide))) ?_
                refine xt_d (w := dfD z (nI tm) i) (rfl) ?_
                refine lv_dstore (lv' := [(5, .double (dfD z (nI tm) i)), (4, .int (nI i)), (2, .double (pwS z (nI tm) i)), (1, .int (nI tm)), (0, .ref (ad (20, 0)))]) hx hb dX4_power_95 hl (by decide) rfl (fun ls hl => ?_)
                refine lv_dload_n hx hb dX4_power_97 rfl (lv_at hl 2 rfl) ?_
                refine lv_aload_n hx hb dX4_power_98 rfl (lv_at hl 4 rfl) ?_
                refine fg_X4_sizes hx hb hts hown hE hP q_736 dX4_power_99 ?_
                refine lv_iload hx hb dX4_power_102 (lv_at hl 1 rfl) ?_
                refine al_sizes hx hb hE hP (j := i) (by omega) dX4_power_104 ?_
                refine xt_i (hq.z (by first | assumption | omega)) ?_
                refine lv_i2d hx hb dX4_power_105 ?_
                refine lv_dload hx hb dX4_power_106 (lv_at hl 0 rfl) ?_
                refine lv_dmul hx hb dX4_power_108 (f_num (p1_f hw (nI tm) (i := i) (by omega))) ?_
                refine lv_dload hx hb dX4_power_109 (lv_at hl 0 rfl) ?_
                refine lv_dmul hx hb dX4_power_111 (f_num (pt_f hw (nI tm) (i := i) (by omega))) ?_
                refine xt_d (w := pwT z (nI tm) i) (rfl) ?_
                refine lv_dadd hx hb dX4_power_112 (f_num (f_add (pw_f hw (nI tm) i (by omega)) ((pt_f hw (nI tm) (i := i) (by omega)).le (by omega)) (by omega) (by omega))) ?_
                refine xt_d (w := pwS z (nI tm) (i + 1)) ((pwS_1 ⟨c51, c66⟩).symm) ?_
                refine lv_dstore_n (lv' := [(2, .double (pwS z (nI tm) (i + 1))), (5, .double (dfD z (nI tm) i)), (4, .int (nI i)), (1, .int (nI tm)), (0, .ref (ad (20, 0)))]) hx hb dX4_power_113 rfl hl (by decide) rfl (fun ls hl => ?_)
                refine lv_iinc (v := nI (i + 1)) (lv' := [(4, .int (nI (i + 1))), (2, .double (pwS z (nI tm) (i + 1))), (5, .double (dfD z (nI tm) i)), (1, .int (nI tm)), (0, .ref (ad (20, 0)))]) hx hb dX4_power_114 hl (k := 2) rfl (nI_1 _) (by decide) rfl (fun ls hl => ?_)
                refine lv_goto (tgt := 35) hx hb dX4_power_117 (by decide) ?_
                exact ih35 (i + 1) (by omega) (by omega) _ _ _ hP hS (lv_sub hl [0, 1, 3, 4] rfl)
              · skip
                rw [show pwS z (nI tm) i = pwS z (nI tm) (i + 1) from (pwS_0 (fun h => c66 h.2)).symm] at hl
                refine lv_goto (tgt := 114) hx hb dX4_power_69 (by decide) ?_
                refine lv_iinc (v := nI (i + 1)) (lv' := [(4, .int (nI (i + 1))), (2, .double (pwS z (nI tm) (i + 1))), (1, .int (nI tm)), (0, .ref (ad (20, 0)))]) hx hb dX4_power_114 hl (k := 0) rfl (nI_1 _) (by decide) rfl (fun ls hl => ?_)
                refine lv_goto (tgt := 35) hx hb dX4_power_117 (by decide) ?_
                exact ih35 (i + 1) (by omega) (by omega) _ _ _ hP hS (lv_sub hl [0, 1, 2, 3] rfl)
      exact K35 _ 0 (by omega) (Nat.lt_succ_self _) _ _ _ hP hS (lv_sub hl [0, 1, 3, 2] rfl)
    · skip
      have c20 := ni_ne (a := 0) (b := 0) (by omega) (by omega) c20
      exfalso; omega
