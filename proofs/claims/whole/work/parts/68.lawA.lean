/-! the law, case by case -/
set_option maxHeartbeats 4000000 in
set_option maxRecDepth 100000 in
theorem lc_addNode {p : Program} {l : Launch} {e : Env} {R : Room} {s : State} {m : MethodId} {args : Array Value} {below : List Frame} {meth : Method} {c : Code} {H H0 : Heap} {locs : List Loc} {Q : State → Prop} {D : va_G} {y : Nat → ClassId} {A : Nat → Prop} {e0 b L : Nat} {xs : Nat → Int32} (C0 : lc_At p l s m args meth c R D y A H0 e0 b L xs) {ad : xL → Nat} {z : xC} {j : Nat} {ls : Array Slot} (hL : L ≤ 2560) (h5 : 5 * j + 5 ≤ L) (hi : xLI D A y e0 ad z H) (hS : va_S A H0 H locs) (hl : lv_has ls 9 (lcL ad b j))
    (K : ∀ (ad' : xL → Nat) (z' : xC) (H1 : Heap) (locs1 : List Loc) (ls1 : Array Slot), xLI D A y e0 ad' z' H1 → va_S A H0 H1 locs1 → lv_has ls1 9 (lcL ad' b j) → W p l e R s m args below meth c H1 locs1 (46 + 6 * j) (1200 + 80 * j) Q (F0 m 1835 ls1 [])) : W p l e R s m args below meth c H locs (40 + 6 * j) (1120 + 80 * j) Q (F0 m 148 ls []) := by
  obtain ⟨hx, hb, hml, hown, hts, hX, hbl, hbA, hE, hF, hG, hN, hls, hRf, hRl, hRc, hRs⟩ := C0
  obtain ⟨bl, g, pl, kn, rw, mi, un, th, w, qp, qm, qr, qi, qn, qf, qu, qd, oj, od, hP, hq, hz, h0n, h0e⟩ := hi
  have hl : lv_has ls 9 [(0, .ref b), (1, .ref (ad (0, 0))), (2, .ref (ad (20, 0))), (3, .ref (ad (40, 0))), (4, .ref (ad (41, 0))), (5, .int (nI (5 * j)))] := hl
  obtain ⟨v1, hv1⟩ : ∃ v, v = xs (nI (5 * j + 1)).toNatClampNeg := ⟨_, rfl⟩
  obtain ⟨v2, hv2⟩ : ∃ v, v = xs (nI (5 * j + 2)).toNatClampNeg := ⟨_, rfl⟩
  obtain ⟨v3, hv3⟩ : ∃ v, v = xs (nI (5 * j + 3)).toNatClampNeg := ⟨_, rfl⟩
  obtain ⟨v4, hv4⟩ : ∃ v, v = xs (nI (5 * j + 4)).toNatClampNeg := ⟨_, rfl⟩
  refine lv_aload_n hx hb dL_law_148 rfl (lv_at hl 1 rfl) ?_
  refine lv_aload_n hx hb dL_law_149 rfl (lv_at hl 3 rfl) ?_
  refine xl_callS (n := 2) [.ref (ad (0, 0)), .ref (ad (40, 0))] (c_L_addNode l hls hP hz h0n h0e) hx hb hml hown hts hE hF hG hN hS rfl rfl q_42 q_300 q_302 q_301 (by decide) rfl ⟨by rw [hRf]; decide, by rw [hRl]; decide⟩ hl.1 rfl (Nat.le_of_ble_eq_true rfl) dL_law_150 ⟨by rw [hRc]; omega, by rw [hRs]; omega⟩ (fun v H1 locs hp hS => ?_)
  obtain ⟨hv, ad', bl', oj', k1, k2, k3, k4, k5, k6, g2, pl2, kn2, rw2, mi2, un2, hP⟩ := hp; subst hv; generalize H1 = H at hP hS ⊢
  have hP : xW D A ad' (wU (wB y ad' bl' (if tAddNode z = 0 then zAddNode z else z) g2 pl2 kn2 rw2 mi2 un2) (wR y ad' th w qp qm qr qi qn qf qu qd) (wO y oj' od)) H := hP.ct (by rw [wR_ad k1])
  have hl : lv_has ls 9 [(0, .ref b), (1, .ref (ad' (0, 0))), (2, .ref (ad' (20, 0))), (3, .ref (ad' (40, 0))), (4, .ref (ad' (41, 0))), (5, .int (nI (5 * j)))] := by rw [k2, k1 (20, 0) (by decide), k1 (40, 0) (by decide), k1 (41, 0) (by decide)]; exact hl
  refine lv_istore (lv' := [(6, .int (tAddNode z)), (0, .ref b), (1, .ref (ad' (0, 0))), (2, .ref (ad' (20, 0))), (3, .ref (ad' (40, 0))), (4, .ref (ad' (41, 0))), (5, .int (nI (5 * j)))]) hx hb dL_law_153 hl (by decide) rfl (fun ls hl => ?_)
  refine lv_aload_n hx hb dL_law_155 rfl (lv_at hl 3 rfl) ?_
  refine xw_callV (C := "NetlistBenchModel") (n := 0) [] (c_X4_addNode l hP hq hz.w  ) hx hb hml hown hts hE hS (xw_recv hE hP (20, 0) rfl rfl) rfl rfl q_48 q_794 q_797 q_795 q_796 (by decide) rfl ⟨by rw [hRf]; decide, by rw [hRl]; decide⟩ hl.1 rfl (Nat.le_of_ble_eq_true rfl) dL_law_156 ⟨by rw [hRc]; omega, by rw [hRs]; omega⟩ (fun v H1 locs hp hS => ?_)
  obtain ⟨r, hv, hr2, w2, qp2, qm2, qr2, qi2, qn2, qf2, qu2, qd2, hq2, hP⟩ := hp; subst hv; generalize H1 = H at hP hS ⊢
  refine lv_istore (lv' := [(7, .int r), (6, .int (tAddNode z)), (0, .ref b), (1, .ref (ad' (0, 0))), (2, .ref (ad' (20, 0))), (3, .ref (ad' (40, 0))), (4, .ref (ad' (41, 0))), (5, .int (nI (5 * j)))]) hx hb dL_law_159 hl (by decide) rfl (fun ls hl => ?_)
  refine lv_aload_n hx hb dL_law_161 rfl (lv_at hl 4 rfl) ?_
  refine xw_callV (C := "NetlistBenchModel") (n := 0) [] (c_X4_thrown l hP) hx hb hml hown hts hE hS (xw_recv hE hP (20, 0) rfl rfl) rfl rfl q_48 q_790 q_793 q_791 q_792 (by decide) rfl ⟨by rw [hRf]; decide, by rw [hRl]; decide⟩ hl.1 rfl (Nat.le_of_ble_eq_true rfl) dL_law_162 ⟨by rw [hRc]; omega, by rw [hRs]; omega⟩ (fun v H1 locs hp hS => ?_)
  obtain ⟨hv, hh⟩ := hp; subst hv; subst hh
  refine lv_iload hx hb dL_law_165 (lv_at hl 1 rfl) ?_
  refine lv_icmp_eq (tgt := 172) hx hb dL_law_167 (by decide) (fun _ => ?_) (fun h => absurd rfl h)
  refine lv_iload hx hb dL_law_172 (lv_at hl 1 rfl) ?_
  refine lv_if_ne (tgt := 189) hx hb dL_law_174 (by decide) (fun h0 => ?_) (fun h0 => ?_)
  · refine lv_goto (tgt := 1835) hx hb dL_law_189 (by decide) ?_
    exact W.widen (k := 46 + 6 * j) (n := 1200 + 80 * j) (by omega) (by omega) (K ad' (if tAddNode z = 0 then zAddNode z else z) _ _ _ ⟨bl', g2, pl2, kn2, rw2, mi2, un2, _, w2, qp2, qm2, qr2, qi2, qn2, qf2, qu2, qd2, oj', od, hP, hq2, k5, k3, k4⟩ hS (lv_sub hl [2, 3, 4, 5, 6, 7] rfl))
  refine lv_aload_n hx hb dL_law_177 rfl (lv_at hl 5 rfl) ?_
  refine lv_iconst (v := nI 0) hx hb dL_law_178 (by decide) ?_
  refine xo_lald hx hb hE hP rfl dL_law_179 ?_
  refine lv_iload hx hb dL_law_180 (lv_at hl 0 rfl) ?_
  refine lv_i2l (v := r.toInt64) hx hb dL_law_182 rfl ?_
  refine W.lcmp hx hb dL_law_183 ?_
  refine xt_i (w := 0) (by rw [k6 h0, hr2 h0]; exact lgc _) ?_
  refine lv_if_eq (tgt := 189) hx hb dL_law_184 (by decide) (fun _ => ?_) (fun h => absurd rfl h)
  refine lv_goto (tgt := 1835) hx hb dL_law_189 (by decide) ?_
  exact W.widen (k := 46 + 6 * j) (n := 1200 + 80 * j) (by omega) (by omega) (K ad' (if tAddNode z = 0 then zAddNode z else z) _ _ _ ⟨bl', g2, pl2, kn2, rw2, mi2, un2, _, w2, qp2, qm2, qr2, qi2, qn2, qf2, qu2, qd2, oj', od, hP, hq2, k5, k3, k4⟩ hS (lv_sub hl [2, 3, 4, 5, 6, 7] rfl))

set_option maxHeartbeats 4000000 in
set_option maxRecDepth 100000 in
theorem lc_rail {p : Program} {l : Launch} {e : Env} {R : Room} {s : State} {m : MethodId} {args : Array Value} {below : List Frame} {meth : Method} {c : Code} {H H0 : Heap} {locs : List Loc} {Q : State → Prop} {D : va_G} {y : Nat → ClassId} {A : Nat → Prop} {e0 b L : Nat} {xs : Nat → Int32} (C0 : lc_At p l s m args meth c R D y A H0 e0 b L xs) {ad : xL → Nat} {z : xC} {j : Nat} {ls : Array Slot} (hL : L ≤ 2560) (h5 : 5 * j + 5 ≤ L) (hi : xLI D A y e0 ad z H) (hS : va_S A H0 H locs) (hl : lv_has ls 9 (lcL ad b j))
    (K : ∀ (ad' : xL → Nat) (z' : xC) (H1 : Heap) (locs1 : List Loc) (ls1 : Array Slot), xLI D A y e0 ad' z' H1 → va_S A H0 H1 locs1 → lv_has ls1 9 (lcL ad' b j) → W p l e R s m args below meth c H1 locs1 (46 + 6 * j) (1200 + 80 * j) Q (F0 m 1835 ls1 [])) : W p l e R s m args below meth c H locs (40 + 6 * j) (1120 + 80 * j) Q (F0 m 192 ls []) := by
  obtain ⟨hx, hb, hml, hown, hts, hX, hbl, hbA, hE, hF, hG, hN, hls, hRf, hRl, hRc, hRs⟩ := C0
  obtain ⟨bl, g, pl, kn, rw, mi, un, th, w, qp, qm, qr, qi, qn, qf, qu, qd, oj, od, hP, hq, hz, h0n, h0e⟩ := hi
  have hl : lv_has ls 9 [(0, .ref b), (1, .ref (ad (0, 0))), (2, .ref (ad (20, 0))), (3, .ref (ad (40, 0))), (4, .ref (ad (41, 0))), (5, .int (nI (5 * j)))] := hl
  obtain ⟨v1, hv1⟩ : ∃ v, v = xs (nI (5 * j + 1)).toNatClampNeg := ⟨_, rfl⟩
  obtain ⟨v2, hv2⟩ : ∃ v, v = xs (nI (5 * j + 2)).toNatClampNeg := ⟨_, rfl⟩
  obtain ⟨v3, hv3⟩ : ∃ v, v = xs (nI (5 * j + 3)).toNatClampNeg := ⟨_, rfl⟩
  obtain ⟨v4, hv4⟩ : ∃ v, v = xs (nI (5 * j + 4)).toNatClampNeg := ⟨_, rfl⟩
  refine lv_aload_n hx hb dL_law_192 rfl (lv_at hl 1 rfl) ?_
  refine lw_arg (k := 1) hx hb hX hbl hbA hS hL (by omega) (lv_at hl 0 rfl) (lv_at hl 5 rfl) dL_law_193 dL_law_194 dL_law_196 (by decide) dL_law_197 dL_law_198 ?_
  refine xt_i hv1.symm ?_
  refine lw_arg (k := 2) hx hb hX hbl hbA hS hL (by omega) (lv_at hl 0 rfl) (lv_at hl 5 rfl) dL_law_199 dL_law_200 dL_law_202 (by decide) dL_law_203 dL_law_204 ?_
  refine xt_i hv2.symm ?_
  refine lw_b01 hx hb dL_law_205 dL_law_208 dL_law_209 dL_law_212 ?_
  refine lw_arg (k := 3) hx hb hX hbl hbA hS hL (by omega) (lv_at hl 0 rfl) (lv_at hl 5 rfl) dL_law_213 dL_law_214 dL_law_216 (by decide) dL_law_217 dL_law_218 ?_
  refine xt_i hv3.symm ?_
  refine lv_aload_n hx hb dL_law_219 rfl (lv_at hl 3 rfl) ?_
  refine xl_callS (n := 5) [.ref (ad (0, 0)), .int v1, .int (b01 v2), .int v3, .ref (ad (40, 0))] (c_L_rail l hls hP hz h0n h0e (x := v1) (b := (b01 v2)) (k := v3) (b01_01 v2)) hx hb hml hown hts hE hF hG hN hS rfl rfl q_42 q_446 q_448 q_447 (by decide) rfl ⟨by rw [hRf]; decide, by rw [hRl]; decide⟩ hl.1 rfl (Nat.le_of_ble_eq_true rfl) dL_law_220 ⟨by rw [hRc]; omega, by rw [hRs]; omega⟩ (fun v H1 locs hp hS => ?_)
  obtain ⟨hv, ad', bl', oj', k1, k2, k3, k4, k5, k6, g2, pl2, kn2, rw2, mi2, un2, hP⟩ := hp; subst hv; generalize H1 = H at hP hS ⊢
  have hP : xW D A ad' (wU (wB y ad' bl' (if tRail z v1 (b01 v2) v3 = 0 then zRail z (clN v1) (b01 v2) v3 else z) g2 pl2 kn2 rw2 mi2 un2) (wR y ad' th w qp qm qr qi qn qf qu qd) (wO y oj' od)) H := hP.ct (by rw [wR_ad k1])
  have hl : lv_has ls 9 [(0, .ref b), (1, .ref (ad' (0, 0))), (2, .ref (ad' (20, 0))), (3, .ref (ad' (40, 0))), (4, .ref (ad' (41, 0))), (5, .int (nI (5 * j)))] := by rw [k2, k1 (20, 0) (by decide), k1 (40, 0) (by decide), k1 (41, 0) (by decide)]; exact hl
  refine lv_istore (lv' := [(6, .int (tRail z v1 (b01 v2) v3)), (0, .ref b), (1, .ref (ad' (0, 0))), (2, .ref (ad' (20, 0))), (3, .ref (ad' (40, 0))), (4, .ref (ad' (41, 0))), (5, .int (nI (5 * j)))]) hx hb dL_law_223 hl (by decide) rfl (fun ls hl => ?_)
  refine lv_aload_n hx hb dL_law_225 rfl (lv_at hl 3 rfl) ?_
  refine lw_arg (k := 1) hx hb hX hbl hbA hS hL (by omega) (lv_at hl 1 rfl) (lv_at hl 6 rfl) dL_law_226 dL_law_227 dL_law_229 (by decide) dL_law_230 dL_law_231 ?_
  refine xt_i hv1.symm ?_
  refine lw_arg (k := 2) hx hb hX hbl hbA hS hL (by omega) (lv_at hl 1 rfl) (lv_at hl 6 rfl) dL_law_232 dL_law_233 dL_law_235 (by decide) dL_law_236 dL_law_237 ?_
  refine xt_i hv2.symm ?_
  refine lw_b01 hx hb dL_law_238 dL_law_241 dL_law_242 dL_law_245 ?_
  refine lw_arg (k := 3) hx hb hX hbl hbA hS hL (by omega) (lv_at hl 1 rfl) (lv_at hl 6 rfl) dL_law_246 dL_law_247 dL_law_249 (by decide) dL_law_250 dL_law_251 ?_
  refine xt_i hv3.symm ?_
  refine xw_callV (C := "NetlistBenchModel") (n := 3) [.int v1, .int (b01 v2), .int v3] (c_X4_rail l hP hq hz.w  v1 (b01 v2) v3 (b01_01 v2)) hx hb hml hown hts hE hS (xw_recv hE hP (20, 0) rfl rfl) rfl rfl q_48 q_802 q_805 q_803 q_804 (by decide) rfl ⟨by rw [hRf]; decide, by rw [hRl]; decide⟩ hl.1 rfl (Nat.le_of_ble_eq_true rfl) dL_law_252 ⟨by rw [hRc]; omega, by rw [hRs]; omega⟩ (fun v H1 locs hp hS => ?_)
  obtain ⟨r, hv, hr2, w2, qp2, qm2, qr2, qi2, qn2, qf2, qu2, qd2, hq2, hP⟩ := hp; subst hv; generalize H1 = H at hP hS ⊢
  refine lv_istore (lv' := [(7, .int r), (6, .int (tRail z v1 (b01 v2) v3)), (0, .ref b), (1, .ref (ad' (0, 0))), (2, .ref (ad' (20, 0))), (3, .ref (ad' (40, 0))), (4, .ref (ad' (41, 0))), (5, .int (nI (5 * j)))]) hx hb dL_law_255 hl (by decide) rfl (fun ls hl => ?_)
  refine lv_aload_n hx hb dL_law_257 rfl (lv_at hl 4 rfl) ?_
  refine xw_callV (C := "NetlistBenchModel") (n := 0) [] (c_X4_thrown l hP) hx hb hml hown hts hE hS (xw_recv hE hP (20, 0) rfl rfl) rfl rfl q_48 q_790 q_793 q_791 q_792 (by decide) rfl ⟨by rw [hRf]; decide, by rw [hRl]; decide⟩ hl.1 rfl (Nat.le_of_ble_eq_true rfl) dL_law_258 ⟨by rw [hRc]; omega, by rw [hRs]; omega⟩ (fun v H1 locs hp hS => ?_)
  obtain ⟨hv, hh⟩ := hp; subst hv; subst hh
  refine lv_iload hx hb dL_law_261 (lv_at hl 1 rfl) ?_
  refine lv_icmp_eq (tgt := 268) hx hb dL_law_263 (by decide) (fun _ => ?_) (fun h => absurd rfl h)
  refine lv_iload hx hb dL_law_268 (lv_at hl 1 rfl) ?_
  refine lv_if_ne (tgt := 292) hx hb dL_law_270 (by decide) (fun h0 => ?_) (fun h0 => ?_)
  · refine lv_goto (tgt := 1835) hx hb dL_law_292 (by decide) ?_
    exact W.widen (k := 46 + 6 * j) (n := 1200 + 80 * j) (by omega) (by omega) (K ad' (if tRail z v1 (b01 v2) v3 = 0 then zRail z (clN v1) (b01 v2) v3 else z) _ _ _ ⟨bl', g2, pl2, kn2, rw2, mi2, un2, _, w2, qp2, qm2, qr2, qi2, qn2, qf2, qu2, qd2, oj', od, hP, hq2, k5, k3, k4⟩ hS (lv_sub hl [2, 3, 4, 5, 6, 7] rfl))
  refine lv_aload_n hx hb dL_law_273 rfl (lv_at hl 5 rfl) ?_
  refine lv_iconst (v := nI 0) hx hb dL_law_274 (by decide) ?_
  refine xo_lald hx hb hE hP rfl dL_law_275 ?_
  refine lv_iload hx hb dL_law_276 (lv_at hl 0 rfl) ?_
  refine lw_bL hx hb dL_law_278 dL_law_281 dL_law_282 dL_law_285 ?_
  refine W.lcmp hx hb dL_law_286 ?_
  refine xt_i (w := 0) (by rw [k6 h0, hr2 h0]; exact lgc _) ?_
  refine lv_if_eq (tgt := 292) hx hb dL_law_287 (by decide) (fun _ => ?_) (fun h => absurd rfl h)
  refine lv_goto (tgt := 1835) hx hb dL_law_292 (by decide) ?_
  exact W.widen (k := 46 + 6 * j) (n := 1200 + 80 * j) (by omega) (by omega) (K ad' (if tRail z v1 (b01 v2) v3 = 0 then zRail z (clN v1) (b01 v2) v3 else z) _ _ _ ⟨bl', g2, pl2, kn2, rw2, mi2, un2, _, w2, qp2, qm2, qr2, qi2, qn2, qf2, qu2, qd2, oj', od, hP, hq2, k5, k3, k4⟩ hS (lv_sub hl [2, 3, 4, 5, 6, 7] rfl))

set_option maxHeartbeats 4000000 in
set_option maxRecDepth 100000 in
theorem lc_addElement {p : Program} {l : Launch} {e : Env} {R : Room} {s : State} {m : MethodId} {args : Array Value} {below : List Frame} {meth : Method} {c : Code} {H H0 : Heap} {locs : List Loc} {Q : State → Prop} {D : va_G} {y : Nat → ClassId} {A : Nat → Prop} {e0 b L : Nat} {xs : Nat → Int32} (C0 : lc_At p l s m args meth c R D y A H0 e0 b L xs) {ad : xL → Nat} {z : xC} {j : Nat} {ls : Array Slot} (hL : L ≤ 2560) (h5 : 5 * j + 5 ≤ L) (hi : xLI D A y e0 ad z H) (hS : va_S A H0 H locs) (hl : lv_has ls 9 (lcL ad b j))
    (K : ∀ (ad' : xL → Nat) (z' : xC) (H1 : Heap) (locs1 : List Loc) (ls1 : Array Slot), xLI D A y e0 ad' z' H1 → va_S A H0 H1 locs1 → lv_has ls1 9 (lcL ad' b j) → W p l e R s m args below meth c H1 locs1 (46 + 6 * j) (1200 + 80 * j) Q (F0 m 1835 ls1 [])) : W p l e R s m args below meth c H locs (40 + 6 * j) (1120 + 80 * j) Q (F0 m 295 ls []) := by
  obtain ⟨hx, hb, hml, hown, hts, hX, hbl, hbA, hE, hF, hG, hN, hls, hRf, hRl, hRc, hRs⟩ := C0
  obtain ⟨bl, g, pl, kn, rw, mi, un, th, w, qp, qm, qr, qi, qn, qf, qu, qd, oj, od, hP, hq, hz, h0n, h0e⟩ := hi
  have hl : lv_has ls 9 [(0, .ref b), (1, .ref (ad (0, 0))), (2, .ref (ad (20, 0))), (3, .ref (ad (40, 0))), (4, .ref (ad (41, 0))), (5, .int (nI (5 * j)))] := hl
  obtain ⟨v1, hv1⟩ : ∃ v, v = xs (nI (5 * j + 1)).toNatClampNeg := ⟨_, rfl⟩
  obtain ⟨v2, hv2⟩ : ∃ v, v = xs (nI (5 * j + 2)).toNatClampNeg := ⟨_, rfl⟩
  obtain ⟨v3, hv3⟩ : ∃ v, v = xs (nI (5 * j + 3)).toNatClampNeg := ⟨_, rfl⟩
  obtain ⟨v4, hv4⟩ : ∃ v, v = xs (nI (5 * j + 4)).toNatClampNeg := ⟨_, rfl⟩
  refine lv_aload_n hx hb dL_law_295 rfl (lv_at hl 1 rfl) ?_
  refine lw_arg (k := 1) hx hb hX hbl hbA hS hL (by omega) (lv_at hl 0 rfl) (lv_at hl 5 rfl) dL_law_296 dL_law_297 dL_law_299 (by decide) dL_law_300 dL_law_301 ?_
  refine xt_i hv1.symm ?_
  refine lw_b01 hx hb dL_law_302 dL_law_305 dL_law_306 dL_law_309 ?_
  refine lw_arg (k := 2) hx hb hX hbl hbA hS hL (by omega) (lv_at hl 0 rfl) (lv_at hl 5 rfl) dL_law_310 dL_law_311 dL_law_313 (by decide) dL_law_314 dL_law_315 ?_
  refine xt_i hv2.symm ?_
  refine lw_arg (k := 3) hx hb hX hbl hbA hS hL (by omega) (lv_at hl 0 rfl) (lv_at hl 5 rfl) dL_law_316 dL_law_317 dL_law_319 (by decide) dL_law_320 dL_law_321 ?_
  refine xt_i hv3.symm ?_
  refine lw_arg (k := 4) hx hb hX hbl hbA hS hL (by omega) (lv_at hl 0 rfl) (lv_at hl 5 rfl) dL_law_322 dL_law_323 dL_law_325 (by decide) dL_law_326 dL_law_327 ?_
  refine xt_i hv4.symm ?_
  refine lv_aload_n hx hb dL_law_328 rfl (lv_at hl 3 rfl) ?_
  refine xl_callS (n := 6) [.ref (ad (0, 0)), .int (b01 v1), .int v2, .int v3, .int v4, .ref (ad (40, 0))] (c_L_addElement l hls hP hz h0n h0e (sr := (b01 v1)) (a := v2) (b := v3) (x := v4) (b01_01 v1)) hx hb hml hown hts hE hF hG hN hS rfl rfl q_42 q_491 q_493 q_492 (by decide) rfl ⟨by rw [hRf]; decide, by rw [hRl]; decide⟩ hl.1 rfl (Nat.le_of_ble_eq_true rfl) dL_law_329 ⟨by rw [hRc]; omega, by rw [hRs]; omega⟩ (fun v H1 locs hp hS => ?_)
  obtain ⟨hv, ad', bl', oj', k1, k2, k3, k4, k5, k6, g2, pl2, kn2, rw2, mi2, un2, hP⟩ := hp; subst hv; generalize H1 = H at hP hS ⊢
  have hP : xW D A ad' (wU (wB y ad' bl' (if tAddEl z (b01 v1) v2 v3 v4 = 0 then zAddEl z (b01 v1) v2 v3 v4 else z) g2 pl2 kn2 rw2 mi2 un2) (wR y ad' th w qp qm qr qi qn qf qu qd) (wO y oj' od)) H := hP.ct (by rw [wR_ad k1])
  have hl : lv_has ls 9 [(0, .ref b), (1, .ref (ad' (0, 0))), (2, .ref (ad' (20, 0))), (3, .ref (ad' (40, 0))), (4, .ref (ad' (41, 0))), (5, .int (nI (5 * j)))] := by rw [k2, k1 (20, 0) (by decide), k1 (40, 0) (by decide), k1 (41, 0) (by decide)]; exact hl
  refine lv_istore (lv' := [(6, .int (tAddEl z (b01 v1) v2 v3 v4)), (0, .ref b), (1, .ref (ad' (0, 0))), (2, .ref (ad' (20, 0))), (3, .ref (ad' (40, 0))), (4, .ref (ad' (41, 0))), (5, .int (nI (5 * j)))]) hx hb dL_law_332 hl (by decide) rfl (fun ls hl => ?_)
  refine lv_aload_n hx hb dL_law_334 rfl (lv_at hl 3 rfl) ?_
  refine lw_arg (k := 1) hx hb hX hbl hbA hS hL (by omega) (lv_at hl 1 rfl) (lv_at hl 6 rfl) dL_law_335 dL_law_336 dL_law_338 (by decide) dL_law_339 dL_law_340 ?_
  refine xt_i hv1.symm ?_
  refine lw_b01 hx hb dL_law_341 dL_law_344 dL_law_345 dL_law_348 ?_
  refine lw_arg (k := 2) hx hb hX hbl hbA hS hL (by omega) (lv_at hl 1 rfl) (lv_at hl 6 rfl) dL_law_349 dL_law_350 dL_law_352 (by decide) dL_law_353 dL_law_354 ?_
  refine xt_i hv2.symm ?_
  refine lw_arg (k := 3) hx hb hX hbl hbA hS hL (by omega) (lv_at hl 1 rfl) (lv_at hl 6 rfl) dL_law_355 dL_law_356 dL_law_358 (by decide) dL_law_359 dL_law_360 ?_
  refine xt_i hv3.symm ?_
  refine lw_arg (k := 4) hx hb hX hbl hbA hS hL (by omega) (lv_at hl 1 rfl) (lv_at hl 6 rfl) dL_law_361 dL_law_362 dL_law_364 (by decide) dL_law_365 dL_law_366 ?_
  refine xt_i hv4.symm ?_
  refine xw_callV (C := "NetlistBenchModel") (n := 4) [.int (b01 v1), .int v2, .int v3, .int v4] (c_X4_addElement l hP hq hz.w  (b01 v1) v2 v3 v4 (b01_01 v1)) hx hb hml hown hts hE hS (xw_recv hE hP (20, 0) rfl rfl) rfl rfl q_48 q_813 q_816 q_814 q_815 (by decide) rfl ⟨by rw [hRf]; decide, by rw [hRl]; decide⟩ hl.1 rfl (Nat.le_of_ble_eq_true rfl) dL_law_367 ⟨by rw [hRc]; omega, by rw [hRs]; omega⟩ (fun v H1 locs hp hS => ?_)
  obtain ⟨r, hv, hr2, w2, qp2, qm2, qr2, qi2, qn2, qf2, qu2, qd2, hq2, hP⟩ := hp; subst hv; generalize H1 = H at hP hS ⊢
  refine lv_istore (lv' := [(7, .int r), (6, .int (tAddEl z (b01 v1) v2 v3 v4)), (0, .ref b), (1, .ref (ad' (0, 0))), (2, .ref (ad' (20, 0))), (3, .ref (ad' (40, 0))), (4, .ref (ad' (41, 0))), (5, .int (nI (5 * j)))]) hx hb dL_law_370 hl (by decide) rfl (fun ls hl => ?_)
  refine lv_aload_n hx hb dL_law_372 rfl (lv_at hl 4 rfl) ?_
  refine xw_callV (C := "NetlistBenchModel") (n := 0) [] (c_X4_thrown l hP) hx hb hml hown hts hE hS (xw_recv hE hP (20, 0) rfl rfl) rfl rfl q_48 q_790 q_793 q_791 q_792 (by decide) rfl ⟨by rw [hRf]; decide, by rw [hRl]; decide⟩ hl.1 rfl (Nat.le_of_ble_eq_true rfl) dL_law_373 ⟨by rw [hRc]; omega, by rw [hRs]; omega⟩ (fun v H1 locs hp hS => ?_)
  obtain ⟨hv, hh⟩ := hp; subst hv; subst hh
  refine lv_iload hx hb dL_law_376 (lv_at hl 1 rfl) ?_
  refine lv_icmp_eq (tgt := 383) hx hb dL_law_378 (by decide) (fun _ => ?_) (fun h => absurd rfl h)
  refine lv_iload hx hb dL_law_383 (lv_at hl 1 rfl) ?_
  refine lv_if_ne (tgt := 400) hx hb dL_law_385 (by decide) (fun h0 => ?_) (fun h0 => ?_)
  · refine lv_goto (tgt := 1835) hx hb dL_law_400 (by decide) ?_
    exact W.widen (k := 46 + 6 * j) (n := 1200 + 80 * j) (by omega) (by omega) (K ad' (if tAddEl z (b01 v1) v2 v3 v4 = 0 then zAddEl z (b01 v1) v2 v3 v4 else z) _ _ _ ⟨bl', g2, pl2, kn2, rw2, mi2, un2, _, w2, qp2, qm2, qr2, qi2, qn2, qf2, qu2, qd2, oj', od, hP, hq2, k5, k3, k4⟩ hS (lv_sub hl [2, 3, 4, 5, 6, 7] rfl))
  refine lv_aload_n hx hb dL_law_388 rfl (lv_at hl 5 rfl) ?_
  refine lv_iconst (v := nI 0) hx hb dL_law_389 (by decide) ?_
  refine xo_lald hx hb hE hP rfl dL_law_390 ?_
  refine lv_iload hx hb dL_law_391 (lv_at hl 0 rfl) ?_
  refine lv_i2l (v := r.toInt64) hx hb dL_law_393 rfl ?_
  refine W.lcmp hx hb dL_law_394 ?_
  refine xt_i (w := 0) (by rw [k6 h0, hr2 h0]; exact lgc _) ?_
  refine lv_if_eq (tgt := 400) hx hb dL_law_395 (by decide) (fun _ => ?_) (fun h => absurd rfl h)
  refine lv_goto (tgt := 1835) hx hb dL_law_400 (by decide) ?_
  exact W.widen (k := 46 + 6 * j) (n := 1200 + 80 * j) (by omega) (by omega) (K ad' (if tAddEl z (b01 v1) v2 v3 v4 = 0 then zAddEl z (b01 v1) v2 v3 v4 else z) _ _ _ ⟨bl', g2, pl2, kn2, rw2, mi2, un2, _, w2, qp2, qm2, qr2, qi2, qn2, qf2, qu2, qd2, oj', od, hP, hq2, k5, k3, k4⟩ hS (lv_sub hl [2, 3, 4, 5, 6, 7] rfl))

set_option maxHeartbeats 4000000 in
set_option maxRecDepth 100000 in
theorem lc_resize {p : Program} {l : Launch} {e : Env} {R : Room} {s : State} {m : MethodId} {args : Array Value} {below : List Frame} {meth : Method} {c : Code} {H H0 : Heap} {locs : List Loc} {Q : State → Prop} {D : va_G} {y : Nat → ClassId} {A : Nat → Prop} {e0 b L : Nat} {xs : Nat → Int32} (C0 : lc_At p l s m args meth c R D y A H0 e0 b L xs) {ad : xL → Nat} {z : xC} {j : Nat} {ls : Array Slot} (hL : L ≤ 2560) (h5 : 5 * j + 5 ≤ L) (hi : xLI D A y e0 ad z H) (hS : va_S A H0 H locs) (hl : lv_has ls 9 (lcL ad b j))
    (K : ∀ (ad' : xL → Nat) (z' : xC) (H1 : Heap) (locs1 : List Loc) (ls1 : Array Slot), xLI D A y e0 ad' z' H1 → va_S A H0 H1 locs1 → lv_has ls1 9 (lcL ad' b j) → W p l e R s m args below meth c H1 locs1 (46 + 6 * j) (1200 + 80 * j) Q (F0 m 1835 ls1 [])) : W p l e R s m args below meth c H locs (40 + 6 * j) (1120 + 80 * j) Q (F0 m 403 ls []) := by
  obtain ⟨hx, hb, hml, hown, hts, hX, hbl, hbA, hE, hF, hG, hN, hls, hRf, hRl, hRc, hRs⟩ := C0
  obtain ⟨bl, g, pl, kn, rw, mi, un, th, w, qp, qm, qr, qi, qn, qf, qu, qd, oj, od, hP, hq, hz, h0n, h0e⟩ := hi
  have hl : lv_has ls 9 [(0, .ref b), (1, .ref (ad (0, 0))), (2, .ref (ad (20, 0))), (3, .ref (ad (40, 0))), (4, .ref (ad (41, 0))), (5, .int (nI (5 * j)))] := hl
  obtain ⟨v1, hv1⟩ : ∃ v, v = xs (nI (5 * j + 1)).toNatClampNeg := ⟨_, rfl⟩
  obtain ⟨v2, hv2⟩ : ∃ v, v = xs (nI (5 * j + 2)).toNatClampNeg := ⟨_, rfl⟩
  obtain ⟨v3, hv3⟩ : ∃ v, v = xs (nI (5 * j + 3)).toNatClampNeg := ⟨_, rfl⟩
  obtain ⟨v4, hv4⟩ : ∃ v, v = xs (nI (5 * j + 4)).toNatClampNeg := ⟨_, rfl⟩
  refine lv_aload_n hx hb dL_law_403 rfl (lv_at hl 1 rfl) ?_
  refine lw_arg (k := 1) hx hb hX hbl hbA hS hL (by omega) (lv_at hl 0 rfl) (lv_at hl 5 rfl) dL_law_404 dL_law_405 dL_law_407 (by decide) dL_law_408 dL_law_409 ?_
  refine xt_i hv1.symm ?_
  refine lw_arg (k := 2) hx hb hX hbl hbA hS hL (by omega) (lv_at hl 0 rfl) (lv_at hl 5 rfl) dL_law_410 dL_law_411 dL_law_413 (by decide) dL_law_414 dL_law_415 ?_
  refine xt_i hv2.symm ?_
  refine lv_aload_n hx hb dL_law_416 rfl (lv_at hl 3 rfl) ?_
  refine xl_callS (n := 4) [.ref (ad (0, 0)), .int v1, .int v2, .ref (ad (40, 0))] (c_L_resize l hls hP hz h0n h0e (x := v1) (k := v2)) hx hb hml hown hts hE hF hG hN hS rfl rfl q_42 q_536 q_538 q_537 (by decide) rfl ⟨by rw [hRf]; decide, by rw [hRl]; decide⟩ hl.1 rfl (Nat.le_of_ble_eq_true rfl) dL_law_417 ⟨by rw [hRc]; omega, by rw [hRs]; omega⟩ (fun v H1 locs hp hS => ?_)
  obtain ⟨hv, ad', bl', oj', k1, k2, k3, k4, k5, k6, g2, pl2, kn2, rw2, mi2, un2, hP⟩ := hp; subst hv; generalize H1 = H at hP hS ⊢
  have hP : xW D A ad' (wU (wB y ad' bl' (if tRes z v1 v2 = 0 then s_eZ z (upd (eZ z) (clN v1) v2) else z) g2 pl2 kn2 rw2 mi2 un2) (wR y ad' th w qp qm qr qi qn qf qu qd) (wO y oj' od)) H := hP.ct (by rw [wR_ad k1])
  have hl : lv_has ls 9 [(0, .ref b), (1, .ref (ad' (0, 0))), (2, .ref (ad' (20, 0))), (3, .ref (ad' (40, 0))), (4, .ref (ad' (41, 0))), (5, .int (nI (5 * j)))] := by rw [k2, k1 (20, 0) (by decide), k1 (40, 0) (by decide), k1 (41, 0) (by decide)]; exact hl
  refine lv_istore (lv' := [(6, .int (tRes z v1 v2)), (0, .ref b), (1, .ref (ad' (0, 0))), (2, .ref (ad' (20, 0))), (3, .ref (ad' (40, 0))), (4, .ref (ad' (41, 0))), (5, .int (nI (5 * j)))]) hx hb dL_law_420 hl (by decide) rfl (fun ls hl => ?_)
  refine lv_aload_n hx hb dL_law_422 rfl (lv_at hl 3 rfl) ?_
  refine lw_arg (k := 1) hx hb hX hbl hbA hS hL (by omega) (lv_at hl 1 rfl) (lv_at hl 6 rfl) dL_law_423 dL_law_424 dL_law_426 (by decide) dL_law_427 dL_law_428 ?_
  refine xt_i hv1.symm ?_
  refine lw_arg (k := 2) hx hb hX hbl hbA hS hL (by omega) (lv_at hl 1 rfl) (lv_at hl 6 rfl) dL_law_429 dL_law_430 dL_law_432 (by decide) dL_law_433 dL_law_434 ?_
  refine xt_i hv2.symm ?_
  refine xw_callV (C := "NetlistBenchModel") (n := 2) [.int v1, .int v2] (c_X4_resize l hP hq hz.w  v1 v2) hx hb hml hown hts hE hS (xw_recv hE hP (20, 0) rfl rfl) rfl rfl q_48 q_820 q_823 q_821 q_822 (by decide) rfl ⟨by rw [hRf]; decide, by rw [hRl]; decide⟩ hl.1 rfl (Nat.le_of_ble_eq_true rfl) dL_law_435 ⟨by rw [hRc]; omega, by rw [hRs]; omega⟩ (fun v H1 locs hp hS => ?_)
  obtain ⟨r, hv, hr2, w2, qp2, qm2, qr2, qi2, qn2, qf2, qu2, qd2, hq2, hP⟩ := hp; subst hv; generalize H1 = H at hP hS ⊢
  refine lv_istore (lv' := [(7, .int r), (6, .int (tRes z v1 v2)), (0, .ref b), (1, .ref (ad' (0, 0))), (2, .ref (ad' (20, 0))), (3, .ref (ad' (40, 0))), (4, .ref (ad' (41, 0))), (5, .int (nI (5 * j)))]) hx hb dL_law_438 hl (by decide) rfl (fun ls hl => ?_)
  refine lv_aload_n hx hb dL_law_440 rfl (lv_at hl 4 rfl) ?_
  refine xw_callV (C := "NetlistBenchModel") (n := 0) [] (c_X4_thrown l hP) hx hb hml hown hts hE hS (xw_recv hE hP (20, 0) rfl rfl) rfl rfl q_48 q_790 q_793 q_791 q_792 (by decide) rfl ⟨by rw [hRf]; decide, by rw [hRl]; decide⟩ hl.1 rfl (Nat.le_of_ble_eq_true rfl) dL_law_441 ⟨by rw [hRc]; omega, by rw [hRs]; omega⟩ (fun v H1 locs hp hS => ?_)
  obtain ⟨hv, hh⟩ := hp; subst hv; subst hh
  refine lv_iload hx hb dL_law_444 (lv_at hl 1 rfl) ?_
  refine lv_icmp_eq (tgt := 451) hx hb dL_law_446 (by decide) (fun _ => ?_) (fun h => absurd rfl h)
  refine lv_iload hx hb dL_law_451 (lv_at hl 1 rfl) ?_
  refine lv_if_ne (tgt := 468) hx hb dL_law_453 (by decide) (fun h0 => ?_) (fun h0 => ?_)
  · refine lv_goto (tgt := 1835) hx hb dL_law_468 (by decide) ?_
    exact W.widen (k := 46 + 6 * j) (n := 1200 + 80 * j) (by omega) (by omega) (K ad' (if tRes z v1 v2 = 0 then s_eZ z (upd (eZ z) (clN v1) v2) else z) _ _ _ ⟨bl', g2, pl2, kn2, rw2, mi2, un2, _, w2, qp2, qm2, qr2, qi2, qn2, qf2, qu2, qd2, oj', od, hP, hq2, k5, k3, k4⟩ hS (lv_sub hl [2, 3, 4, 5, 6, 7] rfl))
  refine lv_aload_n hx hb dL_law_456 rfl (lv_at hl 5 rfl) ?_
  refine lv_iconst (v := nI 0) hx hb dL_law_457 (by decide) ?_
  refine xo_lald hx hb hE hP rfl dL_law_458 ?_
  refine lv_iload hx hb dL_law_459 (lv_at hl 0 rfl) ?_
  refine lv_i2l (v := r.toInt64) hx hb dL_law_461 rfl ?_
  refine W.lcmp hx hb dL_law_462 ?_
  refine xt_i (w := 0) (by rw [k6 h0, hr2 h0]; exact lgc _) ?_
  refine lv_if_eq (tgt := 468) hx hb dL_law_463 (by decide) (fun _ => ?_) (fun h => absurd rfl h)
  refine lv_goto (tgt := 1835) hx hb dL_law_468 (by decide) ?_
  exact W.widen (k := 46 + 6 * j) (n := 1200 + 80 * j) (by omega) (by omega) (K ad' (if tRes z v1 v2 = 0 then s_eZ z (upd (eZ z) (clN v1) v2) else z) _ _ _ ⟨bl', g2, pl2, kn2, rw2, mi2, un2, _, w2, qp2, qm2, qr2, qi2, qn2, qf2, qu2, qd2, oj', od, hP, hq2, k5, k3, k4⟩ hS (lv_sub hl [2, 3, 4, 5, 6, 7] rfl))

set_option maxHeartbeats 4000000 in
set_option maxRecDepth 100000 in
theorem lc_begin {p : Program} {l : Launch} {e : Env} {R : Room} {s : State} {m : MethodId} {args : Array Value} {below : List Frame} {meth : Method} {c : Code} {H H0 : Heap} {locs : List Loc} {Q : State → Prop} {D : va_G} {y : Nat → ClassId} {A : Nat → Prop} {e0 b L : Nat} {xs : Nat → Int32} (C0 : lc_At p l s m args meth c R D y A H0 e0 b L xs) {ad : xL → Nat} {z : xC} {j : Nat} {ls : Array Slot} (hL : L ≤ 2560) (h5 : 5 * j + 5 ≤ L) (hi : xLI D A y e0 ad z H) (hS : va_S A H0 H locs) (hl : lv_has ls 9 (lcL ad b j))
    (K : ∀ (ad' : xL → Nat) (z' : xC) (H1 : Heap) (locs1 : List Loc) (ls1 : Array Slot), xLI D A y e0 ad' z' H1 → va_S A H0 H1 locs1 → lv_has ls1 9 (lcL ad' b j) → W p l e R s m args below meth c H1 locs1 (46 + 6 * j) (1200 + 80 * j) Q (F0 m 1835 ls1 [])) : W p l e R s m args below meth c H locs (40 + 6 * j) (1120 + 80 * j) Q (F0 m 471 ls []) := by
  obtain ⟨hx, hb, hml, hown, hts, hX, hbl, hbA, hE, hF, hG, hN, hls, hRf, hRl, hRc, hRs⟩ := C0
  obtain ⟨bl, g, pl, kn, rw, mi, un, th, w, qp, qm, qr, qi, qn, qf, qu, qd, oj, od, hP, hq, hz, h0n, h0e⟩ := hi
  have hl : lv_has ls 9 [(0, .ref b), (1, .ref (ad (0, 0))), (2, .ref (ad (20, 0))), (3, .ref (ad (40, 0))), (4, .ref (ad (41, 0))), (5, .int (nI (5 * j)))] := hl
  obtain ⟨v1, hv1⟩ : ∃ v, v = xs (nI (5 * j + 1)).toNatClampNeg := ⟨_, rfl⟩
  obtain ⟨v2, hv2⟩ : ∃ v, v = xs (nI (5 * j + 2)).toNatClampNeg := ⟨_, rfl⟩
  obtain ⟨v3, hv3⟩ : ∃ v, v = xs (nI (5 * j + 3)).toNatClampNeg := ⟨_, rfl⟩
  obtain ⟨v4, hv4⟩ : ∃ v, v = xs (nI (5 * j + 4)).toNatClampNeg := ⟨_, rfl⟩
  refine lv_aload_n hx hb dL_law_471 rfl (lv_at hl 1 rfl) ?_
  refine lw_arg (k := 1) hx hb hX hbl hbA hS hL (by omega) (lv_at hl 0 rfl) (lv_at hl 5 rfl) dL_law_472 dL_law_473 dL_law_475 (by decide) dL_law_476 dL_law_477 ?_
  refine xt_i hv1.symm ?_
  refine lw_arg (k := 2) hx hb hX hbl hbA hS hL (by omega) (lv_at hl 0 rfl) (lv_at hl 5 rfl) dL_law_478 dL_law_479 dL_law_481 (by decide) dL_law_482 dL_law_483 ?_
  refine xt_i hv2.symm ?_
  refine lw_b01 hx hb dL_law_484 dL_law_487 dL_law_488 dL_law_491 ?_
  refine lv_aload_n hx hb dL_law_492 rfl (lv_at hl 3 rfl) ?_
  refine xl_callS (n := 4) [.ref (ad (0, 0)), .int v1, .int (b01 v2), .ref (ad (40, 0))] (c_L_begin l hls hP hz h0n h0e (x := v1) (b := (b01 v2)) (b01_01 v2)) hx hb hml hown hts hE hF hG hN hS rfl rfl q_42 q_548 q_550 q_549 (by decide) rfl ⟨by rw [hRf]; decide, by rw [hRl]; decide⟩ hl.1 rfl (Nat.le_of_ble_eq_true rfl) dL_law_493 ⟨by rw [hRc]; omega, by rw [hRs]; omega⟩ (fun v H1 locs hp hS => ?_)
  obtain ⟨hv, ad', bl', oj', k1, k2, k3, k4, k5, k6, g2, pl2, kn2, rw2, mi2, un2, hP⟩ := hp; subst hv; generalize H1 = H at hP hS ⊢
  have hP : xW D A ad' (wU (wB y ad' bl' (if tBeg z v1 = 0 then s_eO z (upd (eO z) (clN v1) (b01 v2)) else z) g2 pl2 kn2 rw2 mi2 un2) (wR y ad' th w qp qm qr qi qn qf qu qd) (wO y oj' od)) H := hP.ct (by rw [wR_ad k1])
  have hl : lv_has ls 9 [(0, .ref b), (1, .ref (ad' (0, 0))), (2, .ref (ad' (20, 0))), (3, .ref (ad' (40, 0))), (4, .ref (ad' (41, 0))), (5, .int (nI (5 * j)))] := by rw [k2, k1 (20, 0) (by decide), k1 (40, 0) (by decide), k1 (41, 0) (by decide)]; exact hl
  refine lv_istore (lv' := [(6, .int (tBeg z v1)), (0, .ref b), (1, .ref (ad' (0, 0))), (2, .ref (ad' (20, 0))), (3, .ref (ad' (40, 0))), (4, .ref (ad' (41, 0))), (5, .int (nI (5 * j)))]) hx hb dL_law_496 hl (by decide) rfl (fun ls hl => ?_)
  refine lv_aload_n hx hb dL_law_498 rfl (lv_at hl 3 rfl) ?_
  refine lw_arg (k := 1) hx hb hX hbl hbA hS hL (by omega) (lv_at hl 1 rfl) (lv_at hl 6 rfl) dL_law_499 dL_law_500 dL_law_502 (by decide) dL_law_503 dL_law_504 ?_
  refine xt_i hv1.symm ?_
  refine lw_arg (k := 2) hx hb hX hbl hbA hS hL (by omega) (lv_at hl 1 rfl) (lv_at hl 6 rfl) dL_law_505 dL_law_506 dL_law_508 (by decide) dL_law_509 dL_law_510 ?_
  refine xt_i hv2.symm ?_
  refine lw_b01 hx hb dL_law_511 dL_law_514 dL_law_515 dL_law_518 ?_
  refine xw_callV (C := "NetlistBenchModel") (n := 2) [.int v1, .int (b01 v2)] (c_X4_begin l hP hq hz.w  v1 (b01 v2) (b01_01 v2)) hx hb hml hown hts hE hS (xw_recv hE hP (20, 0) rfl rfl) rfl rfl q_48 q_828 q_831 q_829 q_830 (by decide) rfl ⟨by rw [hRf]; decide, by rw [hRl]; decide⟩ hl.1 rfl (Nat.le_of_ble_eq_true rfl) dL_law_519 ⟨by rw [hRc]; omega, by rw [hRs]; omega⟩ (fun v H1 locs hp hS => ?_)
  obtain ⟨r, hv, hr2, w2, qp2, qm2, qr2, qi2, qn2, qf2, qu2, qd2, hq2, hP⟩ := hp; subst hv; generalize H1 = H at hP hS ⊢
  refine lv_istore (lv' := [(7, .int r), (6, .int (tBeg z v1)), (0, .ref b), (1, .ref (ad' (0, 0))), (2, .ref (ad' (20, 0))), (3, .ref (ad' (40, 0))), (4, .ref (ad' (41, 0))), (5, .int (nI (5 * j)))]) hx hb dL_law_522 hl (by decide) rfl (fun ls hl => ?_)
  refine lv_aload_n hx hb dL_law_524 rfl (lv_at hl 4 rfl) ?_
  refine xw_callV (C := "NetlistBenchModel") (n := 0) [] (c_X4_thrown l hP) hx hb hml hown hts hE hS (xw_recv hE hP (20, 0) rfl rfl) rfl rfl q_48 q_790 q_793 q_791 q_792 (by decide) rfl ⟨by rw [hRf]; decide, by rw [hRl]; decide⟩ hl.1 rfl (Nat.le_of_ble_eq_true rfl) dL_law_525 ⟨by rw [hRc]; omega, by rw [hRs]; omega⟩ (fun v H1 locs hp hS => ?_)
  obtain ⟨hv, hh⟩ := hp; subst hv; subst hh
  refine lv_iload hx hb dL_law_528 (lv_at hl 1 rfl) ?_
  refine lv_icmp_eq (tgt := 535) hx hb dL_law_530 (by decide) (fun _ => ?_) (fun h => absurd rfl h)
  refine lv_iload hx hb dL_law_535 (lv_at hl 1 rfl) ?_
  refine lv_if_ne (tgt := 559) hx hb dL_law_537 (by decide) (fun h0 => ?_) (fun h0 => ?_)
  · refine lv_goto (tgt := 1835) hx hb dL_law_559 (by decide) ?_
    exact W.widen (k := 46 + 6 * j) (n := 1200 + 80 * j) (by omega) (by omega) (K ad' (if tBeg z v1 = 0 then s_eO z (upd (eO z) (clN v1) (b01 v2)) else z) _ _ _ ⟨bl', g2, pl2, kn2, rw2, mi2, un2, _, w2, qp2, qm2, qr2, qi2, qn2, qf2, qu2, qd2, oj', od, hP, hq2, k5, k3, k4⟩ hS (lv_sub hl [2, 3, 4, 5, 6, 7] rfl))
  refine lv_aload_n hx hb dL_law_540 rfl (lv_at hl 5 rfl) ?_
  refine lv_iconst (v := nI 0) hx hb dL_law_541 (by decide) ?_
  refine xo_lald hx hb hE hP rfl dL_law_542 ?_
  refine lv_iload hx hb dL_law_543 (lv_at hl 0 rfl) ?_
  refine lw_bL hx hb dL_law_545 dL_law_548 dL_law_549 dL_law_552 ?_
  refine W.lcmp hx hb dL_law_553 ?_
  refine xt_i (w := 0) (by rw [k6 h0, hr2 h0]; exact lgc _) ?_
  refine lv_if_eq (tgt := 559) hx hb dL_law_554 (by decide) (fun _ => ?_) (fun h => absurd rfl h)
  refine lv_goto (tgt := 1835) hx hb dL_law_559 (by decide) ?_
  exact W.widen (k := 46 + 6 * j) (n := 1200 + 80 * j) (by omega) (by omega) (K ad' (if tBeg z v1 = 0 then s_eO z (upd (eO z) (clN v1) (b01 v2)) else z) _ _ _ ⟨bl', g2, pl2, kn2, rw2, mi2, un2, _, w2, qp2, qm2, qr2, qi2, qn2, qf2, qu2, qd2, oj', od, hP, hq2, k5, k3, k4⟩ hS (lv_sub hl [2, 3, 4, 5, 6, 7] rfl))

set_option maxHeartbeats 4000000 in
set_option maxRecDepth 100000 in
theorem lc_toggle {p : Program} {l : Launch} {e : Env} {R : Room} {s : State} {m : MethodId} {args : Array Value} {below : List Frame} {meth : Method} {c : Code} {H H0 : Heap} {locs : List Loc} {Q : State → Prop} {D : va_G} {y : Nat → ClassId} {A : Nat → Prop} {e0 b L : Nat} {xs : Nat → Int32} (C0 : lc_At p l s m args meth c R D y A H0 e0 b L xs) {ad : xL → Nat} {z : xC} {j : Nat} {ls : Array Slot} (hL : L ≤ 2560) (h5 : 5 * j + 5 ≤ L) (hi : xLI D A y e0 ad z H) (hS : va_S A H0 H locs) (hl : lv_has ls 9 (lcL ad b j))
    (K : ∀ (ad' : xL → Nat) (z' : xC) (H1 : Heap) (locs1 : List Loc) (ls1 : Array Slot), xLI D A y e0 ad' z' H1 → va_S A H0 H1 locs1 → lv_has ls1 9 (lcL ad' b j) → W p l e R s m args below meth c H1 locs1 (46 + 6 * j) (1200 + 80 * j) Q (F0 m 1835 ls1 [])) : W p l e R s m args below meth c H locs (40 + 6 * j) (1120 + 80 * j) Q (F0 m 562 ls []) := by
  obtain ⟨hx, hb, hml, hown, hts, hX, hbl, hbA, hE, hF, hG, hN, hls, hRf, hRl, hRc, hRs⟩ := C0
  obtain ⟨bl, g, pl, kn, rw, mi, un, th, w, qp, qm, qr, qi, qn, qf, qu, qd, oj, od, hP, hq, hz, h0n, h0e⟩ := hi
  have hl : lv_has ls 9 [(0, .ref b), (1, .ref (ad (0, 0))), (2, .ref (ad (20, 0))), (3, .ref (ad (40, 0))), (4, .ref (ad (41, 0))), (5, .int (nI (5 * j)))] := hl
  obtain ⟨v1, hv1⟩ : ∃ v, v = xs (nI (5 * j + 1)).toNatClampNeg := ⟨_, rfl⟩
  obtain ⟨v2, hv2⟩ : ∃ v, v = xs (nI (5 * j + 2)).toNatClampNeg := ⟨_, rfl⟩
  obtain ⟨v3, hv3⟩ : ∃ v, v = xs (nI (5 * j + 3)).toNatClampNeg := ⟨_, rfl⟩
  obtain ⟨v4, hv4⟩ : ∃ v, v = xs (nI (5 * j + 4)).toNatClampNeg := ⟨_, rfl⟩
  refine lv_aload_n hx hb dL_law_562 rfl (lv_at hl 1 rfl) ?_
  refine lw_arg (k := 1) hx hb hX hbl hbA hS hL (by omega) (lv_at hl 0 rfl) (lv_at hl 5 rfl) dL_law_563 dL_law_564 dL_law_566 (by decide) dL_law_567 dL_law_568 ?_
  refine xt_i hv1.symm ?_
  refine lw_arg (k := 2) hx hb hX hbl hbA hS hL (by omega) (lv_at hl 0 rfl) (lv_at hl 5 rfl) dL_law_569 dL_law_570 dL_law_572 (by decide) dL_law_573 dL_law_574 ?_
  refine xt_i hv2.symm ?_
  refine lv_aload_n hx hb dL_law_575 rfl (lv_at hl 3 rfl) ?_
  refine xl_callS (n := 4) [.ref (ad (0, 0)), .int v1, .int v2, .ref (ad (40, 0))] (c_L_toggle l hls hP hz h0n h0e (x := v1) (t := v2)) hx hb hml hown hts hE hF hG hN hS rfl rfl q_42 q_555 q_557 q_556 (by decide) rfl ⟨by rw [hRf]; decide, by rw [hRl]; decide⟩ hl.1 rfl (Nat.le_of_ble_eq_true rfl) dL_law_576 ⟨by rw [hRc]; omega, by rw [hRs]; omega⟩ (fun v H1 locs hp hS => ?_)
  obtain ⟨hv, ad', bl', oj', k1, k2, k3, k4, k5, k6, g2, pl2, kn2, rw2, mi2, un2, hP⟩ := hp; subst hv; generalize H1 = H at hP hS ⊢
  have hP : xW D A ad' (wU (wB y ad' bl' (if tTog z v1 v2 = 0 then zTog z (clN v1) v2 else z) g2 pl2 kn2 rw2 mi2 un2) (wR y ad' th w qp qm qr qi qn qf qu qd) (wO y oj' od)) H := hP.ct (by rw [wR_ad k1])
  have hl : lv_has ls 9 [(0, .ref b), (1, .ref (ad' (0, 0))), (2, .ref (ad' (20, 0))), (3, .ref (ad' (40, 0))), (4, .ref (ad' (41, 0))), (5, .int (nI (5 * j)))] := by rw [k2, k1 (20, 0) (by decide), k1 (40, 0) (by decide), k1 (41, 0) (by decide)]; exact hl
  refine lv_istore (lv' := [(6, .int (tTog z v1 v2)), (0, .ref b), (1, .ref (ad' (0, 0))), (2, .ref (ad' (20, 0))), (3, .ref (ad' (40, 0))), (4, .ref (ad' (41, 0))), (5, .int (nI (5 * j)))]) hx hb dL_law_579 hl (by decide) rfl (fun ls hl => ?_)
  refine lv_aload_n hx hb dL_law_581 rfl (lv_at hl 3 rfl) ?_
  refine lw_arg (k := 1) hx hb hX hbl hbA hS hL (by omega) (lv_at hl 1 rfl) (lv_at hl 6 rfl) dL_law_582 dL_law_583 dL_law_585 (by decide) dL_law_586 dL_law_587 ?_
  refine xt_i hv1.symm ?_
  refine lw_arg (k := 2) hx hb hX hbl hbA hS hL (by omega) (lv_at hl 1 rfl) (lv_at hl 6 rfl) dL_law_588 dL_law_589 dL_law_591 (by decide) dL_law_592 dL_law_593 ?_
  refine xt_i hv2.symm ?_
  refine xw_callV (C := "NetlistBenchModel") (n := 2) [.int v1, .int v2] (c_X4_toggle l hP hq hz.w  v1 v2) hx hb hml hown hts hE hS (xw_recv hE hP (20, 0) rfl rfl) rfl rfl q_48 q_832 q_835 q_833 q_834 (by decide) rfl ⟨by rw [hRf]; decide, by rw [hRl]; decide⟩ hl.1 rfl (Nat.le_of_ble_eq_true rfl) dL_law_594 ⟨by rw [hRc]; omega, by rw [hRs]; omega⟩ (fun v H1 locs hp hS => ?_)
  obtain ⟨r, hv, hr2, w2, qp2, qm2, qr2, qi2, qn2, qf2, qu2, qd2, hq2, hP⟩ := hp; subst hv; generalize H1 = H at hP hS ⊢
  refine lv_istore (lv' := [(7, .int r), (6, .int (tTog z v1 v2)), (0, .ref b), (1, .ref (ad' (0, 0))), (2, .ref (ad' (20, 0))), (3, .ref (ad' (40, 0))), (4, .ref (ad' (41, 0))), (5, .int (nI (5 * j)))]) hx hb dL_law_597 hl (by decide) rfl (fun ls hl => ?_)
  refine lv_aload_n hx hb dL_law_599 rfl (lv_at hl 4 rfl) ?_
  refine xw_callV (C := "NetlistBenchModel") (n := 0) [] (c_X4_thrown l hP) hx hb hml hown hts hE hS (xw_recv hE hP (20, 0) rfl rfl) rfl rfl q_48 q_790 q_793 q_791 q_792 (by decide) rfl ⟨by rw [hRf]; decide, by rw [hRl]; decide⟩ hl.1 rfl (Nat.le_of_ble_eq_true rfl) dL_law_600 ⟨by rw [hRc]; omega, by rw [hRs]; omega⟩ (fun v H1 locs hp hS => ?_)
  obtain ⟨hv, hh⟩ := hp; subst hv; subst hh
  refine lv_iload hx hb dL_law_603 (lv_at hl 1 rfl) ?_
  refine lv_icmp_eq (tgt := 610) hx hb dL_law_605 (by decide) (fun _ => ?_) (fun h => absurd rfl h)
  refine lv_iload hx hb dL_law_610 (lv_at hl 1 rfl) ?_
  refine lv_if_ne (tgt := 627) hx hb dL_law_612 (by decide) (fun h0 => ?_) (fun h0 => ?_)
  · refine lv_goto (tgt := 1835) hx hb dL_law_627 (by decide) ?_
    exact W.widen (k := 46 + 6 * j) (n := 1200 + 80 * j) (by omega) (by omega) (K ad' (if tTog z v1 v2 = 0 then zTog z (clN v1) v2 else z) _ _ _ ⟨bl', g2, pl2, kn2, rw2, mi2, un2, _, w2, qp2, qm2, qr2, qi2, qn2, qf2, qu2, qd2, oj', od, hP, hq2, k5, k3, k4⟩ hS (lv_sub hl [2, 3, 4, 5, 6, 7] rfl))
  refine lv_aload_n hx hb dL_law_615 rfl (lv_at hl 5 rfl) ?_
  refine lv_iconst (v := nI 0) hx hb dL_law_616 (by decide) ?_
  refine xo_lald hx hb hE hP rfl dL_law_617 ?_
  refine lv_iload hx hb dL_law_618 (lv_at hl 0 rfl) ?_
  refine lv_i2l (v := r.toInt64) hx hb dL_law_620 rfl ?_
  refine W.lcmp hx hb dL_law_621 ?_
  refine xt_i (w := 0) (by rw [k6 h0, hr2 h0]; exact lgc _) ?_
  refine lv_if_eq (tgt := 627) hx hb dL_law_622 (by decide) (fun _ => ?_) (fun h => absurd rfl h)
  refine lv_goto (tgt := 1835) hx hb dL_law_627 (by decide) ?_
  exact W.widen (k := 46 + 6 * j) (n := 1200 + 80 * j) (by omega) (by omega) (K ad' (if tTog z v1 v2 = 0 then zTog z (clN v1) v2 else z) _ _ _ ⟨bl', g2, pl2, kn2, rw2, mi2, un2, _, w2, qp2, qm2, qr2, qi2, qn2, qf2, qu2, qd2, oj', od, hP, hq2, k5, k3, k4⟩ hS (lv_sub hl [2, 3, 4, 5, 6, 7] rfl))
