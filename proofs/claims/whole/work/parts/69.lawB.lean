/-! the law, case by case -/
set_option maxHeartbeats 4000000 in
set_option maxRecDepth 100000 in
theorem lc_count {p : Program} {l : Launch} {e : Env} {R : Room} {s : State} {m : MethodId} {args : Array Value} {below : List Frame} {meth : Method} {c : Code} {H H0 : Heap} {locs : List Loc} {Q : State → Prop} {D : va_G} {y : Nat → ClassId} {A : Nat → Prop} {e0 b L : Nat} {xs : Nat → Int32} (C0 : lc_At p l s m args meth c R D y A H0 e0 b L xs) {ad : xL → Nat} {z : xC} {j : Nat} {ls : Array Slot} (hL : L ≤ 2560) (h5 : 5 * j + 5 ≤ L) (hi : xLI D A y e0 ad z H) (hS : va_S A H0 H locs) (hl : lv_has ls 9 (lcL ad b j))
    (K : ∀ (ad' : xL → Nat) (z' : xC) (H1 : Heap) (locs1 : List Loc) (ls1 : Array Slot), xLI D A y e0 ad' z' H1 → va_S A H0 H1 locs1 → lv_has ls1 9 (lcL ad' b j) → W p l e R s m args below meth c H1 locs1 (46 + 6 * j) (1200 + 80 * j) Q (F0 m 1835 ls1 [])) : W p l e R s m args below meth c H locs (40 + 6 * j) (1120 + 80 * j) Q (F0 m 630 ls []) := by
  obtain ⟨hx, hb, hml, hown, hts, hX, hbl, hbA, hE, hF, hG, hN, hls, hRf, hRl, hRc, hRs⟩ := C0
  obtain ⟨bl, g, pl, kn, rw, mi, un, th, w, qp, qm, qr, qi, qn, qf, qu, qd, oj, od, hP, hq, hz, h0n, h0e⟩ := hi
  have hl : lv_has ls 9 [(0, .ref b), (1, .ref (ad (0, 0))), (2, .ref (ad (20, 0))), (3, .ref (ad (40, 0))), (4, .ref (ad (41, 0))), (5, .int (nI (5 * j)))] := hl
  obtain ⟨v1, hv1⟩ : ∃ v, v = xs (nI (5 * j + 1)).toNatClampNeg := ⟨_, rfl⟩
  obtain ⟨v2, hv2⟩ : ∃ v, v = xs (nI (5 * j + 2)).toNatClampNeg := ⟨_, rfl⟩
  obtain ⟨v3, hv3⟩ : ∃ v, v = xs (nI (5 * j + 3)).toNatClampNeg := ⟨_, rfl⟩
  obtain ⟨v4, hv4⟩ : ∃ v, v = xs (nI (5 * j + 4)).toNatClampNeg := ⟨_, rfl⟩
  refine lv_aload_n hx hb dL_law_630 rfl (lv_at hl 1 rfl) ?_
  refine lw_arg (k := 1) hx hb hX hbl hbA hS hL (by omega) (lv_at hl 0 rfl) (lv_at hl 5 rfl) dL_law_631 dL_law_632 dL_law_634 (by decide) dL_law_635 dL_law_636 ?_
  refine xt_i hv1.symm ?_
  refine lv_aload_n hx hb dL_law_637 rfl (lv_at hl 3 rfl) ?_
  refine xl_callS (n := 3) [.ref (ad (0, 0)), .int v1, .ref (ad (40, 0))] (c_L_count l hls hP hz h0n h0e (k := v1)) hx hb hml hown hts hE hF hG hN hS rfl rfl q_42 q_576 q_578 q_577 (by decide) rfl ⟨by rw [hRf]; decide, by rw [hRl]; decide⟩ hl.1 rfl (Nat.le_of_ble_eq_true rfl) dL_law_638 ⟨by rw [hRc]; omega, by rw [hRs]; omega⟩ (fun v H1 locs hp hS => ?_)
  obtain ⟨hv, ad', bl', oj', k1, k2, k3, k4, k5, k6, g2, pl2, kn2, rw2, mi2, un2, hP⟩ := hp; subst hv; generalize H1 = H at hP hS ⊢
  rw [show (if tCount v1 = 0 then z else z) = z from ite_self _] at hP k3 k4 k5
  have hP : xW D A ad' (wU (wB y ad' bl' z g2 pl2 kn2 rw2 mi2 un2) (wR y ad' th w qp qm qr qi qn qf qu qd) (wO y oj' od)) H := hP.ct (by rw [wR_ad k1])
  have hl : lv_has ls 9 [(0, .ref b), (1, .ref (ad' (0, 0))), (2, .ref (ad' (20, 0))), (3, .ref (ad' (40, 0))), (4, .ref (ad' (41, 0))), (5, .int (nI (5 * j)))] := by rw [k2, k1 (20, 0) (by decide), k1 (40, 0) (by decide), k1 (41, 0) (by decide)]; exact hl
  refine lv_istore (lv' := [(6, .int (tCount v1)), (0, .ref b), (1, .ref (ad' (0, 0))), (2, .ref (ad' (20, 0))), (3, .ref (ad' (40, 0))), (4, .ref (ad' (41, 0))), (5, .int (nI (5 * j)))]) hx hb dL_law_641 hl (by decide) rfl (fun ls hl => ?_)
  refine lv_aload_n hx hb dL_law_643 rfl (lv_at hl 3 rfl) ?_
  refine lw_arg (k := 1) hx hb hX hbl hbA hS hL (by omega) (lv_at hl 1 rfl) (lv_at hl 6 rfl) dL_law_644 dL_law_645 dL_law_647 (by decide) dL_law_648 dL_law_649 ?_
  refine xt_i hv1.symm ?_
  refine xw_callV (C := "NetlistBenchModel") (n := 1) [.int v1] (c_X4_count l hP hq hz.w  v1) hx hb hml hown hts hE hS (xw_recv hE hP (20, 0) rfl rfl) rfl rfl q_48 q_837 q_840 q_838 q_839 (by decide) rfl ⟨by rw [hRf]; decide, by rw [hRl]; decide⟩ hl.1 rfl (Nat.le_of_ble_eq_true rfl) dL_law_650 ⟨by rw [hRc]; omega, by rw [hRs]; omega⟩ (fun v H1 locs hp hS => ?_)
  obtain ⟨r, hv, hr2, w2, qp2, qm2, qr2, qi2, qn2, qf2, qu2, qd2, hq2, hP⟩ := hp; subst hv; generalize H1 = H at hP hS ⊢
  refine lv_istore (lv' := [(7, .int r), (6, .int (tCount v1)), (0, .ref b), (1, .ref (ad' (0, 0))), (2, .ref (ad' (20, 0))), (3, .ref (ad' (40, 0))), (4, .ref (ad' (41, 0))), (5, .int (nI (5 * j)))]) hx hb dL_law_653 hl (by decide) rfl (fun ls hl => ?_)
  refine lv_aload_n hx hb dL_law_655 rfl (lv_at hl 4 rfl) ?_
  refine xw_callV (C := "NetlistBenchModel") (n := 0) [] (c_X4_thrown l hP) hx hb hml hown hts hE hS (xw_recv hE hP (20, 0) rfl rfl) rfl rfl q_48 q_790 q_793 q_791 q_792 (by decide) rfl ⟨by rw [hRf]; decide, by rw [hRl]; decide⟩ hl.1 rfl (Nat.le_of_ble_eq_true rfl) dL_law_656 ⟨by rw [hRc]; omega, by rw [hRs]; omega⟩ (fun v H1 locs hp hS => ?_)
  obtain ⟨hv, hh⟩ := hp; subst hv; subst hh
  refine lv_iload hx hb dL_law_659 (lv_at hl 1 rfl) ?_
  refine lv_icmp_eq (tgt := 666) hx hb dL_law_661 (by decide) (fun _ => ?_) (fun h => absurd rfl h)
  refine lv_iload hx hb dL_law_666 (lv_at hl 1 rfl) ?_
  refine lv_if_ne (tgt := 683) hx hb dL_law_668 (by decide) (fun h0 => ?_) (fun h0 => ?_)
  · refine lv_goto (tgt := 1835) hx hb dL_law_683 (by decide) ?_
    exact W.widen (k := 46 + 6 * j) (n := 1200 + 80 * j) (by omega) (by omega) (K ad' z _ _ _ ⟨bl', g2, pl2, kn2, rw2, mi2, un2, _, w2, qp2, qm2, qr2, qi2, qn2, qf2, qu2, qd2, oj', od, hP, hq2, k5, k3, k4⟩ hS (lv_sub hl [2, 3, 4, 5, 6, 7] rfl))
  refine lv_aload_n hx hb dL_law_671 rfl (lv_at hl 5 rfl) ?_
  refine lv_iconst (v := nI 0) hx hb dL_law_672 (by decide) ?_
  refine xo_lald hx hb hE hP rfl dL_law_673 ?_
  refine lv_iload hx hb dL_law_674 (lv_at hl 0 rfl) ?_
  refine lv_i2l (v := r.toInt64) hx hb dL_law_676 rfl ?_
  refine W.lcmp hx hb dL_law_677 ?_
  refine xt_i (w := 0) (by rw [k6 h0, hr2 h0]; exact lgc _) ?_
  refine lv_if_eq (tgt := 683) hx hb dL_law_678 (by decide) (fun _ => ?_) (fun h => absurd rfl h)
  refine lv_goto (tgt := 1835) hx hb dL_law_683 (by decide) ?_
  exact W.widen (k := 46 + 6 * j) (n := 1200 + 80 * j) (by omega) (by omega) (K ad' z _ _ _ ⟨bl', g2, pl2, kn2, rw2, mi2, un2, _, w2, qp2, qm2, qr2, qi2, qn2, qf2, qu2, qd2, oj', od, hP, hq2, k5, k3, k4⟩ hS (lv_sub hl [2, 3, 4, 5, 6, 7] rfl))

set_option maxHeartbeats 4000000 in
set_option maxRecDepth 100000 in
theorem lc_element {p : Program} {l : Launch} {e : Env} {R : Room} {s : State} {m : MethodId} {args : Array Value} {below : List Frame} {meth : Method} {c : Code} {H H0 : Heap} {locs : List Loc} {Q : State → Prop} {D : va_G} {y : Nat → ClassId} {A : Nat → Prop} {e0 b L : Nat} {xs : Nat → Int32} (C0 : lc_At p l s m args meth c R D y A H0 e0 b L xs) {ad : xL → Nat} {z : xC} {j : Nat} {ls : Array Slot} (hL : L ≤ 2560) (h5 : 5 * j + 5 ≤ L) (hi : xLI D A y e0 ad z H) (hS : va_S A H0 H locs) (hl : lv_has ls 9 (lcL ad b j))
    (K : ∀ (ad' : xL → Nat) (z' : xC) (H1 : Heap) (locs1 : List Loc) (ls1 : Array Slot), xLI D A y e0 ad' z' H1 → va_S A H0 H1 locs1 → lv_has ls1 9 (lcL ad' b j) → W p l e R s m args below meth c H1 locs1 (46 + 6 * j) (1200 + 80 * j) Q (F0 m 1835 ls1 [])) : W p l e R s m args below meth c H locs (40 + 6 * j) (1120 + 80 * j) Q (F0 m 686 ls []) := by
  obtain ⟨hx, hb, hml, hown, hts, hX, hbl, hbA, hE, hF, hG, hN, hls, hRf, hRl, hRc, hRs⟩ := C0
  obtain ⟨bl, g, pl, kn, rw, mi, un, th, w, qp, qm, qr, qi, qn, qf, qu, qd, oj, od, hP, hq, hz, h0n, h0e⟩ := hi
  have hl : lv_has ls 9 [(0, .ref b), (1, .ref (ad (0, 0))), (2, .ref (ad (20, 0))), (3, .ref (ad (40, 0))), (4, .ref (ad (41, 0))), (5, .int (nI (5 * j)))] := hl
  obtain ⟨v1, hv1⟩ : ∃ v, v = xs (nI (5 * j + 1)).toNatClampNeg := ⟨_, rfl⟩
  obtain ⟨v2, hv2⟩ : ∃ v, v = xs (nI (5 * j + 2)).toNatClampNeg := ⟨_, rfl⟩
  obtain ⟨v3, hv3⟩ : ∃ v, v = xs (nI (5 * j + 3)).toNatClampNeg := ⟨_, rfl⟩
  obtain ⟨v4, hv4⟩ : ∃ v, v = xs (nI (5 * j + 4)).toNatClampNeg := ⟨_, rfl⟩
  refine lv_aload_n hx hb dL_law_686 rfl (lv_at hl 1 rfl) ?_
  refine lw_arg (k := 1) hx hb hX hbl hbA hS hL (by omega) (lv_at hl 0 rfl) (lv_at hl 5 rfl) dL_law_687 dL_law_688 dL_law_690 (by decide) dL_law_691 dL_law_692 ?_
  refine xt_i hv1.symm ?_
  refine lw_arg (k := 2) hx hb hX hbl hbA hS hL (by omega) (lv_at hl 0 rfl) (lv_at hl 5 rfl) dL_law_693 dL_law_694 dL_law_696 (by decide) dL_law_697 dL_law_698 ?_
  refine xt_i hv2.symm ?_
  refine lv_aload_n hx hb dL_law_699 rfl (lv_at hl 3 rfl) ?_
  refine xl_callS (n := 4) [.ref (ad (0, 0)), .int v1, .int v2, .ref (ad (40, 0))] (c_L_element l hls hP hz h0n h0e (x := v1) (k := v2)) hx hb hml hown hts hE hF hG hN hS rfl rfl q_42 q_584 q_586 q_585 (by decide) rfl ⟨by rw [hRf]; decide, by rw [hRl]; decide⟩ hl.1 rfl (Nat.le_of_ble_eq_true rfl) dL_law_700 ⟨by rw [hRc]; omega, by rw [hRs]; omega⟩ (fun v H1 locs hp hS => ?_)
  obtain ⟨hv, ad', bl', oj', k1, k2, k3, k4, k5, k6, g2, pl2, kn2, rw2, mi2, un2, hP⟩ := hp; subst hv; generalize H1 = H at hP hS ⊢
  rw [show (if tElem z v1 v2 = 0 then z else z) = z from ite_self _] at hP k3 k4 k5
  have hP : xW D A ad' (wU (wB y ad' bl' z g2 pl2 kn2 rw2 mi2 un2) (wR y ad' th w qp qm qr qi qn qf qu qd) (wO y oj' od)) H := hP.ct (by rw [wR_ad k1])
  have hl : lv_has ls 9 [(0, .ref b), (1, .ref (ad' (0, 0))), (2, .ref (ad' (20, 0))), (3, .ref (ad' (40, 0))), (4, .ref (ad' (41, 0))), (5, .int (nI (5 * j)))] := by rw [k2, k1 (20, 0) (by decide), k1 (40, 0) (by decide), k1 (41, 0) (by decide)]; exact hl
  refine lv_istore (lv' := [(6, .int (tElem z v1 v2)), (0, .ref b), (1, .ref (ad' (0, 0))), (2, .ref (ad' (20, 0))), (3, .ref (ad' (40, 0))), (4, .ref (ad' (41, 0))), (5, .int (nI (5 * j)))]) hx hb dL_law_703 hl (by decide) rfl (fun ls hl => ?_)
  refine lv_aload_n hx hb dL_law_705 rfl (lv_at hl 3 rfl) ?_
  refine lw_arg (k := 1) hx hb hX hbl hbA hS hL (by omega) (lv_at hl 1 rfl) (lv_at hl 6 rfl) dL_law_706 dL_law_707 dL_law_709 (by decide) dL_law_710 dL_law_711 ?_
  refine xt_i hv1.symm ?_
  refine lw_arg (k := 2) hx hb hX hbl hbA hS hL (by omega) (lv_at hl 1 rfl) (lv_at hl 6 rfl) dL_law_712 dL_law_713 dL_law_715 (by decide) dL_law_716 dL_law_717 ?_
  refine xt_i hv2.symm ?_
  refine xw_callV (C := "NetlistBenchModel") (n := 2) [.int v1, .int v2] (c_X4_element l hP hq hz.w  v1 v2) hx hb hml hown hts hE hS (xw_recv hE hP (20, 0) rfl rfl) rfl rfl q_48 q_845 q_848 q_846 q_847 (by decide) rfl ⟨by rw [hRf]; decide, by rw [hRl]; decide⟩ hl.1 rfl (Nat.le_of_ble_eq_true rfl) dL_law_718 ⟨by rw [hRc]; omega, by rw [hRs]; omega⟩ (fun v H1 locs hp hS => ?_)
  obtain ⟨r, hv, hr2, w2, qp2, qm2, qr2, qi2, qn2, qf2, qu2, qd2, hq2, hP⟩ := hp; subst hv; generalize H1 = H at hP hS ⊢
  refine lv_istore (lv' := [(7, .int r), (6, .int (tElem z v1 v2)), (0, .ref b), (1, .ref (ad' (0, 0))), (2, .ref (ad' (20, 0))), (3, .ref (ad' (40, 0))), (4, .ref (ad' (41, 0))), (5, .int (nI (5 * j)))]) hx hb dL_law_721 hl (by decide) rfl (fun ls hl => ?_)
  refine lv_aload_n hx hb dL_law_723 rfl (lv_at hl 4 rfl) ?_
  refine xw_callV (C := "NetlistBenchModel") (n := 0) [] (c_X4_thrown l hP) hx hb hml hown hts hE hS (xw_recv hE hP (20, 0) rfl rfl) rfl rfl q_48 q_790 q_793 q_791 q_792 (by decide) rfl ⟨by rw [hRf]; decide, by rw [hRl]; decide⟩ hl.1 rfl (Nat.le_of_ble_eq_true rfl) dL_law_724 ⟨by rw [hRc]; omega, by rw [hRs]; omega⟩ (fun v H1 locs hp hS => ?_)
  obtain ⟨hv, hh⟩ := hp; subst hv; subst hh
  refine lv_iload hx hb dL_law_727 (lv_at hl 1 rfl) ?_
  refine lv_icmp_eq (tgt := 734) hx hb dL_law_729 (by decide) (fun _ => ?_) (fun h => absurd rfl h)
  refine lv_iload hx hb dL_law_734 (lv_at hl 1 rfl) ?_
  refine lv_if_ne (tgt := 751) hx hb dL_law_736 (by decide) (fun h0 => ?_) (fun h0 => ?_)
  · refine lv_goto (tgt := 1835) hx hb dL_law_751 (by decide) ?_
    exact W.widen (k := 46 + 6 * j) (n := 1200 + 80 * j) (by omega) (by omega) (K ad' z _ _ _ ⟨bl', g2, pl2, kn2, rw2, mi2, un2, _, w2, qp2, qm2, qr2, qi2, qn2, qf2, qu2, qd2, oj', od, hP, hq2, k5, k3, k4⟩ hS (lv_sub hl [2, 3, 4, 5, 6, 7] rfl))
  refine lv_aload_n hx hb dL_law_739 rfl (lv_at hl 5 rfl) ?_
  refine lv_iconst (v := nI 0) hx hb dL_law_740 (by decide) ?_
  refine xo_lald hx hb hE hP rfl dL_law_741 ?_
  refine lv_iload hx hb dL_law_742 (lv_at hl 0 rfl) ?_
  refine lv_i2l (v := r.toInt64) hx hb dL_law_744 rfl ?_
  refine W.lcmp hx hb dL_law_745 ?_
  refine xt_i (w := 0) (by rw [k6 h0, hr2 h0]; exact lgc _) ?_
  refine lv_if_eq (tgt := 751) hx hb dL_law_746 (by decide) (fun _ => ?_) (fun h => absurd rfl h)
  refine lv_goto (tgt := 1835) hx hb dL_law_751 (by decide) ?_
  exact W.widen (k := 46 + 6 * j) (n := 1200 + 80 * j) (by omega) (by omega) (K ad' z _ _ _ ⟨bl', g2, pl2, kn2, rw2, mi2, un2, _, w2, qp2, qm2, qr2, qi2, qn2, qf2, qu2, qd2, oj', od, hP, hq2, k5, k3, k4⟩ hS (lv_sub hl [2, 3, 4, 5, 6, 7] rfl))

set_option maxHeartbeats 4000000 in
set_option maxRecDepth 100000 in
theorem lc_toggleAt {p : Program} {l : Launch} {e : Env} {R : Room} {s : State} {m : MethodId} {args : Array Value} {below : List Frame} {meth : Method} {c : Code} {H H0 : Heap} {locs : List Loc} {Q : State → Prop} {D : va_G} {y : Nat → ClassId} {A : Nat → Prop} {e0 b L : Nat} {xs : Nat → Int32} (C0 : lc_At p l s m args meth c R D y A H0 e0 b L xs) {ad : xL → Nat} {z : xC} {j : Nat} {ls : Array Slot} (hL : L ≤ 2560) (h5 : 5 * j + 5 ≤ L) (hi : xLI D A y e0 ad z H) (hS : va_S A H0 H locs) (hl : lv_has ls 9 (lcL ad b j))
    (K : ∀ (ad' : xL → Nat) (z' : xC) (H1 : Heap) (locs1 : List Loc) (ls1 : Array Slot), xLI D A y e0 ad' z' H1 → va_S A H0 H1 locs1 → lv_has ls1 9 (lcL ad' b j) → W p l e R s m args below meth c H1 locs1 (46 + 6 * j) (1200 + 80 * j) Q (F0 m 1835 ls1 [])) : W p l e R s m args below meth c H locs (40 + 6 * j) (1120 + 80 * j) Q (F0 m 754 ls []) := by
  obtain ⟨hx, hb, hml, hown, hts, hX, hbl, hbA, hE, hF, hG, hN, hls, hRf, hRl, hRc, hRs⟩ := C0
  obtain ⟨bl, g, pl, kn, rw, mi, un, th, w, qp, qm, qr, qi, qn, qf, qu, qd, oj, od, hP, hq, hz, h0n, h0e⟩ := hi
  have hl : lv_has ls 9 [(0, .ref b), (1, .ref (ad (0, 0))), (2, .ref (ad (20, 0))), (3, .ref (ad (40, 0))), (4, .ref (ad (41, 0))), (5, .int (nI (5 * j)))] := hl
  obtain ⟨v1, hv1⟩ : ∃ v, v = xs (nI (5 * j + 1)).toNatClampNeg := ⟨_, rfl⟩
  obtain ⟨v2, hv2⟩ : ∃ v, v = xs (nI (5 * j + 2)).toNatClampNeg := ⟨_, rfl⟩
  obtain ⟨v3, hv3⟩ : ∃ v, v = xs (nI (5 * j + 3)).toNatClampNeg := ⟨_, rfl⟩
  obtain ⟨v4, hv4⟩ : ∃ v, v = xs (nI (5 * j + 4)).toNatClampNeg := ⟨_, rfl⟩
  refine lv_aload_n hx hb dL_law_754 rfl (lv_at hl 1 rfl) ?_
  refine lw_arg (k := 1) hx hb hX hbl hbA hS hL (by omega) (lv_at hl 0 rfl) (lv_at hl 5 rfl) dL_law_755 dL_law_756 dL_law_758 (by decide) dL_law_759 dL_law_760 ?_
  refine xt_i hv1.symm ?_
  refine lw_arg (k := 2) hx hb hX hbl hbA hS hL (by omega) (lv_at hl 0 rfl) (lv_at hl 5 rfl) dL_law_761 dL_law_762 dL_law_764 (by decide) dL_law_765 dL_law_766 ?_
  refine xt_i hv2.symm ?_
  refine lv_aload_n hx hb dL_law_767 rfl (lv_at hl 3 rfl) ?_
  refine xl_callS (n := 4) [.ref (ad (0, 0)), .int v1, .int v2, .ref (ad (40, 0))] (c_L_toggleAt l hls hP hz h0n h0e (x := v1) (k := v2)) hx hb hml hown hts hE hF hG hN hS rfl rfl q_42 q_592 q_594 q_593 (by decide) rfl ⟨by rw [hRf]; decide, by rw [hRl]; decide⟩ hl.1 rfl (Nat.le_of_ble_eq_true rfl) dL_law_768 ⟨by rw [hRc]; omega, by rw [hRs]; omega⟩ (fun v H1 locs hp hS => ?_)
  obtain ⟨hv, ad', bl', oj', k1, k2, k3, k4, k5, k6, g2, pl2, kn2, rw2, mi2, un2, hP⟩ := hp; subst hv; generalize H1 = H at hP hS ⊢
  rw [show (if tTgAt z v1 v2 = 0 then z else z) = z from ite_self _] at hP k3 k4 k5
  have hP : xW D A ad' (wU (wB y ad' bl' z g2 pl2 kn2 rw2 mi2 un2) (wR y ad' th w qp qm qr qi qn qf qu qd) (wO y oj' od)) H := hP.ct (by rw [wR_ad k1])
  have hl : lv_has ls 9 [(0, .ref b), (1, .ref (ad' (0, 0))), (2, .ref (ad' (20, 0))), (3, .ref (ad' (40, 0))), (4, .ref (ad' (41, 0))), (5, .int (nI (5 * j)))] := by rw [k2, k1 (20, 0) (by decide), k1 (40, 0) (by decide), k1 (41, 0) (by decide)]; exact hl
  refine lv_istore (lv' := [(6, .int (tTgAt z v1 v2)), (0, .ref b), (1, .ref (ad' (0, 0))), (2, .ref (ad' (20, 0))), (3, .ref (ad' (40, 0))), (4, .ref (ad' (41, 0))), (5, .int (nI (5 * j)))]) hx hb dL_law_771 hl (by decide) rfl (fun ls hl => ?_)
  refine lv_aload_n hx hb dL_law_773 rfl (lv_at hl 3 rfl) ?_
  refine lw_arg (k := 1) hx hb hX hbl hbA hS hL (by omega) (lv_at hl 1 rfl) (lv_at hl 6 rfl) dL_law_774 dL_law_775 dL_law_777 (by decide) dL_law_778 dL_law_779 ?_
  refine xt_i hv1.symm ?_
  refine lw_arg (k := 2) hx hb hX hbl hbA hS hL (by omega) (lv_at hl 1 rfl) (lv_at hl 6 rfl) dL_law_780 dL_law_781 dL_law_783 (by decide) dL_law_784 dL_law_785 ?_
  refine xt_i hv2.symm ?_
  refine xw_callV (C := "NetlistBenchModel") (n := 2) [.int v1, .int v2] (c_X4_toggleAt l hP hq hz.w  v1 v2) hx hb hml hown hts hE hS (xw_recv hE hP (20, 0) rfl rfl) rfl rfl q_48 q_853 q_856 q_854 q_855 (by decide) rfl ⟨by rw [hRf]; decide, by rw [hRl]; decide⟩ hl.1 rfl (Nat.le_of_ble_eq_true rfl) dL_law_786 ⟨by rw [hRc]; omega, by rw [hRs]; omega⟩ (fun v H1 locs hp hS => ?_)
  obtain ⟨r, hv, hr2, w2, qp2, qm2, qr2, qi2, qn2, qf2, qu2, qd2, hq2, hP⟩ := hp; subst hv; generalize H1 = H at hP hS ⊢
  refine lv_istore (lv' := [(7, .int r), (6, .int (tTgAt z v1 v2)), (0, .ref b), (1, .ref (ad' (0, 0))), (2, .ref (ad' (20, 0))), (3, .ref (ad' (40, 0))), (4, .ref (ad' (41, 0))), (5, .int (nI (5 * j)))]) hx hb dL_law_789 hl (by decide) rfl (fun ls hl => ?_)
  refine lv_aload_n hx hb dL_law_791 rfl (lv_at hl 4 rfl) ?_
  refine xw_callV (C := "NetlistBenchModel") (n := 0) [] (c_X4_thrown l hP) hx hb hml hown hts hE hS (xw_recv hE hP (20, 0) rfl rfl) rfl rfl q_48 q_790 q_793 q_791 q_792 (by decide) rfl ⟨by rw [hRf]; decide, by rw [hRl]; decide⟩ hl.1 rfl (Nat.le_of_ble_eq_true rfl) dL_law_792 ⟨by rw [hRc]; omega, by rw [hRs]; omega⟩ (fun v H1 locs hp hS => ?_)
  obtain ⟨hv, hh⟩ := hp; subst hv; subst hh
  refine lv_iload hx hb dL_law_795 (lv_at hl 1 rfl) ?_
  refine lv_icmp_eq (tgt := 802) hx hb dL_law_797 (by decide) (fun _ => ?_) (fun h => absurd rfl h)
  refine lv_iload hx hb dL_law_802 (lv_at hl 1 rfl) ?_
  refine lv_if_ne (tgt := 819) hx hb dL_law_804 (by decide) (fun h0 => ?_) (fun h0 => ?_)
  · refine lv_goto (tgt := 1835) hx hb dL_law_819 (by decide) ?_
    exact W.widen (k := 46 + 6 * j) (n := 1200 + 80 * j) (by omega) (by omega) (K ad' z _ _ _ ⟨bl', g2, pl2, kn2, rw2, mi2, un2, _, w2, qp2, qm2, qr2, qi2, qn2, qf2, qu2, qd2, oj', od, hP, hq2, k5, k3, k4⟩ hS (lv_sub hl [2, 3, 4, 5, 6, 7] rfl))
  refine lv_aload_n hx hb dL_law_807 rfl (lv_at hl 5 rfl) ?_
  refine lv_iconst (v := nI 0) hx hb dL_law_808 (by decide) ?_
  refine xo_lald hx hb hE hP rfl dL_law_809 ?_
  refine lv_iload hx hb dL_law_810 (lv_at hl 0 rfl) ?_
  refine lv_i2l (v := r.toInt64) hx hb dL_law_812 rfl ?_
  refine W.lcmp hx hb dL_law_813 ?_
  refine xt_i (w := 0) (by rw [k6 h0, hr2 h0]; exact lgc _) ?_
  refine lv_if_eq (tgt := 819) hx hb dL_law_814 (by decide) (fun _ => ?_) (fun h => absurd rfl h)
  refine lv_goto (tgt := 1835) hx hb dL_law_819 (by decide) ?_
  exact W.widen (k := 46 + 6 * j) (n := 1200 + 80 * j) (by omega) (by omega) (K ad' z _ _ _ ⟨bl', g2, pl2, kn2, rw2, mi2, un2, _, w2, qp2, qm2, qr2, qi2, qn2, qf2, qu2, qd2, oj', od, hP, hq2, k5, k3, k4⟩ hS (lv_sub hl [2, 3, 4, 5, 6, 7] rfl))

set_option maxHeartbeats 4000000 in
set_option maxRecDepth 100000 in
theorem lc_isOn {p : Program} {l : Launch} {e : Env} {R : Room} {s : State} {m : MethodId} {args : Array Value} {below : List Frame} {meth : Method} {c : Code} {H H0 : Heap} {locs : List Loc} {Q : State → Prop} {D : va_G} {y : Nat → ClassId} {A : Nat → Prop} {e0 b L : Nat} {xs : Nat → Int32} (C0 : lc_At p l s m args meth c R D y A H0 e0 b L xs) {ad : xL → Nat} {z : xC} {j : Nat} {ls : Array Slot} (hL : L ≤ 2560) (h5 : 5 * j + 5 ≤ L) (hi : xLI D A y e0 ad z H) (hS : va_S A H0 H locs) (hl : lv_has ls 9 (lcL ad b j))
    (K : ∀ (ad' : xL → Nat) (z' : xC) (H1 : Heap) (locs1 : List Loc) (ls1 : Array Slot), xLI D A y e0 ad' z' H1 → va_S A H0 H1 locs1 → lv_has ls1 9 (lcL ad' b j) → W p l e R s m args below meth c H1 locs1 (46 + 6 * j) (1200 + 80 * j) Q (F0 m 1835 ls1 [])) : W p l e R s m args below meth c H locs (40 + 6 * j) (1120 + 80 * j) Q (F0 m 822 ls []) := by
  obtain ⟨hx, hb, hml, hown, hts, hX, hbl, hbA, hE, hF, hG, hN, hls, hRf, hRl, hRc, hRs⟩ := C0
  obtain ⟨bl, g, pl, kn, rw, mi, un, th, w, qp, qm, qr, qi, qn, qf, qu, qd, oj, od, hP, hq, hz, h0n, h0e⟩ := hi
  have hl : lv_has ls 9 [(0, .ref b), (1, .ref (ad (0, 0))), (2, .ref (ad (20, 0))), (3, .ref (ad (40, 0))), (4, .ref (ad (41, 0))), (5, .int (nI (5 * j)))] := hl
  obtain ⟨v1, hv1⟩ : ∃ v, v = xs (nI (5 * j + 1)).toNatClampNeg := ⟨_, rfl⟩
  obtain ⟨v2, hv2⟩ : ∃ v, v = xs (nI (5 * j + 2)).toNatClampNeg := ⟨_, rfl⟩
  obtain ⟨v3, hv3⟩ : ∃ v, v = xs (nI (5 * j + 3)).toNatClampNeg := ⟨_, rfl⟩
  obtain ⟨v4, hv4⟩ : ∃ v, v = xs (nI (5 * j + 4)).toNatClampNeg := ⟨_, rfl⟩
  refine lv_aload_n hx hb dL_law_822 rfl (lv_at hl 1 rfl) ?_
  refine lw_arg (k := 1) hx hb hX hbl hbA hS hL (by omega) (lv_at hl 0 rfl) (lv_at hl 5 rfl) dL_law_823 dL_law_824 dL_law_826 (by decide) dL_law_827 dL_law_828 ?_
  refine xt_i hv1.symm ?_
  refine lw_arg (k := 2) hx hb hX hbl hbA hS hL (by omega) (lv_at hl 0 rfl) (lv_at hl 5 rfl) dL_law_829 dL_law_830 dL_law_832 (by decide) dL_law_833 dL_law_834 ?_
  refine xt_i hv2.symm ?_
  refine lv_aload_n hx hb dL_law_835 rfl (lv_at hl 3 rfl) ?_
  refine xl_callS (n := 4) [.ref (ad (0, 0)), .int v1, .int v2, .ref (ad (40, 0))] (c_L_isOn l hls hP hz h0n h0e (x := v1) (t := v2)) hx hb hml hown hts hE hF hG hN hS rfl rfl q_42 q_600 q_602 q_601 (by decide) rfl ⟨by rw [hRf]; decide, by rw [hRl]; decide⟩ hl.1 rfl (Nat.le_of_ble_eq_true rfl) dL_law_836 ⟨by rw [hRc]; omega, by rw [hRs]; omega⟩ (fun v H1 locs hp hS => ?_)
  obtain ⟨hv, ad', bl', oj', k1, k2, k3, k4, k5, k6, g2, pl2, kn2, rw2, mi2, un2, hP⟩ := hp; subst hv; generalize H1 = H at hP hS ⊢
  rw [show (if tOn z v1 v2 = 0 then z else z) = z from ite_self _] at hP k3 k4 k5
  have hP : xW D A ad' (wU (wB y ad' bl' z g2 pl2 kn2 rw2 mi2 un2) (wR y ad' th w qp qm qr qi qn qf qu qd) (wO y oj' od)) H := hP.ct (by rw [wR_ad k1])
  have hl : lv_has ls 9 [(0, .ref b), (1, .ref (ad' (0, 0))), (2, .ref (ad' (20, 0))), (3, .ref (ad' (40, 0))), (4, .ref (ad' (41, 0))), (5, .int (nI (5 * j)))] := by rw [k2, k1 (20, 0) (by decide), k1 (40, 0) (by decide), k1 (41, 0) (by decide)]; exact hl
  refine lv_istore (lv' := [(6, .int (tOn z v1 v2)), (0, .ref b), (1, .ref (ad' (0, 0))), (2, .ref (ad' (20, 0))), (3, .ref (ad' (40, 0))), (4, .ref (ad' (41, 0))), (5, .int (nI (5 * j)))]) hx hb dL_law_839 hl (by decide) rfl (fun ls hl => ?_)
  refine lv_aload_n hx hb dL_law_841 rfl (lv_at hl 3 rfl) ?_
  refine lw_arg (k := 1) hx hb hX hbl hbA hS hL (by omega) (lv_at hl 1 rfl) (lv_at hl 6 rfl) dL_law_842 dL_law_843 dL_law_845 (by decide) dL_law_846 dL_law_847 ?_
  refine xt_i hv1.symm ?_
  refine lw_arg (k := 2) hx hb hX hbl hbA hS hL (by omega) (lv_at hl 1 rfl) (lv_at hl 6 rfl) dL_law_848 dL_law_849 dL_law_851 (by decide) dL_law_852 dL_law_853 ?_
  refine xt_i hv2.symm ?_
  refine xw_callV (C := "NetlistBenchModel") (n := 2) [.int v1, .int v2] (c_X4_isOn l hP hq hz.w  v1 v2) hx hb hml hown hts hE hS (xw_recv hE hP (20, 0) rfl rfl) rfl rfl q_48 q_857 q_860 q_858 q_859 (by decide) rfl ⟨by rw [hRf]; decide, by rw [hRl]; decide⟩ hl.1 rfl (Nat.le_of_ble_eq_true rfl) dL_law_854 ⟨by rw [hRc]; omega, by rw [hRs]; omega⟩ (fun v H1 locs hp hS => ?_)
  obtain ⟨r, hv, hr2, w2, qp2, qm2, qr2, qi2, qn2, qf2, qu2, qd2, hq2, hP⟩ := hp; subst hv; generalize H1 = H at hP hS ⊢
  refine lv_istore (lv' := [(7, .int r), (6, .int (tOn z v1 v2)), (0, .ref b), (1, .ref (ad' (0, 0))), (2, .ref (ad' (20, 0))), (3, .ref (ad' (40, 0))), (4, .ref (ad' (41, 0))), (5, .int (nI (5 * j)))]) hx hb dL_law_857 hl (by decide) rfl (fun ls hl => ?_)
  refine lv_aload_n hx hb dL_law_859 rfl (lv_at hl 4 rfl) ?_
  refine xw_callV (C := "NetlistBenchModel") (n := 0) [] (c_X4_thrown l hP) hx hb hml hown hts hE hS (xw_recv hE hP (20, 0) rfl rfl) rfl rfl q_48 q_790 q_793 q_791 q_792 (by decide) rfl ⟨by rw [hRf]; decide, by rw [hRl]; decide⟩ hl.1 rfl (Nat.le_of_ble_eq_true rfl) dL_law_860 ⟨by rw [hRc]; omega, by rw [hRs]; omega⟩ (fun v H1 locs hp hS => ?_)
  obtain ⟨hv, hh⟩ := hp; subst hv; subst hh
  refine lv_iload hx hb dL_law_863 (lv_at hl 1 rfl) ?_
  refine lv_icmp_eq (tgt := 870) hx hb dL_law_865 (by decide) (fun _ => ?_) (fun h => absurd rfl h)
  refine lv_iload hx hb dL_law_870 (lv_at hl 1 rfl) ?_
  refine lv_if_ne (tgt := 894) hx hb dL_law_872 (by decide) (fun h0 => ?_) (fun h0 => ?_)
  · refine lv_goto (tgt := 1835) hx hb dL_law_894 (by decide) ?_
    exact W.widen (k := 46 + 6 * j) (n := 1200 + 80 * j) (by omega) (by omega) (K ad' z _ _ _ ⟨bl', g2, pl2, kn2, rw2, mi2, un2, _, w2, qp2, qm2, qr2, qi2, qn2, qf2, qu2, qd2, oj', od, hP, hq2, k5, k3, k4⟩ hS (lv_sub hl [2, 3, 4, 5, 6, 7] rfl))
  refine lv_aload_n hx hb dL_law_875 rfl (lv_at hl 5 rfl) ?_
  refine lv_iconst (v := nI 0) hx hb dL_law_876 (by decide) ?_
  refine xo_lald hx hb hE hP rfl dL_law_877 ?_
  refine lv_iload hx hb dL_law_878 (lv_at hl 0 rfl) ?_
  refine lw_bL hx hb dL_law_880 dL_law_883 dL_law_884 dL_law_887 ?_
  refine W.lcmp hx hb dL_law_888 ?_
  refine xt_i (w := 0) (by rw [k6 h0, hr2 h0]; exact lgc _) ?_
  refine lv_if_eq (tgt := 894) hx hb dL_law_889 (by decide) (fun _ => ?_) (fun h => absurd rfl h)
  refine lv_goto (tgt := 1835) hx hb dL_law_894 (by decide) ?_
  exact W.widen (k := 46 + 6 * j) (n := 1200 + 80 * j) (by omega) (by omega) (K ad' z _ _ _ ⟨bl', g2, pl2, kn2, rw2, mi2, un2, _, w2, qp2, qm2, qr2, qi2, qn2, qf2, qu2, qd2, oj', od, hP, hq2, k5, k3, k4⟩ hS (lv_sub hl [2, 3, 4, 5, 6, 7] rfl))

set_option maxHeartbeats 4000000 in
set_option maxRecDepth 100000 in
theorem lc_together {p : Program} {l : Launch} {e : Env} {R : Room} {s : State} {m : MethodId} {args : Array Value} {below : List Frame} {meth : Method} {c : Code} {H H0 : Heap} {locs : List Loc} {Q : State → Prop} {D : va_G} {y : Nat → ClassId} {A : Nat → Prop} {e0 b L : Nat} {xs : Nat → Int32} (C0 : lc_At p l s m args meth c R D y A H0 e0 b L xs) {ad : xL → Nat} {z : xC} {j : Nat} {ls : Array Slot} (hL : L ≤ 2560) (h5 : 5 * j + 5 ≤ L) (hi : xLI D A y e0 ad z H) (hS : va_S A H0 H locs) (hl : lv_has ls 9 (lcL ad b j))
    (K : ∀ (ad' : xL → Nat) (z' : xC) (H1 : Heap) (locs1 : List Loc) (ls1 : Array Slot), xLI D A y e0 ad' z' H1 → va_S A H0 H1 locs1 → lv_has ls1 9 (lcL ad' b j) → W p l e R s m args below meth c H1 locs1 (46 + 6 * j) (1200 + 80 * j) Q (F0 m 1835 ls1 [])) : W p l e R s m args below meth c H locs (40 + 6 * j) (1120 + 80 * j) Q (F0 m 897 ls []) := by
  obtain ⟨hx, hb, hml, hown, hts, hX, hbl, hbA, hE, hF, hG, hN, hls, hRf, hRl, hRc, hRs⟩ := C0
  obtain ⟨bl, g, pl, kn, rw, mi, un, th, w, qp, qm, qr, qi, qn, qf, qu, qd, oj, od, hP, hq, hz, h0n, h0e⟩ := hi
  have hl : lv_has ls 9 [(0, .ref b), (1, .ref (ad (0, 0))), (2, .ref (ad (20, 0))), (3, .ref (ad (40, 0))), (4, .ref (ad (41, 0))), (5, .int (nI (5 * j)))] := hl
  obtain ⟨v1, hv1⟩ : ∃ v, v = xs (nI (5 * j + 1)).toNatClampNeg := ⟨_, rfl⟩
  obtain ⟨v2, hv2⟩ : ∃ v, v = xs (nI (5 * j + 2)).toNatClampNeg := ⟨_, rfl⟩
  obtain ⟨v3, hv3⟩ : ∃ v, v = xs (nI (5 * j + 3)).toNatClampNeg := ⟨_, rfl⟩
  obtain ⟨v4, hv4⟩ : ∃ v, v = xs (nI (5 * j + 4)).toNatClampNeg := ⟨_, rfl⟩
  refine lv_aload_n hx hb dL_law_897 rfl (lv_at hl 1 rfl) ?_
  refine lw_arg (k := 1) hx hb hX hbl hbA hS hL (by omega) (lv_at hl 0 rfl) (lv_at hl 5 rfl) dL_law_898 dL_law_899 dL_law_901 (by decide) dL_law_902 dL_law_903 ?_
  refine xt_i hv1.symm ?_
  refine lw_arg (k := 2) hx hb hX hbl hbA hS hL (by omega) (lv_at hl 0 rfl) (lv_at hl 5 rfl) dL_law_904 dL_law_905 dL_law_907 (by decide) dL_law_908 dL_law_909 ?_
  refine xt_i hv2.symm ?_
  refine lv_aload_n hx hb dL_law_910 rfl (lv_at hl 3 rfl) ?_
  refine xl_callS (n := 4) [.ref (ad (0, 0)), .int v1, .int v2, .ref (ad (40, 0))] (c_L_together l hls hP hz h0n h0e (x := v1) (t := v2)) hx hb hml hown hts hE hF hG hN hS rfl rfl q_42 q_611 q_613 q_612 (by decide) rfl ⟨by rw [hRf]; decide, by rw [hRl]; decide⟩ hl.1 rfl (Nat.le_of_ble_eq_true rfl) dL_law_911 ⟨by rw [hRc]; omega, by rw [hRs]; omega⟩ (fun v H1 locs hp hS => ?_)
  obtain ⟨hv, ad', bl', oj', k1, k2, k3, k4, k5, k6, g2, pl2, kn2, rw2, mi2, un2, hP⟩ := hp; subst hv; generalize H1 = H at hP hS ⊢
  rw [show (if tNd z v1 v2 = 0 then z else z) = z from ite_self _] at hP k3 k4 k5
  have hP : xW D A ad' (wU (wB y ad' bl' z g2 pl2 kn2 rw2 mi2 un2) (wR y ad' th w qp qm qr qi qn qf qu qd) (wO y oj' od)) H := hP.ct (by rw [wR_ad k1])
  have hl : lv_has ls 9 [(0, .ref b), (1, .ref (ad' (0, 0))), (2, .ref (ad' (20, 0))), (3, .ref (ad' (40, 0))), (4, .ref (ad' (41, 0))), (5, .int (nI (5 * j)))] := by rw [k2, k1 (20, 0) (by decide), k1 (40, 0) (by decide), k1 (41, 0) (by decide)]; exact hl
  refine lv_istore (lv' := [(6, .int (tNd z v1 v2)), (0, .ref b), (1, .ref (ad' (0, 0))), (2, .ref (ad' (20, 0))), (3, .ref (ad' (40, 0))), (4, .ref (ad' (41, 0))), (5, .int (nI (5 * j)))]) hx hb dL_law_914 hl (by decide) rfl (fun ls hl => ?_)
  refine lv_aload_n hx hb dL_law_916 rfl (lv_at hl 3 rfl) ?_
  refine lw_arg (k := 1) hx hb hX hbl hbA hS hL (by omega) (lv_at hl 1 rfl) (lv_at hl 6 rfl) dL_law_917 dL_law_918 dL_law_920 (by decide) dL_law_921 dL_law_922 ?_
  refine xt_i hv1.symm ?_
  refine lw_arg (k := 2) hx hb hX hbl hbA hS hL (by omega) (lv_at hl 1 rfl) (lv_at hl 6 rfl) dL_law_923 dL_law_924 dL_law_926 (by decide) dL_law_927 dL_law_928 ?_
  refine xt_i hv2.symm ?_
  refine xw_callV (C := "NetlistBenchModel") (n := 2) [.int v1, .int v2] (c_X4_together l hP hq hz.w  v1 v2) hx hb hml hown hts hE hS (xw_recv hE hP (20, 0) rfl rfl) rfl rfl q_48 q_868 q_871 q_869 q_870 (by decide) rfl ⟨by rw [hRf]; decide, by rw [hRl]; decide⟩ hl.1 rfl (Nat.le_of_ble_eq_true rfl) dL_law_929 ⟨by rw [hRc]; omega, by rw [hRs]; omega⟩ (fun v H1 locs hp hS => ?_)
  obtain ⟨r, hv, hr2, w2, qp2, qm2, qr2, qi2, qn2, qf2, qu2, qd2, hq2, hP⟩ := hp; subst hv; generalize H1 = H at hP hS ⊢
  refine lv_istore (lv' := [(7, .int r), (6, .int (tNd z v1 v2)), (0, .ref b), (1, .ref (ad' (0, 0))), (2, .ref (ad' (20, 0))), (3, .ref (ad' (40, 0))), (4, .ref (ad' (41, 0))), (5, .int (nI (5 * j)))]) hx hb dL_law_932 hl (by decide) rfl (fun ls hl => ?_)
  refine lv_aload_n hx hb dL_law_934 rfl (lv_at hl 4 rfl) ?_
  refine xw_callV (C := "NetlistBenchModel") (n := 0) [] (c_X4_thrown l hP) hx hb hml hown hts hE hS (xw_recv hE hP (20, 0) rfl rfl) rfl rfl q_48 q_790 q_793 q_791 q_792 (by decide) rfl ⟨by rw [hRf]; decide, by rw [hRl]; decide⟩ hl.1 rfl (Nat.le_of_ble_eq_true rfl) dL_law_935 ⟨by rw [hRc]; omega, by rw [hRs]; omega⟩ (fun v H1 locs hp hS => ?_)
  obtain ⟨hv, hh⟩ := hp; subst hv; subst hh
  refine lv_iload hx hb dL_law_938 (lv_at hl 1 rfl) ?_
  refine lv_icmp_eq (tgt := 945) hx hb dL_law_940 (by decide) (fun _ => ?_) (fun h => absurd rfl h)
  refine lv_iload hx hb dL_law_945 (lv_at hl 1 rfl) ?_
  refine lv_if_ne (tgt := 962) hx hb dL_law_947 (by decide) (fun h0 => ?_) (fun h0 => ?_)
  · refine lv_goto (tgt := 1835) hx hb dL_law_962 (by decide) ?_
    exact W.widen (k := 46 + 6 * j) (n := 1200 + 80 * j) (by omega) (by omega) (K ad' z _ _ _ ⟨bl', g2, pl2, kn2, rw2, mi2, un2, _, w2, qp2, qm2, qr2, qi2, qn2, qf2, qu2, qd2, oj', od, hP, hq2, k5, k3, k4⟩ hS (lv_sub hl [2, 3, 4, 5, 6, 7] rfl))
  refine lv_aload_n hx hb dL_law_950 rfl (lv_at hl 5 rfl) ?_
  refine lv_iconst (v := nI 0) hx hb dL_law_951 (by decide) ?_
  refine xo_lald hx hb hE hP rfl dL_law_952 ?_
  refine lv_iload hx hb dL_law_953 (lv_at hl 0 rfl) ?_
  refine lv_i2l (v := r.toInt64) hx hb dL_law_955 rfl ?_
  refine W.lcmp hx hb dL_law_956 ?_
  refine xt_i (w := 0) (by rw [k6 h0, hr2 h0]; exact lgc _) ?_
  refine lv_if_eq (tgt := 962) hx hb dL_law_957 (by decide) (fun _ => ?_) (fun h => absurd rfl h)
  refine lv_goto (tgt := 1835) hx hb dL_law_962 (by decide) ?_
  exact W.widen (k := 46 + 6 * j) (n := 1200 + 80 * j) (by omega) (by omega) (K ad' z _ _ _ ⟨bl', g2, pl2, kn2, rw2, mi2, un2, _, w2, qp2, qm2, qr2, qi2, qn2, qf2, qu2, qd2, oj', od, hP, hq2, k5, k3, k4⟩ hS (lv_sub hl [2, 3, 4, 5, 6, 7] rfl))

set_option maxHeartbeats 4000000 in
set_option maxRecDepth 100000 in
theorem lc_floats {p : Program} {l : Launch} {e : Env} {R : Room} {s : State} {m : MethodId} {args : Array Value} {below : List Frame} {meth : Method} {c : Code} {H H0 : Heap} {locs : List Loc} {Q : State → Prop} {D : va_G} {y : Nat → ClassId} {A : Nat → Prop} {e0 b L : Nat} {xs : Nat → Int32} (C0 : lc_At p l s m args meth c R D y A H0 e0 b L xs) {ad : xL → Nat} {z : xC} {j : Nat} {ls : Array Slot} (hL : L ≤ 2560) (h5 : 5 * j + 5 ≤ L) (hi : xLI D A y e0 ad z H) (hS : va_S A H0 H locs) (hl : lv_has ls 9 (lcL ad b j))
    (K : ∀ (ad' : xL → Nat) (z' : xC) (H1 : Heap) (locs1 : List Loc) (ls1 : Array Slot), xLI D A y e0 ad' z' H1 → va_S A H0 H1 locs1 → lv_has ls1 9 (lcL ad' b j) → W p l e R s m args below meth c H1 locs1 (46 + 6 * j) (1200 + 80 * j) Q (F0 m 1835 ls1 [])) : W p l e R s m args below meth c H locs (40 + 6 * j) (1120 + 80 * j) Q (F0 m 965 ls []) := by
  obtain ⟨hx, hb, hml, hown, hts, hX, hbl, hbA, hE, hF, hG, hN, hls, hRf, hRl, hRc, hRs⟩ := C0
  obtain ⟨bl, g, pl, kn, rw, mi, un, th, w, qp, qm, qr, qi, qn, qf, qu, qd, oj, od, hP, hq, hz, h0n, h0e⟩ := hi
  have hl : lv_has ls 9 [(0, .ref b), (1, .ref (ad (0, 0))), (2, .ref (ad (20, 0))), (3, .ref (ad (40, 0))), (4, .ref (ad (41, 0))), (5, .int (nI (5 * j)))] := hl
  obtain ⟨v1, hv1⟩ : ∃ v, v = xs (nI (5 * j + 1)).toNatClampNeg := ⟨_, rfl⟩
  obtain ⟨v2, hv2⟩ : ∃ v, v = xs (nI (5 * j + 2)).toNatClampNeg := ⟨_, rfl⟩
  obtain ⟨v3, hv3⟩ : ∃ v, v = xs (nI (5 * j + 3)).toNatClampNeg := ⟨_, rfl⟩
  obtain ⟨v4, hv4⟩ : ∃ v, v = xs (nI (5 * j + 4)).toNatClampNeg := ⟨_, rfl⟩
  refine lv_aload_n hx hb dL_law_965 rfl (lv_at hl 1 rfl) ?_
  refine lw_arg (k := 1) hx hb hX hbl hbA hS hL (by omega) (lv_at hl 0 rfl) (lv_at hl 5 rfl) dL_law_966 dL_law_967 dL_law_969 (by decide) dL_law_970 dL_law_971 ?_
  refine xt_i hv1.symm ?_
  refine lw_arg (k := 2) hx hb hX hbl hbA hS hL (by omega) (lv_at hl 0 rfl) (lv_at hl 5 rfl) dL_law_972 dL_law_973 dL_law_975 (by decide) dL_law_976 dL_law_977 ?_
  refine xt_i hv2.symm ?_
  refine lv_aload_n hx hb dL_law_978 rfl (lv_at hl 3 rfl) ?_
  refine xl_callS (n := 4) [.ref (ad (0, 0)), .int v1, .int v2, .ref (ad (40, 0))] (c_L_floats l hls hP hz h0n h0e (x := v1) (t := v2)) hx hb hml hown hts hE hF hG hN hS rfl rfl q_42 q_618 q_620 q_619 (by decide) rfl ⟨by rw [hRf]; decide, by rw [hRl]; decide⟩ hl.1 rfl (Nat.le_of_ble_eq_true rfl) dL_law_979 ⟨by rw [hRc]; omega, by rw [hRs]; omega⟩ (fun v H1 locs hp hS => ?_)
  obtain ⟨hv, ad', bl', oj', k1, k2, k3, k4, k5, k6, g2, pl2, kn2, rw2, mi2, un2, hP⟩ := hp; subst hv; generalize H1 = H at hP hS ⊢
  rw [show (if tNd z v1 v2 = 0 then z else z) = z from ite_self _] at hP k3 k4 k5
  have hP : xW D A ad' (wU (wB y ad' bl' z g2 pl2 kn2 rw2 mi2 un2) (wR y ad' th w qp qm qr qi qn qf qu qd) (wO y oj' od)) H := hP.ct (by rw [wR_ad k1])
  have hl : lv_has ls 9 [(0, .ref b), (1, .ref (ad' (0, 0))), (2, .ref (ad' (20, 0))), (3, .ref (ad' (40, 0))), (4, .ref (ad' (41, 0))), (5, .int (nI (5 * j)))] := by rw [k2, k1 (20, 0) (by decide), k1 (40, 0) (by decide), k1 (41, 0) (by decide)]; exact hl
  refine lv_istore (lv' := [(6, .int (tNd z v1 v2)), (0, .ref b), (1, .ref (ad' (0, 0))), (2, .ref (ad' (20, 0))), (3, .ref (ad' (40, 0))), (4, .ref (ad' (41, 0))), (5, .int (nI (5 * j)))]) hx hb dL_law_982 hl (by decide) rfl (fun ls hl => ?_)
  refine lv_aload_n hx hb dL_law_984 rfl (lv_at hl 3 rfl) ?_
  refine lw_arg (k := 1) hx hb hX hbl hbA hS hL (by omega) (lv_at hl 1 rfl) (lv_at hl 6 rfl) dL_law_985 dL_law_986 dL_law_988 (by decide) dL_law_989 dL_law_990 ?_
  refine xt_i hv1.symm ?_
  refine lw_arg (k := 2) hx hb hX hbl hbA hS hL (by omega) (lv_at hl 1 rfl) (lv_at hl 6 rfl) dL_law_991 dL_law_992 dL_law_994 (by decide) dL_law_995 dL_law_996 ?_
  refine xt_i hv2.symm ?_
  refine xw_callV (C := "NetlistBenchModel") (n := 2) [.int v1, .int v2] (c_X4_floats l hP hq hz.w  v1 v2) hx hb hml hown hts hE hS (xw_recv hE hP (20, 0) rfl rfl) rfl rfl q_48 q_880 q_883 q_881 q_882 (by decide) rfl ⟨by rw [hRf]; decide, by rw [hRl]; decide⟩ hl.1 rfl (Nat.le_of_ble_eq_true rfl) dL_law_997 ⟨by rw [hRc]; omega, by rw [hRs]; omega⟩ (fun v H1 locs hp hS => ?_)
  obtain ⟨r, hv, hr2, w2, qp2, qm2, qr2, qi2, qn2, qf2, qu2, qd2, hq2, hP⟩ := hp; subst hv; generalize H1 = H at hP hS ⊢
  refine lv_istore (lv' := [(7, .int r), (6, .int (tNd z v1 v2)), (0, .ref b), (1, .ref (ad' (0, 0))), (2, .ref (ad' (20, 0))), (3, .ref (ad' (40, 0))), (4, .ref (ad' (41, 0))), (5, .int (nI (5 * j)))]) hx hb dL_law_1000 hl (by decide) rfl (fun ls hl => ?_)
  refine lv_aload_n hx hb dL_law_1002 rfl (lv_at hl 4 rfl) ?_
  refine xw_callV (C := "NetlistBenchModel") (n := 0) [] (c_X4_thrown l hP) hx hb hml hown hts hE hS (xw_recv hE hP (20, 0) rfl rfl) rfl rfl q_48 q_790 q_793 q_791 q_792 (by decide) rfl ⟨by rw [hRf]; decide, by rw [hRl]; decide⟩ hl.1 rfl (Nat.le_of_ble_eq_true rfl) dL_law_1003 ⟨by rw [hRc]; omega, by rw [hRs]; omega⟩ (fun v H1 locs hp hS => ?_)
  obtain ⟨hv, hh⟩ := hp; subst hv; subst hh
  refine lv_iload hx hb dL_law_1006 (lv_at hl 1 rfl) ?_
  refine lv_icmp_eq (tgt := 1013) hx hb dL_law_1008 (by decide) (fun _ => ?_) (fun h => absurd rfl h)
  refine lv_iload hx hb dL_law_1013 (lv_at hl 1 rfl) ?_
  refine lv_if_ne (tgt := 1037) hx hb dL_law_1015 (by decide) (fun h0 => ?_) (fun h0 => ?_)
  · refine lv_goto (tgt := 1835) hx hb dL_law_1037 (by decide) ?_
    exact W.widen (k := 46 + 6 * j) (n := 1200 + 80 * j) (by omega) (by omega) (K ad' z _ _ _ ⟨bl', g2, pl2, kn2, rw2, mi2, un2, _, w2, qp2, qm2, qr2, qi2, qn2, qf2, qu2, qd2, oj', od, hP, hq2, k5, k3, k4⟩ hS (lv_sub hl [2, 3, 4, 5, 6, 7] rfl))
  refine lv_aload_n hx hb dL_law_1018 rfl (lv_at hl 5 rfl) ?_
  refine lv_iconst (v := nI 0) hx hb dL_law_1019 (by decide) ?_
  refine xo_lald hx hb hE hP rfl dL_law_1020 ?_
  refine lv_iload hx hb dL_law_1021 (lv_at hl 0 rfl) ?_
  refine lw_bL hx hb dL_law_1023 dL_law_1026 dL_law_1027 dL_law_1030 ?_
  refine W.lcmp hx hb dL_law_1031 ?_
  refine xt_i (w := 0) (by rw [k6 h0, hr2 h0]; exact lgc _) ?_
  refine lv_if_eq (tgt := 1037) hx hb dL_law_1032 (by decide) (fun _ => ?_) (fun h => absurd rfl h)
  refine lv_goto (tgt := 1835) hx hb dL_law_1037 (by decide) ?_
  exact W.widen (k := 46 + 6 * j) (n := 1200 + 80 * j) (by omega) (by omega) (K ad' z _ _ _ ⟨bl', g2, pl2, kn2, rw2, mi2, un2, _, w2, qp2, qm2, qr2, qi2, qn2, qf2, qu2, qd2, oj', od, hP, hq2, k5, k3, k4⟩ hS (lv_sub hl [2, 3, 4, 5, 6, 7] rfl))
