/-! the law, case by case -/
set_option maxHeartbeats 4000000 in
set_option maxRecDepth 100000 in
theorem lc_nextToggle {p : Program} {l : Launch} {e : Env} {R : Room} {s : State} {m : MethodId} {args : Array Value} {below : List Frame} {meth : Method} {c : Code} {H H0 : Heap} {locs : List Loc} {Q : State → Prop} {D : va_G} {y : Nat → ClassId} {A : Nat → Prop} {e0 b L : Nat} {xs : Nat → Int32} (C0 : lc_At p l s m args meth c R D y A H0 e0 b L xs) {ad : xL → Nat} {z : xC} {j : Nat} {ls : Array Slot} (hL : L ≤ 2560) (h5 : 5 * j + 5 ≤ L) (hi : xLI D A y e0 ad z H) (hS : va_S A H0 H locs) (hl : lv_has ls 9 (lcL ad b j))
    (K : ∀ (ad' : xL → Nat) (z' : xC) (H1 : Heap) (locs1 : List Loc) (ls1 : Array Slot), xLI D A y e0 ad' z' H1 → va_S A H0 H1 locs1 → lv_has ls1 9 (lcL ad' b j) → W p l e R s m args below meth c H1 locs1 (46 + 6 * j) (1200 + 80 * j) Q (F0 m 1835 ls1 [])) : W p l e R s m args below meth c H locs (40 + 6 * j) (1120 + 80 * j) Q (F0 m 1509 ls []) := by
  obtain ⟨hx, hb, hml, hown, hts, hX, hbl, hbA, hE, hF, hG, hN, hls, hRf, hRl, hRc, hRs⟩ := C0
  obtain ⟨bl, g, pl, kn, rw, mi, un, th, w, qp, qm, qr, qi, qn, qf, qu, qd, oj, od, hP, hq, hz, h0n, h0e⟩ := hi
  have hl : lv_has ls 9 [(0, .ref b), (1, .ref (ad (0, 0))), (2, .ref (ad (20, 0))), (3, .ref (ad (40, 0))), (4, .ref (ad (41, 0))), (5, .int (nI (5 * j)))] := hl
  obtain ⟨v1, hv1⟩ : ∃ v, v = xs (nI (5 * j + 1)).toNatClampNeg := ⟨_, rfl⟩
  obtain ⟨v2, hv2⟩ : ∃ v, v = xs (nI (5 * j + 2)).toNatClampNeg := ⟨_, rfl⟩
  obtain ⟨v3, hv3⟩ : ∃ v, v = xs (nI (5 * j + 3)).toNatClampNeg := ⟨_, rfl⟩
  obtain ⟨v4, hv4⟩ : ∃ v, v = xs (nI (5 * j + 4)).toNatClampNeg := ⟨_, rfl⟩
  refine lv_aload_n hx hb dL_law_1509 rfl (lv_at hl 1 rfl) ?_
  refine lw_arg (k := 1) hx hb hX hbl hbA hS hL (by omega) (lv_at hl 0 rfl) (lv_at hl 5 rfl) dL_law_1510 dL_law_1511 dL_law_1513 (by decide) dL_law_1514 dL_law_1515 ?_
  refine xt_i hv1.symm ?_
  refine lv_aload_n hx hb dL_law_1516 rfl (lv_at hl 3 rfl) ?_
  refine xl_callS (n := 3) [.ref (ad (0, 0)), .int v1, .ref (ad (40, 0))] (c_L_nextToggle l hls hP hz h0n h0e (t := v1)) hx hb hml hown hts hE hF hG hN hS rfl rfl q_42 q_679 q_681 q_680 (by decide) rfl ⟨by rw [hRf]; decide, by rw [hRl]; decide⟩ hl.1 rfl (Nat.le_of_ble_eq_true rfl) dL_law_1517 ⟨by rw [hRc]; omega, by rw [hRs]; omega⟩ (fun v H1 locs hp hS => ?_)
  obtain ⟨hv, ad', bl', oj', k1, k2, k3, k4, k5, k6, g2, pl2, kn2, rw2, mi2, un2, hP⟩ := hp; subst hv; generalize H1 = H at hP hS ⊢
  rw [show (if tTm v1 = 0 then z else z) = z from ite_self _] at hP k3 k4 k5
  have hP : xW D A ad' (wU (wB y ad' bl' z g2 pl2 kn2 rw2 mi2 un2) (wR y ad' th w qp qm qr qi qn qf qu qd) (wO y oj' od)) H := hP.ct (by rw [wR_ad k1])
  have hl : lv_has ls 9 [(0, .ref b), (1, .ref (ad' (0, 0))), (2, .ref (ad' (20, 0))), (3, .ref (ad' (40, 0))), (4, .ref (ad' (41, 0))), (5, .int (nI (5 * j)))] := by rw [k2, k1 (20, 0) (by decide), k1 (40, 0) (by decide), k1 (41, 0) (by decide)]; exact hl
  refine lv_istore (lv' := [(6, .int (tTm v1)), (0, .ref b), (1, .ref (ad' (0, 0))), (2, .ref (ad' (20, 0))), (3, .ref (ad' (40, 0))), (4, .ref (ad' (41, 0))), (5, .int (nI (5 * j)))]) hx hb dL_law_1520 hl (by decide) rfl (fun ls hl => ?_)
  refine lv_aload_n hx hb dL_law_1522 rfl (lv_at hl 3 rfl) ?_
  refine lw_arg (k := 1) hx hb hX hbl hbA hS hL (by omega) (lv_at hl 1 rfl) (lv_at hl 6 rfl) dL_law_1523 dL_law_1524 dL_law_1526 (by decide) dL_law_1527 dL_law_1528 ?_
  refine xt_i hv1.symm ?_
  refine xw_callV (C := "NetlistBenchModel") (n := 1) [.int v1] (c_X4_nextToggle l hP hq hz.w  v1) hx hb hml hown hts hE hS (xw_recv hE hP (20, 0) rfl rfl) rfl rfl q_48 q_936 q_939 q_937 q_938 (by decide) rfl ⟨by rw [hRf]; decide, by rw [hRl]; decide⟩ hl.1 rfl (Nat.le_of_ble_eq_true rfl) dL_law_1529 ⟨by rw [hRc]; omega, by rw [hRs]; omega⟩ (fun v H1 locs hp hS => ?_)
  obtain ⟨r, hv, hr2, w2, qp2, qm2, qr2, qi2, qn2, qf2, qu2, qd2, hq2, hP⟩ := hp; subst hv; generalize H1 = H at hP hS ⊢
  refine lv_istore (lv' := [(7, .int r), (6, .int (tTm v1)), (0, .ref b), (1, .ref (ad' (0, 0))), (2, .ref (ad' (20, 0))), (3, .ref (ad' (40, 0))), (4, .ref (ad' (41, 0))), (5, .int (nI (5 * j)))]) hx hb dL_law_1532 hl (by decide) rfl (fun ls hl => ?_)
  refine lv_aload_n hx hb dL_law_1534 rfl (lv_at hl 4 rfl) ?_
  refine xw_callV (C := "NetlistBenchModel") (n := 0) [] (c_X4_thrown l hP) hx hb hml hown hts hE hS (xw_recv hE hP (20, 0) rfl rfl) rfl rfl q_48 q_790 q_793 q_791 q_792 (by decide) rfl ⟨by rw [hRf]; decide, by rw [hRl]; decide⟩ hl.1 rfl (Nat.le_of_ble_eq_true rfl) dL_law_1535 ⟨by rw [hRc]; omega, by rw [hRs]; omega⟩ (fun v H1 locs hp hS => ?_)
  obtain ⟨hv, hh⟩ := hp; subst hv; subst hh
  refine lv_iload hx hb dL_law_1538 (lv_at hl 1 rfl) ?_
  refine lv_icmp_eq (tgt := 1545) hx hb dL_law_1540 (by decide) (fun _ => ?_) (fun h => absurd rfl h)
  refine lv_iload hx hb dL_law_1545 (lv_at hl 1 rfl) ?_
  refine lv_if_ne (tgt := 1562) hx hb dL_law_1547 (by decide) (fun h0 => ?_) (fun h0 => ?_)
  · refine lv_goto (tgt := 1835) hx hb dL_law_1562 (by decide) ?_
    exact W.widen (k := 46 + 6 * j) (n := 1200 + 80 * j) (by omega) (by omega) (K ad' z _ _ _ ⟨bl', g2, pl2, kn2, rw2, mi2, un2, _, w2, qp2, qm2, qr2, qi2, qn2, qf2, qu2, qd2, oj', od, hP, hq2, k5, k3, k4⟩ hS (lv_sub hl [2, 3, 4, 5, 6, 7] rfl))
  refine lv_aload_n hx hb dL_law_1550 rfl (lv_at hl 5 rfl) ?_
  refine lv_iconst (v := nI 0) hx hb dL_law_1551 (by decide) ?_
  refine xo_lald hx hb hE hP rfl dL_law_1552 ?_
  refine lv_iload hx hb dL_law_1553 (lv_at hl 0 rfl) ?_
  refine lv_i2l (v := r.toInt64) hx hb dL_law_1555 rfl ?_
  refine W.lcmp hx hb dL_law_1556 ?_
  refine xt_i (w := 0) (by rw [k6 h0, hr2 h0]; exact lgc _) ?_
  refine lv_if_eq (tgt := 1562) hx hb dL_law_1557 (by decide) (fun _ => ?_) (fun h => absurd rfl h)
  refine lv_goto (tgt := 1835) hx hb dL_law_1562 (by decide) ?_
  exact W.widen (k := 46 + 6 * j) (n := 1200 + 80 * j) (by omega) (by omega) (K ad' z _ _ _ ⟨bl', g2, pl2, kn2, rw2, mi2, un2, _, w2, qp2, qm2, qr2, qi2, qn2, qf2, qu2, qd2, oj', od, hP, hq2, k5, k3, k4⟩ hS (lv_sub hl [2, 3, 4, 5, 6, 7] rfl))

set_option maxHeartbeats 4000000 in
set_option maxRecDepth 100000 in
theorem lc_probe {p : Program} {l : Launch} {e : Env} {R : Room} {s : State} {m : MethodId} {args : Array Value} {below : List Frame} {meth : Method} {c : Code} {H H0 : Heap} {locs : List Loc} {Q : State → Prop} {D : va_G} {y : Nat → ClassId} {A : Nat → Prop} {e0 b L : Nat} {xs : Nat → Int32} (C0 : lc_At p l s m args meth c R D y A H0 e0 b L xs) {ad : xL → Nat} {z : xC} {j : Nat} {ls : Array Slot} (hL : L ≤ 2560) (h5 : 5 * j + 5 ≤ L) (hi : xLI D A y e0 ad z H) (hS : va_S A H0 H locs) (hl : lv_has ls 9 (lcL ad b j))
    (K : ∀ (ad' : xL → Nat) (z' : xC) (H1 : Heap) (locs1 : List Loc) (ls1 : Array Slot), xLI D A y e0 ad' z' H1 → va_S A H0 H1 locs1 → lv_has ls1 9 (lcL ad' b j) → W p l e R s m args below meth c H1 locs1 (46 + 6 * j) (1200 + 80 * j) Q (F0 m 1835 ls1 [])) : W p l e R s m args below meth c H locs (40 + 6 * j) (1120 + 80 * j) Q (F0 m 1565 ls []) := by
  obtain ⟨hx, hb, hml, hown, hts, hX, hbl, hbA, hE, hF, hG, hN, hls, hRf, hRl, hRc, hRs⟩ := C0
  obtain ⟨bl, g, pl, kn, rw, mi, un, th, w, qp, qm, qr, qi, qn, qf, qu, qd, oj, od, hP, hq, hz, h0n, h0e⟩ := hi
  have hl : lv_has ls 9 [(0, .ref b), (1, .ref (ad (0, 0))), (2, .ref (ad (20, 0))), (3, .ref (ad (40, 0))), (4, .ref (ad (41, 0))), (5, .int (nI (5 * j)))] := hl
  obtain ⟨v1, hv1⟩ : ∃ v, v = xs (nI (5 * j + 1)).toNatClampNeg := ⟨_, rfl⟩
  obtain ⟨v2, hv2⟩ : ∃ v, v = xs (nI (5 * j + 2)).toNatClampNeg := ⟨_, rfl⟩
  obtain ⟨v3, hv3⟩ : ∃ v, v = xs (nI (5 * j + 3)).toNatClampNeg := ⟨_, rfl⟩
  obtain ⟨v4, hv4⟩ : ∃ v, v = xs (nI (5 * j + 4)).toNatClampNeg := ⟨_, rfl⟩
  refine lv_aload_n hx hb dL_law_1565 rfl (lv_at hl 1 rfl) ?_
  refine lw_arg (k := 1) hx hb hX hbl hbA hS hL (by omega) (lv_at hl 0 rfl) (lv_at hl 5 rfl) dL_law_1566 dL_law_1567 dL_law_1569 (by decide) dL_law_1570 dL_law_1571 ?_
  refine xt_i hv1.symm ?_
  refine lw_arg (k := 2) hx hb hX hbl hbA hS hL (by omega) (lv_at hl 0 rfl) (lv_at hl 5 rfl) dL_law_1572 dL_law_1573 dL_law_1575 (by decide) dL_law_1576 dL_law_1577 ?_
  refine xt_i hv2.symm ?_
  refine lw_arg (k := 3) hx hb hX hbl hbA hS hL (by omega) (lv_at hl 0 rfl) (lv_at hl 5 rfl) dL_law_1578 dL_law_1579 dL_law_1581 (by decide) dL_law_1582 dL_law_1583 ?_
  refine xt_i hv3.symm ?_
  refine lw_arg (k := 4) hx hb hX hbl hbA hS hL (by omega) (lv_at hl 0 rfl) (lv_at hl 5 rfl) dL_law_1584 dL_law_1585 dL_law_1587 (by decide) dL_law_1588 dL_law_1589 ?_
  refine xt_i hv4.symm ?_
  refine lw_b01 hx hb dL_law_1590 dL_law_1593 dL_law_1594 dL_law_1597 ?_
  refine lv_aload_n hx hb dL_law_1598 rfl (lv_at hl 3 rfl) ?_
  refine xl_callS (n := 6) [.ref (ad (0, 0)), .int v1, .int v2, .int v3, .int (b01 v4), .ref (ad (40, 0))] (c_L_probe l hls hP hz h0n h0e (x := v1) (f := v2) (q := v3) (m1 := (b01 v4))) hx hb hml hown hts hE hF hG hN hS rfl rfl q_42 q_686 q_688 q_687 (by decide) rfl ⟨by rw [hRf]; decide, by rw [hRl]; decide⟩ hl.1 rfl (Nat.le_of_ble_eq_true rfl) dL_law_1599 ⟨by rw [hRc]; omega, by rw [hRs]; omega⟩ (fun v H1 locs hp hS => ?_)
  obtain ⟨hv, ad', bl', oj', k1, k2, k3, k4, k5, k6, g2, pl2, kn2, rw2, mi2, un2, hP⟩ := hp; subst hv; generalize H1 = H at hP hS ⊢
  rw [show (if tPrb z v1 v2 v3 = 0 then z else z) = z from ite_self _] at hP k3 k4 k5
  have hP : xW D A ad' (wU (wB y ad' bl' z g2 pl2 kn2 rw2 mi2 un2) (wR y ad' th w qp qm qr qi qn qf qu qd) (wO y oj' od)) H := hP.ct (by rw [wR_ad k1])
  have hl : lv_has ls 9 [(0, .ref b), (1, .ref (ad' (0, 0))), (2, .ref (ad' (20, 0))), (3, .ref (ad' (40, 0))), (4, .ref (ad' (41, 0))), (5, .int (nI (5 * j)))] := by rw [k2, k1 (20, 0) (by decide), k1 (40, 0) (by decide), k1 (41, 0) (by decide)]; exact hl
  refine lv_istore (lv' := [(6, .int (tPrb z v1 v2 v3)), (0, .ref b), (1, .ref (ad' (0, 0))), (2, .ref (ad' (20, 0))), (3, .ref (ad' (40, 0))), (4, .ref (ad' (41, 0))), (5, .int (nI (5 * j)))]) hx hb dL_law_1602 hl (by decide) rfl (fun ls hl => ?_)
  refine lv_aload_n hx hb dL_law_1604 rfl (lv_at hl 3 rfl) ?_
  refine lw_arg (k := 1) hx hb hX hbl hbA hS hL (by omega) (lv_at hl 1 rfl) (lv_at hl 6 rfl) dL_law_1605 dL_law_1606 dL_law_1608 (by decide) dL_law_1609 dL_law_1610 ?_
  refine xt_i hv1.symm ?_
  refine lw_arg (k := 2) hx hb hX hbl hbA hS hL (by omega) (lv_at hl 1 rfl) (lv_at hl 6 rfl) dL_law_1611 dL_law_1612 dL_law_1614 (by decide) dL_law_1615 dL_law_1616 ?_
  refine xt_i hv2.symm ?_
  refine lw_arg (k := 3) hx hb hX hbl hbA hS hL (by omega) (lv_at hl 1 rfl) (lv_at hl 6 rfl) dL_law_1617 dL_law_1618 dL_law_1620 (by decide) dL_law_1621 dL_law_1622 ?_
  refine xt_i hv3.symm ?_
  refine lw_arg (k := 4) hx hb hX hbl hbA hS hL (by omega) (lv_at hl 1 rfl) (lv_at hl 6 rfl) dL_law_1623 dL_law_1624 dL_law_1626 (by decide) dL_law_1627 dL_law_1628 ?_
  refine xt_i hv4.symm ?_
  refine lw_b01 hx hb dL_law_1629 dL_law_1632 dL_law_1633 dL_law_1636 ?_
  refine xw_callV (C := "NetlistBenchModel") (n := 4) [.int v1, .int v2, .int v3, .int (b01 v4)] (c_X4_probe l hP hq hz.w (nOk_wf hz.w) v1 v2 v3 (b01 v4)) hx hb hml hown hts hE hS (xw_recv hE hP (20, 0) rfl rfl) rfl rfl q_48 q_944 q_947 q_945 q_946 (by decide) rfl ⟨by rw [hRf]; decide, by rw [hRl]; decide⟩ hl.1 rfl (Nat.le_of_ble_eq_true rfl) dL_law_1637 ⟨by rw [hRc]; omega, by rw [hRs]; omega⟩ (fun v H1 locs hp hS => ?_)
  obtain ⟨r, hv, hr2, w2, qp2, qm2, qr2, qi2, qn2, qf2, qu2, qd2, hq2, hP⟩ := hp; subst hv; generalize H1 = H at hP hS ⊢
  refine lv_istore (lv' := [(7, .int r), (6, .int (tPrb z v1 v2 v3)), (0, .ref b), (1, .ref (ad' (0, 0))), (2, .ref (ad' (20, 0))), (3, .ref (ad' (40, 0))), (4, .ref (ad' (41, 0))), (5, .int (nI (5 * j)))]) hx hb dL_law_1640 hl (by decide) rfl (fun ls hl => ?_)
  refine lv_aload_n hx hb dL_law_1642 rfl (lv_at hl 4 rfl) ?_
  refine xw_callV (C := "NetlistBenchModel") (n := 0) [] (c_X4_thrown l hP) hx hb hml hown hts hE hS (xw_recv hE hP (20, 0) rfl rfl) rfl rfl q_48 q_790 q_793 q_791 q_792 (by decide) rfl ⟨by rw [hRf]; decide, by rw [hRl]; decide⟩ hl.1 rfl (Nat.le_of_ble_eq_true rfl) dL_law_1643 ⟨by rw [hRc]; omega, by rw [hRs]; omega⟩ (fun v H1 locs hp hS => ?_)
  obtain ⟨hv, hh⟩ := hp; subst hv; subst hh
  refine lv_iload hx hb dL_law_1646 (lv_at hl 1 rfl) ?_
  refine lv_icmp_eq (tgt := 1653) hx hb dL_law_1648 (by decide) (fun _ => ?_) (fun h => absurd rfl h)
  refine lv_iload hx hb dL_law_1653 (lv_at hl 1 rfl) ?_
  refine lv_if_ne (tgt := 1670) hx hb dL_law_1655 (by decide) (fun h0 => ?_) (fun h0 => ?_)
  · refine lv_goto (tgt := 1835) hx hb dL_law_1670 (by decide) ?_
    exact W.widen (k := 46 + 6 * j) (n := 1200 + 80 * j) (by omega) (by omega) (K ad' z _ _ _ ⟨bl', g2, pl2, kn2, rw2, mi2, un2, _, w2, qp2, qm2, qr2, qi2, qn2, qf2, qu2, qd2, oj', od, hP, hq2, k5, k3, k4⟩ hS (lv_sub hl [2, 3, 4, 5, 6, 7] rfl))
  refine lv_aload_n hx hb dL_law_1658 rfl (lv_at hl 5 rfl) ?_
  refine lv_iconst (v := nI 0) hx hb dL_law_1659 (by decide) ?_
  refine xo_lald hx hb hE hP rfl dL_law_1660 ?_
  refine lv_iload hx hb dL_law_1661 (lv_at hl 0 rfl) ?_
  refine lv_i2l (v := r.toInt64) hx hb dL_law_1663 rfl ?_
  refine W.lcmp hx hb dL_law_1664 ?_
  refine xt_i (w := 0) (by rw [k6 h0, hr2 h0]; exact lgc _) ?_
  refine lv_if_eq (tgt := 1670) hx hb dL_law_1665 (by decide) (fun _ => ?_) (fun h => absurd rfl h)
  refine lv_goto (tgt := 1835) hx hb dL_law_1670 (by decide) ?_
  exact W.widen (k := 46 + 6 * j) (n := 1200 + 80 * j) (by omega) (by omega) (K ad' z _ _ _ ⟨bl', g2, pl2, kn2, rw2, mi2, un2, _, w2, qp2, qm2, qr2, qi2, qn2, qf2, qu2, qd2, oj', od, hP, hq2, k5, k3, k4⟩ hS (lv_sub hl [2, 3, 4, 5, 6, 7] rfl))

set_option maxHeartbeats 4000000 in
set_option maxRecDepth 100000 in
theorem lc_compare {p : Program} {l : Launch} {e : Env} {R : Room} {s : State} {m : MethodId} {args : Array Value} {below : List Frame} {meth : Method} {c : Code} {H H0 : Heap} {locs : List Loc} {Q : State → Prop} {D : va_G} {y : Nat → ClassId} {A : Nat → Prop} {e0 b L : Nat} {xs : Nat → Int32} (C0 : lc_At p l s m args meth c R D y A H0 e0 b L xs) {ad : xL → Nat} {z : xC} {j : Nat} {ls : Array Slot} (hL : L ≤ 2560) (h5 : 5 * j + 5 ≤ L) (hi : xLI D A y e0 ad z H) (hS : va_S A H0 H locs) (hl : lv_has ls 9 (lcL ad b j))
    (K : ∀ (ad' : xL → Nat) (z' : xC) (H1 : Heap) (locs1 : List Loc) (ls1 : Array Slot), xLI D A y e0 ad' z' H1 → va_S A H0 H1 locs1 → lv_has ls1 9 (lcL ad' b j) → W p l e R s m args below meth c H1 locs1 (46 + 6 * j) (1200 + 80 * j) Q (F0 m 1835 ls1 [])) : W p l e R s m args below meth c H locs (40 + 6 * j) (1120 + 80 * j) Q (F0 m 1673 ls []) := by
  obtain ⟨hx, hb, hml, hown, hts, hX, hbl, hbA, hE, hF, hG, hN, hls, hRf, hRl, hRc, hRs⟩ := C0
  obtain ⟨bl, g, pl, kn, rw, mi, un, th, w, qp, qm, qr, qi, qn, qf, qu, qd, oj, od, hP, hq, hz, h0n, h0e⟩ := hi
  have hl : lv_has ls 9 [(0, .ref b), (1, .ref (ad (0, 0))), (2, .ref (ad (20, 0))), (3, .ref (ad (40, 0))), (4, .ref (ad (41, 0))), (5, .int (nI (5 * j)))] := hl
  obtain ⟨v1, hv1⟩ : ∃ v, v = xs (nI (5 * j + 1)).toNatClampNeg := ⟨_, rfl⟩
  obtain ⟨v2, hv2⟩ : ∃ v, v = xs (nI (5 * j + 2)).toNatClampNeg := ⟨_, rfl⟩
  obtain ⟨v3, hv3⟩ : ∃ v, v = xs (nI (5 * j + 3)).toNatClampNeg := ⟨_, rfl⟩
  obtain ⟨v4, hv4⟩ : ∃ v, v = xs (nI (5 * j + 4)).toNatClampNeg := ⟨_, rfl⟩
  refine lv_aload_n hx hb dL_law_1673 rfl (lv_at hl 1 rfl) ?_
  refine lw_arg (k := 1) hx hb hX hbl hbA hS hL (by omega) (lv_at hl 0 rfl) (lv_at hl 5 rfl) dL_law_1674 dL_law_1675 dL_law_1677 (by decide) dL_law_1678 dL_law_1679 ?_
  refine xt_i hv1.symm ?_
  refine lw_arg (k := 2) hx hb hX hbl hbA hS hL (by omega) (lv_at hl 0 rfl) (lv_at hl 5 rfl) dL_law_1680 dL_law_1681 dL_law_1683 (by decide) dL_law_1684 dL_law_1685 ?_
  refine xt_i hv2.symm ?_
  refine lw_arg (k := 3) hx hb hX hbl hbA hS hL (by omega) (lv_at hl 0 rfl) (lv_at hl 5 rfl) dL_law_1686 dL_law_1687 dL_law_1689 (by decide) dL_law_1690 dL_law_1691 ?_
  refine xt_i hv3.symm ?_
  refine lw_arg (k := 4) hx hb hX hbl hbA hS hL (by omega) (lv_at hl 0 rfl) (lv_at hl 5 rfl) dL_law_1692 dL_law_1693 dL_law_1695 (by decide) dL_law_1696 dL_law_1697 ?_
  refine xt_i hv4.symm ?_
  refine lv_aload_n hx hb dL_law_1698 rfl (lv_at hl 3 rfl) ?_
  refine xl_callS (n := 6) [.ref (ad (0, 0)), .int v1, .int v2, .int v3, .int v4, .ref (ad (40, 0))] (c_L_compare l hls hP hz h0n h0e (x := v1) (t := v2) (u := v3) (w := v4)) hx hb hml hown hts hE hF hG hN hS rfl rfl q_42 q_703 q_705 q_704 (by decide) rfl ⟨by rw [hRf]; decide, by rw [hRl]; decide⟩ hl.1 rfl (Nat.le_of_ble_eq_true rfl) dL_law_1699 ⟨by rw [hRc]; omega, by rw [hRs]; omega⟩ (fun v H1 locs hp hS => ?_)
  obtain ⟨hv, ad', bl', oj', k1, k2, k3, k4, k5, k6, g2, pl2, kn2, rw2, mi2, un2, hP⟩ := hp; subst hv; generalize H1 = H at hP hS ⊢
  rw [show (if tCmp z v1 v2 v3 v4 = 0 then z else z) = z from ite_self _] at hP k3 k4 k5
  have hP : xW D A ad' (wU (wB y ad' bl' z g2 pl2 kn2 rw2 mi2 un2) (wR y ad' th w qp qm qr qi qn qf qu qd) (wO y oj' od)) H := hP.ct (by rw [wR_ad k1])
  have hl : lv_has ls 9 [(0, .ref b), (1, .ref (ad' (0, 0))), (2, .ref (ad' (20, 0))), (3, .ref (ad' (40, 0))), (4, .ref (ad' (41, 0))), (5, .int (nI (5 * j)))] := by rw [k2, k1 (20, 0) (by decide), k1 (40, 0) (by decide), k1 (41, 0) (by decide)]; exact hl
  refine lv_istore (lv' := [(6, .int (tCmp z v1 v2 v3 v4)), (0, .ref b), (1, .ref (ad' (0, 0))), (2, .ref (ad' (20, 0))), (3, .ref (ad' (40, 0))), (4, .ref (ad' (41, 0))), (5, .int (nI (5 * j)))]) hx hb dL_law_1702 hl (by decide) rfl (fun ls hl => ?_)
  refine lv_aload_n hx hb dL_law_1704 rfl (lv_at hl 3 rfl) ?_
  refine lw_arg (k := 1) hx hb hX hbl hbA hS hL (by omega) (lv_at hl 1 rfl) (lv_at hl 6 rfl) dL_law_1705 dL_law_1706 dL_law_1708 (by decide) dL_law_1709 dL_law_1710 ?_
  refine xt_i hv1.symm ?_
  refine lw_arg (k := 2) hx hb hX hbl hbA hS hL (by omega) (lv_at hl 1 rfl) (lv_at hl 6 rfl) dL_law_1711 dL_law_1712 dL_law_1714 (by decide) dL_law_1715 dL_law_1716 ?_
  refine xt_i hv2.symm ?_
  refine lw_arg (k := 3) hx hb hX hbl hbA hS hL (by omega) (lv_at hl 1 rfl) (lv_at hl 6 rfl) dL_law_1717 dL_law_1718 dL_law_1720 (by decide) dL_law_1721 dL_law_1722 ?_
  refine xt_i hv3.symm ?_
  refine lw_arg (k := 4) hx hb hX hbl hbA hS hL (by omega) (lv_at hl 1 rfl) (lv_at hl 6 rfl) dL_law_1723 dL_law_1724 dL_law_1726 (by decide) dL_law_1727 dL_law_1728 ?_
  refine xt_i hv4.symm ?_
  refine xw_callV (C := "NetlistBenchModel") (n := 4) [.int v1, .int v2, .int v3, .int v4] (c_X4_compare l hP hq hz.w (nOk_wf hz.w) v1 v2 v3 v4) hx hb hml hown hts hE hS (xw_recv hE hP (20, 0) rfl rfl) rfl rfl q_48 q_952 q_955 q_953 q_954 (by decide) rfl ⟨by rw [hRf]; decide, by rw [hRl]; decide⟩ hl.1 rfl (Nat.le_of_ble_eq_true rfl) dL_law_1729 ⟨by rw [hRc]; omega, by rw [hRs]; omega⟩ (fun v H1 locs hp hS => ?_)
  obtain ⟨r, hv, hr2, w2, qp2, qm2, qr2, qi2, qn2, qf2, qu2, qd2, hq2, hP⟩ := hp; subst hv; generalize H1 = H at hP hS ⊢
  refine lv_istore (lv' := [(7, .int r), (6, .int (tCmp z v1 v2 v3 v4)), (0, .ref b), (1, .ref (ad' (0, 0))), (2, .ref (ad' (20, 0))), (3, .ref (ad' (40, 0))), (4, .ref (ad' (41, 0))), (5, .int (nI (5 * j)))]) hx hb dL_law_1732 hl (by decide) rfl (fun ls hl => ?_)
  refine lv_aload_n hx hb dL_law_1734 rfl (lv_at hl 4 rfl) ?_
  refine xw_callV (C := "NetlistBenchModel") (n := 0) [] (c_X4_thrown l hP) hx hb hml hown hts hE hS (xw_recv hE hP (20, 0) rfl rfl) rfl rfl q_48 q_790 q_793 q_791 q_792 (by decide) rfl ⟨by rw [hRf]; decide, by rw [hRl]; decide⟩ hl.1 rfl (Nat.le_of_ble_eq_true rfl) dL_law_1735 ⟨by rw [hRc]; omega, by rw [hRs]; omega⟩ (fun v H1 locs hp hS => ?_)
  obtain ⟨hv, hh⟩ := hp; subst hv; subst hh
  refine lv_iload hx hb dL_law_1738 (lv_at hl 1 rfl) ?_
  refine lv_icmp_eq (tgt := 1745) hx hb dL_law_1740 (by decide) (fun _ => ?_) (fun h => absurd rfl h)
  refine lv_iload hx hb dL_law_1745 (lv_at hl 1 rfl) ?_
  refine lv_if_ne (tgt := 1762) hx hb dL_law_1747 (by decide) (fun h0 => ?_) (fun h0 => ?_)
  · refine lv_goto (tgt := 1835) hx hb dL_law_1762 (by decide) ?_
    exact W.widen (k := 46 + 6 * j) (n := 1200 + 80 * j) (by omega) (by omega) (K ad' z _ _ _ ⟨bl', g2, pl2, kn2, rw2, mi2, un2, _, w2, qp2, qm2, qr2, qi2, qn2, qf2, qu2, qd2, oj', od, hP, hq2, k5, k3, k4⟩ hS (lv_sub hl [2, 3, 4, 5, 6, 7] rfl))
  refine lv_aload_n hx hb dL_law_1750 rfl (lv_at hl 5 rfl) ?_
  refine lv_iconst (v := nI 0) hx hb dL_law_1751 (by decide) ?_
  refine xo_lald hx hb hE hP rfl dL_law_1752 ?_
  refine lv_iload hx hb dL_law_1753 (lv_at hl 0 rfl) ?_
  refine lv_i2l (v := r.toInt64) hx hb dL_law_1755 rfl ?_
  refine W.lcmp hx hb dL_law_1756 ?_
  refine xt_i (w := 0) (by rw [k6 h0, hr2 h0]; exact lgc _) ?_
  refine lv_if_eq (tgt := 1762) hx hb dL_law_1757 (by decide) (fun _ => ?_) (fun h => absurd rfl h)
  refine lv_goto (tgt := 1835) hx hb dL_law_1762 (by decide) ?_
  exact W.widen (k := 46 + 6 * j) (n := 1200 + 80 * j) (by omega) (by omega) (K ad' z _ _ _ ⟨bl', g2, pl2, kn2, rw2, mi2, un2, _, w2, qp2, qm2, qr2, qi2, qn2, qf2, qu2, qd2, oj', od, hP, hq2, k5, k3, k4⟩ hS (lv_sub hl [2, 3, 4, 5, 6, 7] rfl))

set_option maxHeartbeats 4000000 in
set_option maxRecDepth 100000 in
theorem lc_levels {p : Program} {l : Launch} {e : Env} {R : Room} {s : State} {m : MethodId} {args : Array Value} {below : List Frame} {meth : Method} {c : Code} {H H0 : Heap} {locs : List Loc} {Q : State → Prop} {D : va_G} {y : Nat → ClassId} {A : Nat → Prop} {e0 b L : Nat} {xs : Nat → Int32} (C0 : lc_At p l s m args meth c R D y A H0 e0 b L xs) {ad : xL → Nat} {z : xC} {j : Nat} {ls : Array Slot} (hL : L ≤ 2560) (h5 : 5 * j + 5 ≤ L) (hi : xLI D A y e0 ad z H) (hS : va_S A H0 H locs) (hl : lv_has ls 9 (lcL ad b j))
    (K : ∀ (ad' : xL → Nat) (z' : xC) (H1 : Heap) (locs1 : List Loc) (ls1 : Array Slot), xLI D A y e0 ad' z' H1 → va_S A H0 H1 locs1 → lv_has ls1 9 (lcL ad' b j) → W p l e R s m args below meth c H1 locs1 (46 + 6 * j) (1200 + 80 * j) Q (F0 m 1835 ls1 [])) : W p l e R s m args below meth c H locs (40 + 6 * j) (1120 + 80 * j) Q (F0 m 1765 ls []) := by
  obtain ⟨hx, hb, hml, hown, hts, hX, hbl, hbA, hE, hF, hG, hN, hls, hRf, hRl, hRc, hRs⟩ := C0
  obtain ⟨bl, g, pl, kn, rw, mi, un, th, w, qp, qm, qr, qi, qn, qf, qu, qd, oj, od, hP, hq, hz, h0n, h0e⟩ := hi
  have hl : lv_has ls 9 [(0, .ref b), (1, .ref (ad (0, 0))), (2, .ref (ad (20, 0))), (3, .ref (ad (40, 0))), (4, .ref (ad (41, 0))), (5, .int (nI (5 * j)))] := hl
  obtain ⟨v1, hv1⟩ : ∃ v, v = xs (nI (5 * j + 1)).toNatClampNeg := ⟨_, rfl⟩
  obtain ⟨v2, hv2⟩ : ∃ v, v = xs (nI (5 * j + 2)).toNatClampNeg := ⟨_, rfl⟩
  obtain ⟨v3, hv3⟩ : ∃ v, v = xs (nI (5 * j + 3)).toNatClampNeg := ⟨_, rfl⟩
  obtain ⟨v4, hv4⟩ : ∃ v, v = xs (nI (5 * j + 4)).toNatClampNeg := ⟨_, rfl⟩
  refine lv_aload_n hx hb dL_law_1765 rfl (lv_at hl 1 rfl) ?_
  refine lw_arg (k := 1) hx hb hX hbl hbA hS hL (by omega) (lv_at hl 0 rfl) (lv_at hl 5 rfl) dL_law_1766 dL_law_1767 dL_law_1769 (by decide) dL_law_1770 dL_law_1771 ?_
  refine xt_i hv1.symm ?_
  refine lv_aload_n hx hb dL_law_1772 rfl (lv_at hl 3 rfl) ?_
  refine xl_callS (n := 3) [.ref (ad (0, 0)), .int v1, .ref (ad (40, 0))] (c_L_levels l hls hP hz h0n h0e (t := v1)) hx hb hml hown hts hE hF hG hN hS rfl rfl q_42 q_711 q_713 q_712 (by decide) rfl ⟨by rw [hRf]; decide, by rw [hRl]; decide⟩ hl.1 rfl (Nat.le_of_ble_eq_true rfl) dL_law_1773 ⟨by rw [hRc]; omega, by rw [hRs]; omega⟩ (fun v H1 locs hp hS => ?_)
  obtain ⟨hv, ad', bl', oj', k1, k2, k3, k4, k5, k6, g2, pl2, kn2, rw2, mi2, un2, hP⟩ := hp; subst hv; generalize H1 = H at hP hS ⊢
  rw [show (if tTm v1 = 0 then z else z) = z from ite_self _] at hP k3 k4 k5
  have hP : xW D A ad' (wU (wB y ad' bl' z g2 pl2 kn2 rw2 mi2 un2) (wR y ad' th w qp qm qr qi qn qf qu qd) (wO y oj' od)) H := hP.ct (by rw [wR_ad k1])
  have hl : lv_has ls 9 [(0, .ref b), (1, .ref (ad' (0, 0))), (2, .ref (ad' (20, 0))), (3, .ref (ad' (40, 0))), (4, .ref (ad' (41, 0))), (5, .int (nI (5 * j)))] := by rw [k2, k1 (20, 0) (by decide), k1 (40, 0) (by decide), k1 (41, 0) (by decide)]; exact hl
  refine lv_istore (lv' := [(6, .int (tTm v1)), (0, .ref b), (1, .ref (ad' (0, 0))), (2, .ref (ad' (20, 0))), (3, .ref (ad' (40, 0))), (4, .ref (ad' (41, 0))), (5, .int (nI (5 * j)))]) hx hb dL_law_1776 hl (by decide) rfl (fun ls hl => ?_)
  refine lv_aload_n hx hb dL_law_1778 rfl (lv_at hl 3 rfl) ?_
  refine lw_arg (k := 1) hx hb hX hbl hbA hS hL (by omega) (lv_at hl 1 rfl) (lv_at hl 6 rfl) dL_law_1779 dL_law_1780 dL_law_1782 (by decide) dL_law_1783 dL_law_1784 ?_
  refine xt_i hv1.symm ?_
  refine xw_callV (C := "NetlistBenchModel") (n := 1) [.int v1] (c_X4_levels l hP hq hz.w  v1) hx hb hml hown hts hE hS (xw_recv hE hP (20, 0) rfl rfl) rfl rfl q_48 q_956 q_959 q_957 q_958 (by decide) rfl ⟨by rw [hRf]; decide, by rw [hRl]; decide⟩ hl.1 rfl (Nat.le_of_ble_eq_true rfl) dL_law_1785 ⟨by rw [hRc]; omega, by rw [hRs]; omega⟩ (fun v H1 locs hp hS => ?_)
  obtain ⟨r, hv, hr2, w2, qp2, qm2, qr2, qi2, qn2, qf2, qu2, qd2, hq2, hP⟩ := hp; subst hv; generalize H1 = H at hP hS ⊢
  refine lv_istore (lv' := [(7, .int r), (6, .int (tTm v1)), (0, .ref b), (1, .ref (ad' (0, 0))), (2, .ref (ad' (20, 0))), (3, .ref (ad' (40, 0))), (4, .ref (ad' (41, 0))), (5, .int (nI (5 * j)))]) hx hb dL_law_1788 hl (by decide) rfl (fun ls hl => ?_)
  refine lv_aload_n hx hb dL_law_1790 rfl (lv_at hl 4 rfl) ?_
  refine xw_callV (C := "NetlistBenchModel") (n := 0) [] (c_X4_thrown l hP) hx hb hml hown hts hE hS (xw_recv hE hP (20, 0) rfl rfl) rfl rfl q_48 q_790 q_793 q_791 q_792 (by decide) rfl ⟨by rw [hRf]; decide, by rw [hRl]; decide⟩ hl.1 rfl (Nat.le_of_ble_eq_true rfl) dL_law_1791 ⟨by rw [hRc]; omega, by rw [hRs]; omega⟩ (fun v H1 locs hp hS => ?_)
  obtain ⟨hv, hh⟩ := hp; subst hv; subst hh
  refine lv_iload hx hb dL_law_1794 (lv_at hl 1 rfl) ?_
  refine lv_icmp_eq (tgt := 1801) hx hb dL_law_1796 (by decide) (fun _ => ?_) (fun h => absurd rfl h)
  refine lv_iload hx hb dL_law_1801 (lv_at hl 1 rfl) ?_
  refine lv_if_ne (tgt := 1818) hx hb dL_law_1803 (by decide) (fun h0 => ?_) (fun h0 => ?_)
  · refine lv_goto (tgt := 1835) hx hb dL_law_1818 (by decide) ?_
    exact W.widen (k := 46 + 6 * j) (n := 1200 + 80 * j) (by omega) (by omega) (K ad' z _ _ _ ⟨bl', g2, pl2, kn2, rw2, mi2, un2, _, w2, qp2, qm2, qr2, qi2, qn2, qf2, qu2, qd2, oj', od, hP, hq2, k5, k3, k4⟩ hS (lv_sub hl [2, 3, 4, 5, 6, 7] rfl))
  refine lv_aload_n hx hb dL_law_1806 rfl (lv_at hl 5 rfl) ?_
  refine lv_iconst (v := nI 0) hx hb dL_law_1807 (by decide) ?_
  refine xo_lald hx hb hE hP rfl dL_law_1808 ?_
  refine lv_iload hx hb dL_law_1809 (lv_at hl 0 rfl) ?_
  refine lv_i2l (v := r.toInt64) hx hb dL_law_1811 rfl ?_
  refine W.lcmp hx hb dL_law_1812 ?_
  refine xt_i (w := 0) (by rw [k6 h0, hr2 h0]; exact lgc _) ?_
  refine lv_if_eq (tgt := 1818) hx hb dL_law_1813 (by decide) (fun _ => ?_) (fun h => absurd rfl h)
  refine lv_goto (tgt := 1835) hx hb dL_law_1818 (by decide) ?_
  exact W.widen (k := 46 + 6 * j) (n := 1200 + 80 * j) (by omega) (by omega) (K ad' z _ _ _ ⟨bl', g2, pl2, kn2, rw2, mi2, un2, _, w2, qp2, qm2, qr2, qi2, qn2, qf2, qu2, qd2, oj', od, hP, hq2, k5, k3, k4⟩ hS (lv_sub hl [2, 3, 4, 5, 6, 7] rfl))

set_option maxHeartbeats 4000000 in
set_option maxRecDepth 100000 in
theorem lc_digest {p : Program} {l : Launch} {e : Env} {R : Room} {s : State} {m : MethodId} {args : Array Value} {below : List Frame} {meth : Method} {c : Code} {H H0 : Heap} {locs : List Loc} {Q : State → Prop} {D : va_G} {y : Nat → ClassId} {A : Nat → Prop} {e0 b L : Nat} {xs : Nat → Int32} (C0 : lc_At p l s m args meth c R D y A H0 e0 b L xs) {ad : xL → Nat} {z : xC} {j : Nat} {ls : Array Slot} (hL : L ≤ 2560) (h5 : 5 * j + 5 ≤ L) (hi : xLI D A y e0 ad z H) (hS : va_S A H0 H locs) (hl : lv_has ls 9 (lcL ad b j))
    (K : ∀ (ad' : xL → Nat) (z' : xC) (H1 : Heap) (locs1 : List Loc) (ls1 : Array Slot), xLI D A y e0 ad' z' H1 → va_S A H0 H1 locs1 → lv_has ls1 9 (lcL ad' b j) → W p l e R s m args below meth c H1 locs1 (46 + 6 * j) (1200 + 80 * j) Q (F0 m 1835 ls1 [])) : W p l e R s m args below meth c H locs (40 + 6 * j) (1120 + 80 * j) Q (F0 m 1821 ls []) := by
  obtain ⟨hx, hb, hml, hown, hts, hX, hbl, hbA, hE, hF, hG, hN, hls, hRf, hRl, hRc, hRs⟩ := C0
  obtain ⟨bl, g, pl, kn, rw, mi, un, th, w, qp, qm, qr, qi, qn, qf, qu, qd, oj, od, hP, hq, hz, h0n, h0e⟩ := hi
  have hl : lv_has ls 9 [(0, .ref b), (1, .ref (ad (0, 0))), (2, .ref (ad (20, 0))), (3, .ref (ad (40, 0))), (4, .ref (ad (41, 0))), (5, .int (nI (5 * j)))] := hl
  obtain ⟨v1, hv1⟩ : ∃ v, v = xs (nI (5 * j + 1)).toNatClampNeg := ⟨_, rfl⟩
  obtain ⟨v2, hv2⟩ : ∃ v, v = xs (nI (5 * j + 2)).toNatClampNeg := ⟨_, rfl⟩
  obtain ⟨v3, hv3⟩ : ∃ v, v = xs (nI (5 * j + 3)).toNatClampNeg := ⟨_, rfl⟩
  obtain ⟨v4, hv4⟩ : ∃ v, v = xs (nI (5 * j + 4)).toNatClampNeg := ⟨_, rfl⟩
  refine lv_aload_n hx hb dL_law_1821 rfl (lv_at hl 1 rfl) ?_
  refine xw_callV (C := "NetlistBench") (n := 0) [] (c_X3_digest l hP hz) hx hb hml hown hts hE hS (xw_recv hE hP (0, 0) rfl rfl) rfl rfl q_43 q_137 q_140 q_138 q_139 (by decide) rfl ⟨by rw [hRf]; decide, by rw [hRl]; decide⟩ hl.1 rfl (Nat.le_of_ble_eq_true rfl) dL_law_1822 ⟨by rw [hRc]; omega, by rw [hRs]; omega⟩ (fun v H1 locs hp hS => ?_)
  obtain ⟨hv, g2, pl2, kn2, rw2, mi2, un2, hP⟩ := hp; subst hv; generalize H1 = H at hP hS ⊢
  refine lv_aload_n hx hb dL_law_1825 rfl (lv_at hl 2 rfl) ?_
  refine xw_callV (C := "NetlistBenchModel") (n := 0) [] (c_X4_digest l hP hq hz.w (nOk_wf hz.w)) hx hb hml hown hts hE hS (xw_recv hE hP (20, 0) rfl rfl) rfl rfl q_48 q_960 q_963 q_961 q_962 (by decide) rfl ⟨by rw [hRf]; decide, by rw [hRl]; decide⟩ hl.1 rfl (Nat.le_of_ble_eq_true rfl) dL_law_1826 ⟨by rw [hRc]; omega, by rw [hRs]; omega⟩ (fun v H1 locs hp hS => ?_)
  obtain ⟨r, hv, hr2, w2, qp2, qm2, qr2, qi2, qn2, qf2, qu2, qd2, hq2, hP⟩ := hp; subst hv; generalize H1 = H at hP hS ⊢
  refine W.lcmp hx hb dL_law_1829 ?_
  refine xt_i (w := 0) (by rw [hr2 rfl]; exact lgc _) ?_
  refine lv_if_eq (tgt := 1835) hx hb dL_law_1830 (by decide) (fun _ => ?_) (fun h => absurd rfl h)
  exact W.widen (k := 46 + 6 * j) (n := 1200 + 80 * j) (by omega) (by omega) (K ad z _ _ _ ⟨bl, g2, pl2, kn2, rw2, mi2, un2, _, w2, qp2, qm2, qr2, qi2, qn2, qf2, qu2, qd2, oj, od, hP, hq2, hz, h0n, h0e⟩ hS (lv_sub hl [0, 1, 2, 3, 4, 5] rfl))
