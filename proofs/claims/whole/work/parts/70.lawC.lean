/-! the law, case by case -/
set_option maxHeartbeats 4000000 in
set_option maxRecDepth 100000 in
theorem lc_potential {p : Program} {l : Launch} {e : Env} {R : Room} {s : State} {m : MethodId} {args : Array Value} {below : List Frame} {meth : Method} {c : Code} {H H0 : Heap} {locs : List Loc} {Q : State → Prop} {D : va_G} {y : Nat → ClassId} {A : Nat → Prop} {e0 b L : Nat} {xs : Nat → Int32} (C0 : lc_At p l s m args meth c R D y A H0 e0 b L xs) {ad : xL → Nat} {z : xC} {j : Nat} {ls : Array Slot} (hL : L ≤ 2560) (h5 : 5 * j + 5 ≤ L) (hi : xLI D A y e0 ad z H) (hS : va_S A H0 H locs) (hl : lv_has ls 9 (lcL ad b j))
    (K : ∀ (ad' : xL → Nat) (z' : xC) (H1 : Heap) (locs1 : List Loc) (ls1 : Array Slot), xLI D A y e0 ad' z' H1 → va_S A H0 H1 locs1 → lv_has ls1 9 (lcL ad' b j) → W p l e R s m args below meth c H1 locs1 (46 + 6 * j) (1200 + 80 * j) Q (F0 m 1835 ls1 [])) : W p l e R s m args below meth c H locs (40 + 6 * j) (1120 + 80 * j) Q (F0 m 1040 ls []) := by
  obtain ⟨hx, hb, hml, hown, hts, hX, hbl, hbA, hE, hF, hG, hN, hls, hRf, hRl, hRc, hRs⟩ := C0
  obtain ⟨bl, g, pl, kn, rw, mi, un, th, w, qp, qm, qr, qi, qn, qf, qu, qd, oj, od, hP, hq, hz, h0n, h0e⟩ := hi
  have hl : lv_has ls 9 [(0, .ref b), (1, .ref (ad (0, 0))), (2, .ref (ad (20, 0))), (3, .ref (ad (40, 0))), (4, .ref (ad (41, 0))), (5, .int (nI (5 * j)))] := hl
  obtain ⟨v1, hv1⟩ : ∃ v, v = xs (nI (5 * j + 1)).toNatClampNeg := ⟨_, rfl⟩
  obtain ⟨v2, hv2⟩ : ∃ v, v = xs (nI (5 * j + 2)).toNatClampNeg := ⟨_, rfl⟩
  obtain ⟨v3, hv3⟩ : ∃ v, v = xs (nI (5 * j + 3)).toNatClampNeg := ⟨_, rfl⟩
  obtain ⟨v4, hv4⟩ : ∃ v, v = xs (nI (5 * j + 4)).toNatClampNeg := ⟨_, rfl⟩
  refine lv_aload_n hx hb dL_law_1040 rfl (lv_at hl 1 rfl) ?_
  refine lw_arg (k := 1) hx hb hX hbl hbA hS hL (by omega) (lv_at hl 0 rfl) (lv_at hl 5 rfl) dL_law_1041 dL_law_1042 dL_law_1044 (by decide) dL_law_1045 dL_law_1046 ?_
  refine xt_i hv1.symm ?_
  refine lw_arg (k := 2) hx hb hX hbl hbA hS hL (by omega) (lv_at hl 0 rfl) (lv_at hl 5 rfl) dL_law_1047 dL_law_1048 dL_law_1050 (by decide) dL_law_1051 dL_law_1052 ?_
  refine xt_i hv2.symm ?_
  refine lw_arg (k := 3) hx hb hX hbl hbA hS hL (by omega) (lv_at hl 0 rfl) (lv_at hl 5 rfl) dL_law_1053 dL_law_1054 dL_law_1056 (by decide) dL_law_1057 dL_law_1058 ?_
  refine xt_i hv3.symm ?_
  refine lw_b01 hx hb dL_law_1059 dL_law_1062 dL_law_1063 dL_law_1066 ?_
  refine lv_aload_n hx hb dL_law_1067 rfl (lv_at hl 3 rfl) ?_
  refine xl_callS (n := 5) [.ref (ad (0, 0)), .int v1, .int v2, .int (b01 v3), .ref (ad (40, 0))] (c_L_potential l hls hP hz h0n h0e (x := v1) (t := v2) (f := (b01 v3))) hx hb hml hown hts hE hF hG hN hS rfl rfl q_42 q_625 q_627 q_626 (by decide) rfl ⟨by rw [hRf]; decide, by rw [hRl]; decide⟩ hl.1 rfl (Nat.le_of_ble_eq_true rfl) dL_law_1068 ⟨by rw [hRc]; omega, by rw [hRs]; omega⟩ (fun v H1 locs hp hS => ?_)
  obtain ⟨hv, ad', bl', oj', k1, k2, k3, k4, k5, k6, g2, pl2, kn2, rw2, mi2, un2, hP⟩ := hp; subst hv; generalize H1 = H at hP hS ⊢
  rw [show (if tPot z v1 v2 = 0 then z else z) = z from ite_self _] at hP k3 k4 k5
  have hP : xW D A ad' (wU (wB y ad' bl' z g2 pl2 kn2 rw2 mi2 un2) (wR y ad' th w qp qm qr qi qn qf qu qd) (wO y oj' od)) H := hP.ct (by rw [wR_ad k1])
  have hl : lv_has ls 9 [(0, .ref b), (1, .ref (ad' (0, 0))), (2, .ref (ad' (20, 0))), (3, .ref (ad' (40, 0))), (4, .ref (ad' (41, 0))), (5, .int (nI (5 * j)))] := by rw [k2, k1 (20, 0) (by decide), k1 (40, 0) (by decide), k1 (41, 0) (by decide)]; exact hl
  refine lv_istore (lv' := [(6, .int (tPot z v1 v2)), (0, .ref b), (1, .ref (ad' (0, 0))), (2, .ref (ad' (20, 0))), (3, .ref (ad' (40, 0))), (4, .ref (ad' (41, 0))), (5, .int (nI (5 * j)))]) hx hb dL_law_1071 hl (by decide) rfl (fun ls hl => ?_)
  refine lv_aload_n hx hb dL_law_1073 rfl (lv_at hl 3 rfl) ?_
  refine lw_arg (k := 1) hx hb hX hbl hbA hS hL (by omega) (lv_at hl 1 rfl) (lv_at hl 6 rfl) dL_law_1074 dL_law_1075 dL_law_1077 (by decide) dL_law_1078 dL_law_1079 ?_
  refine xt_i hv1.symm ?_
  refine lw_arg (k := 2) hx hb hX hbl hbA hS hL (by omega) (lv_at hl 1 rfl) (lv_at hl 6 rfl) dL_law_1080 dL_law_1081 dL_law_1083 (by decide) dL_law_1084 dL_law_1085 ?_
  refine xt_i hv2.symm ?_
  refine lw_arg (k := 3) hx hb hX hbl hbA hS hL (by omega) (lv_at hl 1 rfl) (lv_at hl 6 rfl) dL_law_1086 dL_law_1087 dL_law_1089 (by decide) dL_law_1090 dL_law_1091 ?_
  refine xt_i hv3.symm ?_
  refine lw_b01 hx hb dL_law_1092 dL_law_1095 dL_law_1096 dL_law_1099 ?_
  refine xw_callV (C := "NetlistBenchModel") (n := 3) [.int v1, .int v2, .int (b01 v3)] (c_X4_potential l hP hq hz.w (nOk_wf hz.w) v1 v2 (b01 v3)) hx hb hml hown hts hE hS (xw_recv hE hP (20, 0) rfl rfl) rfl rfl q_48 q_888 q_891 q_889 q_890 (by decide) rfl ⟨by rw [hRf]; decide, by rw [hRl]; decide⟩ hl.1 rfl (Nat.le_of_ble_eq_true rfl) dL_law_1100 ⟨by rw [hRc]; omega, by rw [hRs]; omega⟩ (fun v H1 locs hp hS => ?_)
  obtain ⟨r, hv, hr2, w2, qp2, qm2, qr2, qi2, qn2, qf2, qu2, qd2, hq2, hP⟩ := hp; subst hv; generalize H1 = H at hP hS ⊢
  refine lv_lstore (lv' := [(7, .long r), (6, .int (tPot z v1 v2)), (0, .ref b), (1, .ref (ad' (0, 0))), (2, .ref (ad' (20, 0))), (3, .ref (ad' (40, 0))), (4, .ref (ad' (41, 0))), (5, .int (nI (5 * j)))]) hx hb dL_law_1103 hl (by decide) rfl (fun ls hl => ?_)
  refine lv_aload_n hx hb dL_law_1105 rfl (lv_at hl 4 rfl) ?_
  refine xw_callV (C := "NetlistBenchModel") (n := 0) [] (c_X4_thrown l hP) hx hb hml hown hts hE hS (xw_recv hE hP (20, 0) rfl rfl) rfl rfl q_48 q_790 q_793 q_791 q_792 (by decide) rfl ⟨by rw [hRf]; decide, by rw [hRl]; decide⟩ hl.1 rfl (Nat.le_of_ble_eq_true rfl) dL_law_1106 ⟨by rw [hRc]; omega, by rw [hRs]; omega⟩ (fun v H1 locs hp hS => ?_)
  obtain ⟨hv, hh⟩ := hp; subst hv; subst hh
  refine lv_iload hx hb dL_law_1109 (lv_at hl 1 rfl) ?_
  refine lv_icmp_eq (tgt := 1116) hx hb dL_law_1111 (by decide) (fun _ => ?_) (fun h => absurd rfl h)
  refine lv_iload hx hb dL_law_1116 (lv_at hl 1 rfl) ?_
  refine lv_if_ne (tgt := 1132) hx hb dL_law_1118 (by decide) (fun h0 => ?_) (fun h0 => ?_)
  · refine lv_goto (tgt := 1835) hx hb dL_law_1132 (by decide) ?_
    exact W.widen (k := 46 + 6 * j) (n := 1200 + 80 * j) (by omega) (by omega) (K ad' z _ _ _ ⟨bl', g2, pl2, kn2, rw2, mi2, un2, _, w2, qp2, qm2, qr2, qi2, qn2, qf2, qu2, qd2, oj', od, hP, hq2, k5, k3, k4⟩ hS (lv_sub hl [2, 3, 4, 5, 6, 7] rfl))
  refine lv_aload_n hx hb dL_law_1121 rfl (lv_at hl 5 rfl) ?_
  refine lv_iconst (v := nI 0) hx hb dL_law_1122 (by decide) ?_
  refine xo_lald hx hb hE hP rfl dL_law_1123 ?_
  refine lv_lload hx hb dL_law_1124 (lv_at hl 0 rfl) ?_
  refine W.lcmp hx hb dL_law_1126 ?_
  refine xt_i (w := 0) (by rw [k6 h0, hr2 h0]; exact lgc _) ?_
  refine lv_if_eq (tgt := 1132) hx hb dL_law_1127 (by decide) (fun _ => ?_) (fun h => absurd rfl h)
  refine lv_goto (tgt := 1835) hx hb dL_law_1132 (by decide) ?_
  exact W.widen (k := 46 + 6 * j) (n := 1200 + 80 * j) (by omega) (by omega) (K ad' z _ _ _ ⟨bl', g2, pl2, kn2, rw2, mi2, un2, _, w2, qp2, qm2, qr2, qi2, qn2, qf2, qu2, qd2, oj', od, hP, hq2, k5, k3, k4⟩ hS (lv_sub hl [2, 3, 4, 5, 6, 7] rfl))

set_option maxHeartbeats 4000000 in
set_option maxRecDepth 100000 in
theorem lc_current {p : Program} {l : Launch} {e : Env} {R : Room} {s : State} {m : MethodId} {args : Array Value} {below : List Frame} {meth : Method} {c : Code} {H H0 : Heap} {locs : List Loc} {Q : State → Prop} {D : va_G} {y : Nat → ClassId} {A : Nat → Prop} {e0 b L : Nat} {xs : Nat → Int32} (C0 : lc_At p l s m args meth c R D y A H0 e0 b L xs) {ad : xL → Nat} {z : xC} {j : Nat} {ls : Array Slot} (hL : L ≤ 2560) (h5 : 5 * j + 5 ≤ L) (hi : xLI D A y e0 ad z H) (hS : va_S A H0 H locs) (hl : lv_has ls 9 (lcL ad b j))
    (K : ∀ (ad' : xL → Nat) (z' : xC) (H1 : Heap) (locs1 : List Loc) (ls1 : Array Slot), xLI D A y e0 ad' z' H1 → va_S A H0 H1 locs1 → lv_has ls1 9 (lcL ad' b j) → W p l e R s m args below meth c H1 locs1 (46 + 6 * j) (1200 + 80 * j) Q (F0 m 1835 ls1 [])) : W p l e R s m args below meth c H locs (40 + 6 * j) (1120 + 80 * j) Q (F0 m 1135 ls []) := by
  obtain ⟨hx, hb, hml, hown, hts, hX, hbl, hbA, hE, hF, hG, hN, hls, hRf, hRl, hRc, hRs⟩ := C0
  obtain ⟨bl, g, pl, kn, rw, mi, un, th, w, qp, qm, qr, qi, qn, qf, qu, qd, oj, od, hP, hq, hz, h0n, h0e⟩ := hi
  have hl : lv_has ls 9 [(0, .ref b), (1, .ref (ad (0, 0))), (2, .ref (ad (20, 0))), (3, .ref (ad (40, 0))), (4, .ref (ad (41, 0))), (5, .int (nI (5 * j)))] := hl
  obtain ⟨v1, hv1⟩ : ∃ v, v = xs (nI (5 * j + 1)).toNatClampNeg := ⟨_, rfl⟩
  obtain ⟨v2, hv2⟩ : ∃ v, v = xs (nI (5 * j + 2)).toNatClampNeg := ⟨_, rfl⟩
  obtain ⟨v3, hv3⟩ : ∃ v, v = xs (nI (5 * j + 3)).toNatClampNeg := ⟨_, rfl⟩
  obtain ⟨v4, hv4⟩ : ∃ v, v = xs (nI (5 * j + 4)).toNatClampNeg := ⟨_, rfl⟩
  refine lv_aload_n hx hb dL_law_1135 rfl (lv_at hl 1 rfl) ?_
  refine lw_arg (k := 1) hx hb hX hbl hbA hS hL (by omega) (lv_at hl 0 rfl) (lv_at hl 5 rfl) dL_law_1136 dL_law_1137 dL_law_1139 (by decide) dL_law_1140 dL_law_1141 ?_
  refine xt_i hv1.symm ?_
  refine lw_arg (k := 2) hx hb hX hbl hbA hS hL (by omega) (lv_at hl 0 rfl) (lv_at hl 5 rfl) dL_law_1142 dL_law_1143 dL_law_1145 (by decide) dL_law_1146 dL_law_1147 ?_
  refine xt_i hv2.symm ?_
  refine lw_arg (k := 3) hx hb hX hbl hbA hS hL (by omega) (lv_at hl 0 rfl) (lv_at hl 5 rfl) dL_law_1148 dL_law_1149 dL_law_1151 (by decide) dL_law_1152 dL_law_1153 ?_
  refine xt_i hv3.symm ?_
  refine lw_b01 hx hb dL_law_1154 dL_law_1157 dL_law_1158 dL_law_1161 ?_
  refine lv_aload_n hx hb dL_law_1162 rfl (lv_at hl 3 rfl) ?_
  refine xl_callS (n := 5) [.ref (ad (0, 0)), .int v1, .int v2, .int (b01 v3), .ref (ad (40, 0))] (c_L_current l hls hP hz h0n h0e (x := v1) (t := v2) (f := (b01 v3))) hx hb hml hown hts hE hF hG hN hS rfl rfl q_42 q_637 q_639 q_638 (by decide) rfl ⟨by rw [hRf]; decide, by rw [hRl]; decide⟩ hl.1 rfl (Nat.le_of_ble_eq_true rfl) dL_law_1163 ⟨by rw [hRc]; omega, by rw [hRs]; omega⟩ (fun v H1 locs hp hS => ?_)
  obtain ⟨hv, ad', bl', oj', k1, k2, k3, k4, k5, k6, g2, pl2, kn2, rw2, mi2, un2, hP⟩ := hp; subst hv; generalize H1 = H at hP hS ⊢
  rw [show (if tCur z v1 v2 = 0 then z else z) = z from ite_self _] at hP k3 k4 k5
  have hP : xW D A ad' (wU (wB y ad' bl' z g2 pl2 kn2 rw2 mi2 un2) (wR y ad' th w qp qm qr qi qn qf qu qd) (wO y oj' od)) H := hP.ct (by rw [wR_ad k1])
  have hl : lv_has ls 9 [(0, .ref b), (1, .ref (ad' (0, 0))), (2, .ref (ad' (20, 0))), (3, .ref (ad' (40, 0))), (4, .ref (ad' (41, 0))), (5, .int (nI (5 * j)))] := by rw [k2, k1 (20, 0) (by decide), k1 (40, 0) (by decide), k1 (41, 0) (by decide)]; exact hl
  refine lv_istore (lv' := [(6, .int (tCur z v1 v2)), (0, .ref b), (1, .ref (ad' (0, 0))), (2, .ref (ad' (20, 0))), (3, .ref (ad' (40, 0))), (4, .ref (ad' (41, 0))), (5, .int (nI (5 * j)))]) hx hb dL_law_1166 hl (by decide) rfl (fun ls hl => ?_)
  refine lv_aload_n hx hb dL_law_1168 rfl (lv_at hl 3 rfl) ?_
  refine lw_arg (k := 1) hx hb hX hbl hbA hS hL (by omega) (lv_at hl 1 rfl) (lv_at hl 6 rfl) dL_law_1169 dL_law_1170 dL_law_1172 (by decide) dL_law_1173 dL_law_1174 ?_
  refine xt_i hv1.symm ?_
  refine lw_arg (k := 2) hx hb hX hbl hbA hS hL (by omega) (lv_at hl 1 rfl) (lv_at hl 6 rfl) dL_law_1175 dL_law_1176 dL_law_1178 (by decide) dL_law_1179 dL_law_1180 ?_
  refine xt_i hv2.symm ?_
  refine lw_arg (k := 3) hx hb hX hbl hbA hS hL (by omega) (lv_at hl 1 rfl) (lv_at hl 6 rfl) dL_law_1181 dL_law_1182 dL_law_1184 (by decide) dL_law_1185 dL_law_1186 ?_
  refine xt_i hv3.symm ?_
  refine lw_b01 hx hb dL_law_1187 dL_law_1190 dL_law_1191 dL_law_1194 ?_
  refine xw_callV (C := "NetlistBenchModel") (n := 3) [.int v1, .int v2, .int (b01 v3)] (c_X4_current l hP hq hz.w (nOk_wf hz.w) v1 v2 (b01 v3)) hx hb hml hown hts hE hS (xw_recv hE hP (20, 0) rfl rfl) rfl rfl q_48 q_916 q_919 q_917 q_918 (by decide) rfl ⟨by rw [hRf]; decide, by rw [hRl]; decide⟩ hl.1 rfl (Nat.le_of_ble_eq_true rfl) dL_law_1195 ⟨by rw [hRc]; omega, by rw [hRs]; omega⟩ (fun v H1 locs hp hS => ?_)
  obtain ⟨r, hv, hr2, w2, qp2, qm2, qr2, qi2, qn2, qf2, qu2, qd2, hq2, hP⟩ := hp; subst hv; generalize H1 = H at hP hS ⊢
  refine lv_lstore (lv' := [(7, .long r), (6, .int (tCur z v1 v2)), (0, .ref b), (1, .ref (ad' (0, 0))), (2, .ref (ad' (20, 0))), (3, .ref (ad' (40, 0))), (4, .ref (ad' (41, 0))), (5, .int (nI (5 * j)))]) hx hb dL_law_1198 hl (by decide) rfl (fun ls hl => ?_)
  refine lv_aload_n hx hb dL_law_1200 rfl (lv_at hl 4 rfl) ?_
  refine xw_callV (C := "NetlistBenchModel") (n := 0) [] (c_X4_thrown l hP) hx hb hml hown hts hE hS (xw_recv hE hP (20, 0) rfl rfl) rfl rfl q_48 q_790 q_793 q_791 q_792 (by decide) rfl ⟨by rw [hRf]; decide, by rw [hRl]; decide⟩ hl.1 rfl (Nat.le_of_ble_eq_true rfl) dL_law_1201 ⟨by rw [hRc]; omega, by rw [hRs]; omega⟩ (fun v H1 locs hp hS => ?_)
  obtain ⟨hv, hh⟩ := hp; subst hv; subst hh
  refine lv_iload hx hb dL_law_1204 (lv_at hl 1 rfl) ?_
  refine lv_icmp_eq (tgt := 1211) hx hb dL_law_1206 (by decide) (fun _ => ?_) (fun h => absurd rfl h)
  refine lv_iload hx hb dL_law_1211 (lv_at hl 1 rfl) ?_
  refine lv_if_ne (tgt := 1227) hx hb dL_law_1213 (by decide) (fun h0 => ?_) (fun h0 => ?_)
  · refine lv_goto (tgt := 1835) hx hb dL_law_1227 (by decide) ?_
    exact W.widen (k := 46 + 6 * j) (n := 1200 + 80 * j) (by omega) (by omega) (K ad' z _ _ _ ⟨bl', g2, pl2, kn2, rw2, mi2, un2, _, w2, qp2, qm2, qr2, qi2, qn2, qf2, qu2, qd2, oj', od, hP, hq2, k5, k3, k4⟩ hS (lv_sub hl [2, 3, 4, 5, 6, 7] rfl))
  refine lv_aload_n hx hb dL_law_1216 rfl (lv_at hl 5 rfl) ?_
  refine lv_iconst (v := nI 0) hx hb dL_law_1217 (by decide) ?_
  refine xo_lald hx hb hE hP rfl dL_law_1218 ?_
  refine lv_lload hx hb dL_law_1219 (lv_at hl 0 rfl) ?_
  refine W.lcmp hx hb dL_law_1221 ?_
  refine xt_i (w := 0) (by rw [k6 h0, hr2 h0]; exact lgc _) ?_
  refine lv_if_eq (tgt := 1227) hx hb dL_law_1222 (by decide) (fun _ => ?_) (fun h => absurd rfl h)
  refine lv_goto (tgt := 1835) hx hb dL_law_1227 (by decide) ?_
  exact W.widen (k := 46 + 6 * j) (n := 1200 + 80 * j) (by omega) (by omega) (K ad' z _ _ _ ⟨bl', g2, pl2, kn2, rw2, mi2, un2, _, w2, qp2, qm2, qr2, qi2, qn2, qf2, qu2, qd2, oj', od, hP, hq2, k5, k3, k4⟩ hS (lv_sub hl [2, 3, 4, 5, 6, 7] rfl))

set_option maxHeartbeats 4000000 in
set_option maxRecDepth 100000 in
theorem lc_feed {p : Program} {l : Launch} {e : Env} {R : Room} {s : State} {m : MethodId} {args : Array Value} {below : List Frame} {meth : Method} {c : Code} {H H0 : Heap} {locs : List Loc} {Q : State → Prop} {D : va_G} {y : Nat → ClassId} {A : Nat → Prop} {e0 b L : Nat} {xs : Nat → Int32} (C0 : lc_At p l s m args meth c R D y A H0 e0 b L xs) {ad : xL → Nat} {z : xC} {j : Nat} {ls : Array Slot} (hL : L ≤ 2560) (h5 : 5 * j + 5 ≤ L) (hi : xLI D A y e0 ad z H) (hS : va_S A H0 H locs) (hl : lv_has ls 9 (lcL ad b j))
    (K : ∀ (ad' : xL → Nat) (z' : xC) (H1 : Heap) (locs1 : List Loc) (ls1 : Array Slot), xLI D A y e0 ad' z' H1 → va_S A H0 H1 locs1 → lv_has ls1 9 (lcL ad' b j) → W p l e R s m args below meth c H1 locs1 (46 + 6 * j) (1200 + 80 * j) Q (F0 m 1835 ls1 [])) : W p l e R s m args below meth c H locs (40 + 6 * j) (1120 + 80 * j) Q (F0 m 1230 ls []) := by
  obtain ⟨hx, hb, hml, hown, hts, hX, hbl, hbA, hE, hF, hG, hN, hls, hRf, hRl, hRc, hRs⟩ := C0
  obtain ⟨bl, g, pl, kn, rw, mi, un, th, w, qp, qm, qr, qi, qn, qf, qu, qd, oj, od, hP, hq, hz, h0n, h0e⟩ := hi
  have hl : lv_has ls 9 [(0, .ref b), (1, .ref (ad (0, 0))), (2, .ref (ad (20, 0))), (3, .ref (ad (40, 0))), (4, .ref (ad (41, 0))), (5, .int (nI (5 * j)))] := hl
  obtain ⟨v1, hv1⟩ : ∃ v, v = xs (nI (5 * j + 1)).toNatClampNeg := ⟨_, rfl⟩
  obtain ⟨v2, hv2⟩ : ∃ v, v = xs (nI (5 * j + 2)).toNatClampNeg := ⟨_, rfl⟩
  obtain ⟨v3, hv3⟩ : ∃ v, v = xs (nI (5 * j + 3)).toNatClampNeg := ⟨_, rfl⟩
  obtain ⟨v4, hv4⟩ : ∃ v, v = xs (nI (5 * j + 4)).toNatClampNeg := ⟨_, rfl⟩
  refine lv_aload_n hx hb dL_law_1230 rfl (lv_at hl 1 rfl) ?_
  refine lw_arg (k := 1) hx hb hX hbl hbA hS hL (by omega) (lv_at hl 0 rfl) (lv_at hl 5 rfl) dL_law_1231 dL_law_1232 dL_law_1234 (by decide) dL_law_1235 dL_law_1236 ?_
  refine xt_i hv1.symm ?_
  refine lw_arg (k := 2) hx hb hX hbl hbA hS hL (by omega) (lv_at hl 0 rfl) (lv_at hl 5 rfl) dL_law_1237 dL_law_1238 dL_law_1240 (by decide) dL_law_1241 dL_law_1242 ?_
  refine xt_i hv2.symm ?_
  refine lw_arg (k := 3) hx hb hX hbl hbA hS hL (by omega) (lv_at hl 0 rfl) (lv_at hl 5 rfl) dL_law_1243 dL_law_1244 dL_law_1246 (by decide) dL_law_1247 dL_law_1248 ?_
  refine xt_i hv3.symm ?_
  refine lw_b01 hx hb dL_law_1249 dL_law_1252 dL_law_1253 dL_law_1256 ?_
  refine lv_aload_n hx hb dL_law_1257 rfl (lv_at hl 3 rfl) ?_
  refine xl_callS (n := 5) [.ref (ad (0, 0)), .int v1, .int v2, .int (b01 v3), .ref (ad (40, 0))] (c_L_feed l hls hP hz h0n h0e (x := v1) (t := v2) (f := (b01 v3))) hx hb hml hown hts hE hF hG hN hS rfl rfl q_42 q_648 q_650 q_649 (by decide) rfl ⟨by rw [hRf]; decide, by rw [hRl]; decide⟩ hl.1 rfl (Nat.le_of_ble_eq_true rfl) dL_law_1258 ⟨by rw [hRc]; omega, by rw [hRs]; omega⟩ (fun v H1 locs hp hS => ?_)
  obtain ⟨hv, ad', bl', oj', k1, k2, k3, k4, k5, k6, g2, pl2, kn2, rw2, mi2, un2, hP⟩ := hp; subst hv; generalize H1 = H at hP hS ⊢
  rw [show (if tFeed z v1 v2 = 0 then z else z) = z from ite_self _] at hP k3 k4 k5
  have hP : xW D A ad' (wU (wB y ad' bl' z g2 pl2 kn2 rw2 mi2 un2) (wR y ad' th w qp qm qr qi qn qf qu qd) (wO y oj' od)) H := hP.ct (by rw [wR_ad k1])
  have hl : lv_has ls 9 [(0, .ref b), (1, .ref (ad' (0, 0))), (2, .ref (ad' (20, 0))), (3, .ref (ad' (40, 0))), (4, .ref (ad' (41, 0))), (5, .int (nI (5 * j)))] := by rw [k2, k1 (20, 0) (by decide), k1 (40, 0) (by decide), k1 (41, 0) (by decide)]; exact hl
  refine lv_istore (lv' := [(6, .int (tFeed z v1 v2)), (0, .ref b), (1, .ref (ad' (0, 0))), (2, .ref (ad' (20, 0))), (3, .ref (ad' (40, 0))), (4, .ref (ad' (41, 0))), (5, .int (nI (5 * j)))]) hx hb dL_law_1261 hl (by decide) rfl (fun ls hl => ?_)
  refine lv_aload_n hx hb dL_law_1263 rfl (lv_at hl 3 rfl) ?_
  refine lw_arg (k := 1) hx hb hX hbl hbA hS hL (by omega) (lv_at hl 1 rfl) (lv_at hl 6 rfl) dL_law_1264 dL_law_1265 dL_law_1267 (by decide) dL_law_1268 dL_law_1269 ?_
  refine xt_i hv1.symm ?_
  refine lw_arg (k := 2) hx hb hX hbl hbA hS hL (by omega) (lv_at hl 1 rfl) (lv_at hl 6 rfl) dL_law_1270 dL_law_1271 dL_law_1273 (by decide) dL_law_1274 dL_law_1275 ?_
  refine xt_i hv2.symm ?_
  refine lw_arg (k := 3) hx hb hX hbl hbA hS hL (by omega) (lv_at hl 1 rfl) (lv_at hl 6 rfl) dL_law_1276 dL_law_1277 dL_law_1279 (by decide) dL_law_1280 dL_law_1281 ?_
  refine xt_i hv3.symm ?_
  refine lw_b01 hx hb dL_law_1282 dL_law_1285 dL_law_1286 dL_law_1289 ?_
  refine xw_callV (C := "NetlistBenchModel") (n := 3) [.int v1, .int v2, .int (b01 v3)] (c_X4_feed l hP hq hz.w (nOk_wf hz.w) v1 v2 (b01 v3)) hx hb hml hown hts hE hS (xw_recv hE hP (20, 0) rfl rfl) rfl rfl q_48 q_920 q_923 q_921 q_922 (by decide) rfl ⟨by rw [hRf]; decide, by rw [hRl]; decide⟩ hl.1 rfl (Nat.le_of_ble_eq_true rfl) dL_law_1290 ⟨by rw [hRc]; omega, by rw [hRs]; omega⟩ (fun v H1 locs hp hS => ?_)
  obtain ⟨r, hv, hr2, w2, qp2, qm2, qr2, qi2, qn2, qf2, qu2, qd2, hq2, hP⟩ := hp; subst hv; generalize H1 = H at hP hS ⊢
  refine lv_lstore (lv' := [(7, .long r), (6, .int (tFeed z v1 v2)), (0, .ref b), (1, .ref (ad' (0, 0))), (2, .ref (ad' (20, 0))), (3, .ref (ad' (40, 0))), (4, .ref (ad' (41, 0))), (5, .int (nI (5 * j)))]) hx hb dL_law_1293 hl (by decide) rfl (fun ls hl => ?_)
  refine lv_aload_n hx hb dL_law_1295 rfl (lv_at hl 4 rfl) ?_
  refine xw_callV (C := "NetlistBenchModel") (n := 0) [] (c_X4_thrown l hP) hx hb hml hown hts hE hS (xw_recv hE hP (20, 0) rfl rfl) rfl rfl q_48 q_790 q_793 q_791 q_792 (by decide) rfl ⟨by rw [hRf]; decide, by rw [hRl]; decide⟩ hl.1 rfl (Nat.le_of_ble_eq_true rfl) dL_law_1296 ⟨by rw [hRc]; omega, by rw [hRs]; omega⟩ (fun v H1 locs hp hS => ?_)
  obtain ⟨hv, hh⟩ := hp; subst hv; subst hh
  refine lv_iload hx hb dL_law_1299 (lv_at hl 1 rfl) ?_
  refine lv_icmp_eq (tgt := 1306) hx hb dL_law_1301 (by decide) (fun _ => ?_) (fun h => absurd rfl h)
  refine lv_iload hx hb dL_law_1306 (lv_at hl 1 rfl) ?_
  refine lv_if_ne (tgt := 1322) hx hb dL_law_1308 (by decide) (fun h0 => ?_) (fun h0 => ?_)
  · refine lv_goto (tgt := 1835) hx hb dL_law_1322 (by decide) ?_
    exact W.widen (k := 46 + 6 * j) (n := 1200 + 80 * j) (by omega) (by omega) (K ad' z _ _ _ ⟨bl', g2, pl2, kn2, rw2, mi2, un2, _, w2, qp2, qm2, qr2, qi2, qn2, qf2, qu2, qd2, oj', od, hP, hq2, k5, k3, k4⟩ hS (lv_sub hl [2, 3, 4, 5, 6, 7] rfl))
  refine lv_aload_n hx hb dL_law_1311 rfl (lv_at hl 5 rfl) ?_
  refine lv_iconst (v := nI 0) hx hb dL_law_1312 (by decide) ?_
  refine xo_lald hx hb hE hP rfl dL_law_1313 ?_
  refine lv_lload hx hb dL_law_1314 (lv_at hl 0 rfl) ?_
  refine W.lcmp hx hb dL_law_1316 ?_
  refine xt_i (w := 0) (by rw [k6 h0, hr2 h0]; exact lgc _) ?_
  refine lv_if_eq (tgt := 1322) hx hb dL_law_1317 (by decide) (fun _ => ?_) (fun h => absurd rfl h)
  refine lv_goto (tgt := 1835) hx hb dL_law_1322 (by decide) ?_
  exact W.widen (k := 46 + 6 * j) (n := 1200 + 80 * j) (by omega) (by omega) (K ad' z _ _ _ ⟨bl', g2, pl2, kn2, rw2, mi2, un2, _, w2, qp2, qm2, qr2, qi2, qn2, qf2, qu2, qd2, oj', od, hP, hq2, k5, k3, k4⟩ hS (lv_sub hl [2, 3, 4, 5, 6, 7] rfl))

set_option maxHeartbeats 4000000 in
set_option maxRecDepth 100000 in
theorem lc_resistance {p : Program} {l : Launch} {e : Env} {R : Room} {s : State} {m : MethodId} {args : Array Value} {below : List Frame} {meth : Method} {c : Code} {H H0 : Heap} {locs : List Loc} {Q : State → Prop} {D : va_G} {y : Nat → ClassId} {A : Nat → Prop} {e0 b L : Nat} {xs : Nat → Int32} (C0 : lc_At p l s m args meth c R D y A H0 e0 b L xs) {ad : xL → Nat} {z : xC} {j : Nat} {ls : Array Slot} (hL : L ≤ 2560) (h5 : 5 * j + 5 ≤ L) (hi : xLI D A y e0 ad z H) (hS : va_S A H0 H locs) (hl : lv_has ls 9 (lcL ad b j))
    (K : ∀ (ad' : xL → Nat) (z' : xC) (H1 : Heap) (locs1 : List Loc) (ls1 : Array Slot), xLI D A y e0 ad' z' H1 → va_S A H0 H1 locs1 → lv_has ls1 9 (lcL ad' b j) → W p l e R s m args below meth c H1 locs1 (46 + 6 * j) (1200 + 80 * j) Q (F0 m 1835 ls1 [])) : W p l e R s m args below meth c H locs (40 + 6 * j) (1120 + 80 * j) Q (F0 m 1325 ls []) := by
  obtain ⟨hx, hb, hml, hown, hts, hX, hbl, hbA, hE, hF, hG, hN, hls, hRf, hRl, hRc, hRs⟩ := C0
  obtain ⟨bl, g, pl, kn, rw, mi, un, th, w, qp, qm, qr, qi, qn, qf, qu, qd, oj, od, hP, hq, hz, h0n, h0e⟩ := hi
  have hl : lv_has ls 9 [(0, .ref b), (1, .ref (ad (0, 0))), (2, .ref (ad (20, 0))), (3, .ref (ad (40, 0))), (4, .ref (ad (41, 0))), (5, .int (nI (5 * j)))] := hl
  obtain ⟨v1, hv1⟩ : ∃ v, v = xs (nI (5 * j + 1)).toNatClampNeg := ⟨_, rfl⟩
  obtain ⟨v2, hv2⟩ : ∃ v, v = xs (nI (5 * j + 2)).toNatClampNeg := ⟨_, rfl⟩
  obtain ⟨v3, hv3⟩ : ∃ v, v = xs (nI (5 * j + 3)).toNatClampNeg := ⟨_, rfl⟩
  obtain ⟨v4, hv4⟩ : ∃ v, v = xs (nI (5 * j + 4)).toNatClampNeg := ⟨_, rfl⟩
  refine lv_aload_n hx hb dL_law_1325 rfl (lv_at hl 1 rfl) ?_
  refine lw_arg (k := 1) hx hb hX hbl hbA hS hL (by omega) (lv_at hl 0 rfl) (lv_at hl 5 rfl) dL_law_1326 dL_law_1327 dL_law_1329 (by decide) dL_law_1330 dL_law_1331 ?_
  refine xt_i hv1.symm ?_
  refine lw_arg (k := 2) hx hb hX hbl hbA hS hL (by omega) (lv_at hl 0 rfl) (lv_at hl 5 rfl) dL_law_1332 dL_law_1333 dL_law_1335 (by decide) dL_law_1336 dL_law_1337 ?_
  refine xt_i hv2.symm ?_
  refine lw_arg (k := 3) hx hb hX hbl hbA hS hL (by omega) (lv_at hl 0 rfl) (lv_at hl 5 rfl) dL_law_1338 dL_law_1339 dL_law_1341 (by decide) dL_law_1342 dL_law_1343 ?_
  refine xt_i hv3.symm ?_
  refine lw_arg (k := 4) hx hb hX hbl hbA hS hL (by omega) (lv_at hl 0 rfl) (lv_at hl 5 rfl) dL_law_1344 dL_law_1345 dL_law_1347 (by decide) dL_law_1348 dL_law_1349 ?_
  refine xt_i hv4.symm ?_
  refine lw_b01 hx hb dL_law_1350 dL_law_1353 dL_law_1354 dL_law_1357 ?_
  refine lv_aload_n hx hb dL_law_1358 rfl (lv_at hl 3 rfl) ?_
  refine xl_callS (n := 6) [.ref (ad (0, 0)), .int v1, .int v2, .int v3, .int (b01 v4), .ref (ad (40, 0))] (c_L_resistance l hls hP hz h0n h0e (a := v1) (b := v2) (t := v3) (f := (b01 v4))) hx hb hml hown hts hE hF hG hN hS rfl rfl q_42 q_656 q_658 q_657 (by decide) rfl ⟨by rw [hRf]; decide, by rw [hRl]; decide⟩ hl.1 rfl (Nat.le_of_ble_eq_true rfl) dL_law_1359 ⟨by rw [hRc]; omega, by rw [hRs]; omega⟩ (fun v H1 locs hp hS => ?_)
  obtain ⟨hv, ad', bl', oj', k1, k2, k3, k4, k5, k6, g2, pl2, kn2, rw2, mi2, un2, hP⟩ := hp; subst hv; generalize H1 = H at hP hS ⊢
  rw [show (if tRst z v1 v2 v3 = 0 then z else z) = z from ite_self _] at hP k3 k4 k5
  have hP : xW D A ad' (wU (wB y ad' bl' z g2 pl2 kn2 rw2 mi2 un2) (wR y ad' th w qp qm qr qi qn qf qu qd) (wO y oj' od)) H := hP.ct (by rw [wR_ad k1])
  have hl : lv_has ls 9 [(0, .ref b), (1, .ref (ad' (0, 0))), (2, .ref (ad' (20, 0))), (3, .ref (ad' (40, 0))), (4, .ref (ad' (41, 0))), (5, .int (nI (5 * j)))] := by rw [k2, k1 (20, 0) (by decide), k1 (40, 0) (by decide), k1 (41, 0) (by decide)]; exact hl
  refine lv_istore (lv' := [(6, .int (tRst z v1 v2 v3)), (0, .ref b), (1, .ref (ad' (0, 0))), (2, .ref (ad' (20, 0))), (3, .ref (ad' (40, 0))), (4, .ref (ad' (41, 0))), (5, .int (nI (5 * j)))]) hx hb dL_law_1362 hl (by decide) rfl (fun ls hl => ?_)
  refine lv_aload_n hx hb dL_law_1364 rfl (lv_at hl 3 rfl) ?_
  refine lw_arg (k := 1) hx hb hX hbl hbA hS hL (by omega) (lv_at hl 1 rfl) (lv_at hl 6 rfl) dL_law_1365 dL_law_1366 dL_law_1368 (by decide) dL_law_1369 dL_law_1370 ?_
  refine xt_i hv1.symm ?_
  refine lw_arg (k := 2) hx hb hX hbl hbA hS hL (by omega) (lv_at hl 1 rfl) (lv_at hl 6 rfl) dL_law_1371 dL_law_1372 dL_law_1374 (by decide) dL_law_1375 dL_law_1376 ?_
  refine xt_i hv2.symm ?_
  refine lw_arg (k := 3) hx hb hX hbl hbA hS hL (by omega) (lv_at hl 1 rfl) (lv_at hl 6 rfl) dL_law_1377 dL_law_1378 dL_law_1380 (by decide) dL_law_1381 dL_law_1382 ?_
  refine xt_i hv3.symm ?_
  refine lw_arg (k := 4) hx hb hX hbl hbA hS hL (by omega) (lv_at hl 1 rfl) (lv_at hl 6 rfl) dL_law_1383 dL_law_1384 dL_law_1386 (by decide) dL_law_1387 dL_law_1388 ?_
  refine xt_i hv4.symm ?_
  refine lw_b01 hx hb dL_law_1389 dL_law_1392 dL_law_1393 dL_law_1396 ?_
  refine xw_callV (C := "NetlistBenchModel") (n := 4) [.int v1, .int v2, .int v3, .int (b01 v4)] (c_X4_resistance l hP hq hz.w (rOk_wf hz.w) v1 v2 v3 (b01 v4)) hx hb hml hown hts hE hS (xw_recv hE hP (20, 0) rfl rfl) rfl rfl q_48 q_924 q_927 q_925 q_926 (by decide) rfl ⟨by rw [hRf]; decide, by rw [hRl]; decide⟩ hl.1 rfl (Nat.le_of_ble_eq_true rfl) dL_law_1397 ⟨by rw [hRc]; omega, by rw [hRs]; omega⟩ (fun v H1 locs hp hS => ?_)
  obtain ⟨r, hv, hr2, w2, qp2, qm2, qr2, qi2, qn2, qf2, qu2, qd2, hq2, hP⟩ := hp; subst hv; generalize H1 = H at hP hS ⊢
  refine lv_lstore (lv' := [(7, .long r), (6, .int (tRst z v1 v2 v3)), (0, .ref b), (1, .ref (ad' (0, 0))), (2, .ref (ad' (20, 0))), (3, .ref (ad' (40, 0))), (4, .ref (ad' (41, 0))), (5, .int (nI (5 * j)))]) hx hb dL_law_1400 hl (by decide) rfl (fun ls hl => ?_)
  refine lv_aload_n hx hb dL_law_1402 rfl (lv_at hl 4 rfl) ?_
  refine xw_callV (C := "NetlistBenchModel") (n := 0) [] (c_X4_thrown l hP) hx hb hml hown hts hE hS (xw_recv hE hP (20, 0) rfl rfl) rfl rfl q_48 q_790 q_793 q_791 q_792 (by decide) rfl ⟨by rw [hRf]; decide, by rw [hRl]; decide⟩ hl.1 rfl (Nat.le_of_ble_eq_true rfl) dL_law_1403 ⟨by rw [hRc]; omega, by rw [hRs]; omega⟩ (fun v H1 locs hp hS => ?_)
  obtain ⟨hv, hh⟩ := hp; subst hv; subst hh
  refine lv_iload hx hb dL_law_1406 (lv_at hl 1 rfl) ?_
  refine lv_icmp_eq (tgt := 1413) hx hb dL_law_1408 (by decide) (fun _ => ?_) (fun h => absurd rfl h)
  refine lv_iload hx hb dL_law_1413 (lv_at hl 1 rfl) ?_
  refine lv_if_ne (tgt := 1429) hx hb dL_law_1415 (by decide) (fun h0 => ?_) (fun h0 => ?_)
  · refine lv_goto (tgt := 1835) hx hb dL_law_1429 (by decide) ?_
    exact W.widen (k := 46 + 6 * j) (n := 1200 + 80 * j) (by omega) (by omega) (K ad' z _ _ _ ⟨bl', g2, pl2, kn2, rw2, mi2, un2, _, w2, qp2, qm2, qr2, qi2, qn2, qf2, qu2, qd2, oj', od, hP, hq2, k5, k3, k4⟩ hS (lv_sub hl [2, 3, 4, 5, 6, 7] rfl))
  refine lv_aload_n hx hb dL_law_1418 rfl (lv_at hl 5 rfl) ?_
  refine lv_iconst (v := nI 0) hx hb dL_law_1419 (by decide) ?_
  refine xo_lald hx hb hE hP rfl dL_law_1420 ?_
  refine lv_lload hx hb dL_law_1421 (lv_at hl 0 rfl) ?_
  refine W.lcmp hx hb dL_law_1423 ?_
  refine xt_i (w := 0) (by rw [k6 h0, hr2 h0]; exact lgc _) ?_
  refine lv_if_eq (tgt := 1429) hx hb dL_law_1424 (by decide) (fun _ => ?_) (fun h => absurd rfl h)
  refine lv_goto (tgt := 1835) hx hb dL_law_1429 (by decide) ?_
  exact W.widen (k := 46 + 6 * j) (n := 1200 + 80 * j) (by omega) (by omega) (K ad' z _ _ _ ⟨bl', g2, pl2, kn2, rw2, mi2, un2, _, w2, qp2, qm2, qr2, qi2, qn2, qf2, qu2, qd2, oj', od, hP, hq2, k5, k3, k4⟩ hS (lv_sub hl [2, 3, 4, 5, 6, 7] rfl))

set_option maxHeartbeats 4000000 in
set_option maxRecDepth 100000 in
theorem lc_power {p : Program} {l : Launch} {e : Env} {R : Room} {s : State} {m : MethodId} {args : Array Value} {below : List Frame} {meth : Method} {c : Code} {H H0 : Heap} {locs : List Loc} {Q : State → Prop} {D : va_G} {y : Nat → ClassId} {A : Nat → Prop} {e0 b L : Nat} {xs : Nat → Int32} (C0 : lc_At p l s m args meth c R D y A H0 e0 b L xs) {ad : xL → Nat} {z : xC} {j : Nat} {ls : Array Slot} (hL : L ≤ 2560) (h5 : 5 * j + 5 ≤ L) (hi : xLI D A y e0 ad z H) (hS : va_S A H0 H locs) (hl : lv_has ls 9 (lcL ad b j))
    (K : ∀ (ad' : xL → Nat) (z' : xC) (H1 : Heap) (locs1 : List Loc) (ls1 : Array Slot), xLI D A y e0 ad' z' H1 → va_S A H0 H1 locs1 → lv_has ls1 9 (lcL ad' b j) → W p l e R s m args below meth c H1 locs1 (46 + 6 * j) (1200 + 80 * j) Q (F0 m 1835 ls1 [])) : W p l e R s m args below meth c H locs (40 + 6 * j) (1120 + 80 * j) Q (F0 m 1432 ls []) := by
  obtain ⟨hx, hb, hml, hown, hts, hX, hbl, hbA, hE, hF, hG, hN, hls, hRf, hRl, hRc, hRs⟩ := C0
  obtain ⟨bl, g, pl, kn, rw, mi, un, th, w, qp, qm, qr, qi, qn, qf, qu, qd, oj, od, hP, hq, hz, h0n, h0e⟩ := hi
  have hl : lv_has ls 9 [(0, .ref b), (1, .ref (ad (0, 0))), (2, .ref (ad (20, 0))), (3, .ref (ad (40, 0))), (4, .ref (ad (41, 0))), (5, .int (nI (5 * j)))] := hl
  obtain ⟨v1, hv1⟩ : ∃ v, v = xs (nI (5 * j + 1)).toNatClampNeg := ⟨_, rfl⟩
  obtain ⟨v2, hv2⟩ : ∃ v, v = xs (nI (5 * j + 2)).toNatClampNeg := ⟨_, rfl⟩
  obtain ⟨v3, hv3⟩ : ∃ v, v = xs (nI (5 * j + 3)).toNatClampNeg := ⟨_, rfl⟩
  obtain ⟨v4, hv4⟩ : ∃ v, v = xs (nI (5 * j + 4)).toNatClampNeg := ⟨_, rfl⟩
  refine lv_aload_n hx hb dL_law_1432 rfl (lv_at hl 1 rfl) ?_
  refine lw_arg (k := 1) hx hb hX hbl hbA hS hL (by omega) (lv_at hl 0 rfl) (lv_at hl 5 rfl) dL_law_1433 dL_law_1434 dL_law_1436 (by decide) dL_law_1437 dL_law_1438 ?_
  refine xt_i hv1.symm ?_
  refine lv_aload hx hb dL_law_1439 (lv_at hl 4 rfl) ?_
  refine xl_callS (n := 3) [.ref (ad (0, 0)), .int v1, .ref (ad (41, 0))] (c_L_power l hls hP hz (t := v1)) hx hb hml hown hts hE hF hG hN hS rfl rfl q_42 q_668 q_670 q_669 (by decide) rfl ⟨by rw [hRf]; decide, by rw [hRl]; decide⟩ hl.1 rfl (Nat.le_of_ble_eq_true rfl) dL_law_1441 ⟨by rw [hRc]; omega, by rw [hRs]; omega⟩ (fun v H1 locs hp hS => ?_)
  obtain ⟨hv, od', k6, g2, pl2, kn2, rw2, mi2, un2, hP⟩ := hp; subst hv; generalize H1 = H at hP hS ⊢
  refine lv_istore (lv' := [(6, .int (tTm v1)), (0, .ref b), (1, .ref (ad (0, 0))), (2, .ref (ad (20, 0))), (3, .ref (ad (40, 0))), (4, .ref (ad (41, 0))), (5, .int (nI (5 * j)))]) hx hb dL_law_1444 hl (by decide) rfl (fun ls hl => ?_)
  refine lv_aload_n hx hb dL_law_1446 rfl (lv_at hl 3 rfl) ?_
  refine lw_arg (k := 1) hx hb hX hbl hbA hS hL (by omega) (lv_at hl 1 rfl) (lv_at hl 6 rfl) dL_law_1447 dL_law_1448 dL_law_1450 (by decide) dL_law_1451 dL_law_1452 ?_
  refine xt_i hv1.symm ?_
  refine xw_callV (C := "NetlistBenchModel") (n := 1) [.int v1] (c_X4_power l hP hq hz.w (nOk_wf hz.w) v1) hx hb hml hown hts hE hS (xw_recv hE hP (20, 0) rfl rfl) rfl rfl q_48 q_928 q_931 q_929 q_930 (by decide) rfl ⟨by rw [hRf]; decide, by rw [hRl]; decide⟩ hl.1 rfl (Nat.le_of_ble_eq_true rfl) dL_law_1453 ⟨by rw [hRc]; omega, by rw [hRs]; omega⟩ (fun v H1 locs hp hS => ?_)
  obtain ⟨r, hv, hr2, w2, qp2, qm2, qr2, qi2, qn2, qf2, qu2, qd2, hq2, hP⟩ := hp; subst hv; generalize H1 = H at hP hS ⊢
  refine lv_dstore (lv' := [(7, .double r), (6, .int (tTm v1)), (0, .ref b), (1, .ref (ad (0, 0))), (2, .ref (ad (20, 0))), (3, .ref (ad (40, 0))), (4, .ref (ad (41, 0))), (5, .int (nI (5 * j)))]) hx hb dL_law_1456 hl (by decide) rfl (fun ls hl => ?_)
  refine lv_aload_n hx hb dL_law_1458 rfl (lv_at hl 4 rfl) ?_
  refine xw_callV (C := "NetlistBenchModel") (n := 0) [] (c_X4_thrown l hP) hx hb hml hown hts hE hS (xw_recv hE hP (20, 0) rfl rfl) rfl rfl q_48 q_790 q_793 q_791 q_792 (by decide) rfl ⟨by rw [hRf]; decide, by rw [hRl]; decide⟩ hl.1 rfl (Nat.le_of_ble_eq_true rfl) dL_law_1459 ⟨by rw [hRc]; omega, by rw [hRs]; omega⟩ (fun v H1 locs hp hS => ?_)
  obtain ⟨hv, hh⟩ := hp; subst hv; subst hh
  refine lv_iload hx hb dL_law_1462 (lv_at hl 1 rfl) ?_
  refine lv_icmp_eq (tgt := 1469) hx hb dL_law_1464 (by decide) (fun _ => ?_) (fun h => absurd rfl h)
  refine lv_iload hx hb dL_law_1469 (lv_at hl 1 rfl) ?_
  refine lv_if_ne (tgt := 1506) hx hb dL_law_1471 (by decide) (fun h0 => ?_) (fun h0 => ?_)
  · refine lv_goto (tgt := 1835) hx hb dL_law_1506 (by decide) ?_
    exact W.widen (k := 46 + 6 * j) (n := 1200 + 80 * j) (by omega) (by omega) (K ad z _ _ _ ⟨bl, g2, pl2, kn2, rw2, mi2, un2, _, w2, qp2, qm2, qr2, qi2, qn2, qf2, qu2, qd2, oj, od', hP, hq2, hz, h0n, h0e⟩ hS (lv_sub hl [2, 3, 4, 5, 6, 7] rfl))
  refine lv_aload hx hb dL_law_1474 (lv_at hl 6 rfl) ?_
  refine lv_iconst (v := nI 0) hx hb dL_law_1476 (by decide) ?_
  refine xo_dald hx hb hE hP rfl dL_law_1477 ?_
  refine lv_dload hx hb dL_law_1478 (lv_at hl 0 rfl) ?_
  refine lv_dcmp hx hb dL_law_1480 ?_
  refine xt_i (w := 0) (by rw [k6 h0, hr2 h0, f_eq (pw_f hz.w _ _ (Nat.le_refl _))]; rfl) ?_
  refine lv_if_eq (tgt := 1506) hx hb dL_law_1481 (by decide) (fun _ => ?_) (fun h => absurd rfl h)
  refine lv_goto (tgt := 1835) hx hb dL_law_1506 (by decide) ?_
  exact W.widen (k := 46 + 6 * j) (n := 1200 + 80 * j) (by omega) (by omega) (K ad z _ _ _ ⟨bl, g2, pl2, kn2, rw2, mi2, un2, _, w2, qp2, qm2, qr2, qi2, qn2, qf2, qu2, qd2, oj, od', hP, hq2, hz, h0n, h0e⟩ hS (lv_sub hl [2, 3, 4, 5, 6, 7] rfl))
