/-! the law from its entry to its loop -/
theorem xW_mt {D : va_G} {A : Nat → Prop} {ad : xL → Nat} {H : Heap} (h : ∀ q : Nat, H.size ≤ q → A q) : xW D A ad (fun _ => none) H := ⟨fun k e hk => (by cases hk), ⟨fun i j hi hj e => absurd rfl hi, fun i hi => absurd rfl hi⟩, h⟩
set_option maxHeartbeats 4000000 in
set_option maxRecDepth 100000 in
theorem law_entry {p : Program} {l : Launch} {e : Env} {R : Room} {s : State} {m : MethodId} {args : Array Value} {below : List Frame} {meth : Method} {c : Code} {Q : State → Prop} {D : va_G} {y : Nat → ClassId} {A : Nat → Prop} {e0 b L : Nat} {xs : Nat → Int32} (C0 : lc_At p l s m args meth c R D y A s.heap e0 b L xs) (hA : ∀ q : Nat, s.heap.size ≤ q → A q) (hL : L ≤ 2560)
    (Kend : ∀ (H1 : Heap) (locs1 : List Loc) (ls1 : Array Slot) (k n : Nat), k ≤ 4000 → n ≤ 50000 → va_S A s.heap H1 locs1 → W p l e R s m args below meth c H1 locs1 k n Q (F0 m 1841 ls1 [])) {ls : Array Slot} (hl : lv_has ls 9 [(0, .ref b)]) : W p l e R s m args below meth c s.heap [] 0 0 Q (F0 m 0 ls []) := by
  obtain ⟨hx, hb, hml, hown, hts, hX, hbl, hbA, hE, hF, hG, hN, hls, hRf, hRl, hRc, hRs⟩ := id C0
  have hS : va_S A s.heap s.heap [] := va_S.rf
  have hP : xW D A (fun _ => 0) (fun _ => none) s.heap := xW_mt hA
  refine xw_new hx hb hts iw_X3 tyX3 tyX3_ok hown q_64 q_65 q_43 hE hP hS (ci := 4) rfl (fs := [.null, .null, .null, .null]) (fun j hj => match j, hj with | 0, _ => rfl | 1, _ => rfl | 2, _ => rfl | 3, _ => rfl | n + 4, h => absurd h (by omega)) (by rw [hRc]; decide) (by rw [hRs]; decide) dL_law_0 (0, 0) (fun q0 H hP hS => ?_)
  refine lv_dup hx hb dL_law_3 rfl ?_
  refine x2_callI (n := 0) [] (c_X3_init l (h0 := q0) hP aw_up_self (fun k _ hk => aw_up_ne hk) ad_up_self) hx hb hml hown hts hE hF hG hS rfl rfl q_43 q_66 q_68 q_67 rfl (by decide) rfl ⟨by rw [hRf]; decide, by rw [hRl]; decide⟩ hl.1 rfl (Nat.le_of_ble_eq_true rfl) dL_law_4 ⟨by rw [hRc]; decide, by rw [hRs]; decide⟩ (fun v H1 locs hp hS => ?_)
  obtain ⟨hv, ad1, hk1, hk2, hk3, hk4, hP⟩ := hp; subst hv; generalize H1 = H at hP hS ⊢
  have hq0 : ad1 (0, 0) = q0 := hk2.trans ad_up_self
  refine lv_astore_n (lv' := [(1, .ref q0), (0, .ref b)]) hx hb dL_law_7 rfl hl (by decide) rfl (fun ls hl => ?_)
  refine xw_new hx hb hts iw_X4 tyX4 tyX4_ok hown q_722 q_723 q_48 hE hP hS (ci := 5) rfl (fs := [.int 0, .int 0, .null, .null, .int 0, .null, .null, .null, .null, .null, .null, .null, .int 0, .null, .null, .null, .null, .long 0, .null, .null]) (fun j hj => match j, hj with | 0, _ => rfl | 1, _ => rfl | 2, _ => rfl | 3, _ => rfl | 4, _ => rfl | 5, _ => rfl | 6, _ => rfl | 7, _ => rfl | 8, _ => rfl | 9, _ => rfl | 10, _ => rfl | 11, _ => rfl | 12, _ => rfl | 13, _ => rfl | 14, _ => rfl | 15, _ => rfl | 16, _ => rfl | 17, _ => rfl | 18, _ => rfl | 19, _ => rfl | n + 20, h => absurd h (by omega)) (by rw [hRc]; decide) (by rw [hRs]; decide) dL_law_8 (20, 0) (fun q1 H hP hS => ?_)
  refine lv_dup hx hb dL_law_11 rfl ?_
  refine x2_callI (n := 0) [] (c_X4_init l (h0 := q1) hP aw_up_self ad_up_self) hx hb hml hown hts hE hF hG hS rfl rfl q_48 q_724 q_726 q_725 rfl (by decide) rfl ⟨by rw [hRf]; decide, by rw [hRl]; decide⟩ hl.1 rfl (Nat.le_of_ble_eq_true rfl) dL_law_12 ⟨by rw [hRc]; decide, by rw [hRs]; decide⟩ (fun v H1 locs hp hS => ?_)
  obtain ⟨hv, ad2, hj1, hP⟩ := hp; subst hv; generalize H1 = H at hP hS ⊢
  have hq1 : ad2 (20, 0) = q1 := (hj1 (20, 0) (Or.inl (by decide))).trans ad_up_self
  refine lv_astore_n (lv' := [(2, .ref q1), (1, .ref q0), (0, .ref b)]) hx hb dL_law_15 rfl hl (by decide) rfl (fun ls hl => ?_)
  refine lv_iconst (v := nI 1) hx hb dL_law_16 (by decide) ?_
  refine xw_newA hx hb (atype := .long) (ty := .long) (t := 1) (N := 1) (a0 := (1, .inr (.inl (fun _ => 0)))) hts q_123 rfl rfl (fun _ => by rw [vp_cell_l]; rfl) hE hP hS (by decide) (by decide) (by rw [hRc]; decide) (by rw [hRs]; decide) dL_law_17 (40, 0) (fun q2 H hP hS => ?_)
  refine lv_astore_n (lv' := [(3, .ref q2), (2, .ref q1), (1, .ref q0), (0, .ref b)]) hx hb dL_law_19 rfl hl (by decide) rfl (fun ls hl => ?_)
  refine lv_iconst (v := nI 1) hx hb dL_law_20 (by decide) ?_
  refine xw_newA hx hb (atype := .double) (ty := .double) (t := 3) (N := 1) (a0 := (1, .inr (.inr (.inr (.inl (fun _ => 0)))))) hts q_971 rfl rfl (fun _ => by rw [vp_cell_d]; rfl) hE hP hS (by decide) (by decide) (by rw [hRc]; decide) (by rw [hRs]; decide) dL_law_21 (41, 0) (fun q3 H hP hS => ?_)
  refine lv_astore (lv' := [(4, .ref q3), (3, .ref q2), (2, .ref q1), (1, .ref q0), (0, .ref b)]) hx hb dL_law_23 hl (by decide) rfl (fun ls hl => ?_)
  refine lv_iconst (v := nI 0) hx hb dL_law_25 (by decide) ?_
  refine lv_istore (lv' := [(5, .int (nI 0)), (4, .ref q3), (3, .ref q2), (2, .ref q1), (1, .ref q0), (0, .ref b)]) hx hb dL_law_26 hl (by decide) rfl (fun ls hl => ?_)
  refine W.widen (k := 40 + 6 * 0) (n := 1120 + 80 * 0) (by decide) (by decide) ?_
  have f40 : ∀ k : xL, k.1 < 40 → ad_up (ad_up ad2 (40, 0) q2) (41, 0) q3 k = ad2 k := fun k hk => (ad_up_ne (fun e => absurd (show 41 < 40 by rw [e] at hk; exact hk) (by decide))).trans (ad_up_ne (fun e => absurd (show 40 < 40 by rw [e] at hk; exact hk) (by decide)))
  have f20 : ∀ k : xL, k.1 < 20 → ad_up (ad_up ad2 (40, 0) q2) (41, 0) q3 k = ad1 k := fun k hk => (f40 k (Nat.lt_trans hk (by decide))).trans ((hj1 k (Or.inl (Nat.lt_succ_of_lt hk))).trans (ad_up_ne (fun e => absurd (show 20 < 20 by rw [e] at hk; exact hk) (by decide))))
  generalize hg : ad_up (ad_up ad2 (40, 0) q2) (41, 0) q3 = ad at hP f40 f20
  have g41 : ad (41, 0) = q3 := by rw [← hg]; exact ad_up_self
  have g40 : ad (40, 0) = q2 := by rw [← hg]; exact (ad_up_ne (by decide)).trans ad_up_self
  have g20 : ad (20, 0) = q1 := (f40 (20, 0) (by decide)).trans hq1
  have g0 : ad (0, 0) = q0 := (f20 (0, 0) (by decide)).trans hq0
  refine law_loop C0 hL Kend 514 0 ad zE H _ ls (by omega) (by omega) ⟨bl0, zI, zI, zL, fun _ _ => 0, zL, 0, 0, zE, zI, zL, zL, zL, zL, zI, 0, 0, fun _ => 0, fun _ => 0, hP.alike (fun k f hk => ?_), rq_zE, ⟨wf_zE, by decide, by decide, by decide, by decide⟩, fun _ => (f20 (2, 0) (by decide)).trans hk3, fun _ => (f20 (4, 0) (by decide)).trans hk4⟩ hS ?_
  · refine ⟨f, ?_, fun t => t⟩
    rw [← hk]
    obtain ⟨i, j⟩ := k
    by_cases h1 : i < 20
    · rw [aw_up_ne (ne1 (by omega)), aw_up_ne (ne1 (by omega))]
      show (if 20 ≤ i ∧ i ≤ 35 then wR y ad2 0 zE zI zL zL zL zL zI 0 0 (i - 20) j else _) = (if i < 20 then wB y ad bl0 zE zI zI zL (fun _ _ => 0) zL 0 i j else _)
      rw [if_neg (by omega), if_pos h1, aw_up_ne (ne1 (by omega))]
      show (if i < 20 then wB y ad1 bl0 zE zI zI zL (fun _ _ => 0) zL 0 i j else _) = _
      rw [if_pos h1, wB_ad f20]
    · by_cases h2 : i < 40
      · rw [aw_up_ne (ne1 (by omega)), aw_up_ne (ne1 (by omega))]
        show (if 20 ≤ i ∧ i ≤ 35 then wR y ad2 0 zE zI zL zL zL zL zI 0 0 (i - 20) j else _) = (if i < 20 then _ else if i < 40 then wR y ad 0 zE zI zL zL zL zL zI 0 0 (i - 20) j else _)
        rw [if_neg h1, if_pos h2]
        by_cases h3 : i ≤ 35
        · rw [if_pos ⟨by omega, h3⟩, wR_ad2 f40]
        · rw [if_neg (by omega), aw_up_ne (ne1 (by omega))]
          show (if i < 20 then _ else _) = _
          rw [if_neg h1, aw_up_ne (ne1 (by omega))]
          obtain ⟨n, rfl⟩ : ∃ n, i = n + 36 := ⟨i - 36, by omega⟩
          rw [show n + 36 - 20 = n + 16 by omega]
          rfl
      · show _ = (if i < 20 then _ else if i < 40 then _ else wO y (fun _ => 0) (fun _ => 0) (i - 40) j)
        rw [if_neg h1, if_neg h2]
        by_cases g1 : ((i, j) : xL) = (41, 0)
        · cases g1
          rw [aw_up_self]
          rfl
        rw [aw_up_ne g1]
        by_cases g2 : ((i, j) : xL) = (40, 0)
        · cases g2
          rw [aw_up_self]
          rfl
        rw [aw_up_ne g2]
        show (if 20 ≤ i ∧ i ≤ 35 then _ else _) = _
        rw [if_neg (by omega), aw_up_ne (ne1 (by omega))]
        show (if i < 20 then _ else _) = _
        rw [if_neg h1, aw_up_ne (ne1 (by omega))]
        obtain ⟨n, rfl⟩ : ∃ n, i = n + 40 := ⟨i - 40, by omega⟩
        rw [Nat.add_sub_cancel]
        match n, j with
        | 0, 0 => exact absurd rfl g2
        | 0, j + 1 => rfl
        | 1, 0 => exact absurd rfl g1
        | 1, j + 1 => rfl
        | n + 2, j => rfl
  · exact lv_sub (show lv_has ls 9 [(5, .int (nI (5 * 0))), (4, .ref (ad (41, 0))), (3, .ref (ad (40, 0))), (2, .ref (ad (20, 0))), (1, .ref (ad (0, 0))), (0, .ref b)] by rw [g41, g40, g20, g0]; exact hl) [5, 4, 3, 2, 1, 0] rfl
