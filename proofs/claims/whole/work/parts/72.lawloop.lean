/-! the law's loop -/
set_option maxHeartbeats 4000000 in
set_option maxRecDepth 100000 in
theorem law_loop {p : Program} {l : Launch} {e : Env} {R : Room} {s : State} {m : MethodId} {args : Array Value} {below : List Frame} {meth : Method} {c : Code} {H0 : Heap} {Q : State → Prop} {D : va_G} {y : Nat → ClassId} {A : Nat → Prop} {e0 b L : Nat} {xs : Nat → Int32} (C0 : lc_At p l s m args meth c R D y A H0 e0 b L xs) (hL : L ≤ 2560)
    (Kend : ∀ (H1 : Heap) (locs1 : List Loc) (ls1 : Array Slot) (k n : Nat), k ≤ 4000 → n ≤ 50000 → va_S A H0 H1 locs1 → W p l e R s m args below meth c H1 locs1 k n Q (F0 m 1841 ls1 [])) :
    ∀ (f j : Nat) (ad : xL → Nat) (z : xC) (H : Heap) (locs : List Loc) (ls : Array Slot), 514 ≤ f + j → 5 * j ≤ L → xLI D A y e0 ad z H → va_S A H0 H locs → lv_has ls 9 (lcL ad b j) → W p l e R s m args below meth c H locs (40 + 6 * j) (1120 + 80 * j) Q (F0 m 28 ls []) := by
  intro f
  induction f with
  | zero => intro j ad z H locs ls h1 h2; exact absurd h1 (by omega)
  | succ f ih =>
    intro j ad z H locs ls h1 h2 hi hS hl
    have K : ∀ (ad' : xL → Nat) (z' : xC) (H1 : Heap) (locs1 : List Loc) (ls1 : Array Slot), 5 * j + 5 ≤ L → xLI D A y e0 ad' z' H1 → va_S A H0 H1 locs1 → lv_has ls1 9 (lcL ad' b j) → W p l e R s m args below meth c H1 locs1 (46 + 6 * j) (1200 + 80 * j) Q (F0 m 1835 ls1 []) := by
      intro ad' z' H1 locs1 ls1 h5 hi1 hS1 hl1
      obtain ⟨hx, hb, hrest⟩ := C0
      refine lv_iinc (v := nI (5 * (j + 1))) (lv' := [(5, .int (nI (5 * (j + 1)))), (0, .ref b), (1, .ref (ad' (0, 0))), (2, .ref (ad' (20, 0))), (3, .ref (ad' (40, 0))), (4, .ref (ad' (41, 0)))]) hx hb dL_law_1835 hl1 (k := 5) rfl (nI_add (5 * j) 5) (by decide) rfl (fun ls hl => ?_)
      refine lv_goto (tgt := 28) hx hb dL_law_1838 (by decide) ?_
      refine W.widen (k := 40 + 6 * (j + 1)) (n := 1120 + 80 * (j + 1)) (by omega) (by omega) ?_
      exact ih (j + 1) ad' z' H1 locs1 ls (by omega) (by omega) hi1 hS1 (lv_sub hl [1, 2, 3, 4, 5, 0] rfl)
    obtain ⟨hx, hb, hml, hown, hts, hX, hbl, hbA, hrest⟩ := id C0
    have hl' : lv_has ls 9 [(0, .ref b), (1, .ref (ad (0, 0))), (2, .ref (ad (20, 0))), (3, .ref (ad (40, 0))), (4, .ref (ad (41, 0))), (5, .int (nI (5 * j)))] := hl
    refine lv_iload hx hb dL_law_28 (lv_at hl' 5 rfl) ?_
    refine lv_aload_n hx hb dL_law_30 rfl (lv_at hl' 0 rfl) ?_
    refine va_slen hx hb hX hbl hbA hS dL_law_31 ?_
    refine lv_iconst (v := nI 5) hx hb dL_law_32 (by decide) ?_
    refine lv_isub hx hb dL_law_33 ?_
    refine lv_icmp_gt (tgt := 1841) hx hb dL_law_34 (by decide) (fun _ => Kend _ _ _ _ _ (by omega) (by omega) hS) (fun c34 => ?_)
    have h5 : 5 * j + 5 ≤ L := len5 hL (by omega) c34
    refine lv_aload_n hx hb dL_law_37 rfl (lv_at hl' 0 rfl) ?_
    refine lv_iload hx hb dL_law_38 (lv_at hl' 5 rfl) ?_
    refine va_sld hx hb hX hbl hbA hS (vp_in_nI (by omega) (by omega)) dL_law_40 ?_
    refine lv_bipush (v := nI 31) hx hb dL_law_41 (by decide) ?_
    refine lv_iand hx hb dL_law_43 ?_
    have K' := fun ad' z' H1 locs1 ls1 => K ad' z' H1 locs1 ls1 h5
    generalize xs (nI (5 * j)).toNatClampNeg &&& nI 31 = v
    by_cases hv : 0 ≤ v ∧ v ≤ nI 21
    · obtain ⟨k, hk, ek⟩ := nI_of2 (M := nI 21) (n := 21) (by decide) (Int32.not_lt.mpr hv.1) hv.2
      refine xt_i ek ?_
      have hk2 : k = 0 ∨ k = 1 ∨ k = 2 ∨ k = 3 ∨ k = 4 ∨ k = 5 ∨ k = 6 ∨ k = 7 ∨ k = 8 ∨ k = 9 ∨ k = 10 ∨ k = 11 ∨ k = 12 ∨ k = 13 ∨ k = 14 ∨ k = 15 ∨ k = 16 ∨ k = 17 ∨ k = 18 ∨ k = 19 ∨ k = 20 ∨ k = 21 := by omega
      rcases hk2 with e1 | e1 | e1 | e1 | e1 | e1 | e1 | e1 | e1 | e1 | e1 | e1 | e1 | e1 | e1 | e1 | e1 | e1 | e1 | e1 | e1 | e1
      all_goals subst e1
      · exact lv_tableIn (off := 104) (tgt := 148) hx hb dL_law_44 (by decide) (by decide) (by decide +kernel) (by decide) (lc_addNode C0 hL h5 hi hS hl K')
      · exact lv_tableIn (off := 148) (tgt := 192) hx hb dL_law_44 (by decide) (by decide) (by decide +kernel) (by decide) (lc_rail C0 hL h5 hi hS hl K')
      · exact lv_tableIn (off := 251) (tgt := 295) hx hb dL_law_44 (by decide) (by decide) (by decide +kernel) (by decide) (lc_addElement C0 hL h5 hi hS hl K')
      · exact lv_tableIn (off := 359) (tgt := 403) hx hb dL_law_44 (by decide) (by decide) (by decide +kernel) (by decide) (lc_resize C0 hL h5 hi hS hl K')
      · exact lv_tableIn (off := 427) (tgt := 471) hx hb dL_law_44 (by decide) (by decide) (by decide +kernel) (by decide) (lc_begin C0 hL h5 hi hS hl K')
      · exact lv_tableIn (off := 518) (tgt := 562) hx hb dL_law_44 (by decide) (by decide) (by decide +kernel) (by decide) (lc_toggle C0 hL h5 hi hS hl K')
      · exact lv_tableIn (off := 586) (tgt := 630) hx hb dL_law_44 (by decide) (by decide) (by decide +kernel) (by decide) (lc_count C0 hL h5 hi hS hl K')
      · exact lv_tableIn (off := 642) (tgt := 686) hx hb dL_law_44 (by decide) (by decide) (by decide +kernel) (by decide) (lc_element C0 hL h5 hi hS hl K')
      · exact lv_tableIn (off := 710) (tgt := 754) hx hb dL_law_44 (by decide) (by decide) (by decide +kernel) (by decide) (lc_toggleAt C0 hL h5 hi hS hl K')
      · exact lv_tableIn (off := 778) (tgt := 822) hx hb dL_law_44 (by decide) (by decide) (by decide +kernel) (by decide) (lc_isOn C0 hL h5 hi hS hl K')
      · exact lv_tableIn (off := 853) (tgt := 897) hx hb dL_law_44 (by decide) (by decide) (by decide +kernel) (by decide) (lc_together C0 hL h5 hi hS hl K')
      · exact lv_tableIn (off := 921) (tgt := 965) hx hb dL_law_44 (by decide) (by decide) (by decide +kernel) (by decide) (lc_floats C0 hL h5 hi hS hl K')
      · exact lv_tableIn (off := 996) (tgt := 1040) hx hb dL_law_44 (by decide) (by decide) (by decide +kernel) (by decide) (lc_potential C0 hL h5 hi hS hl K')
      · exact lv_tableIn (off := 1091) (tgt := 1135) hx hb dL_law_44 (by decide) (by decide) (by decide +kernel) (by decide) (lc_current C0 hL h5 hi hS hl K')
      · exact lv_tableIn (off := 1186) (tgt := 1230) hx hb dL_law_44 (by decide) (by decide) (by decide +kernel) (by decide) (lc_feed C0 hL h5 hi hS hl K')
      · exact lv_tableIn (off := 1281) (tgt := 1325) hx hb dL_law_44 (by decide) (by decide) (by decide +kernel) (by decide) (lc_resistance C0 hL h5 hi hS hl K')
      · exact lv_tableIn (off := 1388) (tgt := 1432) hx hb dL_law_44 (by decide) (by decide) (by decide +kernel) (by decide) (lc_power C0 hL h5 hi hS hl K')
      · exact lv_tableIn (off := 1465) (tgt := 1509) hx hb dL_law_44 (by decide) (by decide) (by decide +kernel) (by decide) (lc_nextToggle C0 hL h5 hi hS hl K')
      · exact lv_tableIn (off := 1521) (tgt := 1565) hx hb dL_law_44 (by decide) (by decide) (by decide +kernel) (by decide) (lc_probe C0 hL h5 hi hS hl K')
      · exact lv_tableIn (off := 1629) (tgt := 1673) hx hb dL_law_44 (by decide) (by decide) (by decide +kernel) (by decide) (lc_compare C0 hL h5 hi hS hl K')
      · exact lv_tableIn (off := 1721) (tgt := 1765) hx hb dL_law_44 (by decide) (by decide) (by decide +kernel) (by decide) (lc_levels C0 hL h5 hi hS hl K')
      · exact lv_tableIn (off := 1777) (tgt := 1821) hx hb dL_law_44 (by decide) (by decide) (by decide +kernel) (by decide) (lc_digest C0 hL h5 hi hS hl K')
    · refine lv_tableOut (tgt := 1835) hx hb dL_law_44 ?_ (by decide) (W.widen (k := 46 + 6 * j) (n := 1200 + 80 * j) (by omega) (by omega) (K' ad z _ _ _ hi hS hl))
      by_cases h0 : 0 ≤ v
      · have h21 : nI 21 < v := Int32.not_le.mp fun q => hv ⟨h0, q⟩
        exact Or.inr (Int32.lt_iff_toInt_lt.mp h21)
      · exact Or.inl (Int32.lt_iff_toInt_lt.mp (Int32.not_le.mp h0))
