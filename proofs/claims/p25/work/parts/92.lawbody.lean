set_option maxHeartbeats 16000000 in
set_option maxRecDepth 100000 in
theorem law_body {p : Program} {l : Launch} {e : Env} {R : Room} {s : State} {m : MethodId} {args : Array Value} {below : List Frame} {meth : Method} {c : Code} {Q : State → Prop} {D : va_G} {y : Nat → ClassId} {A : Nat → Prop} {Hs : Heap} {e0 b L : Nat} {xs : Nat → Int32} (hls : l.stackTraces = false) (hx : p.tables.exec = Jvm.exec) (hb : c.code = cL_law) (hml : c.maxLocals = 16) (hown : s.vm.findClass "NetlistBenchLaw" = some m.cls) (hts : ∀ w ∈ WG, w.before args s = true) (hE : xE D y s) (hF : xF A s Hs) (hG : xG A e0 s Hs) (hHd : xH s) (hX : va_X b L xs s Hs) (hL : L ≤ 260) (hbl : b < Hs.size) (hbA : ¬ A b) (hAA : ∀ q : Nat, Hs.size ≤ q → A q) (hRf : R.frames = 11) (hRl : R.locals = 436) (hRc : R.cells = 1114363) (hRs : R.slots = 5758535) (hS : va_S A Hs Hs [])
    (Kend : ∀ (H1 : Heap) (locs1 : List Loc) (ls1 : Array Slot) (k n : Nat), k ≤ 20000 → n ≤ 200000 → va_S A Hs H1 locs1 → W p l e R s m args below meth c H1 locs1 k n Q (F0 m 714 ls1 [.int (nI 1)])) {ls : Array Slot} (hl : lv_has ls 16 [(0, .ref b)]) : W p l e R s m args below meth c Hs [] 0 0 Q (F0 m 0 ls []) := by
  have hL : L ≤ 1000 := by omega
  have hP : xW D A (fun _ => 0) (fun _ => none) Hs := ⟨fun k e hk => (by cases hk), ⟨fun i j hi hj e => absurd rfl hi, fun i hi => absurd rfl hi⟩, hAA⟩
  refine xw_new hx hb hts iw_X3 tyX3 tyX3_ok hown q_42 q_43 q_21 hE hP hS (ci := 4) rfl (fs := [.null, .null, .null, .null]) (fun j hj => match j, hj with | 0, _ => rfl | 1, _ => rfl | 2, _ => rfl | 3, _ => rfl | n + 4, h => absurd h (by omega)) (by rw [hRc]; decide) (by rw [hRs]; decide) dL_law_0 (0, 0) (fun qb H hP hS => ?_)
  refine lv_dup hx hb dL_law_3 rfl ?_
  refine x2_callI (n := 0) [] (c_X3_init l (h0 := qb) hP aw_up_self (fun k _ hk => aw_up_ne hk) ad_up_self) hx hb hml hown hts hE hF hG hS rfl rfl q_21 q_44 q_46 q_45 rfl (by decide) rfl ⟨by rw [hRf]; decide, by rw [hRl]; decide⟩ hl.1 rfl (Nat.le_of_ble_eq_true rfl) dL_law_4 ⟨by rw [hRc]; decide, by rw [hRs]; decide⟩ (fun v H1 locs hp hS => ?_)
  obtain ⟨hv_, ad0, hk1, hk2, h2e, h4e, hP⟩ := hp; subst hv_; generalize H1 = H at hP hS ⊢
  have hqb : ad0 (0, 0) = qb := hk2.trans ad_up_self
  have hP : xW D A ad0 (wU (wB y ad0 bl0 zE zI zI zL (fun _ _ => 0) zL 0) wN wN) H := hP.sub (fun k f hf => by
    by_cases h : k.1 < 20
    · exact (if_pos h).trans ((if_pos h).symm.trans hf)
    · exfalso
      have hf : (if k.1 < 20 then wB y ad0 bl0 zE zI zI zL (fun _ _ => 0) zL 0 k.1 k.2 else if k.1 < 40 then wN (k.1 - 20) k.2 else wN (k.1 - 40) k.2) = some f := hf
      rw [if_neg h] at hf
      by_cases h2 : k.1 < 40
      · rw [if_pos h2] at hf; cases hf
      · rw [if_neg h2] at hf; cases hf)
  refine lv_astore_n (lv' := [(1, .ref qb), (0, .ref b)]) hx hb dL_law_7 rfl hl (by decide) rfl (fun ls hl => ?_)
  refine lv_iconst (v := nI 2) hx hb dL_law_8 (by decide) ?_
  refine lv_aload_n hx hb dL_law_9 rfl (lv_at hl 1 rfl) ?_
  refine lv_iconst (v := nI 3) hx hb dL_law_10 (by decide) ?_
  refine xk_callS (n := 2) [.ref b, .int (nI 3)] (c_L_cell l (k := 3) hL (by omega) (Nat.lt_of_lt_of_le hbl hS.1) hbA) xKs_bl (fun U hU hW => ⟨hU, hE.moved hW, va_X.moved hW.alike (hX.kept (hS.2.1 _ hbl hbA))⟩) hx hb hml hown hts hS rfl rfl q_20 q_436 q_438 q_437 (by decide) rfl ⟨by rw [hRf]; decide, by rw [hRl]; decide⟩ hl.1 rfl (Nat.le_of_ble_eq_true rfl) dL_law_11 ⟨by rw [hRc]; omega, by rw [hRs]; omega⟩ (fun v H1 locs hp hS => ?_)
  obtain ⟨⟨x11, hv_⟩, hh_⟩ := hp; subst hv_; subst hh_
  refine lv_iconst (v := nI 5) hx hb dL_law_14 (by decide) ?_
  refine xw_callS (n := 2) [.int x11, .int (nI 5)] (c_L_below l (x := x11) (n := 5) (by omega) (by omega)) hx hb hml hown hts hE hS rfl rfl q_20 q_432 q_434 q_433 (by decide) rfl ⟨by rw [hRf]; decide, by rw [hRl]; decide⟩ hl.1 rfl (Nat.le_of_ble_eq_true rfl) dL_law_15 ⟨by rw [hRc]; omega, by rw [hRs]; omega⟩ (fun v H1 locs hp hS => ?_)
  obtain ⟨⟨r15, hr15, hv_⟩, hh_⟩ := hp; subst hv_; subst hh_
  refine lv_iadd hx hb dL_law_18 ?_
  refine xt_i (nI_add 2 r15) ?_
  refine lv_istore_n (lv' := [(2, .int (nI (2 + r15))), (1, .ref qb), (0, .ref b)]) hx hb dL_law_19 rfl hl (by decide) rfl (fun ls hl => ?_)
  obtain ⟨n, hn⟩ : ∃ n, n = 2 + r15 := ⟨_, rfl⟩
  rw [← hn] at hl
  refine lv_aload_n hx hb dL_law_20 rfl (lv_at hl 1 rfl) ?_
  refine xt_v (w := .ref (ad0 (0, 0))) (congrArg Value.ref hqb.symm) ?_
  refine lv_aload_n hx hb dL_law_21 rfl (lv_at hl 2 rfl) ?_
  refine lv_iload_n hx hb dL_law_22 rfl (lv_at hl 0 rfl) ?_
  refine lv_bipush (v := nI 12) hx hb dL_law_23 (by decide) ?_
  refine xk_callS (n := 4) [.ref (ad0 (0, 0)), .ref b, .int (nI n), .int (nI 12)] (c_L_build l hls hP h2e h4e (by omega) (by omega) (show L ≤ 1000 by omega) (Nat.lt_of_lt_of_le hbl hS.1) hbA) xKb_bl (fun U hU hW => ⟨hU, hE.moved hW, hF.warm hW hS.2.1, hG.warm hW hS.2.1, hHd.warm hW, va_X.moved hW.alike (hX.kept (hS.2.1 _ hbl hbA))⟩) hx hb hml hown hts hS rfl rfl q_20 q_440 q_442 q_441 (by decide) rfl ⟨by rw [hRf]; decide, by rw [hRl]; decide⟩ hl.1 (by rw [hqb]; rfl) (Nat.le_of_ble_eq_true rfl) dL_law_25 ⟨by rw [hRc]; omega, by rw [hRs]; omega⟩ (fun v H1 locs hp hS => ?_)
  obtain ⟨z, ad, bl, fr, fk, fw, hv_, hB, hz, hBq, hA0, hn1, hn12⟩ := hp; subst hv_; generalize H1 = H at hB hS ⊢
  obtain ⟨g, pl, kn, rw, mi, un, hP⟩ := hB
  have hq0 : ad (0, 0) = qb := hA0.trans hqb
  obtain ⟨qh, hqh⟩ : ∃ q, ad (20, 0) = q := ⟨_, rfl⟩
  refine xt_v (w := .ref qh) (congrArg Value.ref hqh) ?_
  obtain ⟨En, hEn⟩ : ∃ e, nE z = e := ⟨_, rfl⟩
  rw [hEn] at hP hBq hn1 hn12
  have hw := hz.w
  have hNn := hBq.1
  have hR := hBq.Rh hEn
  refine lv_astore_n (lv' := [(3, .ref qh), (2, .int (nI n)), (1, .ref qb), (0, .ref b)]) hx hb dL_law_28 rfl hl (by decide) rfl (fun ls hl => ?_)
  refine lv_aload_n hx hb dL_law_29 rfl (lv_at hl 0 rfl) ?_
  refine xt_v (w := .ref (ad (20, 0))) (congrArg Value.ref hqh.symm) ?_
  refine lv_ifnonnull (tgt := 35) hx hb dL_law_30 (by decide) ?_
  refine lv_iconst (v := nI 3) hx hb dL_law_35 (by decide) ?_
  refine xw_newA hx hb (atype := .int) (ty := .int) (t := 0) (N := 3) (a0 := (3, .inl (fun _ => nI 0))) hts q_100 rfl rfl (fun _ => by rw [vp_cell_i]; rfl) hE hP hS (by decide) (by decide) (by rw [hRc]; omega) (by rw [hRs]; omega) dL_law_36 (40, 0) (fun q40 H hP hS => ?_)
  have hP := wO_lab hP
  obtain ⟨ad, had⟩ : ∃ a, a = ad_up ad (40, 0) q40 := ⟨_, rfl⟩
  rw [← had] at hP
  have hq0 : ad (0, 0) = qb := by rw [had, ad_up_ne (by decide)]; exact hq0
  have hqh : ad (20, 0) = qh := by rw [had, ad_up_ne (by decide)]; exact hqh
  have h40 : ad (40, 0) = q40 := by rw [had, ad_up_self]
  refine xt_v (w := .ref (ad (40, 0))) (congrArg Value.ref h40.symm) ?_
  refine lv_dup hx hb dL_law_38 rfl ?_
  refine lv_iconst (v := nI 0) hx hb dL_law_39 (by decide) ?_
  refine lv_iconst (v := nI 0) hx hb dL_law_40 (by decide) ?_
  refine xw_iast hx hb hE hP hS (40, 0) (n := 3) (f := fun _ => nI 0) rfl (i := 0) (by decide) (by decide) dL_law_41 (fun H locs hP hS => ?_)
  have hP := hP.ct (wO_up _)
  refine lv_dup hx hb dL_law_42 rfl ?_
  refine lv_iconst (v := nI 1) hx hb dL_law_43 (by decide) ?_
  refine lv_bipush (v := nI 11) hx hb dL_law_44 (by decide) ?_
  refine xw_iast hx hb hE hP hS (40, 0) (n := 3) (f := upd (fun _ => nI 0) 0 (nI 0)) rfl (i := 1) (by decide) (by decide) dL_law_46 (fun H locs hP hS => ?_)
  have hP := hP.ct (wO_up _)
  refine lv_dup hx hb dL_law_47 rfl ?_
  refine lv_iconst (v := nI 2) hx hb dL_law_48 (by decide) ?_
  refine lv_bipush (v := nI 23) hx hb dL_law_49 (by decide) ?_
  refine xw_iast hx hb hE hP hS (40, 0) (n := 3) (f := upd (upd (fun _ => nI 0) 0 (nI 0)) 1 (nI 11)) rfl (i := 2) (by decide) (by decide) dL_law_51 (fun H locs hP hS => ?_)
  have hP := hP.ct (wO_up _)
  refine lv_astore (lv' := [(4, .ref (ad (40, 0))), (3, .ref qh), (2, .int (nI n)), (1, .ref qb), (0, .ref b)]) hx hb dL_law_52 hl (by decide) rfl (fun ls hl => ?_)
  rw [h40] at hl
  obtain ⟨f3, hf3e⟩ : ∃ f, f = upd (upd (upd (fun _ => nI 0) 0 (nI 0)) 1 (nI 11)) 2 (nI 23) := ⟨_, rfl⟩
  rw [← hf3e] at hP
  have hf3 : ∀ i, i < 3 → ∃ τ, τ ≤ 999 ∧ f3 i = nI τ := fun i hi => by rw [hf3e]; exact tm_3 i hi
  refine lv_aload hx hb dL_law_54 (lv_at hl 0 rfl) ?_
  refine xt_v (w := .ref (ad (40, 0))) (congrArg Value.ref h40.symm) ?_
  refine xw_ialen hx hb hE hP (40, 0) (n := 3) rfl dL_law_56 ?_
  refine lv_istore (lv' := [(5, .int (nI 3)), (4, .ref q40), (3, .ref qh), (2, .int (nI n)), (1, .ref qb), (0, .ref b)]) hx hb dL_law_57 hl (by decide) rfl (fun ls hl => ?_)
  refine lv_iconst (v := nI 0) hx hb dL_law_59 (by decide) ?_
  refine lv_istore (lv' := [(6, .int (nI 0)), (5, .int (nI 3)), (4, .ref q40), (3, .ref qh), (2, .int (nI n)), (1, .ref qb), (0, .ref b)]) hx hb dL_law_60 hl (by decide) rfl (fun ls hl => ?_)
  have K62 : ∀ (nn : Nat), ∀ (i : Nat) (g pl : Nat → Int32) (kn : Nat → Int64) (rw : Nat → Nat → Int64) (mi : Nat → Int64) (un : Int32), (i ≤ 3) → 3 - i < nn → ∀ (H : Heap) (locs : List Loc) (ls : Array Slot), xW D A ad (wU (wB y ad bl z g pl kn rw mi un) (wH y ad n fr En fk fw) (wO y f3)) H → va_S A Hs H locs → lv_has ls 16 [(6, .int (nI i)), (5, .int (nI 3)), (4, .ref q40), (3, .ref qh), (2, .int (nI n)), (1, .ref qb), (0, .ref b)] → W p l e R s m args below meth c H locs (300 + 324 * i) (4200 + 2424 * i) Q (F0 m 62 ls []) := by
    intro nn
    induction nn with
    | zero => intro i g pl kn rw mi un hi h; exact absurd h (Nat.not_lt_zero _)
    | succ nn ih62 =>
      intro i g pl kn rw mi un hi hn62 H locs ls hP hS hl
      refine lv_iload hx hb dL_law_62 (lv_at hl 0 rfl) ?_
      refine lv_iload hx hb dL_law_64 (lv_at hl 1 rfl) ?_
      refine lv_icmp_ge (tgt := 351) hx hb dL_law_66 (by decide) (fun c66 => ?_) (fun c66 => ?_)
      · skip
        have c66 := ni_le (a := 3) (b := i) (by omega) (by omega) c66
        refine lv_iconst (v := nI 0) hx hb dL_law_351 (by decide) ?_
        refine lv_istore (lv' := [(4, .int (nI 0)), (6, .int (nI i)), (5, .int (nI 3)), (3, .ref qh), (2, .int (nI n)), (1, .ref qb), (0, .ref b)]) hx hb dL_law_352 hl (by decide) rfl (fun ls hl => ?_)
        have K354 : ∀ (nn : Nat), ∀ (k : Nat) (z : xC) (g pl : Nat → Int32) (kn : Nat → Int64) (rw : Nat → Nat → Int64) (mi : Nat → Int64) (un : Int32), (k ≤ En) → (bOk bl z) → (Rh z n fr En fk fw) → (∀ j, j < n → (fr j = nI 100 ↔ nR z j = 0)) → (∀ j, j < n → ¬ nR z j = 0 → fr j = nP z j) → (∀ j, j < k → ¬ eS z j = 0 → (eZ z j).toInt = 0) → En - k < nn → ∀ (H : Heap) (locs : List Loc) (ls : Array Slot), xW D A ad (wU (wB y ad bl z g pl kn rw mi un) (wH y ad n fr En fk fw) (wO y f3)) H → va_S A Hs H locs → lv_has ls 16 [(4, .int (nI k)), (3, .ref qh), (2, .int (nI n)), (1, .ref qb), (0, .ref b)] → W p l e R s m args below meth c H locs (1300 + 2 * k) (11500 + 12 * k) Q (F0 m 354 ls []) := by
          intro nn
          induction nn with
          | zero => intro k z g pl kn rw mi un hk hz hR hr1 hr2 hs0 h; exact absurd h (Nat.not_lt_zero _)
          | succ nn ih354 =>
            intro k z g pl kn rw mi un hk hz hR hr1 hr2 hs0 hn354 H locs ls hP hS hl
            refine lv_iload hx hb dL_law_354 (lv_at hl 0 rfl) ?_
            refine lv_aload_n hx hb dL_law_356 rfl (lv_at hl 1 rfl) ?_
            refine xt_v (w := .ref (ad (20, 0))) (congrArg Value.ref hqh.symm) ?_
            refine xw_get hx hb hts hown hE hP iw_X4 (20, 0) (fs := [.ref (ad (21, 0)), .ref (ad (22, 0))]) rfl rfl 1 (by decide) q_454 (fun x h => h) rfl dL_law_357 ?_
            refine xw_3alen hx hb hE hP (22, 0) (n := En) rfl dL_law_360 ?_
            refine lv_icmp_ge (tgt := 391) hx hb dL_law_361 (by decide) (fun c361 => ?_) (fun c361 => ?_)
            · skip
              have c361 := ni_le (a := En) (b := k) (by omega) (by omega) c361
              have hw := hz.w
              have hNn := hR.1
              have hEn := hR.2.1
              have hsz : ∀ j, j < nE z → ¬ eS z j = 0 → (eZ z j).toInt = 0 := fun j hj => hs0 j (by omega)
              refine lv_bipush (v := nI 100) hx hb dL_law_391 (by decide) ?_
              refine lv_istore (lv' := [(4, .int (nI 100)), (3, .ref qh), (2, .int (nI n)), (1, .ref qb), (0, .ref b)]) hx hb dL_law_393 hl (by decide) rfl (fun ls hl => ?_)
              refine lv_bipush (v := (-100)) hx hb dL_law_395 (by decide) ?_
              refine lv_istore (lv' := [(5, .int ((-100))), (4, .int (nI 100)), (3, .ref qh), (2, .int (nI n)), (1, .ref qb), (0, .ref b)]) hx hb dL_law_397 hl (by decide) rfl (fun ls hl => ?_)
              refine lv_iconst (v := nI 0) hx hb dL_law_399 (by decide) ?_
              refine lv_istore (lv' := [(6, .int (nI 0)), (5, .int ((-100))), (4, .int (nI 100)), (3, .ref qh), (2, .int (nI n)), (1, .ref qb), (0, .ref b)]) hx hb dL_law_400 hl (by decide) rfl (fun ls hl => ?_)
              have K402 : ∀ (nn : Nat), ∀ (k : Nat), (k ≤ n) → n - k < nn → ∀ (locs : List Loc) (ls : Array Slot), va_S A Hs H locs → lv_has ls 16 [(6, .int (nI k)), (5, .int ((leS z k).2)), (4, .int ((leS z k).1)), (3, .ref qh), (2, .int (nI n)), (1, .ref qb), (0, .ref b)] → W p l e R s m args below meth c H locs 1330 11700 Q (F0 m 402 ls []) := by
                intro nn
                induction nn with
                | zero => intro k hk h; exact absurd h (Nat.not_lt_zero _)
                | succ nn ih402 =>
                  intro k hk hn402 locs ls hS hl
                  refine lv_iload hx hb dL_law_402 (lv_at hl 0 rfl) ?_
                  refine lv_iload_n hx hb dL_law_404 rfl (lv_at hl 4 rfl) ?_
                  refine lv_icmp_ge (tgt := 457) hx hb dL_law_405 (by decide) (fun c405 => ?_) (fun c405 => ?_)
                  · skip
                    have c405 := ni_le (a := n) (b := k) (by omega) (by omega) c405
                    have ek : k = n := by omega
                    rw [ek] at hl
                    have h500 := le_500 hw
                    rw [← hNn] at h500
                    refine lv_iconst (v := nI 0) hx hb dL_law_457 (by decide) ?_
                    refine lv_istore (lv' := [(6, .int (nI 0)), (5, .int ((leS z n).2)), (4, .int ((leS z n).1)), (3, .ref qh), (2, .int (nI n)), (1, .ref qb), (0, .ref b)]) hx hb dL_law_458 hl (by decide) rfl (fun ls hl => ?_)
                    have K460 : ∀ (nn : Nat), ∀ (k : Nat) (g pl : Nat → Int32) (kn : Nat → Int64) (rw : Nat → Nat → Int64) (mi : Nat → Int64) (un : Int32), (k ≤ n) → n - k < nn → ∀ (H : Heap) (locs : List Loc) (ls : Array Slot), xW D A ad (wU (wB y ad bl z g pl kn rw mi un) (wH y ad n fr En fk fw) (wO y f3)) H → va_S A Hs H locs → lv_has ls 16 [(6, .int (nI k)), (5, .int ((leS z n).2)), (4, .int ((leS z n).1)), (3, .ref qh), (2, .int (nI n)), (1, .ref qb), (0, .ref b)] → W p l e R s m args below meth c H locs (1330 + 32 * k) (11700 + 192 * k) Q (F0 m 460 ls []) := by
                      intro nn
                      induction nn with
                      | zero => intro k g pl kn rw mi un hk h; exact absurd h (Nat.not_lt_zero _)
                      | succ nn ih460 =>
                        intro k g pl kn rw mi un hk hn460 H locs ls hP hS hl
                        refine lv_iload hx hb dL_law_460 (lv_at hl 0 rfl) ?_
                        refine lv_iload_n hx hb dL_law_462 rfl (lv_at hl 4 rfl) ?_
                        refine lv_icmp_ge (tgt := 532) hx hb dL_law_463 (by decide) (fun c463 => ?_) (fun c463 => ?_)
                        · skip
                          have c463 := ni_le (a := n) (b := k) (by omega) (by omega) c463
                          refine lv_iconst (v := nI 0) hx hb dL_law_532 (by decide) ?_
                          refine lv_istore (lv' := [(6, .int (nI 0)), (5, .int ((leS z n).2)), (4, .int ((leS z n).1)), (3, .ref qh), (2, .int (nI n)), (1, .ref qb), (0, .ref b)]) hx hb dL_law_533 hl (by decide) rfl (fun ls hl => ?_)
                          have K535 : ∀ (nn : Nat), ∀ (ka : Nat) (g pl : Nat → Int32) (kn : Nat → Int64) (rw : Nat → Nat → Int64) (mi : Nat → Int64) (un : Int32), (ka ≤ n) → n - ka < nn → ∀ (H : Heap) (locs : List Loc) (ls : Array Slot), xW D A ad (wU (wB y ad bl z g pl kn rw mi un) (wH y ad n fr En fk fw) (wO y f3)) H → va_S A Hs H locs → lv_has ls 16 [(6, .int (nI ka)), (3, .ref qh), (2, .int (nI n)), (1, .ref qb), (0, .ref b)] → W p l e R s m args below meth c H locs (1530 + 936 * ka) (12900 + 5760 * ka) Q (F0 m 535 ls []) := by
                            intro nn
                            induction nn with
                            | zero => intro ka g pl kn rw mi un hka h; exact absurd h (Nat.not_lt_zero _)
                            | succ nn ih535 =>
                              intro ka g pl kn rw mi un hka hn535 H locs ls hP hS hl
                              refine lv_iload hx hb dL_law_535 (lv_at hl 0 rfl) ?_
                              refine lv_iload_n hx hb dL_law_537 rfl (lv_at hl 2 rfl) ?_
                              refine lv_icmp_ge (tgt := 699) hx hb dL_law_538 (by decide) (fun c538 => ?_) (fun c538 => ?_)
                              · skip
                                have c538 := ni_le (a := n) (b := ka) (by omega) (by omega) c538
                                refine lv_aload_n hx hb dL_law_699 rfl (lv_at hl 3 rfl) ?_
                                refine xt_v (w := .ref (ad (0, 0))) (congrArg Value.ref hq0.symm) ?_
                                refine lv_iconst (v := nI 0) hx hb dL_law_700 (by decide) ?_
                                refine xx_callV (C := "NetlistBench") (n := 1) [.int (nI 0)] (c_X3_power l hls hP hz (nI 0)) hx hb hml hown hts hE hF hS (xw_recv hE hP (0, 0) rfl rfl) rfl rfl q_21 q_369 q_372 q_370 q_371 (by decide) rfl ⟨by rw [hRf]; decide, by rw [hRl]; decide⟩ hl.1 rfl (Nat.le_of_ble_eq_true rfl) dL_law_701 ⟨by rw [hRc]; omega, by rw [hRs]; omega⟩ (fun E ce q9 H1 locs hp hS hce hcv hcl => ?_) (fun v H1 locs hp hS => ?_)
                                · exact (exA_n hp.1 (pow_0)).elim
                                obtain ⟨hv_, ht_, hB⟩ := hp; subst hv_; generalize H1 = H at hB hS ⊢
                                obtain ⟨g, pl, kn, rw, mi, un, hP⟩ := hB
                                refine lv_dconst0 hx hb dL_law_704 ?_
                                refine lv_dcmp hx hb dL_law_705 ?_
                                refine lv_if_lt (tgt := 713) hx hb dL_law_706 (by decide) (fun c706 => ?_) (fun c706 => ?_)
                                · skip
                                  exact absurd c706 (by obtain ⟨o, h1, h2⟩ := pw_nn hw (nI 0); rw [h1]; exact cv_nl h2 _)
                                · skip
                                  refine lv_iconst (v := nI 1) hx hb dL_law_709 (by decide) ?_
                                  refine lv_goto (tgt := 714) hx hb dL_law_710 (by decide) ?_
                                  exact Kend _ _ _ _ _ (by omega) (by omega) hS
                              · skip
                                have c538 := ni_nle (a := n) (b := ka) (by omega) (by omega) c538
                                refine lv_iconst (v := nI 0) hx hb dL_law_541 (by decide) ?_
                                refine lv_istore (lv' := [(7, .int (nI 0)), (6, .int (nI ka)), (3, .ref qh), (2, .int (nI n)), (1, .ref qb), (0, .ref b)]) hx hb dL_law_542 hl (by decide) rfl (fun ls hl => ?_)
                                have K544 : ∀ (nn : Nat), ∀ (kc : Nat) (g pl : Nat → Int32) (kn : Nat → Int64) (rw : Nat → Nat → Int64) (mi : Nat → Int64) (un : Int32), (kc ≤ n) → n - kc < nn → ∀ (H : Heap) (locs : List Loc) (ls : Array Slot), xW D A ad (wU (wB y ad bl z g pl kn rw mi un) (wH y ad n fr En fk fw) (wO y f3)) H → va_S A Hs H locs → lv_has ls 16 [(7, .int (nI kc)), (6, .int (nI ka)), (3, .ref qh), (2, .int (nI n)), (1, .ref qb), (0, .ref b)] → W p l e R s m args below meth c H locs (1530 + 936 * ka + 156 * kc) (12900 + 5760 * ka + 960 * kc) Q (F0 m 544 ls []) := by
                                  intro nn
                                  induction nn with
                                  | zero => intro kc g pl kn rw mi un hkc h; exact absurd h (Nat.not_lt_zero _)
                                  | succ nn ih544 =>
                                    intro kc g pl kn rw mi un hkc hn544 H locs ls hP hS hl
                                    refine lv_iload hx hb dL_law_544 (lv_at hl 0 rfl) ?_
                                    refine lv_iload_n hx hb dL_law_546 rfl (lv_at hl 3 rfl) ?_
                                    refine lv_icmp_ge (tgt := 693) hx hb dL_law_547 (by decide) (fun c547 => ?_) (fun c547 => ?_)
                                    · skip
                                      have c547 := ni_le (a := n) (b := kc) (by omega) (by omega) c547
                                      refine lv_iinc (v := nI (ka + 1)) (lv' := [(6, .int (nI (ka + 1))), (7, .int (nI kc)), (3, .ref qh), (2, .int (nI n)), (1, .ref qb), (0, .ref b)]) hx hb dL_law_693 hl (k := 1) rfl (nI_1 _) (by decide) rfl (fun ls hl => ?_)
                                      refine lv_goto (tgt := 535) hx hb dL_law_696 (by decide) ?_
                                      refine W.widen (k := 1530 + 936 * (ka + 1)) (n := 12900 + 5760 * (ka + 1)) (by omega) (by omega) ?_
                                      exact ih535 (ka + 1) g pl kn rw mi un (by omega) (by omega) _ _ _ hP hS (lv_sub hl [0, 2, 3, 4, 5] rfl)
                                    · skip
                                      have c547 := ni_nle (a := n) (b := kc) (by omega) (by omega) c547
                                      refine lv_iconst (v := nI 0) hx hb dL_law_550 (by decide) ?_
                                      refine lv_istore (lv' := [(8, .int (nI 0)), (7, .int (nI kc)), (6, .int (nI ka)), (3, .ref qh), (2, .int (nI n)), (1, .ref qb), (0, .ref b)]) hx hb dL_law_551 hl (by decide) rfl (fun ls hl => ?_)
                                      have K553 : ∀ (nn : Nat), ∀ (kd : Nat) (g pl : Nat → Int32) (kn : Nat → Int64) (rw : Nat → Nat → Int64) (mi : Nat → Int64) (un : Int32), (kd ≤ n) → n - kd < nn → ∀ (H : Heap) (locs : List Loc) (ls : Array Slot), xW D A ad (wU (wB y ad bl z g pl kn rw mi un) (wH y ad n fr En fk fw) (wO y f3)) H → va_S A Hs H locs → lv_has ls 16 [(8, .int (nI kd)), (7, .int (nI kc)), (6, .int (nI ka)), (3, .ref qh), (2, .int (nI n)), (1, .ref qb), (0, .ref b)] → W p l e R s m args below meth c H locs (1530 + 936 * ka + 156 * kc + 26 * kd) (12900 + 5760 * ka + 960 * kc + 160 * kd) Q (F0 m 553 ls []) := by
                                        intro nn
                                        induction nn with
                                        | zero => intro kd g pl kn rw mi un hkd h; exact absurd h (Nat.not_lt_zero _)
                                        | succ nn ih553 =>
                                          intro kd g pl kn rw mi un hkd hn553 H locs ls hP hS hl
                                          refine lv_iload hx hb dL_law_553 (lv_at hl 0 rfl) ?_
                                          refine lv_iload_n hx hb dL_law_555 rfl (lv_at hl 4 rfl) ?_
                                          refine lv_icmp_ge (tgt := 687) hx hb dL_law_556 (by decide) (fun c556 => ?_) (fun c556 => ?_)
                                          · skip
                                            have c556 := ni_le (a := n) (b := kd) (by omega) (by omega) c556
                                            refine lv_iinc (v := nI (kc + 1)) (lv' := [(7, .int (nI (kc + 1))), (8, .int (nI kd)), (6, .int (nI ka)), (3, .ref qh), (2, .int (nI n)), (1, .ref qb), (0, .ref b)]) hx hb dL_law_687 hl (k := 1) rfl (nI_1 _) (by decide) rfl (fun ls hl => ?_)
                                            refine lv_goto (tgt := 544) hx hb dL_law_690 (by decide) ?_
                                            refine W.widen (k := 1530 + 936 * ka + 156 * (kc + 1)) (n := 12900 + 5760 * ka + 960 * (kc + 1)) (by omega) (by omega) ?_
                                            exact ih544 (kc + 1) g pl kn rw mi un (by omega) (by omega) _ _ _ hP hS (lv_sub hl [0, 2, 3, 4, 5, 6] rfl)
                                          · skip
                                            have c556 := ni_nle (a := n) (b := kd) (by omega) (by omega) c556
                                            have hwa : ka < nN z := by omega
                                            have hwc : kc < nN z := by omega
                                            have hwd : kd < nN z := by omega
                                            refine lv_aload_n hx hb dL_law_559 rfl (lv_at hl 3 rfl) ?_
                                            refine xt_v (w := .ref (ad (20, 0))) (congrArg Value.ref hqh.symm) ?_
                                            refine lv_iload hx hb dL_law_560 (lv_at hl 2 rfl) ?_
                                            refine lv_iload hx hb dL_law_562 (lv_at hl 1 rfl) ?_
                                            refine lv_iconst (v := nI 0) hx hb dL_law_564 (by decide) ?_
                                            refine xw_callV (C := "NetlistBenchLaw$Hand") (n := 3) [.int (nI ka), .int (nI kc), .int (nI 0)] (c_X4_isWay l hP hd_wH rfl hR hw (a := ka) (b := kc) (by omega) (by omega) (τ := 0) (by decide)) hx hb hml hown hts hE hS (xw_recv hE hP (20, 0) rfl rfl) rfl rfl q_26 q_417 q_420 q_418 q_419 (by decide) rfl ⟨by rw [hRf]; decide, by rw [hRl]; decide⟩ hl.1 rfl (Nat.le_of_ble_eq_true rfl) dL_law_565 ⟨by rw [hRc]; omega, by rw [hRs]; omega⟩ (fun v H1 locs hp hS => ?_)
                                            obtain ⟨hv_, hP⟩ := hp; subst hv_; generalize H1 = H at hP hS ⊢
                                            refine lv_if_eq (tgt := 681) hx hb dL_law_568 (by decide) (fun c568 => ?_) (fun c568 => ?_)
                                            · skip
                                              have c568 := b_f c568
                                              refine lv_iinc (v := nI (kd + 1)) (lv' := [(8, .int (nI (kd + 1))), (7, .int (nI kc)), (6, .int (nI ka)), (3, .ref qh), (2, .int (nI n)), (1, .ref qb), (0, .ref b)]) hx hb dL_law_681 hl (k := 0) rfl (nI_1 _) (by decide) rfl (fun ls hl => ?_)
                                              refine lv_goto (tgt := 553) hx hb dL_law_684 (by decide) ?_
                                              refine W.widen (k := 1530 + 936 * ka + 156 * kc + 26 * (kd + 1)) (n := 12900 + 5760 * ka + 960 * kc + 160 * (kd + 1)) (by omega) (by omega) ?_
                                              exact ih553 (kd + 1) g pl kn rw mi un (by omega) (by omega) _ _ _ hP hS (lv_sub hl [0, 1, 2, 3, 4, 5, 6] rfl)
                                            · skip
                                              have c568 := b_t c568
                                              refine lv_aload_n hx hb dL_law_571 rfl (lv_at hl 3 rfl) ?_
                                              refine xt_v (w := .ref (ad (20, 0))) (congrArg Value.ref hqh.symm) ?_
                                              refine lv_iload hx hb dL_law_572 (lv_at hl 2 rfl) ?_
                                              refine lv_iload hx hb dL_law_574 (lv_at hl 0 rfl) ?_
                                              refine lv_iconst (v := nI 0) hx hb dL_law_576 (by decide) ?_
                                              refine xw_callV (C := "NetlistBenchLaw$Hand") (n := 3) [.int (nI ka), .int (nI kd), .int (nI 0)] (c_X4_isWay l hP hd_wH rfl hR hw (a := ka) (b := kd) (by omega) (by omega) (τ := 0) (by decide)) hx hb hml hown hts hE hS (xw_recv hE hP (20, 0) rfl rfl) rfl rfl q_26 q_417 q_420 q_418 q_419 (by decide) rfl ⟨by rw [hRf]; decide, by rw [hRl]; decide⟩ hl.1 rfl (Nat.le_of_ble_eq_true rfl) dL_law_577 ⟨by rw [hRc]; omega, by rw [hRs]; omega⟩ (fun v H1 locs hp hS => ?_)
                                              obtain ⟨hv_, hP⟩ := hp; subst hv_; generalize H1 = H at hP hS ⊢
                                              refine lv_if_ne (tgt := 586) hx hb dL_law_580 (by decide) (fun c580 => ?_) (fun c580 => ?_)
                                              · skip
                                                have c580 := b_t c580
                                                have hed : (gM z (nI 0) kd).testBit kc = true := by rw [gM_eq hw (j := ka) (k := kd) (by omega) (by omega) c580]; exact c568
                                                have p1 := (rst_bd hw (nI 0) hwa hwc c568).2.1.1
                                                have p2 := (rst_bd hw (nI 0) hwa hwd c580).2.1.1
                                                have p3 := (rst_bd hw (nI 0) hwd hwc hed).2.1.1
                                                obtain ⟨⟨o1, ho1, ho2⟩, o3, ho3, ho4⟩ := rst_tri hw (nI 0) hwa hwc hwd c568 c580
                                                refine lv_aload_n hx hb dL_law_586 rfl (lv_at hl 5 rfl) ?_
                                                refine xt_v (w := .ref (ad (0, 0))) (congrArg Value.ref hq0.symm) ?_
                                                refine lv_iload hx hb dL_law_587 (lv_at hl 2 rfl) ?_
                                                refine lv_iload hx hb dL_law_589 (lv_at hl 1 rfl) ?_
                                                refine lv_iconst (v := nI 0) hx hb dL_law_591 (by decide) ?_
                                                refine lv_iconst (v := nI 1) hx hb dL_law_592 (by decide) ?_
                                                refine xx_callV (C := "NetlistBench") (n := 4) [.int (nI ka), .int (nI kc), .int (nI 0), .int (nI 1)] (c_X3_resistance l hls hP hz (nI ka) (nI kc) (nI 0) (nI 1)) hx hb hml hown hts hE hF hS (xw_recv hE hP (0, 0) rfl rfl) rfl rfl q_21 q_360 q_363 q_361 q_362 (by decide) rfl ⟨by rw [hRf]; decide, by rw [hRl]; decide⟩ hl.1 rfl (Nat.le_of_ble_eq_true rfl) dL_law_593 ⟨by rw [hRc]; omega, by rw [hRs]; omega⟩ (fun E ce q9 H1 locs hp hS hce hcv hcl => ?_) (fun v H1 locs hp hS => ?_)
                                                · exact (ex3_n hp.1 (rst_0 hw (by omega) (by omega) c568)).elim
                                                obtain ⟨hv_, ht_, hB⟩ := hp; subst hv_; generalize H1 = H at hB hS ⊢
                                                obtain ⟨g, pl, kn, rw, mi, un, hP⟩ := hB
                                                refine lv_l2d hx hb dL_law_596 ?_
                                                refine lv_aload_n hx hb dL_law_597 rfl (lv_at hl 5 rfl) ?_
                                                refine xt_v (w := .ref (ad (0, 0))) (congrArg Value.ref hq0.symm) ?_
                                                refine lv_iload hx hb dL_law_598 (lv_at hl 2 rfl) ?_
                                                refine lv_iload hx hb dL_law_600 (lv_at hl 1 rfl) ?_
                                                refine lv_iconst (v := nI 0) hx hb dL_law_602 (by decide) ?_
                                                refine lv_iconst (v := nI 0) hx hb dL_law_603 (by decide) ?_
                                                refine xx_callV (C := "NetlistBench") (n := 4) [.int (nI ka), .int (nI kc), .int (nI 0), .int (nI 0)] (c_X3_resistance l hls hP hz (nI ka) (nI kc) (nI 0) (nI 0)) hx hb hml hown hts hE hF hS (xw_recv hE hP (0, 0) rfl rfl) rfl rfl q_21 q_360 q_363 q_361 q_362 (by decide) rfl ⟨by rw [hRf]; decide, by rw [hRl]; decide⟩ hl.1 rfl (Nat.le_of_ble_eq_true rfl) dL_law_604 ⟨by rw [hRc]; omega, by rw [hRs]; omega⟩ (fun E ce q9 H1 locs hp hS hce hcv hcl => ?_) (fun v H1 locs hp hS => ?_)
                                                · exact (ex3_n hp.1 (rst_0 hw (by omega) (by omega) c568)).elim
                                                obtain ⟨hv_, ht_, hB⟩ := hp; subst hv_; generalize H1 = H at hB hS ⊢
                                                obtain ⟨g, pl, kn, rw, mi, un, hP⟩ := hB
                                                refine lv_l2d hx hb dL_law_607 ?_
                                                refine lv_ddiv hx hb dL_law_608 (f_num (fd_q _ p1)) ?_
                                                refine lv_dstore (lv' := [(9, .double (FP.ddiv (FP.l2d (rRst z (nI ka) (nI kc) (nI 0) (nI 1))) (FP.l2d (rRst z (nI ka) (nI kc) (nI 0) (nI 0))))), (8, .int (nI kd)), (7, .int (nI kc)), (6, .int (nI ka)), (3, .ref qh), (2, .int (nI n)), (1, .ref qb), (0, .ref b)]) hx hb dL_law_609 hl (by decide) rfl (fun ls hl => ?_)
                                                refine lv_aload_n hx hb dL_law_611 rfl (lv_at hl 6 rfl) ?_
                                                refine xt_v (w := .ref (ad (0, 0))) (congrArg Value.ref hq0.symm) ?_
                                                refine lv_iload hx hb dL_law_612 (lv_at hl 3 rfl) ?_
                                                refine lv_iload hx hb dL_law_614 (lv_at hl 1 rfl) ?_
                                                refine lv_iconst (v := nI 0) hx hb dL_law_616 (by decide) ?_
                                                refine lv_iconst (v := nI 1) hx hb dL_law_617 (by decide) ?_
                                                refine xx_callV (C := "NetlistBench") (n := 4) [.int (nI ka), .int (nI kd), .int (nI 0), .int (nI 1)] (c_X3_resistance l hls hP hz (nI ka) (nI kd) (nI 0) (nI 1)) hx hb hml hown hts hE hF hS (xw_recv hE hP (0, 0) rfl rfl) rfl rfl q_21 q_360 q_363 q_361 q_362 (by decide) rfl ⟨by rw [hRf]; decide, by rw [hRl]; decide⟩ hl.1 rfl (Nat.le_of_ble_eq_true rfl) dL_law_618 ⟨by rw [hRc]; omega, by rw [hRs]; omega⟩ (fun E ce q9 H1 locs hp hS hce hcv hcl => ?_) (fun v H1 locs hp hS => ?_)
                                                · exact (ex3_n hp.1 (rst_0 hw (by omega) (by omega) c580)).elim
                                                obtain ⟨hv_, ht_, hB⟩ := hp; subst hv_; generalize H1 = H at hB hS ⊢
                                                obtain ⟨g, pl, kn, rw, mi, un, hP⟩ := hB
                                                refine lv_l2d hx hb dL_law_621 ?_
                                                refine lv_aload_n hx hb dL_law_622 rfl (lv_at hl 6 rfl) ?_
                                                refine xt_v (w := .ref (ad (0, 0))) (congrArg Value.ref hq0.symm) ?_
                                                refine lv_iload hx hb dL_law_623 (lv_at hl 3 rfl) ?_
                                                refine lv_iload hx hb dL_law_625 (lv_at hl 1 rfl) ?_
                                                refine lv_iconst (v := nI 0) hx hb dL_law_627 (by decide) ?_
                                                refine lv_iconst (v := nI 0) hx hb dL_law_628 (by decide) ?_
                                                refine xx_callV (C := "NetlistBench") (n := 4) [.int (nI ka), .int (nI kd), .int (nI 0), .int (nI 0)] (c_X3_resistance l hls hP hz (nI ka) (nI kd) (nI 0) (nI 0)) hx hb hml hown hts hE hF hS (xw_recv hE hP (0, 0) rfl rfl) rfl rfl q_21 q_360 q_363 q_361 q_362 (by decide) rfl ⟨by rw [hRf]; decide, by rw [hRl]; decide⟩ hl.1 rfl (Nat.le_of_ble_eq_true rfl) dL_law_629 ⟨by rw [hRc]; omega, by rw [hRs]; omega⟩ (fun E ce q9 H1 locs hp hS hce hcv hcl => ?_) (fun v H1 locs hp hS => ?_)
                                                · exact (ex3_n hp.1 (rst_0 hw (by omega) (by omega) c580)).elim
                                                obtain ⟨hv_, ht_, hB⟩ := hp; subst hv_; generalize H1 = H at hB hS ⊢
                                                obtain ⟨g, pl, kn, rw, mi, un, hP⟩ := hB
                                                refine lv_l2d hx hb dL_law_632 ?_
                                                refine lv_ddiv hx hb dL_law_633 (f_num (fd_q _ p2)) ?_
                                                refine lv_aload_n hx hb dL_law_634 rfl (lv_at hl 6 rfl) ?_
                                                refine xt_v (w := .ref (ad (0, 0))) (congrArg Value.ref hq0.symm) ?_
                                                refine lv_iload hx hb dL_law_635 (lv_at hl 1 rfl) ?_
                                                refine lv_iload hx hb dL_law_637 (lv_at hl 2 rfl) ?_
                                                refine lv_iconst (v := nI 0) hx hb dL_law_639 (by decide) ?_
                                                refine lv_iconst (v := nI 1) hx hb dL_law_640 (by decide) ?_
                                                refine xx_callV (C := "NetlistBench") (n := 4) [.int (nI kd), .int (nI kc), .int (nI 0), .int (nI 1)] (c_X3_resistance l hls hP hz (nI kd) (nI kc) (nI 0) (nI 1)) hx hb hml hown hts hE hF hS (xw_recv hE hP (0, 0) rfl rfl) rfl rfl q_21 q_360 q_363 q_361 q_362 (by decide) rfl ⟨by rw [hRf]; decide, by rw [hRl]; decide⟩ hl.1 rfl (Nat.le_of_ble_eq_true rfl) dL_law_641 ⟨by rw [hRc]; omega, by rw [hRs]; omega⟩ (fun E ce q9 H1 locs hp hS hce hcv hcl => ?_) (fun v H1 locs hp hS => ?_)
                                                · exact (ex3_n hp.1 (rst_0 hw (by omega) (by omega) hed)).elim
                                                obtain ⟨hv_, ht_, hB⟩ := hp; subst hv_; generalize H1 = H at hB hS ⊢
                                                obtain ⟨g, pl, kn, rw, mi, un, hP⟩ := hB
                                                refine lv_l2d hx hb dL_law_644 ?_
                                                refine lv_aload_n hx hb dL_law_645 rfl (lv_at hl 6 rfl) ?_
                                                refine xt_v (w := .ref (ad (0, 0))) (congrArg Value.ref hq0.symm) ?_
                                                refine lv_iload hx hb dL_law_646 (lv_at hl 1 rfl) ?_
                                                refine lv_iload hx hb dL_law_648 (lv_at hl 2 rfl) ?_
                                                refine lv_iconst (v := nI 0) hx hb dL_law_650 (by decide) ?_
                                                refine lv_iconst (v := nI 0) hx hb dL_law_651 (by decide) ?_
                                                refine xx_callV (C := "NetlistBench") (n := 4) [.int (nI kd), .int (nI kc), .int (nI 0), .int (nI 0)] (c_X3_resistance l hls hP hz (nI kd) (nI kc) (nI 0) (nI 0)) hx hb hml hown hts hE hF hS (xw_recv hE hP (0, 0) rfl rfl) rfl rfl q_21 q_360 q_363 q_361 q_362 (by decide) rfl ⟨by rw [hRf]; decide, by rw [hRl]; decide⟩ hl.1 rfl (Nat.le_of_ble_eq_true rfl) dL_law_652 ⟨by rw [hRc]; omega, by rw [hRs]; omega⟩ (fun E ce q9 H1 locs hp hS hce hcv hcl => ?_) (fun v H1 locs hp hS => ?_)
                                                · exact (ex3_n hp.1 (rst_0 hw (by omega) (by omega) hed)).elim
                                                obtain ⟨hv_, ht_, hB⟩ := hp; subst hv_; generalize H1 = H at hB hS ⊢
                                                obtain ⟨g, pl, kn, rw, mi, un, hP⟩ := hB
                                                refine lv_l2d hx hb dL_law_655 ?_
                                                refine lv_ddiv hx hb dL_law_656 (f_num (fd_q _ p3)) ?_
                                                refine lv_dadd hx hb dL_law_657 (f_num (f_add (fd_q _ p2) (fd_q _ p3) (by decide) (by decide))) ?_
                                                refine lv_dstore (lv' := [(11, .double (FP.dadd (FP.ddiv (FP.l2d (rRst z (nI ka) (nI kd) (nI 0) (nI 1))) (FP.l2d (rRst z (nI ka) (nI kd) (nI 0) (nI 0)))) (FP.ddiv (FP.l2d (rRst z (nI kd) (nI kc) (nI 0) (nI 1))) (FP.l2d (rRst z (nI kd) (nI kc) (nI 0) (nI 0)))))), (9, .double (FP.ddiv (FP.l2d (rRst z (nI ka) (nI kc) (nI 0) (nI 1))) (FP.l2d (rRst z (nI ka) (nI kc) (nI 0) (nI 0))))), (8, .int (nI kd)), (7, .int (nI kc)), (6, .int (nI ka)), (3, .ref qh), (2, .int (nI n)), (1, .ref qb), (0, .ref b)]) hx hb dL_law_658 hl (by decide) rfl (fun ls hl => ?_)
                                                refine lv_dload hx hb dL_law_660 (lv_at hl 1 rfl) ?_
                                                refine lv_dload hx hb dL_law_662 (lv_at hl 0 rfl) ?_
                                                refine lv_ldc2d hx hb hown (hts _ q_606) dL_law_664 ?_
                                                refine lv_dadd hx hb dL_law_667 (f_num (f_add (f_add (fd_q _ p2) (fd_q _ p3) (by decide) (by decide)) fd_nano (by decide) (by decide))) ?_
                                                refine lv_dcmp hx hb dL_law_668 ?_
                                                refine lv_if_gt (tgt := 679) hx hb dL_law_669 (by decide) (fun c669 => ?_) (fun c669 => ?_)
                                                · skip
                                                  exact absurd c669 (by rw [ho1]; exact cv_ng ho2 _)
                                                · skip
                                                  refine lv_dload hx hb dL_law_672 (lv_at hl 1 rfl) ?_
                                                  refine lv_dconst0 hx hb dL_law_674 ?_
                                                  refine lv_dcmp hx hb dL_law_675 ?_
                                                  refine lv_if_ge (tgt := 681) hx hb dL_law_676 (by decide) (fun c676 => ?_) (fun c676 => ?_)
                                                  · skip
                                                    refine lv_iinc (v := nI (kd + 1)) (lv' := [(8, .int (nI (kd + 1))), (11, .double (FP.dadd (FP.ddiv (FP.l2d (rRst z (nI ka) (nI kd) (nI 0) (nI 1))) (FP.l2d (rRst z (nI ka) (nI kd) (nI 0) (nI 0)))) (FP.ddiv (FP.l2d (rRst z (nI kd) (nI kc) (nI 0) (nI 1))) (FP.l2d (rRst z (nI kd) (nI kc) (nI 0) (nI 0)))))), (9, .double (FP.ddiv (FP.l2d (rRst z (nI ka) (nI kc) (nI 0) (nI 1))) (FP.l2d (rRst z (nI ka) (nI kc) (nI 0) (nI 0))))), (7, .int (nI kc)), (6, .int (nI ka)), (3, .ref qh), (2, .int (nI n)), (1, .ref qb), (0, .ref b)]) hx hb dL_law_681 hl (k := 2) rfl (nI_1 _) (by decide) rfl (fun ls hl => ?_)
                                                    refine lv_goto (tgt := 553) hx hb dL_law_684 (by decide) ?_
                                                    refine W.widen (k := 1530 + 936 * ka + 156 * kc + 26 * (kd + 1)) (n := 12900 + 5760 * ka + 960 * kc + 160 * (kd + 1)) (by omega) (by omega) ?_
                                                    exact ih553 (kd + 1) g pl kn rw mi un (by omega) (by omega) _ _ _ hP hS (lv_sub hl [0, 3, 4, 5, 6, 7, 8] rfl)
                                                  · skip
                                                    exact absurd (Int32.not_lt.mp (by rw [ho3]; exact cv_nl ho4 _)) c676
                                              · skip
                                                have c580 := b_f c580
                                                refine lv_goto (tgt := 681) hx hb dL_law_583 (by decide) ?_
                                                refine lv_iinc (v := nI (kd + 1)) (lv' := [(8, .int (nI (kd + 1))), (7, .int (nI kc)), (6, .int (nI ka)), (3, .ref qh), (2, .int (nI n)), (1, .ref qb), (0, .ref b)]) hx hb dL_law_681 hl (k := 0) rfl (nI_1 _) (by decide) rfl (fun ls hl => ?_)
                                                refine lv_goto (tgt := 553) hx hb dL_law_684 (by decide) ?_
                                                refine W.widen (k := 1530 + 936 * ka + 156 * kc + 26 * (kd + 1)) (n := 12900 + 5760 * ka + 960 * kc + 160 * (kd + 1)) (by omega) (by omega) ?_
                                                exact ih553 (kd + 1) g pl kn rw mi un (by omega) (by omega) _ _ _ hP hS (lv_sub hl [0, 1, 2, 3, 4, 5, 6] rfl)
                                      refine W.widen (k := 1530 + 936 * ka + 156 * kc + 26 * 0) (n := 12900 + 5760 * ka + 960 * kc + 160 * 0) (by omega) (by omega) ?_
                                      exact K553 _ 0 g pl kn rw mi un (by omega) (Nat.lt_succ_self _) _ _ _ hP hS (lv_sub hl [0, 1, 2, 3, 4, 5, 6] rfl)
                                refine W.widen (k := 1530 + 936 * ka + 156 * 0) (n := 12900 + 5760 * ka + 960 * 0) (by omega) (by omega) ?_
                                exact K544 _ 0 g pl kn rw mi un (by omega) (Nat.lt_succ_self _) _ _ _ hP hS (lv_sub hl [0, 1, 2, 3, 4, 5] rfl)
                          refine W.widen (k := 1530 + 936 * 0) (n := 12900 + 5760 * 0) (by omega) (by omega) ?_
                          exact K535 _ 0 g pl kn rw mi un (by omega) (Nat.lt_succ_self _) _ _ _ hP hS (lv_sub hl [0, 3, 4, 5, 6] rfl)
                        · skip
                          have c463 := ni_nle (a := n) (b := k) (by omega) (by omega) c463
                          refine lv_iconst (v := nI 0) hx hb dL_law_466 (by decide) ?_
                          refine lv_istore (lv' := [(7, .int (nI 0)), (6, .int (nI k)), (5, .int ((leS z n).2)), (4, .int ((leS z n).1)), (3, .ref qh), (2, .int (nI n)), (1, .ref qb), (0, .ref b)]) hx hb dL_law_467 hl (by decide) rfl (fun ls hl => ?_)
                          have K469 : ∀ (nn : Nat), ∀ (j : Nat) (g pl : Nat → Int32) (kn : Nat → Int64) (rw : Nat → Nat → Int64) (mi : Nat → Int64) (un : Int32), (j ≤ 4) → 4 - j < nn → ∀ (H : Heap) (locs : List Loc) (ls : Array Slot), xW D A ad (wU (wB y ad bl z g pl kn rw mi un) (wH y ad n fr En fk fw) (wO y f3)) H → va_S A Hs H locs → lv_has ls 16 [(7, .int (nI (8 * j))), (6, .int (nI k)), (5, .int ((leS z n).2)), (4, .int ((leS z n).1)), (3, .ref qh), (2, .int (nI n)), (1, .ref qb), (0, .ref b)] → W p l e R s m args below meth c H locs (1330 + 32 * k + 8 * j) (11700 + 192 * k + 48 * j) Q (F0 m 469 ls []) := by
                            intro nn
                            induction nn with
                            | zero => intro j g pl kn rw mi un hj h; exact absurd h (Nat.not_lt_zero _)
                            | succ nn ih469 =>
                              intro j g pl kn rw mi un hj hn469 H locs ls hP hS hl
                              refine lv_iload hx hb dL_law_469 (lv_at hl 0 rfl) ?_
                              refine lv_bipush (v := nI 32) hx hb dL_law_471 (by decide) ?_
                              refine lv_icmp_ge (tgt := 526) hx hb dL_law_473 (by decide) (fun c473 => ?_) (fun c473 => ?_)
                              · skip
                                have c473 := ni_le (a := 32) (b := (8 * j)) (by omega) (by omega) c473
                                refine lv_iinc (v := nI (k + 1)) (lv' := [(6, .int (nI (k + 1))), (7, .int (nI (8 * j))), (5, .int ((leS z n).2)), (4, .int ((leS z n).1)), (3, .ref qh), (2, .int (nI n)), (1, .ref qb), (0, .ref b)]) hx hb dL_law_526 hl (k := 1) rfl (nI_1 _) (by decide) rfl (fun ls hl => ?_)
                                refine lv_goto (tgt := 460) hx hb dL_law_529 (by decide) ?_
                                refine W.widen (k := 1330 + 32 * (k + 1)) (n := 11700 + 192 * (k + 1)) (by omega) (by omega) ?_
                                exact ih460 (k + 1) g pl kn rw mi un (by omega) (by omega) _ _ _ hP hS (lv_sub hl [0, 2, 3, 4, 5, 6, 7] rfl)
                              · skip
                                have c473 := ni_nle (a := 32) (b := (8 * j)) (by omega) (by omega) c473
                                have hkn : k < nN z := by omega
                                refine lv_aload_n hx hb dL_law_476 rfl (lv_at hl 6 rfl) ?_
                                refine xt_v (w := .ref (ad (0, 0))) (congrArg Value.ref hq0.symm) ?_
                                refine lv_iload hx hb dL_law_477 (lv_at hl 1 rfl) ?_
                                refine lv_iload hx hb dL_law_479 (lv_at hl 0 rfl) ?_
                                refine xx_callV (C := "NetlistBench") (n := 2) [.int (nI k), .int (nI (8 * j))] (c_X3_floats l hls hP hz (nI k) (nI (8 * j))) hx hb hml hown hts hE hF hS (xw_recv hE hP (0, 0) rfl rfl) rfl rfl q_21 q_229 q_232 q_230 q_231 (by decide) rfl ⟨by rw [hRf]; decide, by rw [hRl]; decide⟩ hl.1 rfl (Nat.le_of_ble_eq_true rfl) dL_law_481 ⟨by rw [hRc]; omega, by rw [hRs]; omega⟩ (fun E ce q9 H1 locs hp hS hce hcv hcl => ?_) (fun v H1 locs hp hS => ?_)
                                · exact (ex3_n hp.1 (nd_0 hw hkn (by omega))).elim
                                obtain ⟨hv_, ht_, hB⟩ := hp; subst hv_; generalize H1 = H at hB hS ⊢
                                obtain ⟨g, pl, kn, rw, mi, un, hP⟩ := hB
                                refine xt_i (w := aflI z (gM z (nI (8 * j)) k)) (by rw [cl_nI (by omega)]) ?_
                                refine lv_if_eq (tgt := 490) hx hb dL_law_484 (by decide) (fun c484 => ?_) (fun c484 => ?_)
                                · skip
                                  refine lv_aload_n hx hb dL_law_490 rfl (lv_at hl 6 rfl) ?_
                                  refine xt_v (w := .ref (ad (0, 0))) (congrArg Value.ref hq0.symm) ?_
                                  refine lv_iload hx hb dL_law_491 (lv_at hl 1 rfl) ?_
                                  refine lv_iload hx hb dL_law_493 (lv_at hl 0 rfl) ?_
                                  refine lv_iload hx hb dL_law_495 (lv_at hl 3 rfl) ?_
                                  refine lv_iconst (v := nI 1) hx hb dL_law_497 (by decide) ?_
                                  refine xx_callV (C := "NetlistBench") (n := 4) [.int (nI k), .int (nI (8 * j)), .int ((leS z n).1), .int (nI 1)] (c_X3_compare l hls hP hz (nI k) (nI (8 * j)) (leS z n).1 (nI 1)) hx hb hml hown hts hE hF hS (xw_recv hE hP (0, 0) rfl rfl) rfl rfl q_21 q_403 q_406 q_404 q_405 (by decide) rfl ⟨by rw [hRf]; decide, by rw [hRl]; decide⟩ hl.1 rfl (Nat.le_of_ble_eq_true rfl) dL_law_498 ⟨by rw [hRc]; omega, by rw [hRs]; omega⟩ (fun E ce q9 H1 locs hp hS hce hcv hcl => ?_) (fun v H1 locs hp hS => ?_)
                                  · exact (ex3_n hp.1 (cmp_k0 hw hkn (by omega) h500.1 c484)).elim
                                  obtain ⟨hv_, ht_, hB⟩ := hp; subst hv_; generalize H1 = H at hB hS ⊢
                                  obtain ⟨g, pl, kn, rw, mi, un, hP⟩ := hB
                                  refine lv_if_lt (tgt := 518) hx hb dL_law_501 (by decide) (fun c501 => ?_) (fun c501 => ?_)
                                  · skip
                                    exact absurd c501 (by have h := (cmp_in hw (nI (8 * j)) hsz hkn c484).1; rw [show nN z = n by omega] at h; exact h)
                                  · skip
                                    refine lv_aload_n hx hb dL_law_504 rfl (lv_at hl 6 rfl) ?_
                                    refine xt_v (w := .ref (ad (0, 0))) (congrArg Value.ref hq0.symm) ?_
                                    refine lv_iload hx hb dL_law_505 (lv_at hl 1 rfl) ?_
                                    refine lv_iload hx hb dL_law_507 (lv_at hl 0 rfl) ?_
                                    refine lv_iload hx hb dL_law_509 (lv_at hl 2 rfl) ?_
                                    refine lv_iconst (v := nI 1) hx hb dL_law_511 (by decide) ?_
                                    refine xx_callV (C := "NetlistBench") (n := 4) [.int (nI k), .int (nI (8 * j)), .int ((leS z n).2), .int (nI 1)] (c_X3_compare l hls hP hz (nI k) (nI (8 * j)) (leS z n).2 (nI 1)) hx hb hml hown hts hE hF hS (xw_recv hE hP (0, 0) rfl rfl) rfl rfl q_21 q_403 q_406 q_404 q_405 (by decide) rfl ⟨by rw [hRf]; decide, by rw [hRl]; decide⟩ hl.1 rfl (Nat.le_of_ble_eq_true rfl) dL_law_512 ⟨by rw [hRc]; omega, by rw [hRs]; omega⟩ (fun E ce q9 H1 locs hp hS hce hcv hcl => ?_) (fun v H1 locs hp hS => ?_)
                                    · exact (ex3_n hp.1 (cmp_k0 hw hkn (by omega) h500.2 c484)).elim
                                    obtain ⟨hv_, ht_, hB⟩ := hp; subst hv_; generalize H1 = H at hB hS ⊢
                                    obtain ⟨g, pl, kn, rw, mi, un, hP⟩ := hB
                                    refine lv_if_le (tgt := 520) hx hb dL_law_515 (by decide) (fun c515 => ?_) (fun c515 => ?_)
                                    · skip
                                      refine lv_iinc (v := nI (8 * j + 8)) (lv' := [(7, .int (nI (8 * j + 8))), (6, .int (nI k)), (5, .int ((leS z n).2)), (4, .int ((leS z n).1)), (3, .ref qh), (2, .int (nI n)), (1, .ref qb), (0, .ref b)]) hx hb dL_law_520 hl (k := 0) rfl (nI_add _ 8) (by decide) rfl (fun ls hl => ?_)
                                      refine lv_goto (tgt := 469) hx hb dL_law_523 (by decide) ?_
                                      refine W.widen (k := 1330 + 32 * k + 8 * (j + 1)) (n := 11700 + 192 * k + 48 * (j + 1)) (by omega) (by omega) ?_
                                      exact ih469 (j + 1) g pl kn rw mi un (by omega) (by omega) _ _ _ hP hS (lv_sub hl [0, 1, 2, 3, 4, 5, 6, 7] rfl)
                                    · skip
                                      exact absurd (Int32.not_lt.mp (by have h := (cmp_in hw (nI (8 * j)) hsz hkn c484).2; rw [show nN z = n by omega] at h; exact h)) c515
                                · skip
                                  refine lv_goto (tgt := 520) hx hb dL_law_487 (by decide) ?_
                                  refine lv_iinc (v := nI (8 * j + 8)) (lv' := [(7, .int (nI (8 * j + 8))), (6, .int (nI k)), (5, .int ((leS z n).2)), (4, .int ((leS z n).1)), (3, .ref qh), (2, .int (nI n)), (1, .ref qb), (0, .ref b)]) hx hb dL_law_520 hl (k := 0) rfl (nI_add _ 8) (by decide) rfl (fun ls hl => ?_)
                                  refine lv_goto (tgt := 469) hx hb dL_law_523 (by decide) ?_
                                  refine W.widen (k := 1330 + 32 * k + 8 * (j + 1)) (n := 11700 + 192 * k + 48 * (j + 1)) (by omega) (by omega) ?_
                                  exact ih469 (j + 1) g pl kn rw mi un (by omega) (by omega) _ _ _ hP hS (lv_sub hl [0, 1, 2, 3, 4, 5, 6, 7] rfl)
                          refine W.widen (k := 1330 + 32 * k + 8 * 0) (n := 11700 + 192 * k + 48 * 0) (by omega) (by omega) ?_
                          exact K469 _ 0 g pl kn rw mi un (by omega) (Nat.lt_succ_self _) _ _ _ hP hS (lv_sub hl [0, 1, 2, 3, 4, 5, 6, 7] rfl)
                    refine W.widen (k := 1330 + 32 * 0) (n := 11700 + 192 * 0) (by omega) (by omega) ?_
                    exact K460 _ 0 g pl kn rw mi un (by omega) (Nat.lt_succ_self _) _ _ _ hP hS (lv_sub hl [0, 1, 2, 3, 4, 5, 6] rfl)
                  · skip
                    have c405 := ni_nle (a := n) (b := k) (by omega) (by omega) c405
                    have hkn : k < nN z := by omega
                    refine lv_aload_n hx hb dL_law_408 rfl (lv_at hl 3 rfl) ?_
                    refine xt_v (w := .ref (ad (20, 0))) (congrArg Value.ref hqh.symm) ?_
                    refine xw_get hx hb hts hown hE hP iw_X4 (20, 0) (fs := [.ref (ad (21, 0)), .ref (ad (22, 0))]) rfl rfl 0 (by decide) q_452 (fun x h => h) rfl dL_law_409 ?_
                    refine lv_iload hx hb dL_law_412 (lv_at hl 0 rfl) ?_
                    refine xw_iald hx hb hE hP (21, 0) (n := n) (f := fr) rfl (i := k) (by omega) (by omega) dL_law_414 ?_
                    refine lv_bipush (v := nI 100) hx hb dL_law_415 (by decide) ?_
                    refine lv_icmp_ne (tgt := 423) hx hb dL_law_417 (by decide) (fun c417 => ?_) (fun c417 => ?_)
                    · skip
                      have c417 : ¬ nR z k = 0 := fun g => c417 ((hr1 k (by omega)).mpr g)
                      refine lv_iload hx hb dL_law_423 (lv_at hl 2 rfl) ?_
                      refine lv_aload_n hx hb dL_law_425 rfl (lv_at hl 3 rfl) ?_
                      refine xt_v (w := .ref (ad (20, 0))) (congrArg Value.ref hqh.symm) ?_
                      refine xw_get hx hb hts hown hE hP iw_X4 (20, 0) (fs := [.ref (ad (21, 0)), .ref (ad (22, 0))]) rfl rfl 0 (by decide) q_452 (fun x h => h) rfl dL_law_426 ?_
                      refine lv_iload hx hb dL_law_429 (lv_at hl 0 rfl) ?_
                      refine xw_iald hx hb hE hP (21, 0) (n := n) (f := fr) rfl (i := k) (by omega) (by omega) dL_law_431 ?_
                      refine va_mmin hx hb (by rw [hml]; exact hl.1.symm) hown (hts _ q_605) (hts _ q_528) (hts _ q_33) (hts _ q_529) (by rw [hRf]; decide) (by rw [hRl]; decide) (by rw [hRc]; omega) (by rw [hRs]; omega) dL_law_432 ?_
                      refine xt_i (w := (leS z (k + 1)).1) (by rw [leS_1 c417, hr2 k (by omega) c417]) ?_
                      refine lv_istore (lv' := [(4, .int ((leS z (k + 1)).1)), (6, .int (nI k)), (5, .int ((leS z k).2)), (3, .ref qh), (2, .int (nI n)), (1, .ref qb), (0, .ref b)]) hx hb dL_law_435 hl (by decide) rfl (fun ls hl => ?_)
                      refine lv_iload hx hb dL_law_437 (lv_at hl 2 rfl) ?_
                      refine lv_aload_n hx hb dL_law_439 rfl (lv_at hl 3 rfl) ?_
                      refine xt_v (w := .ref (ad (20, 0))) (congrArg Value.ref hqh.symm) ?_
                      refine xw_get hx hb hts hown hE hP iw_X4 (20, 0) (fs := [.ref (ad (21, 0)), .ref (ad (22, 0))]) rfl rfl 0 (by decide) q_452 (fun x h => h) rfl dL_law_440 ?_
                      refine lv_iload hx hb dL_law_443 (lv_at hl 1 rfl) ?_
                      refine xw_iald hx hb hE hP (21, 0) (n := n) (f := fr) rfl (i := k) (by omega) (by omega) dL_law_445 ?_
                      refine va_mmax hx hb (by rw [hml]; exact hl.1.symm) hown (hts _ q_604) (hts _ q_499) (hts _ q_33) (hts _ q_500) (by rw [hRf]; decide) (by rw [hRl]; decide) (by rw [hRc]; omega) (by rw [hRs]; omega) dL_law_446 ?_
                      refine xt_i (w := (leS z (k + 1)).2) (by rw [leS_1 c417, hr2 k (by omega) c417]) ?_
                      refine lv_istore (lv' := [(5, .int ((leS z (k + 1)).2)), (4, .int ((leS z (k + 1)).1)), (6, .int (nI k)), (3, .ref qh), (2, .int (nI n)), (1, .ref qb), (0, .ref b)]) hx hb dL_law_449 hl (by decide) rfl (fun ls hl => ?_)
                      refine lv_iinc (v := nI (k + 1)) (lv' := [(6, .int (nI (k + 1))), (5, .int ((leS z (k + 1)).2)), (4, .int ((leS z (k + 1)).1)), (3, .ref qh), (2, .int (nI n)), (1, .ref qb), (0, .ref b)]) hx hb dL_law_451 hl (k := 2) rfl (nI_1 _) (by decide) rfl (fun ls hl => ?_)
                      refine lv_goto (tgt := 402) hx hb dL_law_454 (by decide) ?_
                      refine W.widen (k := 1330) (n := 11700) (by omega) (by omega) ?_
                      exact ih402 (k + 1) (by omega) (by omega) _ _ hS (lv_sub hl [0, 1, 2, 3, 4, 5, 6] rfl)
                    · skip
                      have c417 := (hr1 k (by omega)).mp c417
                      rw [show leS z k = leS z (k + 1) from (leS_0 c417).symm] at hl
                      refine lv_goto (tgt := 451) hx hb dL_law_420 (by decide) ?_
                      refine lv_iinc (v := nI (k + 1)) (lv' := [(6, .int (nI (k + 1))), (5, .int ((leS z (k + 1)).2)), (4, .int ((leS z (k + 1)).1)), (3, .ref qh), (2, .int (nI n)), (1, .ref qb), (0, .ref b)]) hx hb dL_law_451 hl (k := 0) rfl (nI_1 _) (by decide) rfl (fun ls hl => ?_)
                      refine lv_goto (tgt := 402) hx hb dL_law_454 (by decide) ?_
                      refine W.widen (k := 1330) (n := 11700) (by omega) (by omega) ?_
                      exact ih402 (k + 1) (by omega) (by omega) _ _ hS (lv_sub hl [0, 1, 2, 3, 4, 5, 6] rfl)
              refine W.widen (k := 1330) (n := 11700) (by omega) (by omega) ?_
              exact K402 _ 0 (by omega) (Nat.lt_succ_self _) _ _ hS (lv_sub hl [0, 1, 2, 3, 4, 5, 6] rfl)
            · skip
              have c361 := ni_nle (a := En) (b := k) (by omega) (by omega) c361
              have hw := hz.w
              have hNn := hR.1
              have hEn := hR.2.1
              obtain ⟨r0, -⟩ := hR.2.2.2 k (by omega)
              have rk : 5 ≤ fk k := by obtain ⟨-, -, -, -, rk, -⟩ := hR.2.2.2 k (by omega); omega
              have t6 : fk k ≤ 11 := by obtain ⟨-, -, -, -, rk, -⟩ := hR.2.2.2 k (by omega); have := hw.t6 (i := k) (by omega); omega
              refine lv_aload_n hx hb dL_law_364 rfl (lv_at hl 1 rfl) ?_
              refine xt_v (w := .ref (ad (20, 0))) (congrArg Value.ref hqh.symm) ?_
              refine xw_get hx hb hts hown hE hP iw_X4 (20, 0) (fs := [.ref (ad (21, 0)), .ref (ad (22, 0))]) rfl rfl 1 (by decide) q_454 (fun x h => h) rfl dL_law_365 ?_
              refine lv_iload hx hb dL_law_368 (lv_at hl 0 rfl) ?_
              refine xw_aald3 hx hb hE hP (22, 0) (n := En) (f := fun i => if i < En then some (ad (23, i)) else none) rfl (i := k) (v := ad (23, k)) (if_pos (by omega)) (by omega) (by omega) dL_law_370 ?_
              refine lv_iconst (v := nI 0) hx hb dL_law_371 (by decide) ?_
              refine xw_iald hx hb hE hP (23, k) (n := fk k) (f := fw k) (if_pos (show k < En by omega)) (i := 0) (by omega) (by omega) dL_law_372 ?_
              refine xt_i (w := eS z k) (r0) ?_
              refine lv_iconst (v := nI 1) hx hb dL_law_373 (by decide) ?_
              refine lv_icmp_ne (tgt := 385) hx hb dL_law_374 (by decide) (fun c374 => ?_) (fun c374 => ?_)
              · skip
                refine lv_iinc (v := nI (k + 1)) (lv' := [(4, .int (nI (k + 1))), (3, .ref qh), (2, .int (nI n)), (1, .ref qb), (0, .ref b)]) hx hb dL_law_385 hl (k := 0) rfl (nI_1 _) (by decide) rfl (fun ls hl => ?_)
                refine lv_goto (tgt := 354) hx hb dL_law_388 (by decide) ?_
                refine W.widen (k := 1300 + 2 * (k + 1)) (n := 11500 + 12 * (k + 1)) (by omega) (by omega) ?_
                exact ih354 (k + 1) z g pl kn rw mi un (by omega) (by first | exact hz2 | exact hz) (by first | exact hR2 | exact hR) hr1 hr2 (by first | exact hs2 | exact (fun j hj hs => by
                    by_cases e : j = k
                    · rw [e] at hs; exact absurd ((hw.s (by omega)).resolve_right (fun g => c374 g)) hs
                    · exact hs0 j (by omega) hs)) (by omega) _ _ _ hP hS (lv_sub hl [0, 1, 2, 3, 4] rfl)
              · skip
                refine lv_aload_n hx hb dL_law_377 rfl (lv_at hl 3 rfl) ?_
                refine xt_v (w := .ref (ad (0, 0))) (congrArg Value.ref hq0.symm) ?_
                refine lv_iload hx hb dL_law_378 (lv_at hl 0 rfl) ?_
                refine lv_iconst (v := nI 0) hx hb dL_law_380 (by decide) ?_
                refine xx_callV (C := "NetlistBench") (n := 2) [.int (nI k), .int (nI 0)] (c_X3_resize l hls hP hz (nI k) (nI 0)) hx hb hml hown hts hE hF hS (xw_recv hE hP (0, 0) rfl rfl) rfl rfl q_21 q_115 q_118 q_116 q_117 (by decide) rfl ⟨by rw [hRf]; decide, by rw [hRl]; decide⟩ hl.1 rfl (Nat.le_of_ble_eq_true rfl) dL_law_381 ⟨by rw [hRc]; omega, by rw [hRs]; omega⟩ (fun E ce q9 H1 locs hp hS hce hcv hcl => ?_) (fun v H1 locs hp hS => ?_)
                · exact (ex3_n hp.1 (res_0 hw (by omega) c374)).elim
                obtain ⟨hv_, ht_, hB⟩ := hp; subst hv_; generalize H1 = H at hB hS ⊢
                obtain ⟨g, pl, kn, rw, mi, un, hP⟩ := hB
                rw [cl_nI (j := k) (by omega)] at hP
                have hz2 : bOk bl (s_eZ z (upd (eZ z) k (nI 0))) := ⟨by have h := wf_eZ hw (res_0 hw (k := k) (by omega) c374); rw [cl_nI (by omega)] at h; exact h, hz.2⟩
                have hR2 := Rh_eZ hR (upd (eZ z) k (nI 0))
                have hs2 : ∀ j, j < k + 1 → ¬ eS (s_eZ z (upd (eZ z) k (nI 0))) j = 0 → (eZ (s_eZ z (upd (eZ z) k (nI 0))) j).toInt = 0 := fun j hj hs => by
                  by_cases e : j = k
                  · subst e; exact tI_0 (show upd (eZ z) j (nI 0) j = nI 0 from pk_us)
                  · show (upd (eZ z) k (nI 0) j).toInt = 0; rw [pk_un e]; exact hs0 j (by omega) hs
                refine lv_pop hx hb dL_law_384 rfl ?_
                refine lv_iinc (v := nI (k + 1)) (lv' := [(4, .int (nI (k + 1))), (3, .ref qh), (2, .int (nI n)), (1, .ref qb), (0, .ref b)]) hx hb dL_law_385 hl (k := 0) rfl (nI_1 _) (by decide) rfl (fun ls hl => ?_)
                refine lv_goto (tgt := 354) hx hb dL_law_388 (by decide) ?_
                refine W.widen (k := 1300 + 2 * (k + 1)) (n := 11500 + 12 * (k + 1)) (by omega) (by omega) ?_
                exact ih354 (k + 1) (s_eZ z (upd (eZ z) k (nI 0))) g pl kn rw mi un (by omega) (by first | exact hz2 | exact hz) (by first | exact hR2 | exact hR) hr1 hr2 (by first | exact hs2 | exact (fun j hj hs => by
                    by_cases e : j = k
                    · rw [e] at hs; exact absurd ((hw.s (by omega)).resolve_right (fun g => c374 g)) hs
                    · exact hs0 j (by omega) hs)) (by omega) _ _ _ hP hS (lv_sub hl [0, 1, 2, 3, 4] rfl)
        refine W.widen (k := 1300 + 2 * 0) (n := 11500 + 12 * 0) (by omega) (by omega) ?_
        exact K354 _ 0 z g pl kn rw mi un (Nat.zero_le _) hz hR (fun j hj => hBq.r100 hw hj) (fun j hj hr => hBq.rP hj hr) (fun j hj => absurd hj (Nat.not_lt_zero _)) (Nat.lt_succ_self _) _ _ _ hP hS (lv_sub hl [0, 3, 4, 5, 6] rfl)
      · skip
        have c66 := ni_nle (a := 3) (b := i) (by omega) (by omega) c66
        obtain ⟨τ, hτ, eτ⟩ := hf3 i (by omega)
        refine lv_aload hx hb dL_law_69 (lv_at hl 2 rfl) ?_
        refine xt_v (w := .ref (ad (40, 0))) (congrArg Value.ref h40.symm) ?_
        refine lv_iload hx hb dL_law_71 (lv_at hl 0 rfl) ?_
        refine xw_iald hx hb hE hP (40, 0) (n := 3) (f := f3) rfl (i := i) (by omega) (by decide) dL_law_73 ?_
        refine xt_i (w := nI τ) (eτ) ?_
        refine lv_istore (lv' := [(7, .int (nI τ)), (6, .int (nI i)), (5, .int (nI 3)), (4, .ref q40), (3, .ref qh), (2, .int (nI n)), (1, .ref qb), (0, .ref b)]) hx hb dL_law_74 hl (by decide) rfl (fun ls hl => ?_)
        refine lv_lconst (v := 0) hx hb dL_law_76 (by decide) ?_
        refine lv_lstore (lv' := [(8, .long 0), (7, .int (nI τ)), (6, .int (nI i)), (5, .int (nI 3)), (4, .ref q40), (3, .ref qh), (2, .int (nI n)), (1, .ref qb), (0, .ref b)]) hx hb dL_law_77 hl (by decide) rfl (fun ls hl => ?_)
        refine lv_lconst (v := 1) hx hb dL_law_79 (by decide) ?_
        refine lv_lstore (lv' := [(10, .long 1), (8, .long 0), (7, .int (nI τ)), (6, .int (nI i)), (5, .int (nI 3)), (4, .ref q40), (3, .ref qh), (2, .int (nI n)), (1, .ref qb), (0, .ref b)]) hx hb dL_law_80 hl (by decide) rfl (fun ls hl => ?_)
        refine lv_iconst (v := nI 0) hx hb dL_law_82 (by decide) ?_
        refine lv_istore (lv' := [(12, .int (nI 0)), (10, .long 1), (8, .long 0), (7, .int (nI τ)), (6, .int (nI i)), (5, .int (nI 3)), (4, .ref q40), (3, .ref qh), (2, .int (nI n)), (1, .ref qb), (0, .ref b)]) hx hb dL_law_83 hl (by decide) rfl (fun ls hl => ?_)
        refine lv_iconst (v := nI 0) hx hb dL_law_85 (by decide) ?_
        refine lv_istore (lv' := [(13, .int (nI 0)), (12, .int (nI 0)), (10, .long 1), (8, .long 0), (7, .int (nI τ)), (6, .int (nI i)), (5, .int (nI 3)), (4, .ref q40), (3, .ref qh), (2, .int (nI n)), (1, .ref qb), (0, .ref b)]) hx hb dL_law_86 hl (by decide) rfl (fun ls hl => ?_)
        have K88 : ∀ (nn : Nat), ∀ (k : Nat) (g pl : Nat → Int32) (kn : Nat → Int64) (rw : Nat → Nat → Int64) (mi : Nat → Int64) (un : Int32), (k ≤ n) → n - k < nn → ∀ (H : Heap) (locs : List Loc) (ls : Array Slot), xW D A ad (wU (wB y ad bl z g pl kn rw mi un) (wH y ad n fr En fk fw) (wO y f3)) H → va_S A Hs H locs → lv_has ls 16 [(13, .int (nI k)), (12, .int (nI 0)), (10, .long ((lsS z (nI τ) k).2)), (8, .long ((lsS z (nI τ) k).1)), (7, .int (nI τ)), (6, .int (nI i)), (5, .int (nI 3)), (4, .ref q40), (3, .ref qh), (2, .int (nI n)), (1, .ref qb), (0, .ref b)] → W p l e R s m args below meth c H locs (300 + 324 * i + 6 * k) (4200 + 2424 * i + 36 * k) Q (F0 m 88 ls []) := by
          intro nn
          induction nn with
          | zero => intro k g pl kn rw mi un hk h; exact absurd h (Nat.not_lt_zero _)
          | succ nn ih88 =>
            intro k g pl kn rw mi un hk hn88 H locs ls hP hS hl
            refine lv_iload hx hb dL_law_88 (lv_at hl 0 rfl) ?_
            refine lv_iload_n hx hb dL_law_90 rfl (lv_at hl 9 rfl) ?_
            refine lv_icmp_ge (tgt := 162) hx hb dL_law_91 (by decide) (fun c91 => ?_) (fun c91 => ?_)
            · skip
              have c91 := ni_le (a := n) (b := k) (by omega) (by omega) c91
              have ek : k = n := by omega
              rw [ek] at hl
              refine lv_iconst (v := nI 0) hx hb dL_law_162 (by decide) ?_
              refine lv_istore (lv' := [(13, .int (nI 0)), (12, .int (nI 0)), (10, .long ((lsS z (nI τ) n).2)), (8, .long ((lsS z (nI τ) n).1)), (7, .int (nI τ)), (6, .int (nI i)), (5, .int (nI 3)), (4, .ref q40), (3, .ref qh), (2, .int (nI n)), (1, .ref qb), (0, .ref b)]) hx hb dL_law_163 hl (by decide) rfl (fun ls hl => ?_)
              have K165 : ∀ (nn : Nat), ∀ (k : Nat) (g pl : Nat → Int32) (kn : Nat → Int64) (rw : Nat → Nat → Int64) (mi : Nat → Int64) (un : Int32), (k ≤ En) → En - k < nn → ∀ (H : Heap) (locs : List Loc) (ls : Array Slot), xW D A ad (wU (wB y ad bl z g pl kn rw mi un) (wH y ad n fr En fk fw) (wO y f3)) H → va_S A Hs H locs → lv_has ls 16 [(13, .int (nI k)), (12, .int (loS z (nI τ) k)), (10, .long ((lsS z (nI τ) n).2)), (8, .long ((lsS z (nI τ) n).1)), (7, .int (nI τ)), (6, .int (nI i)), (5, .int (nI 3)), (4, .ref q40), (3, .ref qh), (2, .int (nI n)), (1, .ref qb), (0, .ref b)] → W p l e R s m args below meth c H locs (300 + 324 * i + 36 + 16 * k) (4200 + 2424 * i + 216 + 128 * k) Q (F0 m 165 ls []) := by
                intro nn
                induction nn with
                | zero => intro k g pl kn rw mi un hk h; exact absurd h (Nat.not_lt_zero _)
                | succ nn ih165 =>
                  intro k g pl kn rw mi un hk hn165 H locs ls hP hS hl
                  refine lv_iload hx hb dL_law_165 (lv_at hl 0 rfl) ?_
                  refine lv_aload_n hx hb dL_law_167 rfl (lv_at hl 8 rfl) ?_
                  refine xt_v (w := .ref (ad (20, 0))) (congrArg Value.ref hqh.symm) ?_
                  refine xw_get hx hb hts hown hE hP iw_X4 (20, 0) (fs := [.ref (ad (21, 0)), .ref (ad (22, 0))]) rfl rfl 1 (by decide) q_454 (fun x h => h) rfl dL_law_168 ?_
                  refine xw_3alen hx hb hE hP (22, 0) (n := En) rfl dL_law_171 ?_
                  refine lv_icmp_ge (tgt := 263) hx hb dL_law_172 (by decide) (fun c172 => ?_) (fun c172 => ?_)
                  · skip
                    have c172 := ni_le (a := En) (b := k) (by omega) (by omega) c172
                    have ek : k = En := by omega
                    rw [ek] at hl
                    refine lv_lload hx hb dL_law_263 (lv_at hl 3 rfl) ?_
                    refine lv_iload hx hb dL_law_265 (lv_at hl 1 rfl) ?_
                    refine lv_i2l (v := (loS z (nI τ) En).toInt64) hx hb dL_law_267 rfl ?_
                    refine lv_lload hx hb dL_law_268 (lv_at hl 2 rfl) ?_
                    refine lv_lmul hx hb dL_law_270 ?_
                    refine lv_ladd hx hb dL_law_271 ?_
                    refine lv_lconst (v := 0) hx hb dL_law_272 (by decide) ?_
                    refine W.lcmp hx hb dL_law_273 ?_
                    refine lv_if_eq (tgt := 279) hx hb dL_law_274 (by decide) (fun c274 => ?_) (fun c274 => ?_)
                    · skip
                      have c274 := (lg_cmp_eq _ _).mp c274
                      refine lv_iconst (v := nI 0) hx hb dL_law_279 (by decide) ?_
                      refine lv_istore (lv' := [(13, .int (nI 0)), (12, .int (loS z (nI τ) En)), (10, .long ((lsS z (nI τ) n).2)), (8, .long ((lsS z (nI τ) n).1)), (7, .int (nI τ)), (6, .int (nI i)), (5, .int (nI 3)), (4, .ref q40), (3, .ref qh), (2, .int (nI n)), (1, .ref qb), (0, .ref b)]) hx hb dL_law_280 hl (by decide) rfl (fun ls hl => ?_)
                      have K282 : ∀ (nn : Nat), ∀ (k : Nat) (g pl : Nat → Int32) (kn : Nat → Int64) (rw : Nat → Nat → Int64) (mi : Nat → Int64) (un : Int32), (k ≤ n) → n - k < nn → ∀ (H : Heap) (locs : List Loc) (ls : Array Slot), xW D A ad (wU (wB y ad bl z g pl kn rw mi un) (wH y ad n fr En fk fw) (wO y f3)) H → va_S A Hs H locs → lv_has ls 16 [(13, .int (nI k)), (7, .int (nI τ)), (6, .int (nI i)), (5, .int (nI 3)), (4, .ref q40), (3, .ref qh), (2, .int (nI n)), (1, .ref qb), (0, .ref b)] → W p l e R s m args below meth c H locs (300 + 324 * i + 228 + 16 * k) (4200 + 2424 * i + 1752 + 112 * k) Q (F0 m 282 ls []) := by
                        intro nn
                        induction nn with
                        | zero => intro k g pl kn rw mi un hk h; exact absurd h (Nat.not_lt_zero _)
                        | succ nn ih282 =>
                          intro k g pl kn rw mi un hk hn282 H locs ls hP hS hl
                          refine lv_iload hx hb dL_law_282 (lv_at hl 0 rfl) ?_
                          refine lv_iload_n hx hb dL_law_284 rfl (lv_at hl 6 rfl) ?_
                          refine lv_icmp_ge (tgt := 345) hx hb dL_law_285 (by decide) (fun c285 => ?_) (fun c285 => ?_)
                          · skip
                            have c285 := ni_le (a := n) (b := k) (by omega) (by omega) c285
                            refine lv_iinc (v := nI (i + 1)) (lv' := [(6, .int (nI (i + 1))), (13, .int (nI k)), (7, .int (nI τ)), (5, .int (nI 3)), (4, .ref q40), (3, .ref qh), (2, .int (nI n)), (1, .ref qb), (0, .ref b)]) hx hb dL_law_345 hl (k := 2) rfl (nI_1 _) (by decide) rfl (fun ls hl => ?_)
                            refine lv_goto (tgt := 62) hx hb dL_law_348 (by decide) ?_
                            refine W.widen (k := 300 + 324 * (i + 1)) (n := 4200 + 2424 * (i + 1)) (by omega) (by omega) ?_
                            exact ih62 (i + 1) g pl kn rw mi un (by omega) (by omega) _ _ _ hP hS (lv_sub hl [0, 3, 4, 5, 6, 7, 8] rfl)
                          · skip
                            have c285 := ni_nle (a := n) (b := k) (by omega) (by omega) c285
                            have hkn : k < nN z := by omega
                            refine lv_aload_n hx hb dL_law_288 rfl (lv_at hl 7 rfl) ?_
                            refine xt_v (w := .ref (ad (0, 0))) (congrArg Value.ref hq0.symm) ?_
                            refine lv_iload hx hb dL_law_289 (lv_at hl 0 rfl) ?_
                            refine lv_iload hx hb dL_law_291 (lv_at hl 1 rfl) ?_
                            refine xx_callV (C := "NetlistBench") (n := 2) [.int (nI k), .int (nI τ)] (c_X3_floats l hls hP hz (nI k) (nI τ)) hx hb hml hown hts hE hF hS (xw_recv hE hP (0, 0) rfl rfl) rfl rfl q_21 q_229 q_232 q_230 q_231 (by decide) rfl ⟨by rw [hRf]; decide, by rw [hRl]; decide⟩ hl.1 rfl (Nat.le_of_ble_eq_true rfl) dL_law_293 ⟨by rw [hRc]; omega, by rw [hRs]; omega⟩ (fun E ce q9 H1 locs hp hS hce hcv hcl => ?_) (fun v H1 locs hp hS => ?_)
                            · exact (ex3_n hp.1 (nd_0 hw hkn hτ)).elim
                            obtain ⟨hv_, ht_, hB⟩ := hp; subst hv_; generalize H1 = H at hB hS ⊢
                            obtain ⟨g, pl, kn, rw, mi, un, hP⟩ := hB
                            refine xt_i (w := aflI z (gM z (nI τ) k)) (by rw [cl_nI (by omega)]) ?_
                            refine lv_aload_n hx hb dL_law_296 rfl (lv_at hl 7 rfl) ?_
                            refine xt_v (w := .ref (ad (0, 0))) (congrArg Value.ref hq0.symm) ?_
                            refine lv_iload hx hb dL_law_297 (lv_at hl 0 rfl) ?_
                            refine lv_iload hx hb dL_law_299 (lv_at hl 1 rfl) ?_
                            refine lv_iload hx hb dL_law_301 (lv_at hl 1 rfl) ?_
                            refine lv_iconst (v := nI 1) hx hb dL_law_303 (by decide) ?_
                            refine xx_callV (C := "NetlistBench") (n := 4) [.int (nI k), .int (nI τ), .int (nI τ), .int (nI 1)] (c_X3_probe l hls hP hz (nI k) (nI τ) (nI τ) (nI 1)) hx hb hml hown hts hE hF hS (xw_recv hE hP (0, 0) rfl rfl) rfl rfl q_21 q_377 q_380 q_378 q_379 (by decide) rfl ⟨by rw [hRf]; decide, by rw [hRl]; decide⟩ hl.1 rfl (Nat.le_of_ble_eq_true rfl) dL_law_304 ⟨by rw [hRc]; omega, by rw [hRs]; omega⟩ (fun E ce q9 H1 locs hp hS hce hcv hcl => ?_) (fun v H1 locs hp hS => ?_)
                            · exact (ex3_n hp.1 (prb_0 hw hkn hτ)).elim
                            obtain ⟨hv_, ht_, hB⟩ := hp; subst hv_; generalize H1 = H at hB hS ⊢
                            obtain ⟨g, pl, kn, rw, mi, un, hP⟩ := hB
                            refine xt_i (w := if aflI z (gM z (nI τ) k) = 0 then nI τ else -1) (prb_1 hw hkn hτ) ?_
                            refine lv_if_ge (tgt := 314) hx hb dL_law_307 (by decide) (fun c307 => ?_) (fun c307 => ?_)
                            · skip
                              have hFl : aflI z (gM z (nI τ) k) = 0 := Classical.byContradiction (fun g => by rw [if_neg g] at c307; exact absurd c307 (by decide))
                              refine lv_iconst (v := nI 0) hx hb dL_law_314 (by decide) ?_
                              refine lv_icmp_ne (tgt := 337) hx hb dL_law_315 (by decide) (fun c315 => ?_) (fun c315 => ?_)
                              · skip
                                exact absurd hFl c315
                              · skip
                                refine lv_aload_n hx hb dL_law_318 rfl (lv_at hl 7 rfl) ?_
                                refine xt_v (w := .ref (ad (0, 0))) (congrArg Value.ref hq0.symm) ?_
                                refine lv_iload hx hb dL_law_319 (lv_at hl 0 rfl) ?_
                                refine lv_iload hx hb dL_law_321 (lv_at hl 1 rfl) ?_
                                refine xx_callV (C := "NetlistBench") (n := 2) [.int (nI k), .int (nI τ)] (c_X3_floats l hls hP hz (nI k) (nI τ)) hx hb hml hown hts hE hF hS (xw_recv hE hP (0, 0) rfl rfl) rfl rfl q_21 q_229 q_232 q_230 q_231 (by decide) rfl ⟨by rw [hRf]; decide, by rw [hRl]; decide⟩ hl.1 rfl (Nat.le_of_ble_eq_true rfl) dL_law_323 ⟨by rw [hRc]; omega, by rw [hRs]; omega⟩ (fun E ce q9 H1 locs hp hS hce hcv hcl => ?_) (fun v H1 locs hp hS => ?_)
                                · exact (ex3_n hp.1 (nd_0 hw hkn hτ)).elim
                                obtain ⟨hv_, ht_, hB⟩ := hp; subst hv_; generalize H1 = H at hB hS ⊢
                                obtain ⟨g, pl, kn, rw, mi, un, hP⟩ := hB
                                refine xt_i (w := aflI z (gM z (nI τ) k)) (by rw [cl_nI (by omega)]) ?_
                                refine lv_aload_n hx hb dL_law_326 rfl (lv_at hl 5 rfl) ?_
                                refine xt_v (w := .ref (ad (20, 0))) (congrArg Value.ref hqh.symm) ?_
                                refine lv_iload hx hb dL_law_327 (lv_at hl 0 rfl) ?_
                                refine lv_iload hx hb dL_law_329 (lv_at hl 1 rfl) ?_
                                refine xw_callV (C := "NetlistBenchLaw$Hand") (n := 2) [.int (nI k), .int (nI τ)] (c_X4_floats l hP hd_wH rfl hR hw (a := k) (by omega) hτ) hx hb hml hown hts hE hS (xw_recv hE hP (20, 0) rfl rfl) rfl rfl q_26 q_427 q_430 q_428 q_429 (by decide) rfl ⟨by rw [hRf]; decide, by rw [hRl]; decide⟩ hl.1 rfl (Nat.le_of_ble_eq_true rfl) dL_law_331 ⟨by rw [hRc]; omega, by rw [hRs]; omega⟩ (fun v H1 locs hp hS => ?_)
                                obtain ⟨hv_, hP⟩ := hp; subst hv_; generalize H1 = H at hP hS ⊢
                                refine lv_icmp_eq (tgt := 339) hx hb dL_law_334 (by decide) (fun c334 => ?_) (fun c334 => ?_)
                                · skip
                                  refine lv_iinc (v := nI (k + 1)) (lv' := [(13, .int (nI (k + 1))), (7, .int (nI τ)), (6, .int (nI i)), (5, .int (nI 3)), (4, .ref q40), (3, .ref qh), (2, .int (nI n)), (1, .ref qb), (0, .ref b)]) hx hb dL_law_339 hl (k := 0) rfl (nI_1 _) (by decide) rfl (fun ls hl => ?_)
                                  refine lv_goto (tgt := 282) hx hb dL_law_342 (by decide) ?_
                                  refine W.widen (k := 300 + 324 * i + 228 + 16 * (k + 1)) (n := 4200 + 2424 * i + 1752 + 112 * (k + 1)) (by omega) (by omega) ?_
                                  exact ih282 (k + 1) g pl kn rw mi un (by omega) (by omega) _ _ _ hP hS (lv_sub hl [0, 1, 2, 3, 4, 5, 6, 7, 8] rfl)
                                · skip
                                  exact absurd rfl c334
                            · skip
                              have hFl : aflI z (gM z (nI τ) k) = nI 1 := (aI_01 z _).resolve_left (fun g => c307 (by rw [if_pos (show aflI z (gM z (nI τ) k) = 0 from g)]; exact nI_pos' (by omega)))
                              refine lv_iconst (v := nI 1) hx hb dL_law_310 (by decide) ?_
                              refine lv_goto (tgt := 315) hx hb dL_law_311 (by decide) ?_
                              refine lv_icmp_ne (tgt := 337) hx hb dL_law_315 (by decide) (fun c315 => ?_) (fun c315 => ?_)
                              · skip
                                exact absurd hFl c315
                              · skip
                                refine lv_aload_n hx hb dL_law_318 rfl (lv_at hl 7 rfl) ?_
                                refine xt_v (w := .ref (ad (0, 0))) (congrArg Value.ref hq0.symm) ?_
                                refine lv_iload hx hb dL_law_319 (lv_at hl 0 rfl) ?_
                                refine lv_iload hx hb dL_law_321 (lv_at hl 1 rfl) ?_
                                refine xx_callV (C := "NetlistBench") (n := 2) [.int (nI k), .int (nI τ)] (c_X3_floats l hls hP hz (nI k) (nI τ)) hx hb hml hown hts hE hF hS (xw_recv hE hP (0, 0) rfl rfl) rfl rfl q_21 q_229 q_232 q_230 q_231 (by decide) rfl ⟨by rw [hRf]; decide, by rw [hRl]; decide⟩ hl.1 rfl (Nat.le_of_ble_eq_true rfl) dL_law_323 ⟨by rw [hRc]; omega, by rw [hRs]; omega⟩ (fun E ce q9 H1 locs hp hS hce hcv hcl => ?_) (fun v H1 locs hp hS => ?_)
                                · exact (ex3_n hp.1 (nd_0 hw hkn hτ)).elim
                                obtain ⟨hv_, ht_, hB⟩ := hp; subst hv_; generalize H1 = H at hB hS ⊢
                                obtain ⟨g, pl, kn, rw, mi, un, hP⟩ := hB
                                refine xt_i (w := aflI z (gM z (nI τ) k)) (by rw [cl_nI (by omega)]) ?_
                                refine lv_aload_n hx hb dL_law_326 rfl (lv_at hl 5 rfl) ?_
                                refine xt_v (w := .ref (ad (20, 0))) (congrArg Value.ref hqh.symm) ?_
                                refine lv_iload hx hb dL_law_327 (lv_at hl 0 rfl) ?_
                                refine lv_iload hx hb dL_law_329 (lv_at hl 1 rfl) ?_
                                refine xw_callV (C := "NetlistBenchLaw$Hand") (n := 2) [.int (nI k), .int (nI τ)] (c_X4_floats l hP hd_wH rfl hR hw (a := k) (by omega) hτ) hx hb hml hown hts hE hS (xw_recv hE hP (20, 0) rfl rfl) rfl rfl q_26 q_427 q_430 q_428 q_429 (by decide) rfl ⟨by rw [hRf]; decide, by rw [hRl]; decide⟩ hl.1 rfl (Nat.le_of_ble_eq_true rfl) dL_law_331 ⟨by rw [hRc]; omega, by rw [hRs]; omega⟩ (fun v H1 locs hp hS => ?_)
                                obtain ⟨hv_, hP⟩ := hp; subst hv_; generalize H1 = H at hP hS ⊢
                                refine lv_icmp_eq (tgt := 339) hx hb dL_law_334 (by decide) (fun c334 => ?_) (fun c334 => ?_)
                                · skip
                                  refine lv_iinc (v := nI (k + 1)) (lv' := [(13, .int (nI (k + 1))), (7, .int (nI τ)), (6, .int (nI i)), (5, .int (nI 3)), (4, .ref q40), (3, .ref qh), (2, .int (nI n)), (1, .ref qb), (0, .ref b)]) hx hb dL_law_339 hl (k := 0) rfl (nI_1 _) (by decide) rfl (fun ls hl => ?_)
                                  refine lv_goto (tgt := 282) hx hb dL_law_342 (by decide) ?_
                                  refine W.widen (k := 300 + 324 * i + 228 + 16 * (k + 1)) (n := 4200 + 2424 * i + 1752 + 112 * (k + 1)) (by omega) (by omega) ?_
                                  exact ih282 (k + 1) g pl kn rw mi un (by omega) (by omega) _ _ _ hP hS (lv_sub hl [0, 1, 2, 3, 4, 5, 6, 7, 8] rfl)
                                · skip
                                  exact absurd rfl c334
                      refine W.widen (k := 300 + 324 * i + 228 + 16 * 0) (n := 4200 + 2424 * i + 1752 + 112 * 0) (by omega) (by omega) ?_
                      exact K282 _ 0 g pl kn rw mi un (by omega) (Nat.lt_succ_self _) _ _ _ hP hS (lv_sub hl [0, 4, 5, 6, 7, 8, 9, 10, 11] rfl)
                    · skip
                      have c274 := mt (lg_cmp_eq _ _).mpr c274
                      exact absurd (by have h := ls_end hw (nI τ); rw [show nN z = n by omega, show nE z = En by omega] at h; exact h) c274
                  · skip
                    have c172 := ni_nle (a := En) (b := k) (by omega) (by omega) c172
                    obtain ⟨r0, r1, r2, r3, r4, rk, rt⟩ := hBq.2.2 k (by omega)
                    have t6 := hw.t6 (i := k) (by omega)
                    have ha8 := hw.a8 (i := k) (by omega)
                    have hb8 := hw.b8 (i := k) (by omega)
                    refine lv_aload_n hx hb dL_law_175 rfl (lv_at hl 8 rfl) ?_
                    refine xt_v (w := .ref (ad (20, 0))) (congrArg Value.ref hqh.symm) ?_
                    refine xw_get hx hb hts hown hE hP iw_X4 (20, 0) (fs := [.ref (ad (21, 0)), .ref (ad (22, 0))]) rfl rfl 1 (by decide) q_454 (fun x h => h) rfl dL_law_176 ?_
                    refine lv_iload hx hb dL_law_179 (lv_at hl 0 rfl) ?_
                    refine xw_aald3 hx hb hE hP (22, 0) (n := En) (f := fun i => if i < En then some (ad (23, i)) else none) rfl (i := k) (v := ad (23, k)) (if_pos (by omega)) (by omega) (by omega) dL_law_181 ?_
                    refine lv_astore (lv' := [(14, .ref (ad (23, k))), (13, .int (nI k)), (12, .int (loS z (nI τ) k)), (10, .long ((lsS z (nI τ) n).2)), (8, .long ((lsS z (nI τ) n).1)), (7, .int (nI τ)), (6, .int (nI i)), (5, .int (nI 3)), (4, .ref q40), (3, .ref qh), (2, .int (nI n)), (1, .ref qb), (0, .ref b)]) hx hb dL_law_182 hl (by decide) rfl (fun ls hl => ?_)
                    refine lv_aload hx hb dL_law_184 (lv_at hl 0 rfl) ?_
                    refine lv_iconst (v := nI 0) hx hb dL_law_186 (by decide) ?_
                    refine xw_iald hx hb hE hP (23, k) (n := fk k) (f := fw k) (if_pos (show k < En by omega)) (i := 0) (by omega) (by omega) dL_law_187 ?_
                    refine xt_i (w := eS z k) (r0) ?_
                    refine lv_if_eq (tgt := 257) hx hb dL_law_188 (by decide) (fun c188 => ?_) (fun c188 => ?_)
                    · skip
                      rw [show loS z (nI τ) k = loS z (nI τ) (k + 1) from (loS_0 (Or.inl c188)).symm] at hl
                      refine lv_iinc (v := nI (k + 1)) (lv' := [(13, .int (nI (k + 1))), (14, .ref (ad (23, k))), (12, .int (loS z (nI τ) (k + 1))), (10, .long ((lsS z (nI τ) n).2)), (8, .long ((lsS z (nI τ) n).1)), (7, .int (nI τ)), (6, .int (nI i)), (5, .int (nI 3)), (4, .ref q40), (3, .ref qh), (2, .int (nI n)), (1, .ref qb), (0, .ref b)]) hx hb dL_law_257 hl (k := 1) rfl (nI_1 _) (by decide) rfl (fun ls hl => ?_)
                      refine lv_goto (tgt := 165) hx hb dL_law_260 (by decide) ?_
                      refine W.widen (k := 300 + 324 * i + 36 + 16 * (k + 1)) (n := 4200 + 2424 * i + 216 + 128 * (k + 1)) (by omega) (by omega) ?_
                      exact ih165 (k + 1) g pl kn rw mi un (by omega) (by omega) _ _ _ hP hS (lv_sub hl [0, 2, 3, 4, 5, 6, 7, 8, 9, 10, 11, 12] rfl)
                    · skip
                      refine lv_aload_n hx hb dL_law_191 rfl (lv_at hl 9 rfl) ?_
                      refine xt_v (w := .ref (ad (20, 0))) (congrArg Value.ref hqh.symm) ?_
                      refine lv_iload hx hb dL_law_192 (lv_at hl 1 rfl) ?_
                      refine lv_iload hx hb dL_law_194 (lv_at hl 5 rfl) ?_
                      refine xw_callV (C := "NetlistBenchLaw$Hand") (n := 2) [.int (nI k), .int (nI τ)] (c_X4_isOn l hP hd_wH  hR hw (i := k) (by omega) hτ) hx hb hml hown hts hE hS (xw_recv hE hP (20, 0) rfl rfl) rfl rfl q_26 q_413 q_416 q_414 q_415 (by decide) rfl ⟨by rw [hRf]; decide, by rw [hRl]; decide⟩ hl.1 rfl (Nat.le_of_ble_eq_true rfl) dL_law_196 ⟨by rw [hRc]; omega, by rw [hRs]; omega⟩ (fun v H1 locs hp hS => ?_)
                      obtain ⟨hv_, hh_⟩ := hp; subst hv_; subst hh_
                      refine lv_if_ne (tgt := 205) hx hb dL_law_199 (by decide) (fun c199 => ?_) (fun c199 => ?_)
                      · skip
                        refine lv_iload hx hb dL_law_205 (lv_at hl 2 rfl) ?_
                        refine lv_aload_n hx hb dL_law_207 rfl (lv_at hl 9 rfl) ?_
                        refine xt_v (w := .ref (ad (20, 0))) (congrArg Value.ref hqh.symm) ?_
                        refine lv_aload hx hb dL_law_208 (lv_at hl 0 rfl) ?_
                        refine lv_iconst (v := nI 1) hx hb dL_law_210 (by decide) ?_
                        refine xw_iald hx hb hE hP (23, k) (n := fk k) (f := fw k) (if_pos (show k < En by omega)) (i := 1) (by omega) (by omega) dL_law_211 ?_
                        refine xt_i (w := nI (cA z k)) (r1.trans (hw.a (by omega))) ?_
                        refine lv_iload hx hb dL_law_212 (lv_at hl 5 rfl) ?_
                        refine xw_callV (C := "NetlistBenchLaw$Hand") (n := 2) [.int (nI (cA z k)), .int (nI τ)] (c_X4_floats l hP hd_wH rfl hR hw (a := cA z k) (by omega) hτ) hx hb hml hown hts hE hS (xw_recv hE hP (20, 0) rfl rfl) rfl rfl q_26 q_427 q_430 q_428 q_429 (by decide) rfl ⟨by rw [hRf]; decide, by rw [hRl]; decide⟩ hl.1 rfl (Nat.le_of_ble_eq_true rfl) dL_law_214 ⟨by rw [hRc]; omega, by rw [hRs]; omega⟩ (fun v H1 locs hp hS => ?_)
                        obtain ⟨hv_, hP⟩ := hp; subst hv_; generalize H1 = H at hP hS ⊢
                        have K228 : ∀ (u : Int32), (u = if aflI z (gM z (nI τ) (cA z k)) = 0 then nI 0 else eZ z k) → ∀ (locs : List Loc) (ls : Array Slot), va_S A Hs H locs → lv_has ls 16 [(14, .ref (ad (23, k))), (13, .int (nI k)), (12, .int (loS z (nI τ) k)), (10, .long ((lsS z (nI τ) n).2)), (8, .long ((lsS z (nI τ) n).1)), (7, .int (nI τ)), (6, .int (nI i)), (5, .int (nI 3)), (4, .ref q40), (3, .ref qh), (2, .int (nI n)), (1, .ref qb), (0, .ref b)] → W p l e R s m args below meth c H locs (300 + 324 * i + 36 + 16 * k + 8) (4200 + 2424 * i + 216 + 128 * k + 64) Q (F0 m 228 ls [.int u, .int (loS z (nI τ) k)]) := by
                          intro u hu locs ls hS hl
                          refine lv_iadd hx hb dL_law_228 ?_
                          refine lv_istore (lv' := [(12, .int ((loS z (nI τ) k) + u)), (14, .ref (ad (23, k))), (13, .int (nI k)), (10, .long ((lsS z (nI τ) n).2)), (8, .long ((lsS z (nI τ) n).1)), (7, .int (nI τ)), (6, .int (nI i)), (5, .int (nI 3)), (4, .ref q40), (3, .ref qh), (2, .int (nI n)), (1, .ref qb), (0, .ref b)]) hx hb dL_law_229 hl (by decide) rfl (fun ls hl => ?_)
                          refine lv_iload hx hb dL_law_231 (lv_at hl 0 rfl) ?_
                          refine lv_aload_n hx hb dL_law_233 rfl (lv_at hl 9 rfl) ?_
                          refine xt_v (w := .ref (ad (20, 0))) (congrArg Value.ref hqh.symm) ?_
                          refine lv_aload hx hb dL_law_234 (lv_at hl 1 rfl) ?_
                          refine lv_iconst (v := nI 2) hx hb dL_law_236 (by decide) ?_
                          refine xw_iald hx hb hE hP (23, k) (n := fk k) (f := fw k) (if_pos (show k < En by omega)) (i := 2) (by omega) (by omega) dL_law_237 ?_
                          refine xt_i (w := nI (cB z k)) (r2.trans (hw.b (by omega))) ?_
                          refine lv_iload hx hb dL_law_238 (lv_at hl 5 rfl) ?_
                          refine xw_callV (C := "NetlistBenchLaw$Hand") (n := 2) [.int (nI (cB z k)), .int (nI τ)] (c_X4_floats l hP hd_wH rfl hR hw (a := cB z k) (by omega) hτ) hx hb hml hown hts hE hS (xw_recv hE hP (20, 0) rfl rfl) rfl rfl q_26 q_427 q_430 q_428 q_429 (by decide) rfl ⟨by rw [hRf]; decide, by rw [hRl]; decide⟩ hl.1 rfl (Nat.le_of_ble_eq_true rfl) dL_law_240 ⟨by rw [hRc]; omega, by rw [hRs]; omega⟩ (fun v H1 locs hp hS => ?_)
                          obtain ⟨hv_, hP⟩ := hp; subst hv_; generalize H1 = H at hP hS ⊢
                          have K254 : ∀ (u2 : Int32), (u2 = if aflI z (gM z (nI τ) (cB z k)) = 0 then nI 0 else eZ z k) → ∀ (locs : List Loc) (ls : Array Slot), va_S A Hs H locs → lv_has ls 16 [(14, .ref (ad (23, k))), (13, .int (nI k)), (12, .int (loS z (nI τ) k + u)), (10, .long ((lsS z (nI τ) n).2)), (8, .long ((lsS z (nI τ) n).1)), (7, .int (nI τ)), (6, .int (nI i)), (5, .int (nI 3)), (4, .ref q40), (3, .ref qh), (2, .int (nI n)), (1, .ref qb), (0, .ref b)] → W p l e R s m args below meth c H locs (300 + 324 * i + 36 + 16 * k + 8 + 8) (4200 + 2424 * i + 216 + 128 * k + 64 + 64) Q (F0 m 254 ls [.int u2, .int (loS z (nI τ) k + u)]) := by
                            intro u2 hu2 locs ls hS hl
                            refine lv_isub hx hb dL_law_254 ?_
                            refine xt_i (w := loS z (nI τ) (k + 1)) (by rw [loS_1 c188 c199, hu, hu2]) ?_
                            refine lv_istore (lv' := [(12, .int (loS z (nI τ) (k + 1))), (14, .ref (ad (23, k))), (13, .int (nI k)), (10, .long ((lsS z (nI τ) n).2)), (8, .long ((lsS z (nI τ) n).1)), (7, .int (nI τ)), (6, .int (nI i)), (5, .int (nI 3)), (4, .ref q40), (3, .ref qh), (2, .int (nI n)), (1, .ref qb), (0, .ref b)]) hx hb dL_law_255 hl (by decide) rfl (fun ls hl => ?_)
                            refine lv_iinc (v := nI (k + 1)) (lv' := [(13, .int (nI (k + 1))), (12, .int (loS z (nI τ) (k + 1))), (14, .ref (ad (23, k))), (10, .long ((lsS z (nI τ) n).2)), (8, .long ((lsS z (nI τ) n).1)), (7, .int (nI τ)), (6, .int (nI i)), (5, .int (nI 3)), (4, .ref q40), (3, .ref qh), (2, .int (nI n)), (1, .ref qb), (0, .ref b)]) hx hb dL_law_257 hl (k := 2) rfl (nI_1 _) (by decide) rfl (fun ls hl => ?_)
                            refine lv_goto (tgt := 165) hx hb dL_law_260 (by decide) ?_
                            refine W.widen (k := 300 + 324 * i + 36 + 16 * (k + 1)) (n := 4200 + 2424 * i + 216 + 128 * (k + 1)) (by omega) (by omega) ?_
                            exact ih165 (k + 1) g pl kn rw mi un (by omega) (by omega) _ _ _ hP hS (lv_sub hl [0, 1, 3, 4, 5, 6, 7, 8, 9, 10, 11, 12] rfl)
                          refine lv_if_eq (tgt := 253) hx hb dL_law_243 (by decide) (fun c243 => ?_) (fun c243 => ?_)
                          · skip
                            refine lv_iconst (v := nI 0) hx hb dL_law_253 (by decide) ?_
                            exact K254 (nI 0) (by first | rw [if_pos c243] | rw [if_neg c243]) _ _ hS (lv_sub hl [1, 2, 0, 3, 4, 5, 6, 7, 8, 9, 10, 11, 12] rfl)
                          · skip
                            refine lv_aload hx hb dL_law_246 (lv_at hl 1 rfl) ?_
                            refine lv_iconst (v := nI 3) hx hb dL_law_248 (by decide) ?_
                            refine xw_iald hx hb hE hP (23, k) (n := fk k) (f := fw k) (if_pos (show k < En by omega)) (i := 3) (by omega) (by omega) dL_law_249 ?_
                            refine xt_i (w := eZ z k) (r3) ?_
                            refine lv_goto (tgt := 254) hx hb dL_law_250 (by decide) ?_
                            exact K254 (eZ z k) (by first | rw [if_pos c243] | rw [if_neg c243]) _ _ hS (lv_sub hl [1, 2, 0, 3, 4, 5, 6, 7, 8, 9, 10, 11, 12] rfl)
                        refine lv_if_eq (tgt := 227) hx hb dL_law_217 (by decide) (fun c217 => ?_) (fun c217 => ?_)
                        · skip
                          refine lv_iconst (v := nI 0) hx hb dL_law_227 (by decide) ?_
                          exact K228 (nI 0) (by first | rw [if_pos c217] | rw [if_neg c217]) _ _ hS (lv_sub hl [0, 1, 2, 3, 4, 5, 6, 7, 8, 9, 10, 11, 12] rfl)
                        · skip
                          refine lv_aload hx hb dL_law_220 (lv_at hl 0 rfl) ?_
                          refine lv_iconst (v := nI 3) hx hb dL_law_222 (by decide) ?_
                          refine xw_iald hx hb hE hP (23, k) (n := fk k) (f := fw k) (if_pos (show k < En by omega)) (i := 3) (by omega) (by omega) dL_law_223 ?_
                          refine xt_i (w := eZ z k) (r3) ?_
                          refine lv_goto (tgt := 228) hx hb dL_law_224 (by decide) ?_
                          exact K228 (eZ z k) (by first | rw [if_pos c217] | rw [if_neg c217]) _ _ hS (lv_sub hl [0, 1, 2, 3, 4, 5, 6, 7, 8, 9, 10, 11, 12] rfl)
                      · skip
                        rw [show loS z (nI τ) k = loS z (nI τ) (k + 1) from (loS_0 (Or.inr c199)).symm] at hl
                        refine lv_goto (tgt := 257) hx hb dL_law_202 (by decide) ?_
                        refine lv_iinc (v := nI (k + 1)) (lv' := [(13, .int (nI (k + 1))), (14, .ref (ad (23, k))), (12, .int (loS z (nI τ) (k + 1))), (10, .long ((lsS z (nI τ) n).2)), (8, .long ((lsS z (nI τ) n).1)), (7, .int (nI τ)), (6, .int (nI i)), (5, .int (nI 3)), (4, .ref q40), (3, .ref qh), (2, .int (nI n)), (1, .ref qb), (0, .ref b)]) hx hb dL_law_257 hl (k := 1) rfl (nI_1 _) (by decide) rfl (fun ls hl => ?_)
                        refine lv_goto (tgt := 165) hx hb dL_law_260 (by decide) ?_
                        refine W.widen (k := 300 + 324 * i + 36 + 16 * (k + 1)) (n := 4200 + 2424 * i + 216 + 128 * (k + 1)) (by omega) (by omega) ?_
                        exact ih165 (k + 1) g pl kn rw mi un (by omega) (by omega) _ _ _ hP hS (lv_sub hl [0, 2, 3, 4, 5, 6, 7, 8, 9, 10, 11, 12] rfl)
              refine W.widen (k := 300 + 324 * i + 36 + 16 * 0) (n := 4200 + 2424 * i + 216 + 128 * 0) (by omega) (by omega) ?_
              exact K165 _ 0 g pl kn rw mi un (by omega) (Nat.lt_succ_self _) _ _ _ hP hS (lv_sub hl [0, 1, 2, 3, 4, 5, 6, 7, 8, 9, 10, 11] rfl)
            · skip
              have c91 := ni_nle (a := n) (b := k) (by omega) (by omega) c91
              have hkn : k < nN z := by omega
              refine lv_aload_n hx hb dL_law_94 rfl (lv_at hl 8 rfl) ?_
              refine xt_v (w := .ref (ad (20, 0))) (congrArg Value.ref hqh.symm) ?_
              refine xw_get hx hb hts hown hE hP iw_X4 (20, 0) (fs := [.ref (ad (21, 0)), .ref (ad (22, 0))]) rfl rfl 0 (by decide) q_452 (fun x h => h) rfl dL_law_95 ?_
              refine lv_iload hx hb dL_law_98 (lv_at hl 0 rfl) ?_
              refine xw_iald hx hb hE hP (21, 0) (n := n) (f := fr) rfl (i := k) (by omega) (by omega) dL_law_100 ?_
              refine lv_bipush (v := nI 100) hx hb dL_law_101 (by decide) ?_
              refine lv_icmp_ne (tgt := 109) hx hb dL_law_103 (by decide) (fun c103 => ?_) (fun c103 => ?_)
              · skip
                have c103 : ¬ nR z k = 0 := fun g => c103 ((hBq.r100 hw (by omega)).mpr g)
                refine lv_aload_n hx hb dL_law_109 rfl (lv_at hl 10 rfl) ?_
                refine xt_v (w := .ref (ad (0, 0))) (congrArg Value.ref hq0.symm) ?_
                refine lv_iload hx hb dL_law_110 (lv_at hl 0 rfl) ?_
                refine lv_iload hx hb dL_law_112 (lv_at hl 4 rfl) ?_
                refine lv_iconst (v := nI 0) hx hb dL_law_114 (by decide) ?_
                refine xx_callV (C := "NetlistBench") (n := 3) [.int (nI k), .int (nI τ), .int (nI 0)] (c_X3_feed l hls hP hz (nI k) (nI τ) (nI 0)) hx hb hml hown hts hE hF hS (xw_recv hE hP (0, 0) rfl rfl) rfl rfl q_21 q_267 q_270 q_268 q_269 (by decide) rfl ⟨by rw [hRf]; decide, by rw [hRl]; decide⟩ hl.1 rfl (Nat.le_of_ble_eq_true rfl) dL_law_115 ⟨by rw [hRc]; omega, by rw [hRs]; omega⟩ (fun E ce q9 H1 locs hp hS hce hcv hcl => ?_) (fun v H1 locs hp hS => ?_)
                · exact (ex3_n hp.1 (feed_0 hw hkn hτ c103)).elim
                obtain ⟨hv_, ht_, hB⟩ := hp; subst hv_; generalize H1 = H at hB hS ⊢
                obtain ⟨g, pl, kn, rw, mi, un, hP⟩ := hB
                refine lv_lstore (lv' := [(14, .long (rFeed z (nI k) (nI τ) (nI 0))), (13, .int (nI k)), (12, .int (nI 0)), (10, .long ((lsS z (nI τ) k).2)), (8, .long ((lsS z (nI τ) k).1)), (7, .int (nI τ)), (6, .int (nI i)), (5, .int (nI 3)), (4, .ref q40), (3, .ref qh), (2, .int (nI n)), (1, .ref qb), (0, .ref b)]) hx hb dL_law_118 hl (by decide) rfl (fun ls hl => ?_)
                refine lv_lload hx hb dL_law_120 (lv_at hl 0 rfl) ?_
                refine lv_lconst (v := 1) hx hb dL_law_122 (by decide) ?_
                refine W.lcmp hx hb dL_law_123 ?_
                refine lv_if_ge (tgt := 129) hx hb dL_law_124 (by decide) (fun c124 => ?_) (fun c124 => ?_)
                · skip
                  have c124 := (lg_cmp_ge _ _).mp c124
                  refine lv_lload hx hb dL_law_129 (lv_at hl 4 rfl) ?_
                  refine lv_lload hx hb dL_law_131 (lv_at hl 0 rfl) ?_
                  refine lv_lmul hx hb dL_law_133 ?_
                  refine lv_aload_n hx hb dL_law_134 rfl (lv_at hl 11 rfl) ?_
                  refine xt_v (w := .ref (ad (0, 0))) (congrArg Value.ref hq0.symm) ?_
                  refine lv_iload hx hb dL_law_135 (lv_at hl 1 rfl) ?_
                  refine lv_iload hx hb dL_law_137 (lv_at hl 5 rfl) ?_
                  refine lv_iconst (v := nI 1) hx hb dL_law_139 (by decide) ?_
                  refine xx_callV (C := "NetlistBench") (n := 3) [.int (nI k), .int (nI τ), .int (nI 1)] (c_X3_feed l hls hP hz (nI k) (nI τ) (nI 1)) hx hb hml hown hts hE hF hS (xw_recv hE hP (0, 0) rfl rfl) rfl rfl q_21 q_267 q_270 q_268 q_269 (by decide) rfl ⟨by rw [hRf]; decide, by rw [hRl]; decide⟩ hl.1 rfl (Nat.le_of_ble_eq_true rfl) dL_law_140 ⟨by rw [hRc]; omega, by rw [hRs]; omega⟩ (fun E ce q9 H1 locs hp hS hce hcv hcl => ?_) (fun v H1 locs hp hS => ?_)
                  · exact (ex3_n hp.1 (feed_0 hw hkn hτ c103)).elim
                  obtain ⟨hv_, ht_, hB⟩ := hp; subst hv_; generalize H1 = H at hB hS ⊢
                  obtain ⟨g, pl, kn, rw, mi, un, hP⟩ := hB
                  refine lv_lload hx hb dL_law_143 (lv_at hl 3 rfl) ?_
                  refine lv_lmul hx hb dL_law_145 ?_
                  refine lv_ladd hx hb dL_law_146 ?_
                  refine xt_l (w := (lsS z (nI τ) (k + 1)).1) (by rw [lsS_1 c103]) ?_
                  refine lv_lstore (lv' := [(8, .long ((lsS z (nI τ) (k + 1)).1)), (14, .long (rFeed z (nI k) (nI τ) (nI 0))), (13, .int (nI k)), (12, .int (nI 0)), (10, .long ((lsS z (nI τ) k).2)), (7, .int (nI τ)), (6, .int (nI i)), (5, .int (nI 3)), (4, .ref q40), (3, .ref qh), (2, .int (nI n)), (1, .ref qb), (0, .ref b)]) hx hb dL_law_147 hl (by decide) rfl (fun ls hl => ?_)
                  refine lv_lload hx hb dL_law_149 (lv_at hl 4 rfl) ?_
                  refine lv_lload hx hb dL_law_151 (lv_at hl 1 rfl) ?_
                  refine lv_lmul hx hb dL_law_153 ?_
                  refine xt_l (w := (lsS z (nI τ) (k + 1)).2) (by rw [lsS_1 c103]) ?_
                  refine lv_lstore (lv' := [(10, .long ((lsS z (nI τ) (k + 1)).2)), (8, .long ((lsS z (nI τ) (k + 1)).1)), (14, .long (rFeed z (nI k) (nI τ) (nI 0))), (13, .int (nI k)), (12, .int (nI 0)), (7, .int (nI τ)), (6, .int (nI i)), (5, .int (nI 3)), (4, .ref q40), (3, .ref qh), (2, .int (nI n)), (1, .ref qb), (0, .ref b)]) hx hb dL_law_154 hl (by decide) rfl (fun ls hl => ?_)
                  refine lv_iinc (v := nI (k + 1)) (lv' := [(13, .int (nI (k + 1))), (10, .long ((lsS z (nI τ) (k + 1)).2)), (8, .long ((lsS z (nI τ) (k + 1)).1)), (14, .long (rFeed z (nI k) (nI τ) (nI 0))), (12, .int (nI 0)), (7, .int (nI τ)), (6, .int (nI i)), (5, .int (nI 3)), (4, .ref q40), (3, .ref qh), (2, .int (nI n)), (1, .ref qb), (0, .ref b)]) hx hb dL_law_156 hl (k := 3) rfl (nI_1 _) (by decide) rfl (fun ls hl => ?_)
                  refine lv_goto (tgt := 88) hx hb dL_law_159 (by decide) ?_
                  refine W.widen (k := 300 + 324 * i + 6 * (k + 1)) (n := 4200 + 2424 * i + 36 * (k + 1)) (by omega) (by omega) ?_
                  exact ih88 (k + 1) g pl kn rw mi un (by omega) (by omega) _ _ _ hP hS (lv_sub hl [0, 4, 1, 2, 5, 6, 7, 8, 9, 10, 11, 12] rfl)
                · skip
                  have c124 := mt (lg_cmp_ge _ _).mpr c124
                  exact absurd (by rw [Int64.le_iff_toInt_le, i64_1]; have := feed_pos hw (nI τ) hkn; omega) c124
              · skip
                have c103 := (hBq.r100 hw (by omega)).mp c103
                rw [show lsS z (nI τ) k = lsS z (nI τ) (k + 1) from (lsS_0 c103).symm] at hl
                refine lv_goto (tgt := 156) hx hb dL_law_106 (by decide) ?_
                refine lv_iinc (v := nI (k + 1)) (lv' := [(13, .int (nI (k + 1))), (12, .int (nI 0)), (10, .long ((lsS z (nI τ) (k + 1)).2)), (8, .long ((lsS z (nI τ) (k + 1)).1)), (7, .int (nI τ)), (6, .int (nI i)), (5, .int (nI 3)), (4, .ref q40), (3, .ref qh), (2, .int (nI n)), (1, .ref qb), (0, .ref b)]) hx hb dL_law_156 hl (k := 0) rfl (nI_1 _) (by decide) rfl (fun ls hl => ?_)
                refine lv_goto (tgt := 88) hx hb dL_law_159 (by decide) ?_
                refine W.widen (k := 300 + 324 * i + 6 * (k + 1)) (n := 4200 + 2424 * i + 36 * (k + 1)) (by omega) (by omega) ?_
                exact ih88 (k + 1) g pl kn rw mi un (by omega) (by omega) _ _ _ hP hS (lv_sub hl [0, 1, 2, 3, 4, 5, 6, 7, 8, 9, 10, 11] rfl)
        refine W.widen (k := 300 + 324 * i + 6 * 0) (n := 4200 + 2424 * i + 36 * 0) (by omega) (by omega) ?_
        exact K88 _ 0 g pl kn rw mi un (by omega) (Nat.lt_succ_self _) _ _ _ hP hS (lv_sub hl [0, 1, 2, 3, 4, 5, 6, 7, 8, 9, 10, 11] rfl)
  refine W.widen (k := 300 + 324 * 0) (n := 4200 + 2424 * 0) (by omega) (by omega) ?_
  exact K62 _ 0 g pl kn rw mi un (by omega) (Nat.lt_succ_self _) _ _ _ hP hS (lv_sub hl [0, 1, 2, 3, 4, 5, 6] rfl)
