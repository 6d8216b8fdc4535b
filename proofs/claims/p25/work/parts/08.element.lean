set_option maxHeartbeats 4000000 in
set_option maxRecDepth 100000 in
theorem c_X0_togglesBefore (l : Launch) {D : va_G} {y : Nat → ClassId} {A : Nat → Prop} {ad : xL → Nat} {bl : xM} {z : xC} {g : Nat → Int32} {pl : Nat → Int32} {kn : Nat → Int64} {rw : Nat → Nat → Int64} {mi : Nat → Int64} {un : Int32} {fR fO : Nat → Nat → Option va_E} {Hs : Heap} (hP : xW D A ad (wU (wB y ad bl z g pl kn rw mi un) fR fO) Hs) (hw : wf z) {i : Nat} (hi : i < nE z) (t : Int32) : Met l yX0_togglesBefore (.code yX0_togglesBefore cX0_togglesBefore 4 (some .int) :: WG) { frames := 0, cells := 0, slots := 0, locals := 0 } (xPc [.ref (ad (13, i)), .int t] D y Hs) (xQ (fun v H1 => v = some (.int (nI (tb z i t (cT z i)))) ∧ Hs = H1) A) 0 0 A := by
  refine xM_go (by decide) (Nat.le_of_ble_eq_true rfl) (fun p e s m args below meth c ls R Q hx hb hr hlocks hml hown hts hH hE hnm hRf hRl hRc hRs hQ hS hl => ?_)
  have hRf : R.frames = 0 := hRf
  have hRl : R.locals = 0 := hRl
  have hRc : R.cells = 0 := hRc
  have hRs : R.slots = 0 := hRs
  have hl : lv_has ls 4 [(0, .ref (ad (13, i))), (1, .int t)] := hl
  have hN := hw.N
  have hE20 := hw.E
  have ht := hw.t hi
  have ht6 := hw.t6 hi
  refine lv_iconst (v := nI 0) hx hb dX0_togglesBefore_0 (by decide) ?_
  refine lv_istore_n (lv' := [(2, .int (nI 0)), (0, .ref (ad (13, i))), (1, .int t)]) hx hb dX0_togglesBefore_1 rfl hl (by decide) rfl (fun ls hl => ?_)
  refine lv_iconst (v := nI 0) hx hb dX0_togglesBefore_2 (by decide) ?_
  refine lv_istore_n (lv' := [(3, .int (nI 0)), (2, .int (nI 0)), (0, .ref (ad (13, i))), (1, .int t)]) hx hb dX0_togglesBefore_3 rfl hl (by decide) rfl (fun ls hl => ?_)
  have K4 : ∀ (nn : Nat), ∀ (k : Nat), (k ≤ cT z i) → cT z i - k < nn → ∀ (locs : List Loc) (ls : Array Slot), va_S A Hs Hs locs → lv_has ls 4 [(3, .int (nI k)), (2, .int (nI (tb z i t k))), (1, .int t), (0, .ref (ad (13, i)))] → W p l e R s m args below meth c Hs locs 0 0 Q (F0 m 4 ls []) := by
    intro nn
    induction nn with
    | zero => intro k hk h; exact absurd h (Nat.not_lt_zero _)
    | succ nn ih4 =>
      intro k hk hn4 locs ls hS hl
      refine lv_iload_n hx hb dX0_togglesBefore_4 rfl (lv_at hl 0 rfl) ?_
      refine lv_aload_n hx hb dX0_togglesBefore_5 rfl (lv_at hl 3 rfl) ?_
      refine fg_X0_toggles (i := i) (by first | assumption | omega) hx hb hts hown hE hP q_563 dX0_togglesBefore_6 ?_
      refine xt_i (w := nI (cT z i)) (ht) ?_
      refine lv_icmp_ge (tgt := 31) hx hb dX0_togglesBefore_9 (by decide) (fun c9 => ?_) (fun c9 => ?_)
      · skip
        have c9 := ni_le (a := (cT z i)) (b := k) (by omega) (by omega) c9
        refine lv_iload_n hx hb dX0_togglesBefore_31 rfl (lv_at hl 1 rfl) ?_
        exact xe_iret hQ hx hb hr hlocks hH hS (Nat.le_refl _) (Nat.le_refl _) (⟨by rw [show k = cT z i by omega], rfl⟩) dX0_togglesBefore_32
      · skip
        have c9 := ni_nle (a := (cT z i)) (b := k) (by omega) (by omega) c9
        refine lv_aload_n hx hb dX0_togglesBefore_12 rfl (lv_at hl 3 rfl) ?_
        refine fg_X0_times (i := i) (by first | assumption | omega) hx hb hts hown hE hP q_565 dX0_togglesBefore_13 ?_
        refine lv_iload_n hx hb dX0_togglesBefore_16 rfl (lv_at hl 0 rfl) ?_
        refine al_times (i := i) (by first | assumption | omega) hx hb hE hP (j := k) (by omega) dX0_togglesBefore_17 ?_
        refine lv_iload_n hx hb dX0_togglesBefore_18 rfl (lv_at hl 2 rfl) ?_
        refine lv_icmp_ge (tgt := 25) hx hb dX0_togglesBefore_19 (by decide) (fun c19 => ?_) (fun c19 => ?_)
        · skip
          rw [show tb z i t k = tb z i t (k + 1) from (tb_s0 c19).symm] at hl
          refine lv_iinc (v := nI (k + 1)) (lv' := [(3, .int (nI (k + 1))), (2, .int (nI (tb z i t (k + 1)))), (1, .int t), (0, .ref (ad (13, i)))]) hx hb dX0_togglesBefore_25 hl (k := 0) rfl (nI_1 _) (by decide) rfl (fun ls hl => ?_)
          refine lv_goto (tgt := 4) hx hb dX0_togglesBefore_28 (by decide) ?_
          exact ih4 (k + 1) (by omega) (by omega) _ _ hS (lv_sub hl [0, 1, 2, 3] rfl)
        · skip
          refine lv_iinc (v := nI (tb z i t (k + 1))) (lv' := [(2, .int (nI (tb z i t (k + 1)))), (3, .int (nI k)), (1, .int t), (0, .ref (ad (13, i)))]) hx hb dX0_togglesBefore_22 hl (k := 1) rfl (by rw [tb_s1 c19]; exact nI_1 _) (by decide) rfl (fun ls hl => ?_)
          refine lv_iinc (v := nI (k + 1)) (lv' := [(3, .int (nI (k + 1))), (2, .int (nI (tb z i t (k + 1)))), (1, .int t), (0, .ref (ad (13, i)))]) hx hb dX0_togglesBefore_25 hl (k := 1) rfl (nI_1 _) (by decide) rfl (fun ls hl => ?_)
          refine lv_goto (tgt := 4) hx hb dX0_togglesBefore_28 (by decide) ?_
          exact ih4 (k + 1) (by omega) (by omega) _ _ hS (lv_sub hl [0, 1, 2, 3] rfl)
  exact K4 _ 0 (by omega) (Nat.lt_succ_self _) _ _ hS (lv_sub hl [0, 1, 3, 2] rfl)

set_option maxHeartbeats 4000000 in
set_option maxRecDepth 100000 in
theorem c_X0_runsAt (l : Launch) {D : va_G} {y : Nat → ClassId} {A : Nat → Prop} {ad : xL → Nat} {bl : xM} {z : xC} {g : Nat → Int32} {pl : Nat → Int32} {kn : Nat → Int64} {rw : Nat → Nat → Int64} {mi : Nat → Int64} {un : Int32} {fR fO : Nat → Nat → Option va_E} {Hs : Heap} (hP : xW D A ad (wU (wB y ad bl z g pl kn rw mi un) fR fO) Hs) (hw : wf z) {i : Nat} (hi : i < nE z) (t : Int32) : Met l yX0_runsAt (.code yX0_runsAt cX0_runsAt 2 (some .boolean) :: WG) { frames := 1, cells := 0, slots := 0, locals := 23 } (xPc [.ref (ad (13, i)), .int t] D y Hs) (xQ (fun v H1 => v = some (.int (onI z i t)) ∧ Hs = H1) A) 0 0 A := by
  refine xM_go (by decide) (Nat.le_of_ble_eq_true rfl) (fun p e s m args below meth c ls R Q hx hb hr hlocks hml hown hts hH hE hnm hRf hRl hRc hRs hQ hS hl => ?_)
  have hRf : R.frames = 1 := hRf
  have hRl : R.locals = 23 := hRl
  have hRc : R.cells = 0 := hRc
  have hRs : R.slots = 0 := hRs
  have hl : lv_has ls 2 [(0, .ref (ad (13, i))), (1, .int t)] := hl
  have hN := hw.N
  have hE20 := hw.E
  have ht := hw.t hi
  have ht6 := hw.t6 hi
  have hb6 := tb_le z i (t + nI 1) (cT z i)
  refine lv_aload_n hx hb dX0_runsAt_0 rfl (lv_at hl 0 rfl) ?_
  refine fg_X0_startsOn (i := i) (by first | assumption | omega) hx hb hts hown hE hP q_561 dX0_runsAt_1 ?_
  refine lv_aload_n hx hb dX0_runsAt_4 rfl (lv_at hl 0 rfl) ?_
  refine lv_iload_n hx hb dX0_runsAt_5 rfl (lv_at hl 1 rfl) ?_
  refine lv_iconst (v := nI 1) hx hb dX0_runsAt_6 (by decide) ?_
  refine lv_iadd hx hb dX0_runsAt_7 ?_
  refine xw_callV (C := "NetlistBench$Element") (n := 1) [.int (t + (nI 1))] (c_X0_togglesBefore l hP hw hi (t + nI 1)) hx hb hml hown hts hE hS (xr_el hE hP (by first | assumption | omega)) rfl rfl q_40 q_250 q_254 q_252 q_4 (by decide) rfl ⟨by rw [hRf]; decide, by rw [hRl]; decide⟩ hl.1 rfl (Nat.le_of_ble_eq_true rfl) dX0_runsAt_8 ⟨by rw [hRc]; decide, by rw [hRs]; decide⟩ (fun v H1 locs hp hS => ?_)
  obtain ⟨hv, hh⟩ := hp; subst hv; subst hh
  refine lv_iconst (v := nI 2) hx hb dX0_runsAt_11 (by decide) ?_
  refine lv_irem hx hb dX0_runsAt_12 (by decide) ?_
  refine xt_i (w := nI (tb z i (t + nI 1) (cT z i) % 2)) (pk_rem (by omega) (by decide) (by decide)) ?_
  refine lv_if_ne (tgt := 20) hx hb dX0_runsAt_13 (by decide) (fun c13 => ?_) (fun c13 => ?_)
  · skip
    have c13 := ni_ne (a := (tb z i (t + nI 1) (cT z i) % 2)) (b := 0) (by omega) (by omega) c13
    refine lv_iconst (v := nI 0) hx hb dX0_runsAt_20 (by decide) ?_
    refine lv_icmp_ne (tgt := 28) hx hb dX0_runsAt_21 (by decide) (fun c21 => ?_) (fun c21 => ?_)
    · skip
      refine lv_iconst (v := nI 0) hx hb dX0_runsAt_28 (by decide) ?_
      exact xe_zret hQ hx hb hr hlocks hH hS (by first | assumption | decide | omega) (Nat.le_refl _) (Nat.le_refl _) (⟨by simp [onI, c13, c21], rfl⟩) dX0_runsAt_29
    · skip
      refine lv_iconst (v := nI 1) hx hb dX0_runsAt_24 (by decide) ?_
      refine lv_goto (tgt := 29) hx hb dX0_runsAt_25 (by decide) ?_
      exact xe_zret hQ hx hb hr hlocks hH hS (by first | assumption | decide | omega) (Nat.le_refl _) (Nat.le_refl _) (⟨by simp [onI, c13, c21], rfl⟩) dX0_runsAt_29
  · skip
    have c13 := ni_eq (a := (tb z i (t + nI 1) (cT z i) % 2)) (b := 0) (by omega) (by omega) c13
    refine lv_iconst (v := nI 1) hx hb dX0_runsAt_16 (by decide) ?_
    refine lv_goto (tgt := 21) hx hb dX0_runsAt_17 (by decide) ?_
    refine lv_icmp_ne (tgt := 28) hx hb dX0_runsAt_21 (by decide) (fun c21 => ?_) (fun c21 => ?_)
    · skip
      refine lv_iconst (v := nI 0) hx hb dX0_runsAt_28 (by decide) ?_
      exact xe_zret hQ hx hb hr hlocks hH hS (by first | assumption | decide | omega) (Nat.le_refl _) (Nat.le_refl _) (⟨by simp [onI, c13, c21], rfl⟩) dX0_runsAt_29
    · skip
      refine lv_iconst (v := nI 1) hx hb dX0_runsAt_24 (by decide) ?_
      refine lv_goto (tgt := 29) hx hb dX0_runsAt_25 (by decide) ?_
      exact xe_zret hQ hx hb hr hlocks hH hS (by first | assumption | decide | omega) (Nat.le_refl _) (Nat.le_refl _) (⟨by simp [onI, c13, c21], rfl⟩) dX0_runsAt_29

set_option maxHeartbeats 4000000 in
set_option maxRecDepth 100000 in
theorem c_X0_hasToggle (l : Launch) {D : va_G} {y : Nat → ClassId} {A : Nat → Prop} {ad : xL → Nat} {bl : xM} {z : xC} {g : Nat → Int32} {pl : Nat → Int32} {kn : Nat → Int64} {rw : Nat → Nat → Int64} {mi : Nat → Int64} {un : Int32} {fR fO : Nat → Nat → Option va_E} {Hs : Heap} (hP : xW D A ad (wU (wB y ad bl z g pl kn rw mi un) fR fO) Hs) (hw : wf z) {i : Nat} (hi : i < nE z) (t : Int32) : Met l yX0_hasToggle (.code yX0_hasToggle cX0_hasToggle 2 (some .boolean) :: WG) { frames := 1, cells := 0, slots := 0, locals := 23 } (xPc [.ref (ad (13, i)), .int t] D y Hs) (xQ (fun v H1 => v = some (.int (if tb z i t (cT z i) < tb z i (t + nI 1) (cT z i) then nI 1 else nI 0)) ∧ Hs = H1) A) 0 0 A := by
  refine xM_go (by decide) (Nat.le_of_ble_eq_true rfl) (fun p e s m args below meth c ls R Q hx hb hr hlocks hml hown hts hH hE hnm hRf hRl hRc hRs hQ hS hl => ?_)
  have hRf : R.frames = 1 := hRf
  have hRl : R.locals = 23 := hRl
  have hRc : R.cells = 0 := hRc
  have hRs : R.slots = 0 := hRs
  have hl : lv_has ls 2 [(0, .ref (ad (13, i))), (1, .int t)] := hl
  have hN := hw.N
  have hE20 := hw.E
  have ht := hw.t hi
  have ht6 := hw.t6 hi
  have hb5 := tb_le z i t (cT z i)
  have hb6 := tb_le z i (t + nI 1) (cT z i)
  refine lv_aload_n hx hb dX0_hasToggle_0 rfl (lv_at hl 0 rfl) ?_
  refine lv_iload_n hx hb dX0_hasToggle_1 rfl (lv_at hl 1 rfl) ?_
  refine xw_callV (C := "NetlistBench$Element") (n := 1) [.int t] (c_X0_togglesBefore l hP hw hi t) hx hb hml hown hts hE hS (xr_el hE hP (by first | assumption | omega)) rfl rfl q_40 q_250 q_254 q_252 q_4 (by decide) rfl ⟨by rw [hRf]; decide, by rw [hRl]; decide⟩ hl.1 rfl (Nat.le_of_ble_eq_true rfl) dX0_hasToggle_2 ⟨by rw [hRc]; decide, by rw [hRs]; decide⟩ (fun v H1 locs hp hS => ?_)
  obtain ⟨hv, hh⟩ := hp; subst hv; subst hh
  refine lv_aload_n hx hb dX0_hasToggle_5 rfl (lv_at hl 0 rfl) ?_
  refine lv_iload_n hx hb dX0_hasToggle_6 rfl (lv_at hl 1 rfl) ?_
  refine lv_iconst (v := nI 1) hx hb dX0_hasToggle_7 (by decide) ?_
  refine lv_iadd hx hb dX0_hasToggle_8 ?_
  refine xw_callV (C := "NetlistBench$Element") (n := 1) [.int (t + (nI 1))] (c_X0_togglesBefore l hP hw hi (t + nI 1)) hx hb hml hown hts hE hS (xr_el hE hP (by first | assumption | omega)) rfl rfl q_40 q_250 q_254 q_252 q_4 (by decide) rfl ⟨by rw [hRf]; decide, by rw [hRl]; decide⟩ hl.1 rfl (Nat.le_of_ble_eq_true rfl) dX0_hasToggle_9 ⟨by rw [hRc]; decide, by rw [hRs]; decide⟩ (fun v H1 locs hp hS => ?_)
  obtain ⟨hv, hh⟩ := hp; subst hv; subst hh
  refine lv_icmp_ge (tgt := 19) hx hb dX0_hasToggle_12 (by decide) (fun c12 => ?_) (fun c12 => ?_)
  · skip
    have c12 := ni_le (a := (tb z i (t + nI 1) (cT z i))) (b := (tb z i t (cT z i))) (by omega) (by omega) c12
    refine lv_iconst (v := nI 0) hx hb dX0_hasToggle_19 (by decide) ?_
    exact xe_zret hQ hx hb hr hlocks hH hS (by first | assumption | decide | omega) (Nat.le_refl _) (Nat.le_refl _) (⟨by simp; omega, rfl⟩) dX0_hasToggle_20
  · skip
    have c12 := ni_nle (a := (tb z i (t + nI 1) (cT z i))) (b := (tb z i t (cT z i))) (by omega) (by omega) c12
    refine lv_iconst (v := nI 1) hx hb dX0_hasToggle_15 (by decide) ?_
    refine lv_goto (tgt := 20) hx hb dX0_hasToggle_16 (by decide) ?_
    exact xe_zret hQ hx hb hr hlocks hH hS (by first | assumption | decide | omega) (Nat.le_refl _) (Nat.le_refl _) (⟨by simp; omega, rfl⟩) dX0_hasToggle_20

set_option maxHeartbeats 4000000 in
set_option maxRecDepth 100000 in
theorem c_X0_toggleTime (l : Launch) {D : va_G} {y : Nat → ClassId} {A : Nat → Prop} {ad : xL → Nat} {bl : xM} {z : xC} {g : Nat → Int32} {pl : Nat → Int32} {kn : Nat → Int64} {rw : Nat → Nat → Int64} {mi : Nat → Int64} {un : Int32} {fR fO : Nat → Nat → Option va_E} {Hs : Heap} (hP : xW D A ad (wU (wB y ad bl z g pl kn rw mi un) fR fO) Hs) (hw : wf z) {i : Nat} (hi : i < nE z) (k : Int32) : Met l yX0_toggleTime (.code yX0_toggleTime cX0_toggleTime 2 (some .int) :: WG) { frames := 0, cells := 0, slots := 0, locals := 0 } (xPc [.ref (ad (13, i)), .int k] D y Hs) (xQ (fun v H1 => v = some (.int (tgt z i k)) ∧ Hs = H1) A) 0 0 A := by
  refine xM_go (by decide) (Nat.le_of_ble_eq_true rfl) (fun p e s m args below meth c ls R Q hx hb hr hlocks hml hown hts hH hE hnm hRf hRl hRc hRs hQ hS hl => ?_)
  have hRf : R.frames = 0 := hRf
  have hRl : R.locals = 0 := hRl
  have hRc : R.cells = 0 := hRc
  have hRs : R.slots = 0 := hRs
  have hl : lv_has ls 2 [(0, .ref (ad (13, i))), (1, .int k)] := hl
  have hN := hw.N
  have hE20 := hw.E
  have ht := hw.t hi
  have ht6 := hw.t6 hi
  refine lv_iload_n hx hb dX0_toggleTime_0 rfl (lv_at hl 1 rfl) ?_
  refine lv_if_lt (tgt := 21) hx hb dX0_toggleTime_1 (by decide) (fun c1 => ?_) (fun c1 => ?_)
  · skip
    refine lv_iconst (v := (-1)) hx hb dX0_toggleTime_21 (by decide) ?_
    exact xe_iret hQ hx hb hr hlocks hH hS (Nat.le_refl _) (Nat.le_refl _) (⟨by first | (simp [tgt, c1]; done) | (rw [ht] at c9; simp [tgt, c1, ht, c9]; done), rfl⟩) dX0_toggleTime_22
  · skip
    refine lv_iload_n hx hb dX0_toggleTime_4 rfl (lv_at hl 1 rfl) ?_
    refine lv_aload_n hx hb dX0_toggleTime_5 rfl (lv_at hl 0 rfl) ?_
    refine fg_X0_toggles (i := i) (by first | assumption | omega) hx hb hts hown hE hP q_563 dX0_toggleTime_6 ?_
    refine lv_icmp_ge (tgt := 21) hx hb dX0_toggleTime_9 (by decide) (fun c9 => ?_) (fun c9 => ?_)
    · skip
      refine lv_iconst (v := (-1)) hx hb dX0_toggleTime_21 (by decide) ?_
      exact xe_iret hQ hx hb hr hlocks hH hS (Nat.le_refl _) (Nat.le_refl _) (⟨by first | (simp [tgt, c1]; done) | (rw [ht] at c9; simp [tgt, c1, ht, c9]; done), rfl⟩) dX0_toggleTime_22
    · skip
      obtain ⟨j, hj, rfl⟩ := nI_of c1
      rw [ht] at c9
      have hj6 := ni_nle (by omega) (by omega) c9
      refine lv_aload_n hx hb dX0_toggleTime_12 rfl (lv_at hl 0 rfl) ?_
      refine fg_X0_times (i := i) (by first | assumption | omega) hx hb hts hown hE hP q_565 dX0_toggleTime_13 ?_
      refine lv_iload_n hx hb dX0_toggleTime_16 rfl (lv_at hl 1 rfl) ?_
      refine al_times (i := i) (by first | assumption | omega) hx hb hE hP (j := j) (by omega) dX0_toggleTime_17 ?_
      refine lv_goto (tgt := 22) hx hb dX0_toggleTime_18 (by decide) ?_
      exact xe_iret hQ hx hb hr hlocks hH hS (Nat.le_refl _) (Nat.le_refl _) (⟨by simp [tgt, c1, ht, c9, nI_clamp hj], rfl⟩) dX0_toggleTime_22

set_option maxHeartbeats 4000000 in
set_option maxRecDepth 100000 in
theorem c_X0_toggleBehind (l : Launch) {D : va_G} {y : Nat → ClassId} {A : Nat → Prop} {ad : xL → Nat} {bl : xM} {z : xC} {g : Nat → Int32} {pl : Nat → Int32} {kn : Nat → Int64} {rw : Nat → Nat → Int64} {mi : Nat → Int64} {un : Int32} {fR fO : Nat → Nat → Option va_E} {Hs : Heap} (hP : xW D A ad (wU (wB y ad bl z g pl kn rw mi un) fR fO) Hs) (hw : wf z) {i : Nat} (hi : i < nE z) (t : Int32) : Met l yX0_toggleBehind (.code yX0_toggleBehind cX0_toggleBehind 2 (some .int) :: WG) { frames := 1, cells := 0, slots := 0, locals := 23 } (xPc [.ref (ad (13, i)), .int t] D y Hs) (xQ (fun v H1 => v = some (.int (tgb z i t)) ∧ Hs = H1) A) 0 0 A := by
  refine xM_go (by decide) (Nat.le_of_ble_eq_true rfl) (fun p e s m args below meth c ls R Q hx hb hr hlocks hml hown hts hH hE hnm hRf hRl hRc hRs hQ hS hl => ?_)
  have hRf : R.frames = 1 := hRf
  have hRl : R.locals = 23 := hRl
  have hRc : R.cells = 0 := hRc
  have hRs : R.slots = 0 := hRs
  have hl : lv_has ls 2 [(0, .ref (ad (13, i))), (1, .int t)] := hl
  have hN := hw.N
  have hE20 := hw.E
  have ht := hw.t hi
  have ht6 := hw.t6 hi
  refine lv_aload_n hx hb dX0_toggleBehind_0 rfl (lv_at hl 0 rfl) ?_
  refine lv_aload_n hx hb dX0_toggleBehind_1 rfl (lv_at hl 0 rfl) ?_
  refine lv_iload_n hx hb dX0_toggleBehind_2 rfl (lv_at hl 1 rfl) ?_
  refine lv_iconst (v := nI 1) hx hb dX0_toggleBehind_3 (by decide) ?_
  refine lv_iadd hx hb dX0_toggleBehind_4 ?_
  refine xw_callV (C := "NetlistBench$Element") (n := 1) [.int (t + (nI 1))] (c_X0_togglesBefore l hP hw hi (t + nI 1)) hx hb hml hown hts hE hS (xr_el hE hP (by first | assumption | omega)) rfl rfl q_40 q_250 q_254 q_252 q_4 (by decide) rfl ⟨by rw [hRf]; decide, by rw [hRl]; decide⟩ hl.1 rfl (Nat.le_of_ble_eq_true rfl) dX0_toggleBehind_5 ⟨by rw [hRc]; decide, by rw [hRs]; decide⟩ (fun v H1 locs hp hS => ?_)
  obtain ⟨hv, hh⟩ := hp; subst hv; subst hh
  refine xw_callV (C := "NetlistBench$Element") (n := 1) [.int (nI (tb z i (t + nI 1) (cT z i)))] (c_X0_toggleTime l hP hw hi (nI (tb z i (t + nI 1) (cT z i)))) hx hb hml hown hts hE hS (xr_el hE hP (by first | assumption | omega)) rfl rfl q_40 q_399 q_402 q_400 q_401 (by decide) rfl ⟨by rw [hRf]; decide, by rw [hRl]; decide⟩ hl.1 rfl (Nat.le_of_ble_eq_true rfl) dX0_toggleBehind_8 ⟨by rw [hRc]; decide, by rw [hRs]; decide⟩ (fun v H1 locs hp hS => ?_)
  obtain ⟨hv, hh⟩ := hp; subst hv; subst hh
  exact xe_iret hQ hx hb hr hlocks hH hS (Nat.le_refl _) (Nat.le_refl _) (⟨rfl, rfl⟩) dX0_toggleBehind_11

set_option maxHeartbeats 4000000 in
set_option maxRecDepth 100000 in
theorem c_X3_contains (l : Launch) {D : va_G} {y : Nat → ClassId} {A : Nat → Prop}  {Hs : Heap} (x : Int32) (k : Nat) : Met l yX3_contains (.code yX3_contains cX3_contains 2 (some .boolean) :: WG) { frames := 0, cells := 0, slots := 0, locals := 0 } (xPc [.int x, .int (nI k)] D y Hs) (xQ (fun v H1 => v = some (.int (if x >>> (nI k &&& 31) &&& nI 1 = 0 then nI 0 else nI 1)) ∧ Hs = H1) A) 0 0 A := by
  refine xM_go (by decide) (Nat.le_of_ble_eq_true rfl) (fun p e s m args below meth c ls R Q hx hb hr hlocks hml hown hts hH hE hnm hRf hRl hRc hRs hQ hS hl => ?_)
  have hRf : R.frames = 0 := hRf
  have hRl : R.locals = 0 := hRl
  have hRc : R.cells = 0 := hRc
  have hRs : R.slots = 0 := hRs
  have hl : lv_has ls 2 [(0, .int x), (1, .int (nI k))] := hl
  refine lv_iload_n hx hb dX3_contains_0 rfl (lv_at hl 0 rfl) ?_
  refine lv_iload_n hx hb dX3_contains_1 rfl (lv_at hl 1 rfl) ?_
  refine lv_ishr hx hb dX3_contains_2 ?_
  refine lv_iconst (v := nI 1) hx hb dX3_contains_3 (by decide) ?_
  refine lv_iand hx hb dX3_contains_4 ?_
  refine lv_if_eq (tgt := 12) hx hb dX3_contains_5 (by decide) (fun c5 => ?_) (fun c5 => ?_)
  · skip
    refine lv_iconst (v := nI 0) hx hb dX3_contains_12 (by decide) ?_
    exact xe_zret hQ hx hb hr hlocks hH hS (by first | assumption | decide | omega) (Nat.le_refl _) (Nat.le_refl _) (⟨by simp [c5], rfl⟩) dX3_contains_13
  · skip
    refine lv_iconst (v := nI 1) hx hb dX3_contains_8 (by decide) ?_
    refine lv_goto (tgt := 13) hx hb dX3_contains_9 (by decide) ?_
    exact xe_zret hQ hx hb hr hlocks hH hS (by first | assumption | decide | omega) (Nat.le_refl _) (Nat.le_refl _) (⟨by simp [c5], rfl⟩) dX3_contains_13
