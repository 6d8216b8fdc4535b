set_option maxHeartbeats 4000000 in
set_option maxRecDepth 100000 in
theorem c_X4_clear (l : Launch) {D : va_G} {y : Nat → ClassId} {A : Nat → Prop} {ad : xL → Nat} {th : Int32} {w : xC} {qp : Nat → Int32} {qm : Nat → Int64} {qr : Nat → Int64} {qi : Nat → Int64} {qn : Nat → Int64} {qf : Nat → Int32} {qu : Int32} {qd : Int64} {fB fO : Nat → Nat → Option va_E} {Hs : Heap} (hP : xW D A ad (wU fB (wR y ad th w qp qm qr qi qn qf qu qd) fO) Hs)  : Met l yX4_clear (.code yX4_clear cX4_clear 2 none :: WG) { frames := 0, cells := 0, slots := 0, locals := 0 } (xPc [.ref (ad (20, 0))] D y Hs) (xQ (fun v H1 => v = none ∧ xW D A ad (wU fB (wR y ad th w ((fun _ => -1)) ((mQ (fun _ _ => 0))) ((fun _ => 0)) qi qn qf (nI 0) qd) fO) H1) A) 0 0 A := by
  refine xM_go (by decide) (Nat.le_of_ble_eq_true rfl) (fun p e s m args below meth c ls R Q hx hb hr hlocks hml hown hts hH hE hnm hRf hRl hRc hRs hQ hS hl => ?_)
  have hRf : R.frames = 0 := hRf
  have hRl : R.locals = 0 := hRl
  have hRc : R.cells = 0 := hRc
  have hRs : R.slots = 0 := hRs
  have hl : lv_has ls 2 [(0, .ref (ad (20, 0)))] := hl
  refine lv_aload_n hx hb dX4_clear_0 rfl (lv_at hl 0 rfl) ?_
  refine lv_iconst (v := nI 0) hx hb dX4_clear_1 (by decide) ?_
  refine fp_X4_unknown hx hb hts hown hE hS hP q_740 dX4_clear_2 (fun H locs hP hS => ?_)
  refine lv_iconst (v := nI 0) hx hb dX4_clear_5 (by decide) ?_
  refine lv_istore_n (lv' := [(1, .int (nI 0)), (0, .ref (ad (20, 0)))]) hx hb dX4_clear_6 rfl hl (by decide) rfl (fun ls hl => ?_)
  have K7 : ∀ (nn : Nat), ∀ (i : Nat) (qp : Nat → Int32), (i ≤ 8) → (∀ j, j < i → qp j = -1) → 8 - i < nn → ∀ (H : Heap) (locs : List Loc) (ls : Array Slot), xW D A ad (wU fB (wR y ad th w qp qm qr qi qn qf (nI 0) qd) fO) H → va_S A Hs H locs → lv_has ls 2 [(1, .int (nI i)), (0, .ref (ad (20, 0)))] → W p l e R s m args below meth c H locs 0 0 Q (F0 m 7 ls []) := by
    intro nn
    induction nn with
    | zero => intro i qp hi hp h; exact absurd h (Nat.not_lt_zero _)
    | succ nn ih7 =>
      intro i qp hi hp hn7 H locs ls hP hS hl
      refine lv_iload_n hx hb dX4_clear_7 rfl (lv_at hl 0 rfl) ?_
      refine lv_bipush (v := nI 8) hx hb dX4_clear_8 (by decide) ?_
      refine lv_icmp_ge (tgt := 26) hx hb dX4_clear_10 (by decide) (fun c10 => ?_) (fun c10 => ?_)
      · skip
        have c10 := ni_le (a := 8) (b := i) (by omega) (by omega) c10
        refine lv_iconst (v := nI 0) hx hb dX4_clear_26 (by decide) ?_
        refine lv_istore_n (lv' := [(1, .int (nI 0)), (0, .ref (ad (20, 0)))]) hx hb dX4_clear_27 rfl hl (by decide) rfl (fun ls hl => ?_)
        have K28 : ∀ (nn : Nat), ∀ (k : Nat) (qm : Nat → Int64), (k ≤ 64) → (∀ j, j < k → qm j = 0) → 64 - k < nn → ∀ (H : Heap) (locs : List Loc) (ls : Array Slot), xW D A ad (wU fB (wR y ad th w qp qm qr qi qn qf (nI 0) qd) fO) H → va_S A Hs H locs → lv_has ls 2 [(1, .int (nI k)), (0, .ref (ad (20, 0)))] → W p l e R s m args below meth c H locs 0 0 Q (F0 m 28 ls []) := by
          intro nn
          induction nn with
          | zero => intro k qm hk hm h; exact absurd h (Nat.not_lt_zero _)
          | succ nn ih28 =>
            intro k qm hk hm hn28 H locs ls hP hS hl
            refine lv_iload_n hx hb dX4_clear_28 rfl (lv_at hl 0 rfl) ?_
            refine lv_aload_n hx hb dX4_clear_29 rfl (lv_at hl 1 rfl) ?_
            refine fg_X4_matrix hx hb hts hown hE hP q_742 dX4_clear_30 ?_
            refine xw_lalen hx hb hE hP (31, 0) rfl dX4_clear_33 ?_
            refine lv_icmp_ge (tgt := 50) hx hb dX4_clear_34 (by decide) (fun c34 => ?_) (fun c34 => ?_)
            · skip
              have c34 := ni_le (a := 64) (b := k) (by omega) (by omega) c34
              refine lv_iconst (v := nI 0) hx hb dX4_clear_50 (by decide) ?_
              refine lv_istore_n (lv' := [(1, .int (nI 0)), (0, .ref (ad (20, 0)))]) hx hb dX4_clear_51 rfl hl (by decide) rfl (fun ls hl => ?_)
              have K52 : ∀ (nn : Nat), ∀ (o : Nat) (qr : Nat → Int64), (o ≤ 8) → (∀ j, j < o → qr j = 0) → 8 - o < nn → ∀ (H : Heap) (locs : List Loc) (ls : Array Slot), xW D A ad (wU fB (wR y ad th w qp qm qr qi qn qf (nI 0) qd) fO) H → va_S A Hs H locs → lv_has ls 2 [(1, .int (nI o)), (0, .ref (ad (20, 0)))] → W p l e R s m args below meth c H locs 0 0 Q (F0 m 52 ls []) := by
                intro nn
                induction nn with
                | zero => intro o qr ho hr9 h; exact absurd h (Nat.not_lt_zero _)
                | succ nn ih52 =>
                  intro o qr ho hr9 hn52 H locs ls hP hS hl
                  refine lv_iload_n hx hb dX4_clear_52 rfl (lv_at hl 0 rfl) ?_
                  refine lv_bipush (v := nI 8) hx hb dX4_clear_53 (by decide) ?_
                  refine lv_icmp_ge (tgt := 71) hx hb dX4_clear_55 (by decide) (fun c55 => ?_) (fun c55 => ?_)
                  · skip
                    have c55 := ni_le (a := 8) (b := o) (by omega) (by omega) c55
                    exact xe_vret hQ hx hb hr hlocks hH hS (Nat.le_refl _) (Nat.le_refl _) (⟨rfl, xW_q hP (fun j h => hp j (by omega)) (fun j h => hm j (by omega)) (fun j h => hr9 j (by omega))⟩) dX4_clear_71
                  · skip
                    have c55 := ni_nle (a := 8) (b := o) (by omega) (by omega) c55
                    refine lv_aload_n hx hb dX4_clear_58 rfl (lv_at hl 1 rfl) ?_
                    refine fg_X4_right hx hb hts hown hE hP q_743 dX4_clear_59 ?_
                    refine lv_iload_n hx hb dX4_clear_62 rfl (lv_at hl 0 rfl) ?_
                    refine lv_lconst (v := 0) hx hb dX4_clear_63 (by decide) ?_
                    refine as_right hx hb hE hS hP (j := o) (by omega) dX4_clear_64 (fun H locs hP hS => ?_)
                    refine lv_iinc (v := nI (o + 1)) (lv' := [(1, .int (nI (o + 1))), (0, .ref (ad (20, 0)))]) hx hb dX4_clear_65 hl (k := 0) rfl (nI_1 _) (by decide) rfl (fun ls hl => ?_)
                    refine lv_goto (tgt := 52) hx hb dX4_clear_68 (by decide) ?_
                    exact ih52 (o + 1) (vp_updL qr o 0) (by omega) (updL_all hr9) (by omega) _ _ _ hP hS (lv_sub hl [0, 1] rfl)
              exact K52 _ 0 qr (by omega) no_lt (Nat.lt_succ_self _) _ _ _ hP hS (lv_sub hl [0, 1] rfl)
            · skip
              have c34 := ni_nle (a := 64) (b := k) (by omega) (by omega) c34
              refine lv_aload_n hx hb dX4_clear_37 rfl (lv_at hl 1 rfl) ?_
              refine fg_X4_matrix hx hb hts hown hE hP q_742 dX4_clear_38 ?_
              refine lv_iload_n hx hb dX4_clear_41 rfl (lv_at hl 0 rfl) ?_
              refine lv_lconst (v := 0) hx hb dX4_clear_42 (by decide) ?_
              refine as_matrix hx hb hE hS hP (j := k) (by omega) dX4_clear_43 (fun H locs hP hS => ?_)
              refine lv_iinc (v := nI (k + 1)) (lv' := [(1, .int (nI (k + 1))), (0, .ref (ad (20, 0)))]) hx hb dX4_clear_44 hl (k := 0) rfl (nI_1 _) (by decide) rfl (fun ls hl => ?_)
              refine lv_goto (tgt := 28) hx hb dX4_clear_47 (by decide) ?_
              exact ih28 (k + 1) (vp_updL qm k 0) (by omega) (updL_all hm) (by omega) _ _ _ hP hS (lv_sub hl [0, 1] rfl)
        exact K28 _ 0 qm (by omega) no_lt (Nat.lt_succ_self _) _ _ _ hP hS (lv_sub hl [0, 1] rfl)
      · skip
        have c10 := ni_nle (a := 8) (b := i) (by omega) (by omega) c10
        refine lv_aload_n hx hb dX4_clear_13 rfl (lv_at hl 1 rfl) ?_
        refine fg_X4_places hx hb hts hown hE hP q_741 dX4_clear_14 ?_
        refine lv_iload_n hx hb dX4_clear_17 rfl (lv_at hl 0 rfl) ?_
        refine lv_iconst (v := (-1)) hx hb dX4_clear_18 (by decide) ?_
        refine as_qplaces hx hb hE hS hP (j := i) (by omega) dX4_clear_19 (fun H locs hP hS => ?_)
        refine lv_iinc (v := nI (i + 1)) (lv' := [(1, .int (nI (i + 1))), (0, .ref (ad (20, 0)))]) hx hb dX4_clear_20 hl (k := 0) rfl (nI_1 _) (by decide) rfl (fun ls hl => ?_)
        refine lv_goto (tgt := 7) hx hb dX4_clear_23 (by decide) ?_
        exact ih7 (i + 1) (upd qp i (-1)) (by omega) (upd_all hp) (by omega) _ _ _ hP hS (lv_sub hl [0, 1] rfl)
  exact K7 _ 0 qp (by omega) no_lt (Nat.lt_succ_self _) _ _ _ hP hS (lv_sub hl [0, 1] rfl)

set_option maxHeartbeats 4000000 in
set_option maxRecDepth 100000 in
theorem c_X4_lay (l : Launch) {D : va_G} {y : Nat → ClassId} {A : Nat → Prop} {ad : xL → Nat} {th : Int32} {w : xC} {qp : Nat → Int32} {qi : Nat → Int64} {qn : Nat → Int64} {qf : Nat → Int32} {qd : Int64} {rw : Nat → Nat → Int64} {rr : Nat → Int64} {n : Nat} {fB fO : Nat → Nat → Option va_E} {Hs : Heap} (hP : xW D A ad (wU fB (wR y ad th w qp (mQ rw) rr qi qn qf (nI n) qd) fO) Hs) (hn : n ≤ 8) (hpl : plQ qp n) {a b : Nat} (ha : a < 8) (hb8 : b < 8) (g : Int32) : Met l yX4_lay (.code yX4_lay cX4_lay 5 none :: WG) { frames := 0, cells := 0, slots := 0, locals := 0 } (xPc [.ref (ad (20, 0)), .int (nI a), .int (nI b), .int g] D y Hs) (xQ (fun v H1 => v = none ∧ xW D A ad (wU fB (wR y ad th w qp (mQ (lyM rw qp a b g.toInt64)) (lyR rr qp (nP w) a b g.toInt64) qi qn qf (nI n) qd) fO) H1) A) 0 0 A := by
  refine xM_go (by decide) (Nat.le_of_ble_eq_true rfl) (fun p e s m args below meth c ls R Q hx hb hr hlocks hml hown hts hH hE hnm hRf hRl hRc hRs hQ hS hl => ?_)
  have hRf : R.frames = 0 := hRf
  have hRl : R.locals = 0 := hRl
  have hRc : R.cells = 0 := hRc
  have hRs : R.slots = 0 := hRs
  have hl : lv_has ls 5 [(0, .ref (ad (20, 0))), (1, .int (nI a)), (2, .int (nI b)), (3, .int g)] := hl
  refine lv_aload_n hx hb dX4_lay_0 rfl (lv_at hl 0 rfl) ?_
  refine fg_X4_places hx hb hts hown hE hP q_741 dX4_lay_1 ?_
  refine lv_iload_n hx hb dX4_lay_4 rfl (lv_at hl 1 rfl) ?_
  refine al_qplaces hx hb hE hP (j := a) (by omega) dX4_lay_5 ?_
  refine lv_istore (lv' := [(4, .int (qp a)), (0, .ref (ad (20, 0))), (1, .int (nI a)), (2, .int (nI b)), (3, .int g)]) hx hb dX4_lay_6 hl (by decide) rfl (fun ls hl => ?_)
  refine lv_iload hx hb dX4_lay_8 (lv_at hl 0 rfl) ?_
  refine lv_iconst (v := (-1)) hx hb dX4_lay_10 (by decide) ?_
  refine lv_icmp_ne (tgt := 15) hx hb dX4_lay_11 (by decide) (fun c11 => ?_) (fun c11 => ?_)
  · skip
    obtain ⟨k, hk, ek, ck⟩ := hpl.at ha c11 (by omega)
    rw [ek] at hl
    refine lv_aload_n hx hb dX4_lay_15 rfl (lv_at hl 1 rfl) ?_
    refine fg_X4_matrix hx hb hts hown hE hP q_742 dX4_lay_16 ?_
    refine lv_bipush (v := nI 8) hx hb dX4_lay_19 (by decide) ?_
    refine lv_iload hx hb dX4_lay_21 (lv_at hl 0 rfl) ?_
    refine lv_imul hx hb dX4_lay_23 ?_
    refine xt_i (pk_mul 8 k) ?_
    refine lv_iload hx hb dX4_lay_24 (lv_at hl 0 rfl) ?_
    refine lv_iadd hx hb dX4_lay_26 ?_
    refine xt_i (nI_add (8 * k) k) ?_
    refine lv_dup2_11 hx hb dX4_lay_27 rfl rfl ?_
    refine al_matrix hx hb hE hP (j := (8 * k) + k) (by omega) dX4_lay_28 ?_
    refine xt_l (w := rw k k) (mQ_at rw (by omega)) ?_
    refine lv_iload_n hx hb dX4_lay_29 rfl (lv_at hl 4 rfl) ?_
    refine lv_i2l (v := g.toInt64) hx hb dX4_lay_30 rfl ?_
    refine lv_ladd hx hb dX4_lay_31 ?_
    refine as_matrix hx hb hE hS hP (j := (8 * k) + k) (by omega) dX4_lay_32 (fun H locs hP hS => ?_)
    rw [mQ_up _ (by omega)] at hP
    refine lv_aload_n hx hb dX4_lay_33 rfl (lv_at hl 1 rfl) ?_
    refine fg_X4_places hx hb hts hown hE hP q_741 dX4_lay_34 ?_
    refine lv_iload_n hx hb dX4_lay_37 rfl (lv_at hl 3 rfl) ?_
    refine al_qplaces hx hb hE hP (j := b) (by omega) dX4_lay_38 ?_
    refine lv_iconst (v := (-1)) hx hb dX4_lay_39 (by decide) ?_
    refine lv_icmp_eq (tgt := 68) hx hb dX4_lay_40 (by decide) (fun c40 => ?_) (fun c40 => ?_)
    · skip
      refine lv_aload_n hx hb dX4_lay_68 rfl (lv_at hl 1 rfl) ?_
      refine fg_X4_right hx hb hts hown hE hP q_743 dX4_lay_69 ?_
      refine lv_iload hx hb dX4_lay_72 (lv_at hl 0 rfl) ?_
      refine lv_dup2_11 hx hb dX4_lay_74 rfl rfl ?_
      refine al_right hx hb hE hP (j := k) (by omega) dX4_lay_75 ?_
      refine lv_iload_n hx hb dX4_lay_76 rfl (lv_at hl 4 rfl) ?_
      refine lv_i2l (v := g.toInt64) hx hb dX4_lay_77 rfl ?_
      refine lv_aload_n hx hb dX4_lay_78 rfl (lv_at hl 1 rfl) ?_
      refine fg_X4_railPotentials hx hb hts hown hE hP q_731 dX4_lay_79 ?_
      refine lv_iload_n hx hb dX4_lay_82 rfl (lv_at hl 3 rfl) ?_
      refine al_railPotentials hx hb hE hP (j := b) (by omega) dX4_lay_83 ?_
      refine lv_i2l (v := (nP w b).toInt64) hx hb dX4_lay_84 rfl ?_
      refine lv_lmul hx hb dX4_lay_85 ?_
      refine lv_ladd hx hb dX4_lay_86 ?_
      refine as_right hx hb hE hS hP (j := k) (by omega) dX4_lay_87 (fun H locs hP hS => ?_)
      exact xe_vret hQ hx hb hr hlocks hH hS (Nat.le_refl _) (Nat.le_refl _) (⟨rfl, by rw [lyM, lyR, if_neg c11, if_neg c11, if_pos c40, if_pos c40, ck]; exact hP⟩) dX4_lay_88
    · skip
      obtain ⟨k2, hk2, ek2, ck2⟩ := hpl.at hb8 c40 (by omega)
      refine lv_aload_n hx hb dX4_lay_43 rfl (lv_at hl 1 rfl) ?_
      refine fg_X4_matrix hx hb hts hown hE hP q_742 dX4_lay_44 ?_
      refine lv_bipush (v := nI 8) hx hb dX4_lay_47 (by decide) ?_
      refine lv_iload hx hb dX4_lay_49 (lv_at hl 0 rfl) ?_
      refine lv_imul hx hb dX4_lay_51 ?_
      refine xt_i (pk_mul 8 k) ?_
      refine lv_aload_n hx hb dX4_lay_52 rfl (lv_at hl 1 rfl) ?_
      refine fg_X4_places hx hb hts hown hE hP q_741 dX4_lay_53 ?_
      refine lv_iload_n hx hb dX4_lay_56 rfl (lv_at hl 3 rfl) ?_
      refine al_qplaces hx hb hE hP (j := b) (by omega) dX4_lay_57 ?_
      refine xt_i (w := nI k2) (ek2) ?_
      refine lv_iadd hx hb dX4_lay_58 ?_
      refine xt_i (nI_add (8 * k) k2) ?_
      refine lv_dup2_11 hx hb dX4_lay_59 rfl rfl ?_
      refine al_matrix hx hb hE hP (j := (8 * k) + k2) (by omega) dX4_lay_60 ?_
      refine xt_l (w := u2 rw k k (rw k k + g.toInt64) k k2) (mQ_at _ (by omega)) ?_
      refine lv_iload_n hx hb dX4_lay_61 rfl (lv_at hl 4 rfl) ?_
      refine lv_i2l (v := g.toInt64) hx hb dX4_lay_62 rfl ?_
      refine lv_lsub hx hb dX4_lay_63 ?_
      refine as_matrix hx hb hE hS hP (j := (8 * k) + k2) (by omega) dX4_lay_64 (fun H locs hP hS => ?_)
      rw [mQ_up _ (by omega)] at hP
      refine lv_goto (tgt := 88) hx hb dX4_lay_65 (by decide) ?_
      exact xe_vret hQ hx hb hr hlocks hH hS (Nat.le_refl _) (Nat.le_refl _) (⟨rfl, by rw [lyM, lyR, if_neg c11, if_neg c11, if_neg c40, if_neg c40, ck, ck2]; exact hP⟩) dX4_lay_88
  · skip
    exact xe_vret hQ hx hb hr hlocks hH hS (Nat.le_refl _) (Nat.le_refl _) (⟨rfl, by rw [lyM, lyR, if_pos c11, if_pos c11]; exact hP⟩) dX4_lay_14

set_option maxHeartbeats 4000000 in
set_option maxRecDepth 100000 in
theorem c_X4_determinant (l : Launch) {D : va_G} {y : Nat → ClassId} {A : Nat → Prop} {ad : xL → Nat} {th : Int32} {w : xC} {qp : Nat → Int32} {qi : Nat → Int64} {qn : Nat → Int64} {qf : Nat → Int32} {qd : Int64} {rw : Nat → Nat → Int64} {rr : Nat → Int64} {n : Nat} {fB fO : Nat → Nat → Option va_E} {Hs : Heap} (hP : xW D A ad (wU fB (wR y ad th w qp (mQ rw) rr qi qn qf (nI n) qd) fO) Hs) (hn : n ≤ 7) (x : Int32) : Met l yX4_determinant (.code yX4_determinant cX4_determinant 11 (some .long) :: WG) { frames := 1, cells := 0, slots := 0, locals := 20 } (xPc [.ref (ad (20, 0)), .int x] D y Hs) (xQ (fun v H1 => ∃ qj : Nat → Int64, v = some (.long (dm (eQ rw rr x) n (2 ^ n - 1))) ∧ xW D A ad (wU fB (wR y ad th w qp (mQ rw) rr qj qn qf (nI n) qd) fO) H1) A) 0 0 A := by
  refine xM_go (by decide) (Nat.le_of_ble_eq_true rfl) (fun p e s m args below meth c ls R Q hx hb hr hlocks hml hown hts hH hE hnm hRf hRl hRc hRs hQ hS hl => ?_)
  have hRf : R.frames = 1 := hRf
  have hRl : R.locals = 20 := hRl
  have hRc : R.cells = 0 := hRc
  have hRs : R.slots = 0 := hRs
  have hl : lv_has ls 11 [(0, .ref (ad (20, 0))), (1, .int x)] := hl
  have h8 : 2 ^ n ≤ 2 ^ 7 := Nat.pow_le_pow_right (by decide) hn
  have h1n : 0 < 2 ^ n := Nat.pow_pos (by decide)
  refine lv_aload_n hx hb dX4_determinant_0 rfl (lv_at hl 0 rfl) ?_
  refine fg_X4_minors hx hb hts hown hE hP q_744 dX4_determinant_1 ?_
  refine lv_iconst (v := nI 0) hx hb dX4_determinant_4 (by decide) ?_
  refine lv_lconst (v := 1) hx hb dX4_determinant_5 (by decide) ?_
  refine as_qminors hx hb hE hS hP (j := 0) (by omega) dX4_determinant_6 (fun H locs hP hS => ?_)
  refine lv_iconst (v := nI 1) hx hb dX4_determinant_7 (by decide) ?_
  refine lv_istore_n (lv' := [(2, .int (nI 1)), (0, .ref (ad (20, 0))), (1, .int x)]) hx hb dX4_determinant_8 rfl hl (by decide) rfl (fun ls hl => ?_)
  have K9 : ∀ (nn : Nat), ∀ (M : Nat) (qi : Nat → Int64), (0 < M) → (M ≤ 2 ^ n) → (∀ j, j < M → qi j = dm (eQ rw rr x) n j) → 2 ^ n - M < nn → ∀ (H : Heap) (locs : List Loc) (ls : Array Slot), xW D A ad (wU fB (wR y ad th w qp (mQ rw) rr qi qn qf (nI n) qd) fO) H → va_S A Hs H locs → lv_has ls 11 [(2, .int (nI M)), (1, .int x), (0, .ref (ad (20, 0)))] → W p l e R s m args below meth c H locs 0 0 Q (F0 m 9 ls []) := by
    intro nn
    induction nn with
    | zero => intro M qi hM0 hM hd h; exact absurd h (Nat.not_lt_zero _)
    | succ nn ih9 =>
      intro M qi hM0 hM hd hn9 H locs ls hP hS hl
      refine lv_iload_n hx hb dX4_determinant_9 rfl (lv_at hl 0 rfl) ?_
      refine lv_iconst (v := nI 1) hx hb dX4_determinant_10 (by decide) ?_
      refine lv_aload_n hx hb dX4_determinant_11 rfl (lv_at hl 2 rfl) ?_
      refine fg_X4_unknown hx hb hts hown hE hP q_740 dX4_determinant_12 ?_
      refine lv_ishl hx hb dX4_determinant_15 ?_
      refine xt_i (w := nI (2 ^ n)) (m_pw n (by omega)) ?_
      refine lv_icmp_ge (tgt := 147) hx hb dX4_determinant_16 (by decide) (fun c16 => ?_) (fun c16 => ?_)
      · skip
        have c16 := ni_le (a := (2 ^ n)) (b := M) (by omega) (by omega) c16
        refine lv_aload_n hx hb dX4_determinant_147 rfl (lv_at hl 2 rfl) ?_
        refine fg_X4_minors hx hb hts hown hE hP q_744 dX4_determinant_148 ?_
        refine lv_iconst (v := nI 1) hx hb dX4_determinant_151 (by decide) ?_
        refine lv_aload_n hx hb dX4_determinant_152 rfl (lv_at hl 2 rfl) ?_
        refine fg_X4_unknown hx hb hts hown hE hP q_740 dX4_determinant_153 ?_
        refine lv_ishl hx hb dX4_determinant_156 ?_
        refine xt_i (w := nI (2 ^ n)) (m_pw n (by omega)) ?_
        refine lv_iconst (v := nI 1) hx hb dX4_determinant_157 (by decide) ?_
        refine lv_isub hx hb dX4_determinant_158 ?_
        refine xt_i (w := nI (2 ^ n - 1)) (pk_sub (by omega)) ?_
        refine al_qminors hx hb hE hP (j := 2 ^ n - 1) (by omega) dX4_determinant_159 ?_
        exact xe_lret hQ hx hb hr hlocks hH hS (Nat.le_refl _) (Nat.le_refl _) (⟨_, by rw [hd _ (by omega)], hP⟩) dX4_determinant_160
      · skip
        have c16 := ni_nle (a := (2 ^ n)) (b := M) (by omega) (by omega) c16
        refine lv_iload_n hx hb dX4_determinant_19 rfl (lv_at hl 0 rfl) ?_
        have hpp := pop_le M (by omega)
        refine xw_callS (n := 1) [.int (nI M)] (c_J6_bitCount_0f7a4 l (nI M)) hx hb hml hown hts hE hS rfl rfl q_63 q_908 q_267 q_266 (by decide) rfl ⟨by rw [hRf]; decide, by rw [hRl]; decide⟩ hl.1 rfl (Nat.le_of_ble_eq_true rfl) dX4_determinant_20 ⟨by rw [hRc]; decide, by rw [hRs]; decide⟩ (fun v H1 locs hp hS => ?_)
        obtain ⟨hv, hh⟩ := hp; subst hv; subst hh
        refine xt_i (w := nI (pop M)) (bc_pop M (by omega)) ?_
        refine lv_iconst (v := nI 1) hx hb dX4_determinant_23 (by decide) ?_
        refine lv_isub hx hb dX4_determinant_24 ?_
        refine xt_i (w := nI (pop M - 1)) (pk_sub (by omega)) ?_
        refine lv_istore_n (lv' := [(3, .int (nI (pop M - 1))), (2, .int (nI M)), (1, .int x), (0, .ref (ad (20, 0)))]) hx hb dX4_determinant_25 rfl hl (by decide) rfl (fun ls hl => ?_)
        refine lv_lconst (v := 0) hx hb dX4_determinant_26 (by decide) ?_
        refine lv_lstore (lv' := [(4, .long 0), (3, .int (nI (pop M - 1))), (2, .int (nI M)), (1, .int x), (0, .ref (ad (20, 0)))]) hx hb dX4_determinant_27 hl (by decide) rfl (fun ls hl => ?_)
        refine lv_iconst (v := nI 0) hx hb dX4_determinant_29 (by decide) ?_
        refine lv_istore (lv' := [(6, .int (nI 0)), (4, .long 0), (3, .int (nI (pop M - 1))), (2, .int (nI M)), (1, .int x), (0, .ref (ad (20, 0)))]) hx hb dX4_determinant_30 hl (by decide) rfl (fun ls hl => ?_)
        have K32 : ∀ (nn : Nat), ∀ (k : Nat), (k ≤ n) → n - k < nn → ∀ (locs : List Loc) (ls : Array Slot), va_S A Hs H locs → lv_has ls 11 [(6, .int (nI k)), (4, .long (aQ (eQ rw rr x) qi M k)), (3, .int (nI (pop M - 1))), (2, .int (nI M)), (1, .int x), (0, .ref (ad (20, 0)))] → W p l e R s m args below meth c H locs 0 0 Q (F0 m 32 ls []) := by
          intro nn
          induction nn with
          | zero => intro k hk h; exact absurd h (Nat.not_lt_zero _)
          | succ nn ih32 =>
            intro k hk hn32 locs ls hS hl
            refine lv_iload hx hb dX4_determinant_32 (lv_at hl 0 rfl) ?_
            refine lv_aload_n hx hb dX4_determinant_34 rfl (lv_at hl 5 rfl) ?_
            refine fg_X4_unknown hx hb hts hown hE hP q_740 dX4_determinant_35 ?_
            refine lv_icmp_ge (tgt := 133) hx hb dX4_determinant_38 (by decide) (fun c38 => ?_) (fun c38 => ?_)
            · skip
              have c38 := ni_le (a := n) (b := k) (by omega) (by omega) c38
              refine lv_aload_n hx hb dX4_determinant_133 rfl (lv_at hl 5 rfl) ?_
              refine fg_X4_minors hx hb hts hown hE hP q_744 dX4_determinant_134 ?_
              refine lv_iload_n hx hb dX4_determinant_137 rfl (lv_at hl 3 rfl) ?_
              refine lv_lload hx hb dX4_determinant_138 (lv_at hl 1 rfl) ?_
              refine as_qminors hx hb hE hS hP (j := M) (by omega) dX4_determinant_140 (fun H locs hP hS => ?_)
              refine lv_iinc (v := nI (M + 1)) (lv' := [(2, .int (nI (M + 1))), (6, .int (nI k)), (4, .long (aQ (eQ rw rr x) qi M k)), (3, .int (nI (pop M - 1))), (1, .int x), (0, .ref (ad (20, 0)))]) hx hb dX4_determinant_141 hl (k := 3) rfl (nI_1 _) (by decide) rfl (fun ls hl => ?_)
              refine lv_goto (tgt := 9) hx hb dX4_determinant_144 (by decide) ?_
              exact ih9 (M + 1) (vp_updL qi M (aQ (eQ rw rr x) qi M n)) (by omega) (by omega) (dm_tabQ hn hM0 (by omega) hd) (by omega) _ _ _ (by rw [show k = n by omega] at hP; exact hP) hS (lv_sub hl [0, 4, 5] rfl)
            · skip
              have c38 := ni_nle (a := n) (b := k) (by omega) (by omega) c38
              refine lv_iload_n hx hb dX4_determinant_41 rfl (lv_at hl 3 rfl) ?_
              refine lv_iload hx hb dX4_determinant_42 (lv_at hl 0 rfl) ?_
              refine lv_ishr hx hb dX4_determinant_44 ?_
              refine lv_iconst (v := nI 1) hx hb dX4_determinant_45 (by decide) ?_
              refine lv_iand hx hb dX4_determinant_46 ?_
              refine lv_if_ne (tgt := 53) hx hb dX4_determinant_47 (by decide) (fun c47 => ?_) (fun c47 => ?_)
              · skip
                have b47 : ¬ M / 2 ^ k % 2 = 0 := fun h => c47 ((m_bit M (by omega) k (by omega)).mpr h)
                have hpp := pop_le M (by omega)
                have hp2 := pop_le (M / 2 ^ (k + 1)) (by have := Nat.div_le_self M (2 ^ (k + 1)); omega)
                have h2k := (m_clr M (by omega) k (by omega) (by omega)).2
                refine lv_iload hx hb dX4_determinant_53 (lv_at hl 0 rfl) ?_
                refine lv_iload_n hx hb dX4_determinant_55 rfl (lv_at hl 4 rfl) ?_
                refine lv_icmp_ne (tgt := 68) hx hb dX4_determinant_56 (by decide) (fun c56 => ?_) (fun c56 => ?_)
                · skip
                  refine lv_aload_n hx hb dX4_determinant_68 rfl (lv_at hl 5 rfl) ?_
                  refine fg_X4_matrix hx hb hts hown hE hP q_742 dX4_determinant_69 ?_
                  refine lv_bipush (v := nI 8) hx hb dX4_determinant_72 (by decide) ?_
                  refine lv_iload_n hx hb dX4_determinant_74 rfl (lv_at hl 2 rfl) ?_
                  refine lv_imul hx hb dX4_determinant_75 ?_
                  refine xt_i (pk_mul 8 (pop M - 1)) ?_
                  refine lv_iload hx hb dX4_determinant_76 (lv_at hl 0 rfl) ?_
                  refine lv_iadd hx hb dX4_determinant_78 ?_
                  refine xt_i (nI_add (8 * (pop M - 1)) k) ?_
                  refine al_matrix hx hb hE hP (j := (8 * (pop M - 1)) + k) (by omega) dX4_determinant_79 ?_
                  refine xt_l (w := rw (pop M - 1) k) (mQ_at rw (by omega)) ?_
                  refine lv_lstore (lv' := [(7, .long (rw (pop M - 1) k)), (6, .int (nI k)), (4, .long (aQ (eQ rw rr x) qi M k)), (3, .int (nI (pop M - 1))), (2, .int (nI M)), (1, .int x), (0, .ref (ad (20, 0)))]) hx hb dX4_determinant_80 hl (by decide) rfl (fun ls hl => ?_)
                  refine lv_lload hx hb dX4_determinant_82 (lv_at hl 0 rfl) ?_
                  refine lv_aload_n hx hb dX4_determinant_84 rfl (lv_at hl 6 rfl) ?_
                  refine fg_X4_minors hx hb hts hown hE hP q_744 dX4_determinant_85 ?_
                  refine lv_iload_n hx hb dX4_determinant_88 rfl (lv_at hl 4 rfl) ?_
                  refine lv_iconst (v := nI 1) hx hb dX4_determinant_89 (by decide) ?_
                  refine lv_iload hx hb dX4_determinant_90 (lv_at hl 1 rfl) ?_
                  refine lv_ishl hx hb dX4_determinant_92 ?_
                  refine lv_iconst (v := (-1)) hx hb dX4_determinant_93 (by decide) ?_
                  refine lv_ixor hx hb dX4_determinant_94 ?_
                  refine lv_iand hx hb dX4_determinant_95 ?_
                  refine xt_i (w := nI (M - 2 ^ k)) ((m_clr M (by omega) k (by omega) (by omega)).1) ?_
                  refine al_qminors hx hb hE hP (j := M - 2 ^ k) (by have := Nat.sub_le M (2 ^ k); omega) dX4_determinant_96 ?_
                  refine lv_lmul hx hb dX4_determinant_97 ?_
                  refine lv_lstore (lv' := [(9, .long ((rw (pop M - 1) k) * (qi (M - 2 ^ k)))), (7, .long (rw (pop M - 1) k)), (6, .int (nI k)), (4, .long (aQ (eQ rw rr x) qi M k)), (3, .int (nI (pop M - 1))), (2, .int (nI M)), (1, .int x), (0, .ref (ad (20, 0)))]) hx hb dX4_determinant_98 hl (by decide) rfl (fun ls hl => ?_)
                  refine lv_lload hx hb dX4_determinant_100 (lv_at hl 3 rfl) ?_
                  refine lv_iload_n hx hb dX4_determinant_102 rfl (lv_at hl 5 rfl) ?_
                  refine lv_iload hx hb dX4_determinant_103 (lv_at hl 2 rfl) ?_
                  refine lv_iconst (v := nI 1) hx hb dX4_determinant_105 (by decide) ?_
                  refine lv_iadd hx hb dX4_determinant_106 ?_
                  refine xt_i (nI_add k 1) ?_
                  refine lv_ishr hx hb dX4_determinant_107 ?_
                  refine xt_i (w := nI (M / 2 ^ (k + 1))) (m_shr M (by omega) (k + 1) (by omega)) ?_
                  refine xw_callS (n := 1) [.int (nI (M / 2 ^ (k + 1)))] (c_J6_bitCount_0f7a4 l (nI (M / 2 ^ (k + 1)))) hx hb hml hown hts hE hS rfl rfl q_63 q_908 q_267 q_266 (by decide) rfl ⟨by rw [hRf]; decide, by rw [hRl]; decide⟩ hl.1 rfl (Nat.le_of_ble_eq_true rfl) dX4_determinant_108 ⟨by rw [hRc]; decide, by rw [hRs]; decide⟩ (fun v H1 locs hp hS => ?_)
                  obtain ⟨hv, hh⟩ := hp; subst hv; subst hh
                  refine xt_i (w := nI (pop (M / 2 ^ (k + 1)))) (bc_pop _ (by have := Nat.div_le_self M (2 ^ (k + 1)); omega)) ?_
                  refine lv_iconst (v := nI 2) hx hb dX4_determinant_111 (by decide) ?_
                  refine lv_irem hx hb dX4_determinant_112 (by decide) ?_
                  refine xt_i (w := nI (pop (M / 2 ^ (k + 1)) % 2)) (pk_rem (by omega) (by decide) (by decide)) ?_
                  refine lv_if_ne (tgt := 121) hx hb dX4_determinant_113 (by decide) (fun c113 => ?_) (fun c113 => ?_)
                  · skip
                    have c113 := ni_ne (a := (pop (M / 2 ^ (k + 1)) % 2)) (b := 0) (by omega) (by omega) c113
                    refine lv_lload hx hb dX4_determinant_121 (lv_at hl 0 rfl) ?_
                    refine lv_lneg hx hb dX4_determinant_123 ?_
                    refine lv_ladd hx hb dX4_determinant_124 ?_
                    refine lv_lstore (lv' := [(4, .long ((aQ (eQ rw rr x) qi M k) + (-((rw (pop M - 1) k) * (qi (M - 2 ^ k)))))), (9, .long ((rw (pop M - 1) k) * (qi (M - 2 ^ k)))), (7, .long (rw (pop M - 1) k)), (6, .int (nI k)), (3, .int (nI (pop M - 1))), (2, .int (nI M)), (1, .int x), (0, .ref (ad (20, 0)))]) hx hb dX4_determinant_125 hl (by decide) rfl (fun ls hl => ?_)
                    have e125 : (aQ (eQ rw rr x) qi M k) + (-((rw (pop M - 1) k) * (qi (M - 2 ^ k)))) = aQ (eQ rw rr x) qi M (k + 1) := by rw [aQ_2 b47 c113, eQ, if_neg c56]
                    have hl : lv_has ls 11 [(4, .long (aQ (eQ rw rr x) qi M (k + 1))), (9, .long ((rw (pop M - 1) k) * (qi (M - 2 ^ k)))), (7, .long (rw (pop M - 1) k)), (6, .int (nI k)), (3, .int (nI (pop M - 1))), (2, .int (nI M)), (1, .int x), (0, .ref (ad (20, 0)))] := by rw [← e125]; exact hl
                    refine lv_iinc (v := nI (k + 1)) (lv' := [(6, .int (nI (k + 1))), (4, .long (aQ (eQ rw rr x) qi M (k + 1))), (9, .long ((rw (pop M - 1) k) * (qi (M - 2 ^ k)))), (7, .long (rw (pop M - 1) k)), (3, .int (nI (pop M - 1))), (2, .int (nI M)), (1, .int x), (0, .ref (ad (20, 0)))]) hx hb dX4_determinant_127 hl (k := 3) rfl (nI_1 _) (by decide) rfl (fun ls hl => ?_)
                    refine lv_goto (tgt := 32) hx hb dX4_determinant_130 (by decide) ?_
                    exact ih32 (k + 1) (by omega) (by omega) _ _ hS (lv_sub hl [0, 1, 4, 5, 6, 7] rfl)
                  · skip
                    have c113 := ni_eq (a := (pop (M / 2 ^ (k + 1)) % 2)) (b := 0) (by omega) (by omega) c113
                    refine lv_lload hx hb dX4_determinant_116 (lv_at hl 0 rfl) ?_
                    refine lv_goto (tgt := 124) hx hb dX4_determinant_118 (by decide) ?_
                    refine lv_ladd hx hb dX4_determinant_124 ?_
                    refine lv_lstore (lv' := [(4, .long ((aQ (eQ rw rr x) qi M k) + ((rw (pop M - 1) k) * (qi (M - 2 ^ k))))), (9, .long ((rw (pop M - 1) k) * (qi (M - 2 ^ k)))), (7, .long (rw (pop M - 1) k)), (6, .int (nI k)), (3, .int (nI (pop M - 1))), (2, .int (nI M)), (1, .int x), (0, .ref (ad (20, 0)))]) hx hb dX4_determinant_125 hl (by decide) rfl (fun ls hl => ?_)
                    have e125 : (aQ (eQ rw rr x) qi M k) + ((rw (pop M - 1) k) * (qi (M - 2 ^ k))) = aQ (eQ rw rr x) qi M (k + 1) := by rw [aQ_1 b47 c113, eQ, if_neg c56]
                    have hl : lv_has ls 11 [(4, .long (aQ (eQ rw rr x) qi M (k + 1))), (9, .long ((rw (pop M - 1) k) * (qi (M - 2 ^ k)))), (7, .long (rw (pop M - 1) k)), (6, .int (nI k)), (3, .int (nI (pop M - 1))), (2, .int (nI M)), (1, .int x), (0, .ref (ad (20, 0)))] := by rw [← e125]; exact hl
                    refine lv_iinc (v := nI (k + 1)) (lv' := [(6, .int (nI (k + 1))), (4, .long (aQ (eQ rw rr x) qi M (k + 1))), (9, .long ((rw (pop M - 1) k) * (qi (M - 2 ^ k)))), (7, .long (rw (pop M - 1) k)), (3, .int (nI (pop M - 1))), (2, .int (nI M)), (1, .int x), (0, .ref (ad (20, 0)))]) hx hb dX4_determinant_127 hl (k := 3) rfl (nI_1 _) (by decide) rfl (fun ls hl => ?_)
                    refine lv_goto (tgt := 32) hx hb dX4_determinant_130 (by decide) ?_
                    exact ih32 (k + 1) (by omega) (by omega) _ _ hS (lv_sub hl [0, 1, 4, 5, 6, 7] rfl)
                · skip
                  refine lv_aload_n hx hb dX4_determinant_59 rfl (lv_at hl 5 rfl) ?_
                  refine fg_X4_right hx hb hts hown hE hP q_743 dX4_determinant_60 ?_
                  refine lv_iload_n hx hb dX4_determinant_63 rfl (lv_at hl 2 rfl) ?_
                  refine al_right hx hb hE hP (j := pop M - 1) (by omega) dX4_determinant_64 ?_
                  refine lv_goto (tgt := 80) hx hb dX4_determinant_65 (by decide) ?_
                  refine lv_lstore (lv' := [(7, .long (rr (pop M - 1))), (6, .int (nI k)), (4, .long (aQ (eQ rw rr x) qi M k)), (3, .int (nI (pop M - 1))), (2, .int (nI M)), (1, .int x), (0, .ref (ad (20, 0)))]) hx hb dX4_determinant_80 hl (by decide) rfl (fun ls hl => ?_)
                  refine lv_lload hx hb dX4_determinant_82 (lv_at hl 0 rfl) ?_
                  refine lv_aload_n hx hb dX4_determinant_84 rfl (lv_at hl 6 rfl) ?_
                  refine fg_X4_minors hx hb hts hown hE hP q_744 dX4_determinant_85 ?_
                  refine lv_iload_n hx hb dX4_determinant_88 rfl (lv_at hl 4 rfl) ?_
                  refine lv_iconst (v := nI 1) hx hb dX4_determinant_89 (by decide) ?_
                  refine lv_iload hx hb dX4_determinant_90 (lv_at hl 1 rfl) ?_
                  refine lv_ishl hx hb dX4_determinant_92 ?_
                  refine lv_iconst (v := (-1)) hx hb dX4_determinant_93 (by decide) ?_
                  refine lv_ixor hx hb dX4_determinant_94 ?_
                  refine lv_iand hx hb dX4_determinant_95 ?_
                  refine xt_i (w := nI (M - 2 ^ k)) ((m_clr M (by omega) k (by omega) (by omega)).1) ?_
                  refine al_qminors hx hb hE hP (j := M - 2 ^ k) (by have := Nat.sub_le M (2 ^ k); omega) dX4_determinant_96 ?_
                  refine lv_lmul hx hb dX4_determinant_97 ?_
                  refine lv_lstore (lv' := [(9, .long ((rr (pop M - 1)) * (qi (M - 2 ^ k)))), (7, .long (rr (pop M - 1))), (6, .int (nI k)), (4, .long (aQ (eQ rw rr x) qi M k)), (3, .int (nI (pop M - 1))), (2, .int (nI M)), (1, .int x), (0, .ref (ad (20, 0)))]) hx hb dX4_determinant_98 hl (by decide) rfl (fun ls hl => ?_)
                  refine lv_lload hx hb dX4_determinant_100 (lv_at hl 3 rfl) ?_
                  refine lv_iload_n hx hb dX4_determinant_102 rfl (lv_at hl 5 rfl) ?_
                  refine lv_iload hx hb dX4_determinant_103 (lv_at hl 2 rfl) ?_
                  refine lv_iconst (v := nI 1) hx hb dX4_determinant_105 (by decide) ?_
                  refine lv_iadd hx hb dX4_determinant_106 ?_
                  refine xt_i (nI_add k 1) ?_
                  refine lv_ishr hx hb dX4_determinant_107 ?_
                  refine xt_i (w := nI (M / 2 ^ (k + 1))) (m_shr M (by omega) (k + 1) (by omega)) ?_
                  refine xw_callS (n := 1) [.int (nI (M / 2 ^ (k + 1)))] (c_J6_bitCount_0f7a4 l (nI (M / 2 ^ (k + 1)))) hx hb hml hown hts hE hS rfl rfl q_63 q_908 q_267 q_266 (by decide) rfl ⟨by rw [hRf]; decide, by rw [hRl]; decide⟩ hl.1 rfl (Nat.le_of_ble_eq_true rfl) dX4_determinant_108 ⟨by rw [hRc]; decide, by rw [hRs]; decide⟩ (fun v H1 locs hp hS => ?_)
                  obtain ⟨hv, hh⟩ := hp; subst hv; subst hh
                  refine xt_i (w := nI (pop (M / 2 ^ (k + 1)))) (bc_pop _ (by have := Nat.div_le_self M (2 ^ (k + 1)); omega)) ?_
                  refine lv_iconst (v := nI 2) hx hb dX4_determinant_111 (by decide) ?_
                  refine lv_irem hx hb dX4_determinant_112 (by decide) ?_
                  refine xt_i (w := nI (pop (M / 2 ^ (k + 1)) % 2)) (pk_rem (by omega) (by decide) (by decide)) ?_
                  refine lv_if_ne (tgt := 121) hx hb dX4_determinant_113 (by decide) (fun c113 => ?_) (fun c113 => ?_)
                  · skip
                    have c113 := ni_ne (a := (pop (M / 2 ^ (k + 1)) % 2)) (b := 0) (by omega) (by omega) c113
                    refine lv_lload hx hb dX4_determinant_121 (lv_at hl 0 rfl) ?_
                    refine lv_lneg hx hb dX4_determinant_123 ?_
                    refine lv_ladd hx hb dX4_determinant_124 ?_
                    refine lv_lstore (lv' := [(4, .long ((aQ (eQ rw rr x) qi M k) + (-((rr (pop M - 1)) * (qi (M - 2 ^ k)))))), (9, .long ((rr (pop M - 1)) * (qi (M - 2 ^ k)))), (7, .long (rr (pop M - 1))), (6, .int (nI k)), (3, .int (nI (pop M - 1))), (2, .int (nI M)), (1, .int x), (0, .ref (ad (20, 0)))]) hx hb dX4_determinant_125 hl (by decide) rfl (fun ls hl => ?_)
                    have e125 : (aQ (eQ rw rr x) qi M k) + (-((rr (pop M - 1)) * (qi (M - 2 ^ k)))) = aQ (eQ rw rr x) qi M (k + 1) := by rw [aQ_2 b47 c113, eQ, if_pos c56]
                    have hl : lv_has ls 11 [(4, .long (aQ (eQ rw rr x) qi M (k + 1))), (9, .long ((rr (pop M - 1)) * (qi (M - 2 ^ k)))), (7, .long (rr (pop M - 1))), (6, .int (nI k)), (3, .int (nI (pop M - 1))), (2, .int (nI M)), (1, .int x), (0, .ref (ad (20, 0)))] := by rw [← e125]; exact hl
                    refine lv_iinc (v := nI (k + 1)) (lv' := [(6, .int (nI (k + 1))), (4, .long (aQ (eQ rw rr x) qi M (k + 1))), (9, .long ((rr (pop M - 1)) * (qi (M - 2 ^ k)))), (7, .long (rr (pop M - 1))), (3, .int (nI (pop M - 1))), (2, .int (nI M)), (1, .int x), (0, .ref (ad (20, 0)))]) hx hb dX4_determinant_127 hl (k := 3) rfl (nI_1 _) (by decide) rfl (fun ls hl => ?_)
                    refine lv_goto (tgt := 32) hx hb dX4_determinant_130 (by decide) ?_
                    exact ih32 (k + 1) (by omega) (by omega) _ _ hS (lv_sub hl [0, 1, 4, 5, 6, 7] rfl)
                  · skip
                    have c113 := ni_eq (a := (pop (M / 2 ^ (k + 1)) % 2)) (b := 0) (by omega) (by omega) c113
                    refine lv_lload hx hb dX4_determinant_116 (lv_at hl 0 rfl) ?_
                    refine lv_goto (tgt := 124) hx hb dX4_determinant_118 (by decide) ?_
                    refine lv_ladd hx hb dX4_determinant_124 ?_
                    refine lv_lstore (lv' := [(4, .long ((aQ (eQ rw rr x) qi M k) + ((rr (pop M - 1)) * (qi (M - 2 ^ k))))), (9, .long ((rr (pop M - 1)) * (qi (M - 2 ^ k)))), (7, .long (rr (pop M - 1))), (6, .int (nI k)), (3, .int (nI (pop M - 1))), (2, .int (nI M)), (1, .int x), (0, .ref (ad (20, 0)))]) hx hb dX4_determinant_125 hl (by decide) rfl (fun ls hl => ?_)
                    have e125 : (aQ (eQ rw rr x) qi M k) + ((rr (pop M - 1)) * (qi (M - 2 ^ k))) = aQ (eQ rw rr x) qi M (k + 1) := by rw [aQ_1 b47 c113, eQ, if_pos c56]
                    have hl : lv_has ls 11 [(4, .long (aQ (eQ rw rr x) qi M (k + 1))), (9, .long ((rr (pop M - 1)) * (qi (M - 2 ^ k)))), (7, .long (rr (pop M - 1))), (6, .int (nI k)), (3, .int (nI (pop M - 1))), (2, .int (nI M)), (1, .int x), (0, .ref (ad (20, 0)))] := by rw [← e125]; exact hl
                    refine lv_iinc (v := nI (k + 1)) (lv' := [(6, .int (nI (k + 1))), (4, .long (aQ (eQ rw rr x) qi M (k + 1))), (9, .long ((rr (pop M - 1)) * (qi (M - 2 ^ k)))), (7, .long (rr (pop M - 1))), (3, .int (nI (pop M - 1))), (2, .int (nI M)), (1, .int x), (0, .ref (ad (20, 0)))]) hx hb dX4_determinant_127 hl (k := 3) rfl (nI_1 _) (by decide) rfl (fun ls hl => ?_)
                    refine lv_goto (tgt := 32) hx hb dX4_determinant_130 (by decide) ?_
                    exact ih32 (k + 1) (by omega) (by omega) _ _ hS (lv_sub hl [0, 1, 4, 5, 6, 7] rfl)
              · skip
                have b47 : M / 2 ^ k % 2 = 0 := (m_bit M (by omega) k (by omega)).mp c47
                rw [show aQ (eQ rw rr x) qi M k = aQ (eQ rw rr x) qi M (k + 1) from (aQ_0 b47).symm] at hl
                refine lv_goto (tgt := 127) hx hb dX4_determinant_50 (by decide) ?_
                refine lv_iinc (v := nI (k + 1)) (lv' := [(6, .int (nI (k + 1))), (4, .long (aQ (eQ rw rr x) qi M (k + 1))), (3, .int (nI (pop M - 1))), (2, .int (nI M)), (1, .int x), (0, .ref (ad (20, 0)))]) hx hb dX4_determinant_127 hl (k := 0) rfl (nI_1 _) (by decide) rfl (fun ls hl => ?_)
                refine lv_goto (tgt := 32) hx hb dX4_determinant_130 (by decide) ?_
                exact ih32 (k + 1) (by omega) (by omega) _ _ hS (lv_sub hl [0, 1, 2, 3, 4, 5] rfl)
        exact K32 _ 0 (by omega) (Nat.lt_succ_self _) _ _ hS (lv_sub hl [0, 1, 2, 3, 4, 5] rfl)
  exact K9 _ 1 (vp_updL qi 0 1) (by omega) (by omega) dm_init (Nat.lt_succ_self _) _ _ _ hP hS (lv_sub hl [0, 2, 1] rfl)
