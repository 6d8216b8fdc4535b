set_option maxHeartbeats 4000000 in
set_option maxRecDepth 100000 in
theorem c_X3_commonDivisor (l : Launch) {D : va_G} {y : Nat → ClassId} {A : Nat → Prop}  {Hs : Heap} (a b : Int64) : Met l yX3_commonDivisor (.code yX3_commonDivisor cX3_commonDivisor 11 (some .long) :: WG) { frames := 0, cells := 0, slots := 0, locals := 0 } (xPc [.long a, .long b] D y Hs) (xQ (fun v H1 => v = some (.long (gcdS 200 a b)) ∧ Hs = H1) A) 0 0 A := by
  refine xM_go (by decide) (Nat.le_of_ble_eq_true rfl) (fun p e s m args below meth c ls R Q hx hb hr hlocks hml hown hts hH hE hnm hRf hRl hRc hRs hQ hS hl => ?_)
  have hRf : R.frames = 0 := hRf
  have hRl : R.locals = 0 := hRl
  have hRc : R.cells = 0 := hRc
  have hRs : R.slots = 0 := hRs
  have hl : lv_has ls 11 [(0, .long a), (2, .long b)] := hl
  refine lv_lload_n hx hb dX3_commonDivisor_0 rfl (lv_at hl 0 rfl) ?_
  refine lv_lstore (lv' := [(4, .long a), (0, .long a), (2, .long b)]) hx hb dX3_commonDivisor_1 hl (by decide) rfl (fun ls hl => ?_)
  refine lv_lload_n hx hb dX3_commonDivisor_3 rfl (lv_at hl 2 rfl) ?_
  refine lv_lstore (lv' := [(6, .long b), (4, .long a), (0, .long a), (2, .long b)]) hx hb dX3_commonDivisor_4 hl (by decide) rfl (fun ls hl => ?_)
  refine lv_iconst (v := nI 0) hx hb dX3_commonDivisor_6 (by decide) ?_
  refine lv_istore (lv' := [(8, .int (nI 0)), (6, .long b), (4, .long a), (0, .long a), (2, .long b)]) hx hb dX3_commonDivisor_7 hl (by decide) rfl (fun ls hl => ?_)
  have K9 : ∀ (nn : Nat), ∀ (k : Nat) (u w : Int64), (k ≤ 200) → (gcdS (200 - k) u w = gcdS 200 a b) → 200 - k < nn → ∀ (locs : List Loc) (ls : Array Slot), va_S A Hs Hs locs → lv_has ls 11 [(8, .int (nI k)), (6, .long w), (4, .long u), (2, .long b), (0, .long a)] → W p l e R s m args below meth c Hs locs 0 0 Q (F0 m 9 ls []) := by
    intro nn
    induction nn with
    | zero => intro k u w hk hg h; exact absurd h (Nat.not_lt_zero _)
    | succ nn ih9 =>
      intro k u w hk hg hn9 locs ls hS hl
      refine lv_iload hx hb dX3_commonDivisor_9 (lv_at hl 0 rfl) ?_
      refine lv_sipush (v := nI 200) hx hb dX3_commonDivisor_11 (by decide) ?_
      refine lv_icmp_ge (tgt := 45) hx hb dX3_commonDivisor_14 (by decide) (fun c14 => ?_) (fun c14 => ?_)
      · skip
        have c14 := ni_le (a := 200) (b := k) (by omega) (by omega) c14
        refine lv_lload hx hb dX3_commonDivisor_45 (lv_at hl 2 rfl) ?_
        exact xe_lret hQ hx hb hr hlocks hH hS (Nat.le_refl _) (Nat.le_refl _) (⟨by rw [← hg]; first | (rw [show 200 - k = 0 by omega]; rfl) | (rw [show 200 - k = (200 - (k + 1)) + 1 by omega]; show _ = some (Value.long (if _ then _ else _)); rw [if_pos c21]), rfl⟩) dX3_commonDivisor_47
      · skip
        have c14 := ni_nle (a := 200) (b := k) (by omega) (by omega) c14
        refine lv_lload hx hb dX3_commonDivisor_17 (lv_at hl 1 rfl) ?_
        refine lv_lconst (v := 0) hx hb dX3_commonDivisor_19 (by decide) ?_
        refine W.lcmp hx hb dX3_commonDivisor_20 ?_
        refine lv_if_eq (tgt := 45) hx hb dX3_commonDivisor_21 (by decide) (fun c21 => ?_) (fun c21 => ?_)
        · skip
          have c21 := (lg_cmp_eq _ _).mp c21
          refine lv_lload hx hb dX3_commonDivisor_45 (lv_at hl 2 rfl) ?_
          exact xe_lret hQ hx hb hr hlocks hH hS (Nat.le_refl _) (Nat.le_refl _) (⟨by rw [← hg]; first | (rw [show 200 - k = 0 by omega]; rfl) | (rw [show 200 - k = (200 - (k + 1)) + 1 by omega]; show _ = some (Value.long (if _ then _ else _)); rw [if_pos c21]), rfl⟩) dX3_commonDivisor_47
        · skip
          have c21 := mt (lg_cmp_eq _ _).mpr c21
          refine lv_lload hx hb dX3_commonDivisor_24 (lv_at hl 2 rfl) ?_
          refine lv_lload hx hb dX3_commonDivisor_26 (lv_at hl 1 rfl) ?_
          refine lv_lrem hx hb dX3_commonDivisor_28 (c21) ?_
          refine lv_lstore (lv' := [(9, .long (u - u / w * w)), (8, .int (nI k)), (6, .long w), (4, .long u), (2, .long b), (0, .long a)]) hx hb dX3_commonDivisor_29 hl (by decide) rfl (fun ls hl => ?_)
          refine lv_lload hx hb dX3_commonDivisor_31 (lv_at hl 2 rfl) ?_
          refine lv_lstore (lv' := [(4, .long w), (9, .long (u - u / w * w)), (8, .int (nI k)), (6, .long w), (2, .long b), (0, .long a)]) hx hb dX3_commonDivisor_33 hl (by decide) rfl (fun ls hl => ?_)
          refine lv_lload hx hb dX3_commonDivisor_35 (lv_at hl 1 rfl) ?_
          refine lv_lstore (lv' := [(6, .long (u - u / w * w)), (4, .long w), (9, .long (u - u / w * w)), (8, .int (nI k)), (2, .long b), (0, .long a)]) hx hb dX3_commonDivisor_37 hl (by decide) rfl (fun ls hl => ?_)
          refine lv_iinc (v := nI (k + 1)) (lv' := [(8, .int (nI (k + 1))), (6, .long (u - u / w * w)), (4, .long w), (9, .long (u - u / w * w)), (2, .long b), (0, .long a)]) hx hb dX3_commonDivisor_39 hl (k := 3) rfl (nI_1 _) (by decide) rfl (fun ls hl => ?_)
          refine lv_goto (tgt := 9) hx hb dX3_commonDivisor_42 (by decide) ?_
          exact ih9 (k + 1) w (u - u / w * w) (by omega) (by rw [← hg, show 200 - k = (200 - (k + 1)) + 1 by omega]; show _ = (if _ then _ else _); rw [if_neg c21]) (by omega) _ _ hS (lv_sub hl [0, 1, 2, 4, 5] rfl)
  exact K9 _ 0 a b (by omega) rfl (Nat.lt_succ_self _) _ _ hS (lv_sub hl [0, 1, 2, 4, 3] rfl)

set_option maxHeartbeats 4000000 in
set_option maxRecDepth 100000 in
theorem c_X3_partOf (l : Launch) {D : va_G} {y : Nat → ClassId} {A : Nat → Prop}  {Hs : Heap} (u w : Int64) (f : Int32) : Met l yX3_partOf (.code yX3_partOf cX3_partOf 9 (some .long) :: WG) { frames := 1, cells := 0, slots := 0, locals := 30 } (xPc [.long u, .long w, .int f] D y Hs) (xQ (fun v H1 => v = some (.long (ptF u w f)) ∧ Hs = H1) A) 0 0 A := by
  refine xM_go (by decide) (Nat.le_of_ble_eq_true rfl) (fun p e s m args below meth c ls R Q hx hb hr hlocks hml hown hts hH hE hnm hRf hRl hRc hRs hQ hS hl => ?_)
  have hRf : R.frames = 1 := hRf
  have hRl : R.locals = 30 := hRl
  have hRc : R.cells = 0 := hRc
  have hRs : R.slots = 0 := hRs
  have hl : lv_has ls 9 [(0, .long u), (2, .long w), (4, .int f)] := hl
  refine lv_iload hx hb dX3_partOf_0 (lv_at hl 2 rfl) ?_
  refine lv_if_eq (tgt := 9) hx hb dX3_partOf_2 (by decide) (fun c2 => ?_) (fun c2 => ?_)
  · skip
    refine lv_lload_n hx hb dX3_partOf_9 rfl (lv_at hl 1 rfl) ?_
    refine lv_lstore (lv' := [(5, .long w), (0, .long u), (2, .long w), (4, .int f)]) hx hb dX3_partOf_10 hl (by decide) rfl (fun ls hl => ?_)
    refine lv_lload_n hx hb dX3_partOf_12 rfl (lv_at hl 1 rfl) ?_
    refine xw_callS (n := 1) [.long u] (c_J9_abs_067f4 l u) hx hb hml hown hts hE hS rfl rfl q_33 q_354 q_356 q_355 (by decide) rfl ⟨by rw [hRf]; decide, by rw [hRl]; decide⟩ hl.1 rfl (Nat.le_of_ble_eq_true rfl) dX3_partOf_13 ⟨by rw [hRc]; decide, by rw [hRs]; decide⟩ (fun v H1 locs hp hS => ?_)
    obtain ⟨hv, hh⟩ := hp; subst hv; subst hh
    refine lv_lload_n hx hb dX3_partOf_16 rfl (lv_at hl 2 rfl) ?_
    refine xw_callS (n := 2) [.long (absL u), .long w] (c_X3_commonDivisor l (absL u) w) hx hb hml hown hts hE hS rfl rfl q_21 q_357 q_359 q_358 (by decide) rfl ⟨by rw [hRf]; decide, by rw [hRl]; decide⟩ hl.1 rfl (Nat.le_of_ble_eq_true rfl) dX3_partOf_17 ⟨by rw [hRc]; decide, by rw [hRs]; decide⟩ (fun v H1 locs hp hS => ?_)
    obtain ⟨hv, hh⟩ := hp; subst hv; subst hh
    refine lv_lstore (lv' := [(7, .long (gcdS 200 (absL u) w)), (5, .long w), (0, .long u), (2, .long w), (4, .int f)]) hx hb dX3_partOf_20 hl (by decide) rfl (fun ls hl => ?_)
    refine lv_lload hx hb dX3_partOf_22 (lv_at hl 0 rfl) ?_
    refine lv_lconst (v := 1) hx hb dX3_partOf_24 (by decide) ?_
    refine W.lcmp hx hb dX3_partOf_25 ?_
    refine lv_if_le (tgt := 37) hx hb dX3_partOf_26 (by decide) (fun c26 => ?_) (fun c26 => ?_)
    · skip
      have c26 := (lg_cmp_le _ _).mp c26
      refine lv_lload hx hb dX3_partOf_37 (lv_at hl 1 rfl) ?_
      exact xe_lret hQ hx hb hr hlocks hH hS (Nat.le_refl _) (Nat.le_refl _) (⟨by unfold ptF; rw [if_neg (Int64.not_lt.mpr c26)]; first | (rw [if_pos c2]; done) | (rw [if_neg c2]; done), rfl⟩) dX3_partOf_39
    · skip
      have c26 := mt (lg_cmp_le _ _).mpr c26
      refine lv_lload hx hb dX3_partOf_29 (lv_at hl 1 rfl) ?_
      refine lv_lload hx hb dX3_partOf_31 (lv_at hl 0 rfl) ?_
      refine lv_ldiv hx hb dX3_partOf_33 (fun h0 => c26 (by rw [h0]; decide)) ?_
      refine lv_goto (tgt := 39) hx hb dX3_partOf_34 (by decide) ?_
      exact xe_lret hQ hx hb hr hlocks hH hS (Nat.le_refl _) (Nat.le_refl _) (⟨by unfold ptF; rw [if_pos (Int64.not_le.mp c26)]; first | (rw [if_pos c2]; done) | (rw [if_neg c2]; done), rfl⟩) dX3_partOf_39
  · skip
    refine lv_lload_n hx hb dX3_partOf_5 rfl (lv_at hl 0 rfl) ?_
    refine lv_goto (tgt := 10) hx hb dX3_partOf_6 (by decide) ?_
    refine lv_lstore (lv' := [(5, .long u), (0, .long u), (2, .long w), (4, .int f)]) hx hb dX3_partOf_10 hl (by decide) rfl (fun ls hl => ?_)
    refine lv_lload_n hx hb dX3_partOf_12 rfl (lv_at hl 1 rfl) ?_
    refine xw_callS (n := 1) [.long u] (c_J9_abs_067f4 l u) hx hb hml hown hts hE hS rfl rfl q_33 q_354 q_356 q_355 (by decide) rfl ⟨by rw [hRf]; decide, by rw [hRl]; decide⟩ hl.1 rfl (Nat.le_of_ble_eq_true rfl) dX3_partOf_13 ⟨by rw [hRc]; decide, by rw [hRs]; decide⟩ (fun v H1 locs hp hS => ?_)
    obtain ⟨hv, hh⟩ := hp; subst hv; subst hh
    refine lv_lload_n hx hb dX3_partOf_16 rfl (lv_at hl 2 rfl) ?_
    refine xw_callS (n := 2) [.long (absL u), .long w] (c_X3_commonDivisor l (absL u) w) hx hb hml hown hts hE hS rfl rfl q_21 q_357 q_359 q_358 (by decide) rfl ⟨by rw [hRf]; decide, by rw [hRl]; decide⟩ hl.1 rfl (Nat.le_of_ble_eq_true rfl) dX3_partOf_17 ⟨by rw [hRc]; decide, by rw [hRs]; decide⟩ (fun v H1 locs hp hS => ?_)
    obtain ⟨hv, hh⟩ := hp; subst hv; subst hh
    refine lv_lstore (lv' := [(7, .long (gcdS 200 (absL u) w)), (5, .long u), (0, .long u), (2, .long w), (4, .int f)]) hx hb dX3_partOf_20 hl (by decide) rfl (fun ls hl => ?_)
    refine lv_lload hx hb dX3_partOf_22 (lv_at hl 0 rfl) ?_
    refine lv_lconst (v := 1) hx hb dX3_partOf_24 (by decide) ?_
    refine W.lcmp hx hb dX3_partOf_25 ?_
    refine lv_if_le (tgt := 37) hx hb dX3_partOf_26 (by decide) (fun c26 => ?_) (fun c26 => ?_)
    · skip
      have c26 := (lg_cmp_le _ _).mp c26
      refine lv_lload hx hb dX3_partOf_37 (lv_at hl 1 rfl) ?_
      exact xe_lret hQ hx hb hr hlocks hH hS (Nat.le_refl _) (Nat.le_refl _) (⟨by unfold ptF; rw [if_neg (Int64.not_lt.mpr c26)]; first | (rw [if_pos c2]; done) | (rw [if_neg c2]; done), rfl⟩) dX3_partOf_39
    · skip
      have c26 := mt (lg_cmp_le _ _).mpr c26
      refine lv_lload hx hb dX3_partOf_29 (lv_at hl 1 rfl) ?_
      refine lv_lload hx hb dX3_partOf_31 (lv_at hl 0 rfl) ?_
      refine lv_ldiv hx hb dX3_partOf_33 (fun h0 => c26 (by rw [h0]; decide)) ?_
      refine lv_goto (tgt := 39) hx hb dX3_partOf_34 (by decide) ?_
      exact xe_lret hQ hx hb hr hlocks hH hS (Nat.le_refl _) (Nat.le_refl _) (⟨by unfold ptF; rw [if_pos (Int64.not_le.mp c26)]; first | (rw [if_pos c2]; done) | (rw [if_neg c2]; done), rfl⟩) dX3_partOf_39

set_option maxHeartbeats 4000000 in
set_option maxRecDepth 100000 in
theorem c_X3_compareFractions (l : Launch) {D : va_G} {y : Nat → ClassId} {A : Nat → Prop}  {Hs : Heap} (a u b w : Int64) : Met l yX3_compareFractions (.code yX3_compareFractions cX3_compareFractions 26 (some .int) :: WG) { frames := 1, cells := 0, slots := 0, locals := 25 } (xPc [.long a, .long u, .long b, .long w] D y Hs) (xQ (fun v H1 => v = some (.int (cfS 200 a u b w 1)) ∧ Hs = H1) A) 0 0 A := by
  refine xM_go (by decide) (Nat.le_of_ble_eq_true rfl) (fun p e s m args below meth c ls R Q hx hb hr hlocks hml hown hts hH hE hnm hRf hRl hRc hRs hQ hS hl => ?_)
  have hRf : R.frames = 1 := hRf
  have hRl : R.locals = 25 := hRl
  have hRc : R.cells = 0 := hRc
  have hRs : R.slots = 0 := hRs
  have hl : lv_has ls 26 [(0, .long a), (2, .long u), (4, .long b), (6, .long w)] := hl
  refine lv_lload_n hx hb dX3_compareFractions_0 rfl (lv_at hl 0 rfl) ?_
  refine lv_lstore (lv' := [(8, .long a), (0, .long a), (2, .long u), (4, .long b), (6, .long w)]) hx hb dX3_compareFractions_1 hl (by decide) rfl (fun ls hl => ?_)
  refine lv_lload_n hx hb dX3_compareFractions_3 rfl (lv_at hl 2 rfl) ?_
  refine lv_lstore (lv' := [(10, .long u), (8, .long a), (0, .long a), (2, .long u), (4, .long b), (6, .long w)]) hx hb dX3_compareFractions_4 hl (by decide) rfl (fun ls hl => ?_)
  refine lv_lload hx hb dX3_compareFractions_6 (lv_at hl 4 rfl) ?_
  refine lv_lstore (lv' := [(12, .long b), (10, .long u), (8, .long a), (0, .long a), (2, .long u), (4, .long b), (6, .long w)]) hx hb dX3_compareFractions_8 hl (by decide) rfl (fun ls hl => ?_)
  refine lv_lload hx hb dX3_compareFractions_10 (lv_at hl 6 rfl) ?_
  refine lv_lstore (lv' := [(14, .long w), (12, .long b), (10, .long u), (8, .long a), (0, .long a), (2, .long u), (4, .long b), (6, .long w)]) hx hb dX3_compareFractions_12 hl (by decide) rfl (fun ls hl => ?_)
  refine lv_iconst (v := nI 1) hx hb dX3_compareFractions_14 (by decide) ?_
  refine lv_istore (lv' := [(16, .int (nI 1)), (14, .long w), (12, .long b), (10, .long u), (8, .long a), (0, .long a), (2, .long u), (4, .long b), (6, .long w)]) hx hb dX3_compareFractions_15 hl (by decide) rfl (fun ls hl => ?_)
  refine lv_iconst (v := nI 0) hx hb dX3_compareFractions_17 (by decide) ?_
  refine lv_istore (lv' := [(17, .int (nI 0)), (16, .int (nI 1)), (14, .long w), (12, .long b), (10, .long u), (8, .long a), (0, .long a), (2, .long u), (4, .long b), (6, .long w)]) hx hb dX3_compareFractions_18 hl (by decide) rfl (fun ls hl => ?_)
  have K20 : ∀ (nn : Nat), ∀ (k : Nat) (a2 u2 b2 w2 : Int64) (sg : Int32), (k ≤ 200) → (cfS (200 - k) a2 u2 b2 w2 sg = cfS 200 a u b w 1) → 200 - k < nn → ∀ (locs : List Loc) (ls : Array Slot), va_S A Hs Hs locs → lv_has ls 26 [(17, .int (nI k)), (16, .int sg), (14, .long w2), (12, .long b2), (10, .long u2), (8, .long a2)] → W p l e R s m args below meth c Hs locs 0 0 Q (F0 m 20 ls []) := by
    intro nn
    induction nn with
    | zero => intro k a2 u2 b2 w2 sg hk hc h; exact absurd h (Nat.not_lt_zero _)
    | succ nn ih20 =>
      intro k a2 u2 b2 w2 sg hk hc hn20 locs ls hS hl
      refine lv_iload hx hb dX3_compareFractions_20 (lv_at hl 0 rfl) ?_
      refine lv_sipush (v := nI 200) hx hb dX3_compareFractions_22 (by decide) ?_
      refine lv_icmp_ge (tgt := 130) hx hb dX3_compareFractions_25 (by decide) (fun c25 => ?_) (fun c25 => ?_)
      · skip
        have c25 := ni_le (a := 200) (b := k) (by omega) (by omega) c25
        have K130 : ∀ (u2 w2 : Int64) (sg : Int32), ((if u2 = w2 then nI 0 else if u2 = 0 then sg else -sg) = cfS 200 a u b w 1) → ∀ (locs : List Loc) (ls : Array Slot), va_S A Hs Hs locs → lv_has ls 26 [(16, .int sg), (14, .long w2), (10, .long u2)] → W p l e R s m args below meth c Hs locs 0 0 Q (F0 m 130 ls []) := by
          intro u2 w2 sg hc locs ls hS hl
          refine lv_lload hx hb dX3_compareFractions_130 (lv_at hl 2 rfl) ?_
          refine lv_lload hx hb dX3_compareFractions_132 (lv_at hl 1 rfl) ?_
          refine W.lcmp hx hb dX3_compareFractions_134 ?_
          refine lv_if_ne (tgt := 140) hx hb dX3_compareFractions_135 (by decide) (fun c135 => ?_) (fun c135 => ?_)
          · skip
            have c135 := mt (lg_cmp_eq _ _).mpr c135
            refine lv_lload hx hb dX3_compareFractions_140 (lv_at hl 2 rfl) ?_
            refine lv_lconst (v := 0) hx hb dX3_compareFractions_142 (by decide) ?_
            refine W.lcmp hx hb dX3_compareFractions_143 ?_
            refine lv_if_ne (tgt := 152) hx hb dX3_compareFractions_144 (by decide) (fun c144 => ?_) (fun c144 => ?_)
            · skip
              have c144 := mt (lg_cmp_eq _ _).mpr c144
              refine lv_iload hx hb dX3_compareFractions_152 (lv_at hl 0 rfl) ?_
              refine lv_ineg hx hb dX3_compareFractions_154 ?_
              exact xe_iret hQ hx hb hr hlocks hH hS (Nat.le_refl _) (Nat.le_refl _) (⟨by rw [← hc, if_neg c135, if_neg c144], rfl⟩) dX3_compareFractions_155
            · skip
              have c144 := (lg_cmp_eq _ _).mp c144
              refine lv_iload hx hb dX3_compareFractions_147 (lv_at hl 0 rfl) ?_
              refine lv_goto (tgt := 155) hx hb dX3_compareFractions_149 (by decide) ?_
              exact xe_iret hQ hx hb hr hlocks hH hS (Nat.le_refl _) (Nat.le_refl _) (⟨by rw [← hc, if_neg c135, if_pos c144], rfl⟩) dX3_compareFractions_155
          · skip
            have c135 := (lg_cmp_eq _ _).mp c135
            refine lv_iconst (v := nI 0) hx hb dX3_compareFractions_138 (by decide) ?_
            exact xe_iret hQ hx hb hr hlocks hH hS (Nat.le_refl _) (Nat.le_refl _) (⟨by rw [← hc, if_pos c135], rfl⟩) dX3_compareFractions_139
        exact K130 u2 w2 sg (by rw [← hc]; first | (rw [show 200 - k = 0 by omega]; rfl) | exact (cfS_z (Or.inl c32)).symm | exact (cfS_z (Or.inr c39)).symm) _ _ hS (lv_sub hl [1, 2, 4] rfl)
      · skip
        have c25 := ni_nle (a := 200) (b := k) (by omega) (by omega) c25
        refine lv_lload hx hb dX3_compareFractions_28 (lv_at hl 4 rfl) ?_
        refine lv_lconst (v := 0) hx hb dX3_compareFractions_30 (by decide) ?_
        refine W.lcmp hx hb dX3_compareFractions_31 ?_
        refine lv_if_eq (tgt := 130) hx hb dX3_compareFractions_32 (by decide) (fun c32 => ?_) (fun c32 => ?_)
        · skip
          have c32 := (lg_cmp_eq _ _).mp c32
          have K130 : ∀ (u2 w2 : Int64) (sg : Int32), ((if u2 = w2 then nI 0 else if u2 = 0 then sg else -sg) = cfS 200 a u b w 1) → ∀ (locs : List Loc) (ls : Array Slot), va_S A Hs Hs locs → lv_has ls 26 [(16, .int sg), (14, .long w2), (10, .long u2)] → W p l e R s m args below meth c Hs locs 0 0 Q (F0 m 130 ls []) := by
            intro u2 w2 sg hc locs ls hS hl
            refine lv_lload hx hb dX3_compareFractions_130 (lv_at hl 2 rfl) ?_
            refine lv_lload hx hb dX3_compareFractions_132 (lv_at hl 1 rfl) ?_
            refine W.lcmp hx hb dX3_compareFractions_134 ?_
            refine lv_if_ne (tgt := 140) hx hb dX3_compareFractions_135 (by decide) (fun c135 => ?_) (fun c135 => ?_)
            · skip
              have c135 := mt (lg_cmp_eq _ _).mpr c135
              refine lv_lload hx hb dX3_compareFractions_140 (lv_at hl 2 rfl) ?_
              refine lv_lconst (v := 0) hx hb dX3_compareFractions_142 (by decide) ?_
              refine W.lcmp hx hb dX3_compareFractions_143 ?_
              refine lv_if_ne (tgt := 152) hx hb dX3_compareFractions_144 (by decide) (fun c144 => ?_) (fun c144 => ?_)
              · skip
                have c144 := mt (lg_cmp_eq _ _).mpr c144
                refine lv_iload hx hb dX3_compareFractions_152 (lv_at hl 0 rfl) ?_
                refine lv_ineg hx hb dX3_compareFractions_154 ?_
                exact xe_iret hQ hx hb hr hlocks hH hS (Nat.le_refl _) (Nat.le_refl _) (⟨by rw [← hc, if_neg c135, if_neg c144], rfl⟩) dX3_compareFractions_155
              · skip
                have c144 := (lg_cmp_eq _ _).mp c144
                refine lv_iload hx hb dX3_compareFractions_147 (lv_at hl 0 rfl) ?_
                refine lv_goto (tgt := 155) hx hb dX3_compareFractions_149 (by decide) ?_
                exact xe_iret hQ hx hb hr hlocks hH hS (Nat.le_refl _) (Nat.le_refl _) (⟨by rw [← hc, if_neg c135, if_pos c144], rfl⟩) dX3_compareFractions_155
            · skip
              have c135 := (lg_cmp_eq _ _).mp c135
              refine lv_iconst (v := nI 0) hx hb dX3_compareFractions_138 (by decide) ?_
              exact xe_iret hQ hx hb hr hlocks hH hS (Nat.le_refl _) (Nat.le_refl _) (⟨by rw [← hc, if_pos c135], rfl⟩) dX3_compareFractions_139
          exact K130 u2 w2 sg (by rw [← hc]; first | (rw [show 200 - k = 0 by omega]; rfl) | exact (cfS_z (Or.inl c32)).symm | exact (cfS_z (Or.inr c39)).symm) _ _ hS (lv_sub hl [1, 2, 4] rfl)
        · skip
          have c32 := mt (lg_cmp_eq _ _).mpr c32
          refine lv_lload hx hb dX3_compareFractions_35 (lv_at hl 2 rfl) ?_
          refine lv_lconst (v := 0) hx hb dX3_compareFractions_37 (by decide) ?_
          refine W.lcmp hx hb dX3_compareFractions_38 ?_
          refine lv_if_eq (tgt := 130) hx hb dX3_compareFractions_39 (by decide) (fun c39 => ?_) (fun c39 => ?_)
          · skip
            have c39 := (lg_cmp_eq _ _).mp c39
            have K130 : ∀ (u2 w2 : Int64) (sg : Int32), ((if u2 = w2 then nI 0 else if u2 = 0 then sg else -sg) = cfS 200 a u b w 1) → ∀ (locs : List Loc) (ls : Array Slot), va_S A Hs Hs locs → lv_has ls 26 [(16, .int sg), (14, .long w2), (10, .long u2)] → W p l e R s m args below meth c Hs locs 0 0 Q (F0 m 130 ls []) := by
              intro u2 w2 sg hc locs ls hS hl
              refine lv_lload hx hb dX3_compareFractions_130 (lv_at hl 2 rfl) ?_
              refine lv_lload hx hb dX3_compareFractions_132 (lv_at hl 1 rfl) ?_
              refine W.lcmp hx hb dX3_compareFractions_134 ?_
              refine lv_if_ne (tgt := 140) hx hb dX3_compareFractions_135 (by decide) (fun c135 => ?_) (fun c135 => ?_)
              · skip
                have c135 := mt (lg_cmp_eq _ _).mpr c135
                refine lv_lload hx hb dX3_compareFractions_140 (lv_at hl 2 rfl) ?_
                refine lv_lconst (v := 0) hx hb dX3_compareFractions_142 (by decide) ?_
                refine W.lcmp hx hb dX3_compareFractions_143 ?_
                refine lv_if_ne (tgt := 152) hx hb dX3_compareFractions_144 (by decide) (fun c144 => ?_) (fun c144 => ?_)
                · skip
                  have c144 := mt (lg_cmp_eq _ _).mpr c144
                  refine lv_iload hx hb dX3_compareFractions_152 (lv_at hl 0 rfl) ?_
                  refine lv_ineg hx hb dX3_compareFractions_154 ?_
                  exact xe_iret hQ hx hb hr hlocks hH hS (Nat.le_refl _) (Nat.le_refl _) (⟨by rw [← hc, if_neg c135, if_neg c144], rfl⟩) dX3_compareFractions_155
                · skip
                  have c144 := (lg_cmp_eq _ _).mp c144
                  refine lv_iload hx hb dX3_compareFractions_147 (lv_at hl 0 rfl) ?_
                  refine lv_goto (tgt := 155) hx hb dX3_compareFractions_149 (by decide) ?_
                  exact xe_iret hQ hx hb hr hlocks hH hS (Nat.le_refl _) (Nat.le_refl _) (⟨by rw [← hc, if_neg c135, if_pos c144], rfl⟩) dX3_compareFractions_155
              · skip
                have c135 := (lg_cmp_eq _ _).mp c135
                refine lv_iconst (v := nI 0) hx hb dX3_compareFractions_138 (by decide) ?_
                exact xe_iret hQ hx hb hr hlocks hH hS (Nat.le_refl _) (Nat.le_refl _) (⟨by rw [← hc, if_pos c135], rfl⟩) dX3_compareFractions_139
            exact K130 u2 w2 sg (by rw [← hc]; first | (rw [show 200 - k = 0 by omega]; rfl) | exact (cfS_z (Or.inl c32)).symm | exact (cfS_z (Or.inr c39)).symm) _ _ hS (lv_sub hl [1, 2, 4] rfl)
          · skip
            have c39 := mt (lg_cmp_eq _ _).mpr c39
            refine lv_lload hx hb dX3_compareFractions_42 (lv_at hl 5 rfl) ?_
            refine lv_lload hx hb dX3_compareFractions_44 (lv_at hl 4 rfl) ?_
            refine xw_callS (n := 2) [.long a2, .long u2] (c_J9_floorDiv_f86c9 l a2 u2 c32) hx hb hml hown hts hE hS rfl rfl q_33 q_385 q_387 q_386 (by decide) rfl ⟨by rw [hRf]; decide, by rw [hRl]; decide⟩ hl.1 rfl (Nat.le_of_ble_eq_true rfl) dX3_compareFractions_46 ⟨by rw [hRc]; decide, by rw [hRs]; decide⟩ (fun v H1 locs hp hS => ?_)
            obtain ⟨hv, hh⟩ := hp; subst hv; subst hh
            refine lv_lstore (lv' := [(18, .long (fdL a2 u2)), (17, .int (nI k)), (16, .int sg), (14, .long w2), (12, .long b2), (10, .long u2), (8, .long a2)]) hx hb dX3_compareFractions_49 hl (by decide) rfl (fun ls hl => ?_)
            refine lv_lload hx hb dX3_compareFractions_51 (lv_at hl 4 rfl) ?_
            refine lv_lload hx hb dX3_compareFractions_53 (lv_at hl 3 rfl) ?_
            refine xw_callS (n := 2) [.long b2, .long w2] (c_J9_floorDiv_f86c9 l b2 w2 c39) hx hb hml hown hts hE hS rfl rfl q_33 q_385 q_387 q_386 (by decide) rfl ⟨by rw [hRf]; decide, by rw [hRl]; decide⟩ hl.1 rfl (Nat.le_of_ble_eq_true rfl) dX3_compareFractions_55 ⟨by rw [hRc]; decide, by rw [hRs]; decide⟩ (fun v H1 locs hp hS => ?_)
            obtain ⟨hv, hh⟩ := hp; subst hv; subst hh
            refine lv_lstore (lv' := [(20, .long (fdL b2 w2)), (18, .long (fdL a2 u2)), (17, .int (nI k)), (16, .int sg), (14, .long w2), (12, .long b2), (10, .long u2), (8, .long a2)]) hx hb dX3_compareFractions_58 hl (by decide) rfl (fun ls hl => ?_)
            refine lv_lload hx hb dX3_compareFractions_60 (lv_at hl 1 rfl) ?_
            refine lv_lload hx hb dX3_compareFractions_62 (lv_at hl 0 rfl) ?_
            refine W.lcmp hx hb dX3_compareFractions_64 ?_
            refine lv_if_eq (tgt := 85) hx hb dX3_compareFractions_65 (by decide) (fun c65 => ?_) (fun c65 => ?_)
            · skip
              have c65 := (lg_cmp_eq _ _).mp c65
              refine lv_lload hx hb dX3_compareFractions_85 (lv_at hl 7 rfl) ?_
              refine lv_lload hx hb dX3_compareFractions_87 (lv_at hl 6 rfl) ?_
              refine xw_callS (n := 2) [.long a2, .long u2] (c_J9_floorMod_f86c9 l a2 u2 c32) hx hb hml hown hts hE hS rfl rfl q_33 q_388 q_390 q_389 (by decide) rfl ⟨by rw [hRf]; decide, by rw [hRl]; decide⟩ hl.1 rfl (Nat.le_of_ble_eq_true rfl) dX3_compareFractions_89 ⟨by rw [hRc]; decide, by rw [hRs]; decide⟩ (fun v H1 locs hp hS => ?_)
              obtain ⟨hv, hh⟩ := hp; subst hv; subst hh
              refine lv_lstore (lv' := [(22, .long (fmL a2 u2)), (20, .long (fdL b2 w2)), (18, .long (fdL a2 u2)), (17, .int (nI k)), (16, .int sg), (14, .long w2), (12, .long b2), (10, .long u2), (8, .long a2)]) hx hb dX3_compareFractions_92 hl (by decide) rfl (fun ls hl => ?_)
              refine lv_lload hx hb dX3_compareFractions_94 (lv_at hl 6 rfl) ?_
              refine lv_lload hx hb dX3_compareFractions_96 (lv_at hl 5 rfl) ?_
              refine xw_callS (n := 2) [.long b2, .long w2] (c_J9_floorMod_f86c9 l b2 w2 c39) hx hb hml hown hts hE hS rfl rfl q_33 q_388 q_390 q_389 (by decide) rfl ⟨by rw [hRf]; decide, by rw [hRl]; decide⟩ hl.1 rfl (Nat.le_of_ble_eq_true rfl) dX3_compareFractions_98 ⟨by rw [hRc]; decide, by rw [hRs]; decide⟩ (fun v H1 locs hp hS => ?_)
              obtain ⟨hv, hh⟩ := hp; subst hv; subst hh
              refine lv_lstore (lv' := [(24, .long (fmL b2 w2)), (22, .long (fmL a2 u2)), (20, .long (fdL b2 w2)), (18, .long (fdL a2 u2)), (17, .int (nI k)), (16, .int sg), (14, .long w2), (12, .long b2), (10, .long u2), (8, .long a2)]) hx hb dX3_compareFractions_101 hl (by decide) rfl (fun ls hl => ?_)
              refine lv_lload hx hb dX3_compareFractions_103 (lv_at hl 8 rfl) ?_
              refine lv_lstore (lv' := [(8, .long u2), (24, .long (fmL b2 w2)), (22, .long (fmL a2 u2)), (20, .long (fdL b2 w2)), (18, .long (fdL a2 u2)), (17, .int (nI k)), (16, .int sg), (14, .long w2), (12, .long b2), (10, .long u2)]) hx hb dX3_compareFractions_105 hl (by decide) rfl (fun ls hl => ?_)
              refine lv_lload hx hb dX3_compareFractions_107 (lv_at hl 2 rfl) ?_
              refine lv_lstore (lv' := [(10, .long (fmL a2 u2)), (8, .long u2), (24, .long (fmL b2 w2)), (22, .long (fmL a2 u2)), (20, .long (fdL b2 w2)), (18, .long (fdL a2 u2)), (17, .int (nI k)), (16, .int sg), (14, .long w2), (12, .long b2)]) hx hb dX3_compareFractions_109 hl (by decide) rfl (fun ls hl => ?_)
              refine lv_lload hx hb dX3_compareFractions_111 (lv_at hl 8 rfl) ?_
              refine lv_lstore (lv' := [(12, .long w2), (10, .long (fmL a2 u2)), (8, .long u2), (24, .long (fmL b2 w2)), (22, .long (fmL a2 u2)), (20, .long (fdL b2 w2)), (18, .long (fdL a2 u2)), (17, .int (nI k)), (16, .int sg), (14, .long w2)]) hx hb dX3_compareFractions_113 hl (by decide) rfl (fun ls hl => ?_)
              refine lv_lload hx hb dX3_compareFractions_115 (lv_at hl 3 rfl) ?_
              refine lv_lstore (lv' := [(14, .long (fmL b2 w2)), (12, .long w2), (10, .long (fmL a2 u2)), (8, .long u2), (24, .long (fmL b2 w2)), (22, .long (fmL a2 u2)), (20, .long (fdL b2 w2)), (18, .long (fdL a2 u2)), (17, .int (nI k)), (16, .int sg)]) hx hb dX3_compareFractions_117 hl (by decide) rfl (fun ls hl => ?_)
              refine lv_iload hx hb dX3_compareFractions_119 (lv_at hl 9 rfl) ?_
              refine lv_ineg hx hb dX3_compareFractions_121 ?_
              refine lv_istore (lv' := [(16, .int (-sg)), (14, .long (fmL b2 w2)), (12, .long w2), (10, .long (fmL a2 u2)), (8, .long u2), (24, .long (fmL b2 w2)), (22, .long (fmL a2 u2)), (20, .long (fdL b2 w2)), (18, .long (fdL a2 u2)), (17, .int (nI k))]) hx hb dX3_compareFractions_122 hl (by decide) rfl (fun ls hl => ?_)
              refine lv_iinc (v := nI (k + 1)) (lv' := [(17, .int (nI (k + 1))), (16, .int (-sg)), (14, .long (fmL b2 w2)), (12, .long w2), (10, .long (fmL a2 u2)), (8, .long u2), (24, .long (fmL b2 w2)), (22, .long (fmL a2 u2)), (20, .long (fdL b2 w2)), (18, .long (fdL a2 u2))]) hx hb dX3_compareFractions_124 hl (k := 9) rfl (nI_1 _) (by decide) rfl (fun ls hl => ?_)
              refine lv_goto (tgt := 20) hx hb dX3_compareFractions_127 (by decide) ?_
              exact ih20 (k + 1) u2 (fmL a2 u2) w2 (fmL b2 w2) (-sg) (by omega) (by rw [← hc, show 200 - k = (200 - (k + 1)) + 1 by omega]; exact (cfS_eq c32 c39 c65).symm) (by omega) _ _ hS (lv_sub hl [0, 1, 2, 3, 4, 5] rfl)
            · skip
              have c65 := mt (lg_cmp_eq _ _).mpr c65
              refine lv_lload hx hb dX3_compareFractions_68 (lv_at hl 1 rfl) ?_
              refine lv_lload hx hb dX3_compareFractions_70 (lv_at hl 0 rfl) ?_
              refine W.lcmp hx hb dX3_compareFractions_72 ?_
              refine lv_if_le (tgt := 81) hx hb dX3_compareFractions_73 (by decide) (fun c73 => ?_) (fun c73 => ?_)
              · skip
                have c73 := (lg_cmp_le _ _).mp c73
                refine lv_iload hx hb dX3_compareFractions_81 (lv_at hl 3 rfl) ?_
                refine lv_ineg hx hb dX3_compareFractions_83 ?_
                exact xe_iret hQ hx hb hr hlocks hH hS (Nat.le_refl _) (Nat.le_refl _) (⟨by rw [← hc, show 200 - k = (200 - (k + 1)) + 1 by omega]; rw [cfS_lt c32 c39 c65 c73], rfl⟩) dX3_compareFractions_84
              · skip
                have c73 := mt (lg_cmp_le _ _).mpr c73
                refine lv_iload hx hb dX3_compareFractions_76 (lv_at hl 3 rfl) ?_
                refine lv_goto (tgt := 84) hx hb dX3_compareFractions_78 (by decide) ?_
                exact xe_iret hQ hx hb hr hlocks hH hS (Nat.le_refl _) (Nat.le_refl _) (⟨by rw [← hc, show 200 - k = (200 - (k + 1)) + 1 by omega]; rw [cfS_gt c32 c39 c73], rfl⟩) dX3_compareFractions_84
  exact K20 _ 0 a u b w 1 (by omega) rfl (Nat.lt_succ_self _) _ _ hS (lv_sub hl [0, 1, 2, 3, 4, 5] rfl)

set_option maxHeartbeats 4000000 in
set_option maxRecDepth 100000 in
theorem c_X3_join (l : Launch) {D : va_G} {y : Nat → ClassId} {A : Nat → Prop} {ad : xL → Nat} {bl : xM} {z : xC} {g : Nat → Int32} {pl : Nat → Int32} {kn : Nat → Int64} {rw : Nat → Nat → Int64} {mi : Nat → Int64} {un : Int32} {fR fO : Nat → Nat → Option va_E} {Hs : Heap} (hP : xW D A ad (wU (wB y ad bl z g pl kn rw mi un) fR fO) Hs) {S : Nat} (hS8 : S < 256) : Met l yX3_join (.code yX3_join cX3_join 3 none :: WG) { frames := 1, cells := 0, slots := 0, locals := 21 } (xPc [.ref (ad (0, 0)), .int (nI S)] D y Hs) (xQ (fun v H1 => v = none ∧ xW D A ad (wU (wB y ad bl z ((fun j => if S / 2 ^ j % 2 = 0 then g j else nI S)) pl kn rw mi un) fR fO) H1) A) 0 0 A := by
  refine xM_go (by decide) (Nat.le_of_ble_eq_true rfl) (fun p e s m args below meth c ls R Q hx hb hr hlocks hml hown hts hH hE hnm hRf hRl hRc hRs hQ hS hl => ?_)
  have hRf : R.frames = 1 := hRf
  have hRl : R.locals = 21 := hRl
  have hRc : R.cells = 0 := hRc
  have hRs : R.slots = 0 := hRs
  have hl : lv_has ls 3 [(0, .ref (ad (0, 0))), (1, .int (nI S))] := hl
  refine lv_iconst (v := nI 0) hx hb dX3_join_0 (by decide) ?_
  refine lv_istore_n (lv' := [(2, .int (nI 0)), (0, .ref (ad (0, 0))), (1, .int (nI S))]) hx hb dX3_join_1 rfl hl (by decide) rfl (fun ls hl => ?_)
  have K2 : ∀ (nn : Nat), ∀ (k : Nat) (g2 : Nat → Int32), (k ≤ 8) → (∀ j, g2 j = if j < k ∧ ¬ S / 2 ^ j % 2 = 0 then nI S else g j) → 8 - k < nn → ∀ (H : Heap) (locs : List Loc) (ls : Array Slot), xW D A ad (wU (wB y ad bl z g2 pl kn rw mi un) fR fO) H → va_S A Hs H locs → lv_has ls 3 [(2, .int (nI k)), (1, .int (nI S)), (0, .ref (ad (0, 0)))] → W p l e R s m args below meth c H locs 0 0 Q (F0 m 2 ls []) := by
    intro nn
    induction nn with
    | zero => intro k g2 hk hg h; exact absurd h (Nat.not_lt_zero _)
    | succ nn ih2 =>
      intro k g2 hk hg hn2 H locs ls hP hS hl
      refine lv_iload_n hx hb dX3_join_2 rfl (lv_at hl 0 rfl) ?_
      refine lv_bipush (v := nI 8) hx hb dX3_join_3 (by decide) ?_
      refine lv_icmp_ge (tgt := 29) hx hb dX3_join_5 (by decide) (fun c5 => ?_) (fun c5 => ?_)
      · skip
        have c5 := ni_le (a := 8) (b := k) (by omega) (by omega) c5
        exact xe_vret hQ hx hb hr hlocks hH hS (Nat.le_refl _) (Nat.le_refl _) (⟨rfl, xW_gg hP (fun j hj => by rw [hg j]; exact join_c (by omega))⟩) dX3_join_29
      · skip
        have c5 := ni_nle (a := 8) (b := k) (by omega) (by omega) c5
        refine lv_iload_n hx hb dX3_join_8 rfl (lv_at hl 1 rfl) ?_
        refine lv_iload_n hx hb dX3_join_9 rfl (lv_at hl 0 rfl) ?_
        refine xw_callS (n := 2) [.int (nI S), .int (nI k)] (c_X3_contains l (nI S) k) hx hb hml hown hts hE hS rfl rfl q_21 q_259 q_261 q_260 (by decide) rfl ⟨by rw [hRf]; decide, by rw [hRl]; decide⟩ hl.1 rfl (Nat.le_of_ble_eq_true rfl) dX3_join_10 ⟨by rw [hRc]; decide, by rw [hRs]; decide⟩ (fun v H1 locs hp hS => ?_)
        obtain ⟨hv, hh⟩ := hp; subst hv; subst hh
        refine lv_if_eq (tgt := 23) hx hb dX3_join_13 (by decide) (fun c13 => ?_) (fun c13 => ?_)
        · skip
          have c13 : S / 2 ^ k % 2 = 0 := (m_bit S hS8 k (by omega)).mp (by
            by_cases hh : nI S >>> (nI k &&& 31) &&& nI 1 = 0
            · exact hh
            · rw [if_neg hh] at c13; exact absurd c13 (by decide))
          refine lv_iinc (v := nI (k + 1)) (lv' := [(2, .int (nI (k + 1))), (1, .int (nI S)), (0, .ref (ad (0, 0)))]) hx hb dX3_join_23 hl (k := 0) rfl (nI_1 _) (by decide) rfl (fun ls hl => ?_)
          refine lv_goto (tgt := 2) hx hb dX3_join_26 (by decide) ?_
          exact ih2 (k + 1) g2 (by omega) (fun j => by first | exact join_a hg c13 j | exact join_b hg c13 j) (by omega) _ _ _ hP hS (lv_sub hl [0, 1, 2] rfl)
        · skip
          have c13 : ¬ S / 2 ^ k % 2 = 0 := fun h0 => c13 (by rw [if_pos ((m_bit S hS8 k (by omega)).mpr h0)]; rfl)
          refine lv_aload_n hx hb dX3_join_16 rfl (lv_at hl 2 rfl) ?_
          refine fg_X3_groups hx hb hts hown hE hP q_104 dX3_join_17 ?_
          refine lv_iload_n hx hb dX3_join_20 rfl (lv_at hl 0 rfl) ?_
          refine lv_iload_n hx hb dX3_join_21 rfl (lv_at hl 1 rfl) ?_
          refine as_groups hx hb hE hS hP (j := k) (by omega) dX3_join_22 (fun H locs hP hS => ?_)
          refine lv_iinc (v := nI (k + 1)) (lv' := [(2, .int (nI (k + 1))), (1, .int (nI S)), (0, .ref (ad (0, 0)))]) hx hb dX3_join_23 hl (k := 0) rfl (nI_1 _) (by decide) rfl (fun ls hl => ?_)
          refine lv_goto (tgt := 2) hx hb dX3_join_26 (by decide) ?_
          exact ih2 (k + 1) (upd g2 k (nI S)) (by omega) (fun j => by first | exact join_a hg c13 j | exact join_b hg c13 j) (by omega) _ _ _ hP hS (lv_sub hl [0, 1, 2] rfl)
  exact K2 _ 0 g (by omega) (fun j => by simp) (Nat.lt_succ_self _) _ _ _ hP hS (lv_sub hl [0, 2, 1] rfl)

set_option maxHeartbeats 4000000 in
set_option maxRecDepth 100000 in
theorem c_X3_group (l : Launch) {D : va_G} {y : Nat → ClassId} {A : Nat → Prop} {ad : xL → Nat} {bl : xM} {z : xC} {g : Nat → Int32} {pl : Nat → Int32} {kn : Nat → Int64} {rw : Nat → Nat → Int64} {mi : Nat → Int64} {un : Int32} {fR fO : Nat → Nat → Option va_E} {Hs : Heap} (hP : xW D A ad (wU (wB y ad bl z g pl kn rw mi un) fR fO) Hs) (hz : bOk bl z) (t : Int32) : Met l yX3_group (.code yX3_group cX3_group 4 none :: WG) { frames := 3, cells := 0, slots := 0, locals := 64 } (xPc [.ref (ad (0, 0)), .int t] D y Hs) (xQ (fun v H1 => v = none ∧ xW D A ad (wU (wB y ad bl z ((sG z t)) pl kn rw mi un) fR fO) H1) A) 0 0 A := by
  refine xM_go (by decide) (Nat.le_of_ble_eq_true rfl) (fun p e s m args below meth c ls R Q hx hb hr hlocks hml hown hts hH hE hnm hRf hRl hRc hRs hQ hS hl => ?_)
  have hRf : R.frames = 3 := hRf
  have hRl : R.locals = 64 := hRl
  have hRc : R.cells = 0 := hRc
  have hRs : R.slots = 0 := hRs
  have hl : lv_has ls 4 [(0, .ref (ad (0, 0))), (1, .int t)] := hl
  have hw := hz.w
  have hN := hw.N
  have hE20 := hw.E
  refine lv_iconst (v := nI 0) hx hb dX3_group_0 (by decide) ?_
  refine lv_istore_n (lv' := [(2, .int (nI 0)), (0, .ref (ad (0, 0))), (1, .int t)]) hx hb dX3_group_1 rfl hl (by decide) rfl (fun ls hl => ?_)
  have K2 : ∀ (nn : Nat), ∀ (k : Nat) (g2 : Nat → Int32), (k ≤ 8) → (∀ j, j < k → g2 j = nI (2 ^ j)) → 8 - k < nn → ∀ (H : Heap) (locs : List Loc) (ls : Array Slot), xW D A ad (wU (wB y ad bl z g2 pl kn rw mi un) fR fO) H → va_S A Hs H locs → lv_has ls 4 [(2, .int (nI k)), (1, .int t), (0, .ref (ad (0, 0)))] → W p l e R s m args below meth c H locs 0 0 Q (F0 m 2 ls []) := by
    intro nn
    induction nn with
    | zero => intro k g2 hk hg h; exact absurd h (Nat.not_lt_zero _)
    | succ nn ih2 =>
      intro k g2 hk hg hn2 H locs ls hP hS hl
      refine lv_iload_n hx hb dX3_group_2 rfl (lv_at hl 0 rfl) ?_
      refine lv_bipush (v := nI 8) hx hb dX3_group_3 (by decide) ?_
      refine lv_icmp_ge (tgt := 23) hx hb dX3_group_5 (by decide) (fun c5 => ?_) (fun c5 => ?_)
      · skip
        have c5 := ni_le (a := 8) (b := k) (by omega) (by omega) c5
        refine lv_iconst (v := nI 0) hx hb dX3_group_23 (by decide) ?_
        refine lv_istore_n (lv' := [(2, .int (nI 0)), (1, .int t), (0, .ref (ad (0, 0)))]) hx hb dX3_group_24 rfl hl (by decide) rfl (fun ls hl => ?_)
        have K25 : ∀ (nn : Nat), ∀ (i : Nat), (i ≤ nE z) → nE z - i < nn → ∀ (H : Heap) (locs : List Loc) (ls : Array Slot), xW D A ad (wU (wB y ad bl z ((fun j => nI (gpS z t i j))) pl kn rw mi un) fR fO) H → va_S A Hs H locs → lv_has ls 4 [(2, .int (nI i)), (1, .int t), (0, .ref (ad (0, 0)))] → W p l e R s m args below meth c H locs 0 0 Q (F0 m 25 ls []) := by
          intro nn
          induction nn with
          | zero => intro i hi h; exact absurd h (Nat.not_lt_zero _)
          | succ nn ih25 =>
            intro i hi hn25 H locs ls hP hS hl
            refine lv_iload_n hx hb dX3_group_25 rfl (lv_at hl 0 rfl) ?_
            refine lv_aload_n hx hb dX3_group_26 rfl (lv_at hl 2 rfl) ?_
            refine fg_X3_elements hx hb hts hown hE hP q_103 dX3_group_27 ?_
            refine xw_callV (C := "java/util/ArrayList") (n := 0) [] (c_size_elements l hP ) hx hb hml hown hts hE hS (xw_recv hE hP (3, 0) rfl rfl) rfl rfl q_24 q_123 q_126 q_124 q_125 (by decide) rfl ⟨by rw [hRf]; decide, by rw [hRl]; decide⟩ hl.1 rfl (Nat.le_of_ble_eq_true rfl) dX3_group_30 ⟨by rw [hRc]; decide, by rw [hRs]; decide⟩ (fun v H1 locs hp hS => ?_)
            obtain ⟨hv, hh⟩ := hp; subst hv; subst hh
            refine lv_icmp_ge (tgt := 92) hx hb dX3_group_33 (by decide) (fun c33 => ?_) (fun c33 => ?_)
            · skip
              have c33 := ni_le (a := (nE z)) (b := i) (by omega) (by omega) c33
              exact xe_vret hQ hx hb hr hlocks hH hS (Nat.le_refl _) (Nat.le_refl _) (⟨rfl, hP.ct (by rw [show i = nE z by omega]; rfl)⟩) dX3_group_92
            · skip
              have c33 := ni_nle (a := (nE z)) (b := i) (by omega) (by omega) c33
              refine lv_aload_n hx hb dX3_group_36 rfl (lv_at hl 2 rfl) ?_
              refine fg_X3_elements hx hb hts hown hE hP q_103 dX3_group_37 ?_
              refine lv_iload_n hx hb dX3_group_40 rfl (lv_at hl 0 rfl) ?_
              refine xw_callV (C := "java/util/ArrayList") (n := 1) [.int (nI i)] (c_get_elements l hP hz (by omega)) hx hb hml hown hts hE hS (xw_recv hE hP (3, 0) rfl rfl) rfl rfl q_24 q_195 q_198 q_196 q_197 (by decide) rfl ⟨by rw [hRf]; decide, by rw [hRl]; decide⟩ hl.1 rfl (Nat.le_of_ble_eq_true rfl) dX3_group_41 ⟨by rw [hRc]; decide, by rw [hRs]; decide⟩ (fun v H1 locs hp hS => ?_)
              obtain ⟨hv, hh⟩ := hp; subst hv; subst hh
              refine xc_el (i := i) hx hb hts hown hE hP (by first | assumption | omega) q_209 dX3_group_44 ?_
              have ha8 := hw.a8 (i := i) (by omega)
              have hb8 := hw.b8 (i := i) (by omega)
              refine lv_astore_n (lv' := [(3, .ref (ad (13, i))), (2, .int (nI i)), (1, .int t), (0, .ref (ad (0, 0)))]) hx hb dX3_group_47 rfl hl (by decide) rfl (fun ls hl => ?_)
              refine lv_aload_n hx hb dX3_group_48 rfl (lv_at hl 0 rfl) ?_
              refine fg_X0_isSource (i := i) (by first | assumption | omega) hx hb hts hown hE hP q_554 dX3_group_49 ?_
              refine lv_if_ne (tgt := 86) hx hb dX3_group_52 (by decide) (fun c52 => ?_) (fun c52 => ?_)
              · skip
                refine lv_iinc (v := nI (i + 1)) (lv' := [(2, .int (nI (i + 1))), (3, .ref (ad (13, i))), (1, .int t), (0, .ref (ad (0, 0)))]) hx hb dX3_group_86 hl (k := 1) rfl (nI_1 _) (by decide) rfl (fun ls hl => ?_)
                refine lv_goto (tgt := 25) hx hb dX3_group_89 (by decide) ?_
                exact ih25 (i + 1) (by omega) (by omega) _ _ _ (hP.ct (by first | rw [grp_0 c52] | rw [grp_1 hs0 c60] | rw [grp_2 hs0 c60])) hS (lv_sub hl [0, 2, 3] rfl)
              · skip
                have hs0 := c52
                refine lv_aload_n hx hb dX3_group_55 rfl (lv_at hl 0 rfl) ?_
                refine lv_iload_n hx hb dX3_group_56 rfl (lv_at hl 2 rfl) ?_
                refine xw_callV (C := "NetlistBench$Element") (n := 1) [.int t] (c_X0_runsAt l hP hw (by omega) t) hx hb hml hown hts hE hS (xr_el hE hP (by first | assumption | omega)) rfl rfl q_40 q_246 q_249 q_247 q_248 (by decide) rfl ⟨by rw [hRf]; decide, by rw [hRl]; decide⟩ hl.1 rfl (Nat.le_of_ble_eq_true rfl) dX3_group_57 ⟨by rw [hRc]; decide, by rw [hRs]; decide⟩ (fun v H1 locs hp hS => ?_)
                obtain ⟨hv, hh⟩ := hp; subst hv; subst hh
                refine lv_if_eq (tgt := 86) hx hb dX3_group_60 (by decide) (fun c60 => ?_) (fun c60 => ?_)
                · skip
                  refine lv_iinc (v := nI (i + 1)) (lv' := [(2, .int (nI (i + 1))), (3, .ref (ad (13, i))), (1, .int t), (0, .ref (ad (0, 0)))]) hx hb dX3_group_86 hl (k := 1) rfl (nI_1 _) (by decide) rfl (fun ls hl => ?_)
                  refine lv_goto (tgt := 25) hx hb dX3_group_89 (by decide) ?_
                  exact ih25 (i + 1) (by omega) (by omega) _ _ _ (hP.ct (by first | rw [grp_0 c52] | rw [grp_1 hs0 c60] | rw [grp_2 hs0 c60])) hS (lv_sub hl [0, 2, 3] rfl)
                · skip
                  refine lv_aload_n hx hb dX3_group_63 rfl (lv_at hl 3 rfl) ?_
                  refine lv_aload_n hx hb dX3_group_64 rfl (lv_at hl 3 rfl) ?_
                  refine fg_X3_groups hx hb hts hown hE hP q_104 dX3_group_65 ?_
                  refine lv_aload_n hx hb dX3_group_68 rfl (lv_at hl 0 rfl) ?_
                  refine fg_X0_a (i := i) (by first | assumption | omega) hx hb hts hown hE hP q_556 dX3_group_69 ?_
                  refine xt_i (w := nI (cA z i)) (hw.a (by omega)) ?_
                  refine al_groups hx hb hE hP (j := cA z i) (by omega) dX3_group_72 ?_
                  refine xt_i (w := nI (gpS z t i (cA z i))) (rfl) ?_
                  refine lv_aload_n hx hb dX3_group_73 rfl (lv_at hl 3 rfl) ?_
                  refine fg_X3_groups hx hb hts hown hE hP q_104 dX3_group_74 ?_
                  refine lv_aload_n hx hb dX3_group_77 rfl (lv_at hl 0 rfl) ?_
                  refine fg_X0_b (i := i) (by first | assumption | omega) hx hb hts hown hE hP q_558 dX3_group_78 ?_
                  refine xt_i (w := nI (cB z i)) (hw.b (by omega)) ?_
                  refine al_groups hx hb hE hP (j := cB z i) (by omega) dX3_group_81 ?_
                  refine xt_i (w := nI (gpS z t i (cB z i))) (rfl) ?_
                  refine lv_ior hx hb dX3_group_82 ?_
                  refine xt_i (w := nI (gpS z t i (cA z i) ||| gpS z t i (cB z i))) (m_or _ (gp_lt z hw t i (by omega) _ (by omega)) _ (gp_lt z hw t i (by omega) _ (by omega))) ?_
                  refine xw_callV (C := "NetlistBench") (n := 1) [.int (nI (gpS z t i (cA z i) ||| gpS z t i (cB z i)))] (c_X3_join l hP (Nat.or_lt_two_pow (n := 8) (gp_lt z hw t i (by omega) _ (by omega)) (gp_lt z hw t i (by omega) _ (by omega)))) hx hb hml hown hts hE hS (xw_recv hE hP (0, 0) rfl rfl) rfl rfl q_21 q_255 q_258 q_257 q_5 (by decide) rfl ⟨by rw [hRf]; decide, by rw [hRl]; decide⟩ hl.1 rfl (Nat.le_of_ble_eq_true rfl) dX3_group_83 ⟨by rw [hRc]; decide, by rw [hRs]; decide⟩ (fun v H1 locs hp hS => ?_)
                  obtain ⟨hv, hP⟩ := hp; subst hv
                  generalize H1 = H at hP hS ⊢
                  refine lv_iinc (v := nI (i + 1)) (lv' := [(2, .int (nI (i + 1))), (3, .ref (ad (13, i))), (1, .int t), (0, .ref (ad (0, 0)))]) hx hb dX3_group_86 hl (k := 1) rfl (nI_1 _) (by decide) rfl (fun ls hl => ?_)
                  refine lv_goto (tgt := 25) hx hb dX3_group_89 (by decide) ?_
                  exact ih25 (i + 1) (by omega) (by omega) _ _ _ (hP.ct (by first | rw [grp_0 c52] | rw [grp_1 hs0 c60] | rw [grp_2 hs0 c60])) hS (lv_sub hl [0, 2, 3] rfl)
        exact K25 _ 0 (by omega) (Nat.lt_succ_self _) _ _ _ (xW_gg hP (fun j hj => hg j (by omega))) hS (lv_sub hl [0, 1, 2] rfl)
      · skip
        have c5 := ni_nle (a := 8) (b := k) (by omega) (by omega) c5
        refine lv_aload_n hx hb dX3_group_8 rfl (lv_at hl 2 rfl) ?_
        refine fg_X3_groups hx hb hts hown hE hP q_104 dX3_group_9 ?_
        refine lv_iload_n hx hb dX3_group_12 rfl (lv_at hl 0 rfl) ?_
        refine lv_iconst (v := nI 1) hx hb dX3_group_13 (by decide) ?_
        refine lv_iload_n hx hb dX3_group_14 rfl (lv_at hl 0 rfl) ?_
        refine lv_ishl hx hb dX3_group_15 ?_
        refine xt_i (w := nI (2 ^ k)) (m_pow k (by omega)) ?_
        refine as_groups hx hb hE hS hP (j := k) (by omega) dX3_group_16 (fun H locs hP hS => ?_)
        refine lv_iinc (v := nI (k + 1)) (lv' := [(2, .int (nI (k + 1))), (1, .int t), (0, .ref (ad (0, 0)))]) hx hb dX3_group_17 hl (k := 0) rfl (nI_1 _) (by decide) rfl (fun ls hl => ?_)
        refine lv_goto (tgt := 2) hx hb dX3_group_20 (by decide) ?_
        exact ih2 (k + 1) (upd g2 k (nI (2 ^ k))) (by omega) (grp_a hg) (by omega) _ _ _ hP hS (lv_sub hl [0, 1, 2] rfl)
  exact K2 _ 0 g (by omega) no_lt (Nat.lt_succ_self _) _ _ _ hP hS (lv_sub hl [0, 2, 1] rfl)
