set_option maxHeartbeats 4000000 in
set_option maxRecDepth 100000 in
theorem c_X4_compared (l : Launch) {D : va_G} {y : Nat → ClassId} {A : Nat → Prop} {Hs : Heap} : ∀ (n : Nat) (a b o d : Int64), cpI n a b d → Met l yX4_compared (.code yX4_compared cX4_compared 16 (some .int) :: WG) { frames := n + 1, cells := 0, slots := 0, locals := 35 * (n) + 25 } (xPc [.long a, .long b, .long o, .long d] D y Hs) (xQ (fun v H1 => v = some (.int (cpW n a b o d)) ∧ Hs = H1) A) 0 0 A := by
  intro n
  induction n with
  | zero => intro a b o d h; exact absurd h (fun h => cpI_0 h)
  | succ n ih =>
  intro a b o d h
  refine xM_go (by decide) (Nat.le_of_ble_eq_true rfl) (fun p e s m args below meth c ls R Q hx hb hr hlocks hml hown hts hH hE hnm hRf hRl hRc hRs hQ hS hl => ?_)
  have hRf : R.frames = n + 1 + 1 := hRf
  have hRl : R.locals = 35 * (n + 1) + 25 := hRl
  have hRc : R.cells = 0 := hRc
  have hRs : R.slots = 0 := hRs
  have hl : lv_has ls 16 [(0, .long a), (2, .long b), (4, .long o), (6, .long d)] := hl
  have hb0 : ¬ b = 0 := fun e => by have := h.1; rw [e] at this; exact absurd this (by decide)
  have hd0 : ¬ d = 0 := fun e => by have := h.2.1; rw [e] at this; exact absurd this (by decide)
  refine lv_lload_n hx hb dX4_compared_0 rfl (lv_at hl 0 rfl) ?_
  refine lv_lload_n hx hb dX4_compared_1 rfl (lv_at hl 1 rfl) ?_
  refine xw_callS (n := 2) [.long a, .long b] (c_J9_floorDiv_f86c9 l a b hb0) hx hb hml hown hts hE hS rfl rfl q_55 q_951 q_699 q_698 (by decide) rfl ⟨by rw [hRf]; first | decide | (dsimp only; omega), by rw [hRl]; first | decide | (dsimp only; omega)⟩ hl.1 rfl (Nat.le_of_ble_eq_true rfl) dX4_compared_2 ⟨by rw [hRc]; decide, by rw [hRs]; decide⟩ (fun v H1 locs hp hS => ?_)
  obtain ⟨hv, hh⟩ := hp; subst hv; subst hh
  refine lv_lstore (lv' := [(8, .long (fdL a b)), (0, .long a), (2, .long b), (4, .long o), (6, .long d)]) hx hb dX4_compared_5 hl (by decide) rfl (fun ls hl => ?_)
  refine lv_lload hx hb dX4_compared_7 (lv_at hl 3 rfl) ?_
  refine lv_lload hx hb dX4_compared_9 (lv_at hl 4 rfl) ?_
  refine xw_callS (n := 2) [.long o, .long d] (c_J9_floorDiv_f86c9 l o d hd0) hx hb hml hown hts hE hS rfl rfl q_55 q_951 q_699 q_698 (by decide) rfl ⟨by rw [hRf]; first | decide | (dsimp only; omega), by rw [hRl]; first | decide | (dsimp only; omega)⟩ hl.1 rfl (Nat.le_of_ble_eq_true rfl) dX4_compared_11 ⟨by rw [hRc]; decide, by rw [hRs]; decide⟩ (fun v H1 locs hp hS => ?_)
  obtain ⟨hv, hh⟩ := hp; subst hv; subst hh
  refine lv_lstore (lv' := [(10, .long (fdL o d)), (8, .long (fdL a b)), (0, .long a), (2, .long b), (4, .long o), (6, .long d)]) hx hb dX4_compared_14 hl (by decide) rfl (fun ls hl => ?_)
  refine lv_lload hx hb dX4_compared_16 (lv_at hl 1 rfl) ?_
  refine lv_lload hx hb dX4_compared_18 (lv_at hl 0 rfl) ?_
  refine W.lcmp hx hb dX4_compared_20 ?_
  refine lv_if_eq (tgt := 38) hx hb dX4_compared_21 (by decide) (fun c21 => ?_) (fun c21 => ?_)
  · skip
    have c21 := (lg_cmp_eq _ _).mp c21
    refine lv_lload_n hx hb dX4_compared_38 rfl (lv_at hl 2 rfl) ?_
    refine lv_lload hx hb dX4_compared_39 (lv_at hl 1 rfl) ?_
    refine lv_lload_n hx hb dX4_compared_41 rfl (lv_at hl 3 rfl) ?_
    refine lv_lmul hx hb dX4_compared_42 ?_
    refine lv_lsub hx hb dX4_compared_43 ?_
    refine lv_lstore (lv' := [(12, .long (a - ((fdL a b) * b))), (10, .long (fdL o d)), (8, .long (fdL a b)), (0, .long a), (2, .long b), (4, .long o), (6, .long d)]) hx hb dX4_compared_44 hl (by decide) rfl (fun ls hl => ?_)
    refine lv_lload hx hb dX4_compared_46 (lv_at hl 5 rfl) ?_
    refine lv_lload hx hb dX4_compared_48 (lv_at hl 1 rfl) ?_
    refine lv_lload hx hb dX4_compared_50 (lv_at hl 6 rfl) ?_
    refine lv_lmul hx hb dX4_compared_52 ?_
    refine lv_lsub hx hb dX4_compared_53 ?_
    refine lv_lstore (lv' := [(14, .long (o - ((fdL o d) * d))), (12, .long (a - ((fdL a b) * b))), (10, .long (fdL o d)), (8, .long (fdL a b)), (0, .long a), (2, .long b), (4, .long o), (6, .long d)]) hx hb dX4_compared_54 hl (by decide) rfl (fun ls hl => ?_)
    refine lv_lload hx hb dX4_compared_56 (lv_at hl 1 rfl) ?_
    refine lv_lconst (v := 0) hx hb dX4_compared_58 (by decide) ?_
    refine W.lcmp hx hb dX4_compared_59 ?_
    refine lv_if_eq (tgt := 70) hx hb dX4_compared_60 (by decide) (fun c60 => ?_) (fun c60 => ?_)
    · skip
      have c60 := (lg_cmp_eq _ _).mp c60
      refine lv_lload hx hb dX4_compared_70 (lv_at hl 1 rfl) ?_
      refine lv_lload hx hb dX4_compared_72 (lv_at hl 0 rfl) ?_
      refine W.lcmp hx hb dX4_compared_74 ?_
      refine lv_if_ne (tgt := 82) hx hb dX4_compared_75 (by decide) (fun c75 => ?_) (fun c75 => ?_)
      · skip
        have c75 := mt (lg_cmp_eq _ _).mpr c75
        refine lv_lload hx hb dX4_compared_82 (lv_at hl 1 rfl) ?_
        refine lv_lconst (v := 0) hx hb dX4_compared_84 (by decide) ?_
        refine W.lcmp hx hb dX4_compared_85 ?_
        refine lv_if_ne (tgt := 93) hx hb dX4_compared_86 (by decide) (fun c86 => ?_) (fun c86 => ?_)
        · skip
          have c86 := mt (lg_cmp_eq _ _).mpr c86
          refine lv_iconst (v := nI 1) hx hb dX4_compared_93 (by decide) ?_
          exact xe_iret hQ hx hb hr hlocks hH hS (Nat.le_refl _) (Nat.le_refl _) (⟨by rw [cpW, if_pos c21, if_pos (Or.inl c60), if_neg c75, if_neg c86]; rfl, rfl⟩) dX4_compared_94
        · skip
          have c86 := (lg_cmp_eq _ _).mp c86
          refine lv_iconst (v := (-1)) hx hb dX4_compared_89 (by decide) ?_
          refine lv_goto (tgt := 94) hx hb dX4_compared_90 (by decide) ?_
          exact xe_iret hQ hx hb hr hlocks hH hS (Nat.le_refl _) (Nat.le_refl _) (⟨by rw [cpW, if_pos c21, if_pos (Or.inl c60), if_neg c75, if_pos c86], rfl⟩) dX4_compared_94
      · skip
        have c75 := (lg_cmp_eq _ _).mp c75
        refine lv_iconst (v := nI 0) hx hb dX4_compared_78 (by decide) ?_
        refine lv_goto (tgt := 94) hx hb dX4_compared_79 (by decide) ?_
        exact xe_iret hQ hx hb hr hlocks hH hS (Nat.le_refl _) (Nat.le_refl _) (⟨by rw [cpW, if_pos c21, if_pos (Or.inl c60), if_pos c75]; rfl, rfl⟩) dX4_compared_94
    · skip
      have c60 := mt (lg_cmp_eq _ _).mpr c60
      refine lv_lload hx hb dX4_compared_63 (lv_at hl 0 rfl) ?_
      refine lv_lconst (v := 0) hx hb dX4_compared_65 (by decide) ?_
      refine W.lcmp hx hb dX4_compared_66 ?_
      refine lv_if_ne (tgt := 95) hx hb dX4_compared_67 (by decide) (fun c67 => ?_) (fun c67 => ?_)
      · skip
        have c67 := mt (lg_cmp_eq _ _).mpr c67
        refine lv_lload hx hb dX4_compared_95 (lv_at hl 7 rfl) ?_
        refine lv_lload hx hb dX4_compared_97 (lv_at hl 0 rfl) ?_
        refine lv_lload_n hx hb dX4_compared_99 rfl (lv_at hl 5 rfl) ?_
        refine lv_lload hx hb dX4_compared_100 (lv_at hl 1 rfl) ?_
        refine xw_callS (n := 4) [.long d, .long (o - ((fdL o d) * d)), .long b, .long (a - ((fdL a b) * b))] (ih d (o - fdL o d * d) b (a - fdL a b * b) (cpI_s h c60 c67)) hx hb hml hown hts hE hS rfl rfl q_48 q_948 q_950 q_949 (by decide) rfl ⟨by rw [hRf]; first | decide | (dsimp only; omega), by rw [hRl]; first | decide | (dsimp only; omega)⟩ hl.1 rfl (Nat.le_of_ble_eq_true rfl) dX4_compared_102 ⟨by rw [hRc]; decide, by rw [hRs]; decide⟩ (fun v H1 locs hp hS => ?_)
        obtain ⟨hv, hh⟩ := hp; subst hv; subst hh
        exact xe_iret hQ hx hb hr hlocks hH hS (Nat.le_refl _) (Nat.le_refl _) (⟨by rw [cpW, if_pos c21, if_neg (by rintro (g | g); exact c60 g; exact c67 g)], rfl⟩) dX4_compared_105
      · skip
        have c67 := (lg_cmp_eq _ _).mp c67
        refine lv_lload hx hb dX4_compared_70 (lv_at hl 1 rfl) ?_
        refine lv_lload hx hb dX4_compared_72 (lv_at hl 0 rfl) ?_
        refine W.lcmp hx hb dX4_compared_74 ?_
        refine lv_if_ne (tgt := 82) hx hb dX4_compared_75 (by decide) (fun c75 => ?_) (fun c75 => ?_)
        · skip
          have c75 := mt (lg_cmp_eq _ _).mpr c75
          refine lv_lload hx hb dX4_compared_82 (lv_at hl 1 rfl) ?_
          refine lv_lconst (v := 0) hx hb dX4_compared_84 (by decide) ?_
          refine W.lcmp hx hb dX4_compared_85 ?_
          refine lv_if_ne (tgt := 93) hx hb dX4_compared_86 (by decide) (fun c86 => ?_) (fun c86 => ?_)
          · skip
            have c86 := mt (lg_cmp_eq _ _).mpr c86
            refine lv_iconst (v := nI 1) hx hb dX4_compared_93 (by decide) ?_
            exact xe_iret hQ hx hb hr hlocks hH hS (Nat.le_refl _) (Nat.le_refl _) (⟨by rw [cpW, if_pos c21, if_pos (Or.inr c67), if_neg c75, if_neg c86]; rfl, rfl⟩) dX4_compared_94
          · skip
            have c86 := (lg_cmp_eq _ _).mp c86
            refine lv_iconst (v := (-1)) hx hb dX4_compared_89 (by decide) ?_
            refine lv_goto (tgt := 94) hx hb dX4_compared_90 (by decide) ?_
            exact xe_iret hQ hx hb hr hlocks hH hS (Nat.le_refl _) (Nat.le_refl _) (⟨by rw [cpW, if_pos c21, if_pos (Or.inr c67), if_neg c75, if_pos c86], rfl⟩) dX4_compared_94
        · skip
          have c75 := (lg_cmp_eq _ _).mp c75
          refine lv_iconst (v := nI 0) hx hb dX4_compared_78 (by decide) ?_
          refine lv_goto (tgt := 94) hx hb dX4_compared_79 (by decide) ?_
          exact xe_iret hQ hx hb hr hlocks hH hS (Nat.le_refl _) (Nat.le_refl _) (⟨by rw [cpW, if_pos c21, if_pos (Or.inr c67), if_pos c75]; rfl, rfl⟩) dX4_compared_94
  · skip
    have c21 := mt (lg_cmp_eq _ _).mpr c21
    refine lv_lload hx hb dX4_compared_24 (lv_at hl 1 rfl) ?_
    refine lv_lload hx hb dX4_compared_26 (lv_at hl 0 rfl) ?_
    refine W.lcmp hx hb dX4_compared_28 ?_
    refine lv_if_ge (tgt := 36) hx hb dX4_compared_29 (by decide) (fun c29 => ?_) (fun c29 => ?_)
    · skip
      have c29 := (lg_cmp_ge _ _).mp c29
      refine lv_iconst (v := nI 1) hx hb dX4_compared_36 (by decide) ?_
      exact xe_iret hQ hx hb hr hlocks hH hS (Nat.le_refl _) (Nat.le_refl _) (⟨by rw [cpW, if_neg c21, if_neg (Int64.not_lt.mpr c29)]; rfl, rfl⟩) dX4_compared_37
    · skip
      have c29 := mt (lg_cmp_ge _ _).mpr c29
      refine lv_iconst (v := (-1)) hx hb dX4_compared_32 (by decide) ?_
      refine lv_goto (tgt := 37) hx hb dX4_compared_33 (by decide) ?_
      exact xe_iret hQ hx hb hr hlocks hH hS (Nat.le_refl _) (Nat.le_refl _) (⟨by rw [cpW, if_neg c21, if_pos (Int64.not_le.mp c29)], rfl⟩) dX4_compared_37
