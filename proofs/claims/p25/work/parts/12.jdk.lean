set_option maxHeartbeats 4000000 in
set_option maxRecDepth 100000 in
theorem c_J9_abs_067f4 (l : Launch) {D : va_G} {y : Nat → ClassId} {A : Nat → Prop}  {Hs : Heap} (x : Int64) : Met l yJ9_abs_067f4 (.code yJ9_abs_067f4 cJ9_abs_067f4 2 (some .long) :: WG) { frames := 0, cells := 0, slots := 0, locals := 0 } (xPc [.long x] D y Hs) (xQ (fun v H1 => v = some (.long (absL x)) ∧ Hs = H1) A) 0 0 A := by
  refine xM_goF (by decide +kernel) (Nat.le_of_ble_eq_true rfl) (fun p e s m args below meth c ls R Q hx hb hr hlocks hml hown hts hH hE hnm hRf hRl hRc hRs hQ hS hl => ?_)
  have hRf : R.frames = 0 := hRf
  have hRl : R.locals = 0 := hRl
  have hRc : R.cells = 0 := hRc
  have hRs : R.slots = 0 := hRs
  have hl : lv_has ls 2 [(0, .long x)] := hl
  refine lv_lload_n hx hb dJ9_abs_067f4_0 rfl (lv_at hl 0 rfl) ?_
  refine lv_lconst (v := 0) hx hb dJ9_abs_067f4_1 (by decide) ?_
  refine W.lcmp hx hb dJ9_abs_067f4_2 ?_
  refine lv_if_ge (tgt := 11) hx hb dJ9_abs_067f4_3 (by decide) (fun c3 => ?_) (fun c3 => ?_)
  · skip
    have c3 := (lg_cmp_ge _ _).mp c3
    refine lv_lload_n hx hb dJ9_abs_067f4_11 rfl (lv_at hl 0 rfl) ?_
    exact xe_lret hQ hx hb hr hlocks hH hS (Nat.le_refl _) (Nat.le_refl _) (⟨by unfold absL; rw [if_pos c3], rfl⟩) dJ9_abs_067f4_12
  · skip
    have c3 := mt (lg_cmp_ge _ _).mpr c3
    refine lv_lload_n hx hb dJ9_abs_067f4_6 rfl (lv_at hl 0 rfl) ?_
    refine lv_lneg hx hb dJ9_abs_067f4_7 ?_
    refine lv_goto (tgt := 12) hx hb dJ9_abs_067f4_8 (by decide) ?_
    exact xe_lret hQ hx hb hr hlocks hH hS (Nat.le_refl _) (Nat.le_refl _) (⟨by unfold absL; rw [if_neg c3], rfl⟩) dJ9_abs_067f4_12

set_option maxHeartbeats 4000000 in
set_option maxRecDepth 100000 in
theorem c_J9_floorDiv_f86c9 (l : Launch) {D : va_G} {y : Nat → ClassId} {A : Nat → Prop}  {Hs : Heap} (a b : Int64) (hb0 : ¬ b = 0) : Met l yJ9_floorDiv_f86c9 (.code yJ9_floorDiv_f86c9 cJ9_floorDiv_f86c9 6 (some .long) :: WG) { frames := 0, cells := 0, slots := 0, locals := 0 } (xPc [.long a, .long b] D y Hs) (xQ (fun v H1 => v = some (.long (fdL a b)) ∧ Hs = H1) A) 0 0 A := by
  refine xM_goF (by decide +kernel) (Nat.le_of_ble_eq_true rfl) (fun p e s m args below meth c ls R Q hx hb hr hlocks hml hown hts hH hE hnm hRf hRl hRc hRs hQ hS hl => ?_)
  have hRf : R.frames = 0 := hRf
  have hRl : R.locals = 0 := hRl
  have hRc : R.cells = 0 := hRc
  have hRs : R.slots = 0 := hRs
  have hl : lv_has ls 6 [(0, .long a), (2, .long b)] := hl
  refine lv_lload_n hx hb dJ9_floorDiv_f86c9_0 rfl (lv_at hl 0 rfl) ?_
  refine lv_lload_n hx hb dJ9_floorDiv_f86c9_1 rfl (lv_at hl 1 rfl) ?_
  refine lv_ldiv hx hb dJ9_floorDiv_f86c9_2 (hb0) ?_
  refine lv_lstore (lv' := [(4, .long (a / b)), (0, .long a), (2, .long b)]) hx hb dJ9_floorDiv_f86c9_3 hl (by decide) rfl (fun ls hl => ?_)
  refine lv_lload_n hx hb dJ9_floorDiv_f86c9_5 rfl (lv_at hl 1 rfl) ?_
  refine lv_lload_n hx hb dJ9_floorDiv_f86c9_6 rfl (lv_at hl 2 rfl) ?_
  refine lv_lxor hx hb dJ9_floorDiv_f86c9_7 ?_
  refine lv_lconst (v := 0) hx hb dJ9_floorDiv_f86c9_8 (by decide) ?_
  refine W.lcmp hx hb dJ9_floorDiv_f86c9_9 ?_
  refine lv_if_ge (tgt := 27) hx hb dJ9_floorDiv_f86c9_10 (by decide) (fun c10 => ?_) (fun c10 => ?_)
  · skip
    have c10 := (lg_cmp_ge _ _).mp c10
    refine lv_lload hx hb dJ9_floorDiv_f86c9_27 (lv_at hl 0 rfl) ?_
    exact xe_lret hQ hx hb hr hlocks hH hS (Nat.le_refl _) (Nat.le_refl _) (⟨by unfold fdL; first | (rw [if_pos c10]; done) | (rw [if_neg c10, if_pos c19]; done), rfl⟩) dJ9_floorDiv_f86c9_29
  · skip
    have c10 := mt (lg_cmp_ge _ _).mpr c10
    refine lv_lload hx hb dJ9_floorDiv_f86c9_13 (lv_at hl 0 rfl) ?_
    refine lv_lload_n hx hb dJ9_floorDiv_f86c9_15 rfl (lv_at hl 2 rfl) ?_
    refine lv_lmul hx hb dJ9_floorDiv_f86c9_16 ?_
    refine lv_lload_n hx hb dJ9_floorDiv_f86c9_17 rfl (lv_at hl 1 rfl) ?_
    refine W.lcmp hx hb dJ9_floorDiv_f86c9_18 ?_
    refine lv_if_eq (tgt := 27) hx hb dJ9_floorDiv_f86c9_19 (by decide) (fun c19 => ?_) (fun c19 => ?_)
    · skip
      have c19 := (lg_cmp_eq _ _).mp c19
      refine lv_lload hx hb dJ9_floorDiv_f86c9_27 (lv_at hl 0 rfl) ?_
      exact xe_lret hQ hx hb hr hlocks hH hS (Nat.le_refl _) (Nat.le_refl _) (⟨by unfold fdL; first | (rw [if_pos c10]; done) | (rw [if_neg c10, if_pos c19]; done), rfl⟩) dJ9_floorDiv_f86c9_29
    · skip
      have c19 := mt (lg_cmp_eq _ _).mpr c19
      refine lv_lload hx hb dJ9_floorDiv_f86c9_22 (lv_at hl 0 rfl) ?_
      refine lv_lconst (v := 1) hx hb dJ9_floorDiv_f86c9_24 (by decide) ?_
      refine lv_lsub hx hb dJ9_floorDiv_f86c9_25 ?_
      exact xe_lret hQ hx hb hr hlocks hH hS (Nat.le_refl _) (Nat.le_refl _) (⟨by unfold fdL; rw [if_neg c10, if_neg c19], rfl⟩) dJ9_floorDiv_f86c9_26

set_option maxHeartbeats 4000000 in
set_option maxRecDepth 100000 in
theorem c_J9_floorMod_f86c9 (l : Launch) {D : va_G} {y : Nat → ClassId} {A : Nat → Prop}  {Hs : Heap} (a b : Int64) (hb0 : ¬ b = 0) : Met l yJ9_floorMod_f86c9 (.code yJ9_floorMod_f86c9 cJ9_floorMod_f86c9 6 (some .long) :: WG) { frames := 0, cells := 0, slots := 0, locals := 0 } (xPc [.long a, .long b] D y Hs) (xQ (fun v H1 => v = some (.long (fmL a b)) ∧ Hs = H1) A) 0 0 A := by
  refine xM_goF (by decide +kernel) (Nat.le_of_ble_eq_true rfl) (fun p e s m args below meth c ls R Q hx hb hr hlocks hml hown hts hH hE hnm hRf hRl hRc hRs hQ hS hl => ?_)
  have hRf : R.frames = 0 := hRf
  have hRl : R.locals = 0 := hRl
  have hRc : R.cells = 0 := hRc
  have hRs : R.slots = 0 := hRs
  have hl : lv_has ls 6 [(0, .long a), (2, .long b)] := hl
  refine lv_lload_n hx hb dJ9_floorMod_f86c9_0 rfl (lv_at hl 0 rfl) ?_
  refine lv_lload_n hx hb dJ9_floorMod_f86c9_1 rfl (lv_at hl 1 rfl) ?_
  refine lv_lrem hx hb dJ9_floorMod_f86c9_2 (hb0) ?_
  refine lv_lstore (lv' := [(4, .long (a - a / b * b)), (0, .long a), (2, .long b)]) hx hb dJ9_floorMod_f86c9_3 hl (by decide) rfl (fun ls hl => ?_)
  refine lv_lload_n hx hb dJ9_floorMod_f86c9_5 rfl (lv_at hl 1 rfl) ?_
  refine lv_lload_n hx hb dJ9_floorMod_f86c9_6 rfl (lv_at hl 2 rfl) ?_
  refine lv_lxor hx hb dJ9_floorMod_f86c9_7 ?_
  refine lv_lconst (v := 0) hx hb dJ9_floorMod_f86c9_8 (by decide) ?_
  refine W.lcmp hx hb dJ9_floorMod_f86c9_9 ?_
  refine lv_if_ge (tgt := 25) hx hb dJ9_floorMod_f86c9_10 (by decide) (fun c10 => ?_) (fun c10 => ?_)
  · skip
    have c10 := (lg_cmp_ge _ _).mp c10
    refine lv_lload hx hb dJ9_floorMod_f86c9_25 (lv_at hl 0 rfl) ?_
    exact xe_lret hQ hx hb hr hlocks hH hS (Nat.le_refl _) (Nat.le_refl _) (⟨by unfold fmL; first | (rw [if_pos c10]; done) | (rw [if_neg c10, if_pos c17]; done), rfl⟩) dJ9_floorMod_f86c9_27
  · skip
    have c10 := mt (lg_cmp_ge _ _).mpr c10
    refine lv_lload hx hb dJ9_floorMod_f86c9_13 (lv_at hl 0 rfl) ?_
    refine lv_lconst (v := 0) hx hb dJ9_floorMod_f86c9_15 (by decide) ?_
    refine W.lcmp hx hb dJ9_floorMod_f86c9_16 ?_
    refine lv_if_eq (tgt := 25) hx hb dJ9_floorMod_f86c9_17 (by decide) (fun c17 => ?_) (fun c17 => ?_)
    · skip
      have c17 := (lg_cmp_eq _ _).mp c17
      refine lv_lload hx hb dJ9_floorMod_f86c9_25 (lv_at hl 0 rfl) ?_
      exact xe_lret hQ hx hb hr hlocks hH hS (Nat.le_refl _) (Nat.le_refl _) (⟨by unfold fmL; first | (rw [if_pos c10]; done) | (rw [if_neg c10, if_pos c17]; done), rfl⟩) dJ9_floorMod_f86c9_27
    · skip
      have c17 := mt (lg_cmp_eq _ _).mpr c17
      refine lv_lload hx hb dJ9_floorMod_f86c9_20 (lv_at hl 0 rfl) ?_
      refine lv_lload_n hx hb dJ9_floorMod_f86c9_22 rfl (lv_at hl 2 rfl) ?_
      refine lv_ladd hx hb dJ9_floorMod_f86c9_23 ?_
      exact xe_lret hQ hx hb hr hlocks hH hS (Nat.le_refl _) (Nat.le_refl _) (⟨by unfold fmL; rw [if_neg c10, if_neg c17], rfl⟩) dJ9_floorMod_f86c9_24

set_option maxHeartbeats 4000000 in
set_option maxRecDepth 100000 in
theorem c_J3_checkIndex_8e157 (l : Launch) {D : va_G} {y : Nat → ClassId} {A : Nat → Prop}  {Hs : Heap} {i k : Nat} (hi : i < k) (hk : k < 1000) : Met l yJ3_checkIndex_8e157 (.code yJ3_checkIndex_8e157 cJ3_checkIndex_8e157 3 (some .int) :: WG) { frames := 0, cells := 0, slots := 0, locals := 0 } (xPc [.int (nI i), .int (nI k), .null] D y Hs) (xQ (fun v H1 => v = some (.int (nI i)) ∧ Hs = H1) A) 0 0 A := by
  refine xM_go (by decide) (Nat.le_of_ble_eq_true rfl) (fun p e s m args below meth c ls R Q hx hb hr hlocks hml hown hts hH hE hnm hRf hRl hRc hRs hQ hS hl => ?_)
  have hRf : R.frames = 0 := hRf
  have hRl : R.locals = 0 := hRl
  have hRc : R.cells = 0 := hRc
  have hRs : R.slots = 0 := hRs
  have hl : lv_has ls 3 [(0, .int (nI i)), (1, .int (nI k)), (2, .null)] := hl
  refine lv_iload_n hx hb dJ3_checkIndex_8e157_0 rfl (lv_at hl 0 rfl) ?_
  refine lv_if_lt (tgt := 9) hx hb dJ3_checkIndex_8e157_1 (by decide) (fun c1 => ?_) (fun c1 => ?_)
  · skip
    have c1 := ni_lt (a := i) (b := 0) (by omega) (by omega) c1
    exfalso; omega
  · skip
    have c1 := ni_nlt (a := i) (b := 0) (by omega) (by omega) c1
    refine lv_iload_n hx hb dJ3_checkIndex_8e157_4 rfl (lv_at hl 0 rfl) ?_
    refine lv_iload_n hx hb dJ3_checkIndex_8e157_5 rfl (lv_at hl 1 rfl) ?_
    refine lv_icmp_lt (tgt := 16) hx hb dJ3_checkIndex_8e157_6 (by decide) (fun c6 => ?_) (fun c6 => ?_)
    · skip
      have c6 := ni_lt (a := i) (b := k) (by omega) (by omega) c6
      refine lv_iload_n hx hb dJ3_checkIndex_8e157_16 rfl (lv_at hl 0 rfl) ?_
      exact xe_iret hQ hx hb hr hlocks hH hS (Nat.le_refl _) (Nat.le_refl _) (⟨rfl, rfl⟩) dJ3_checkIndex_8e157_17
    · skip
      have c6 := ni_nlt (a := i) (b := k) (by omega) (by omega) c6
      exfalso; omega

set_option maxHeartbeats 4000000 in
set_option maxRecDepth 100000 in
theorem c_J15_checkIndex_7cf53 (l : Launch) {D : va_G} {y : Nat → ClassId} {A : Nat → Prop}  {Hs : Heap} {i k : Nat} (hi : i < k) (hk : k < 1000) : Met l yJ15_checkIndex_7cf53 (.code yJ15_checkIndex_7cf53 cJ15_checkIndex_7cf53 2 (some .int) :: WG) { frames := 1, cells := 0, slots := 0, locals := 22 } (xPc [.int (nI i), .int (nI k)] D y Hs) (xQ (fun v H1 => v = some (.int (nI i)) ∧ Hs = H1) A) 0 0 A := by
  refine xM_go (by decide) (Nat.le_of_ble_eq_true rfl) (fun p e s m args below meth c ls R Q hx hb hr hlocks hml hown hts hH hE hnm hRf hRl hRc hRs hQ hS hl => ?_)
  have hRf : R.frames = 1 := hRf
  have hRl : R.locals = 22 := hRl
  have hRc : R.cells = 0 := hRc
  have hRs : R.slots = 0 := hRs
  have hl : lv_has ls 2 [(0, .int (nI i)), (1, .int (nI k))] := hl
  refine lv_iload_n hx hb dJ15_checkIndex_7cf53_0 rfl (lv_at hl 0 rfl) ?_
  refine lv_iload_n hx hb dJ15_checkIndex_7cf53_1 rfl (lv_at hl 1 rfl) ?_
  refine lv_null hx hb dJ15_checkIndex_7cf53_2 ?_
  refine xw_callS (n := 3) [.int (nI i), .int (nI k), .null] (c_J3_checkIndex_8e157 l hi hk) hx hb hml hown hts hE hS rfl rfl q_39 q_202 q_204 q_203 (by decide) rfl ⟨by rw [hRf]; decide, by rw [hRl]; decide⟩ hl.1 rfl (Nat.le_of_ble_eq_true rfl) dJ15_checkIndex_7cf53_3 ⟨by rw [hRc]; decide, by rw [hRs]; decide⟩ (fun v H1 locs hp hS => ?_)
  obtain ⟨hv, hh⟩ := hp; subst hv; subst hh
  exact xe_iret hQ hx hb hr hlocks hH hS (Nat.le_refl _) (Nat.le_refl _) (⟨rfl, rfl⟩) dJ15_checkIndex_7cf53_6

set_option maxHeartbeats 4000000 in
set_option maxRecDepth 100000 in
theorem c_size_nodes (l : Launch) {D : va_G} {y : Nat → ClassId} {A : Nat → Prop} {ad : xL → Nat} {bl : xM} {z : xC} {g : Nat → Int32} {pl : Nat → Int32} {kn : Nat → Int64} {rw : Nat → Nat → Int64} {mi : Nat → Int64} {un : Int32} {fR fO : Nat → Nat → Option va_E} {Hs : Heap} (hP : xW D A ad (wU (wB y ad bl z g pl kn rw mi un) fR fO) Hs)  : Met l yJx4a65c_size_8abf5 (.code yJx4a65c_size_8abf5 cJx4a65c_size_8abf5 1 (some .int) :: WG) { frames := 0, cells := 0, slots := 0, locals := 0 } (xPc [.ref (ad (1, 0))] D y Hs) (xQ (fun v H1 => v = some (.int (nI (nN z))) ∧ Hs = H1) A) 0 0 A := by
  refine xM_go (by decide) (Nat.le_of_ble_eq_true rfl) (fun p e s m args below meth c ls R Q hx hb hr hlocks hml hown hts hH hE hnm hRf hRl hRc hRs hQ hS hl => ?_)
  have hRf : R.frames = 0 := hRf
  have hRl : R.locals = 0 := hRl
  have hRc : R.cells = 0 := hRc
  have hRs : R.slots = 0 := hRs
  have hl : lv_has ls 1 [(0, .ref (ad (1, 0)))] := hl
  refine lv_aload_n hx hb dJx4a65c_size_8abf5_0 rfl (lv_at hl 0 rfl) ?_
  refine fg_AL_nodes_size hx hb hts hown hE hP q_65 dJx4a65c_size_8abf5_1 ?_
  exact xe_iret hQ hx hb hr hlocks hH hS (Nat.le_refl _) (Nat.le_refl _) (⟨rfl, rfl⟩) dJx4a65c_size_8abf5_4

set_option maxHeartbeats 4000000 in
set_option maxRecDepth 100000 in
theorem c_elData_nodes (l : Launch) {D : va_G} {y : Nat → ClassId} {A : Nat → Prop} {ad : xL → Nat} {bl : xM} {z : xC} {g : Nat → Int32} {pl : Nat → Int32} {kn : Nat → Int64} {rw : Nat → Nat → Int64} {mi : Nat → Int64} {un : Int32} {fR fO : Nat → Nat → Option va_E} {Hs : Heap} (hP : xW D A ad (wU (wB y ad bl z g pl kn rw mi un) fR fO) Hs) (hz : bOk bl z) {i : Nat} (hi : i < nN z) : Met l yJx4a65c_elementData_915e3 (.code yJx4a65c_elementData_915e3 cJx4a65c_elementData_915e3 2 (some (.object "java/lang/Object")) :: WG) { frames := 0, cells := 0, slots := 0, locals := 0 } (xPc [.ref (ad (1, 0)), .int (nI i)] D y Hs) (xQ (fun v H1 => v = some (.ref (ad (12, i))) ∧ Hs = H1) A) 0 0 A := by
  refine xM_go (by decide) (Nat.le_of_ble_eq_true rfl) (fun p e s m args below meth c ls R Q hx hb hr hlocks hml hown hts hH hE hnm hRf hRl hRc hRs hQ hS hl => ?_)
  have hRf : R.frames = 0 := hRf
  have hRl : R.locals = 0 := hRl
  have hRc : R.cells = 0 := hRc
  have hRs : R.slots = 0 := hRs
  have hl : lv_has ls 2 [(0, .ref (ad (1, 0))), (1, .int (nI i))] := hl
  have hN := hz.w.N
  have hE20 := hz.w.E
  refine lv_aload_n hx hb dJx4a65c_elementData_915e3_0 rfl (lv_at hl 0 rfl) ?_
  refine fg_AL_nodes_elementData hx hb hts hown hE hP q_64 dJx4a65c_elementData_915e3_1 ?_
  refine lv_iload_n hx hb dJx4a65c_elementData_915e3_4 rfl (lv_at hl 1 rfl) ?_
  refine al_nodes hx hb hE hP (i := i) (by omega) ⟨hz.2.1, hz.2.2.2.1⟩ dJx4a65c_elementData_915e3_5 ?_
  exact xe_aret hQ hx hb hr (Or.inl ⟨_, rfl⟩) hlocks hH hS (Nat.le_refl _) (Nat.le_refl _) (⟨rfl, rfl⟩) dJx4a65c_elementData_915e3_6

set_option maxHeartbeats 4000000 in
set_option maxRecDepth 100000 in
theorem c_get_nodes (l : Launch) {D : va_G} {y : Nat → ClassId} {A : Nat → Prop} {ad : xL → Nat} {bl : xM} {z : xC} {g : Nat → Int32} {pl : Nat → Int32} {kn : Nat → Int64} {rw : Nat → Nat → Int64} {mi : Nat → Int64} {un : Int32} {fR fO : Nat → Nat → Option va_E} {Hs : Heap} (hP : xW D A ad (wU (wB y ad bl z g pl kn rw mi un) fR fO) Hs) (hz : bOk bl z) {i : Nat} (hi : i < nN z) : Met l yJx4a65c_get_915e3 (.code yJx4a65c_get_915e3 cJx4a65c_get_915e3 2 (some (.object "java/lang/Object")) :: WG) { frames := 2, cells := 0, slots := 0, locals := 43 } (xPc [.ref (ad (1, 0)), .int (nI i)] D y Hs) (xQ (fun v H1 => v = some (.ref (ad (12, i))) ∧ Hs = H1) A) 0 0 A := by
  refine xM_go (by decide) (Nat.le_of_ble_eq_true rfl) (fun p e s m args below meth c ls R Q hx hb hr hlocks hml hown hts hH hE hnm hRf hRl hRc hRs hQ hS hl => ?_)
  have hRf : R.frames = 2 := hRf
  have hRl : R.locals = 43 := hRl
  have hRc : R.cells = 0 := hRc
  have hRs : R.slots = 0 := hRs
  have hl : lv_has ls 2 [(0, .ref (ad (1, 0))), (1, .int (nI i))] := hl
  have hN := hz.w.N
  have hE20 := hz.w.E
  refine lv_iload_n hx hb dJx4a65c_get_915e3_0 rfl (lv_at hl 1 rfl) ?_
  refine lv_aload_n hx hb dJx4a65c_get_915e3_1 rfl (lv_at hl 0 rfl) ?_
  refine fg_AL_nodes_size hx hb hts hown hE hP q_65 dJx4a65c_get_915e3_2 ?_
  refine xw_callS (n := 2) [.int (nI i), .int (nI (nN z))] (c_J15_checkIndex_7cf53 l hi (by omega)) hx hb hml hown hts hE hS rfl rfl q_38 q_199 q_201 q_200 (by decide) rfl ⟨by rw [hRf]; decide, by rw [hRl]; decide⟩ hl.1 rfl (Nat.le_of_ble_eq_true rfl) dJx4a65c_get_915e3_5 ⟨by rw [hRc]; decide, by rw [hRs]; decide⟩ (fun v H1 locs hp hS => ?_)
  obtain ⟨hv, hh⟩ := hp; subst hv; subst hh
  refine lv_pop hx hb dJx4a65c_get_915e3_8 rfl ?_
  refine lv_aload_n hx hb dJx4a65c_get_915e3_9 rfl (lv_at hl 0 rfl) ?_
  refine lv_iload_n hx hb dJx4a65c_get_915e3_10 rfl (lv_at hl 1 rfl) ?_
  refine xw_callV (C := "java/util/ArrayList") (n := 1) [.int (nI i)] (c_elData_nodes l hP hz hi) hx hb hml hown hts hE hS (xw_recv hE hP (1, 0) rfl rfl) rfl rfl q_24 q_205 q_208 q_206 q_207 (by decide) rfl ⟨by rw [hRf]; decide, by rw [hRl]; decide⟩ hl.1 rfl (Nat.le_of_ble_eq_true rfl) dJx4a65c_get_915e3_11 ⟨by rw [hRc]; decide, by rw [hRs]; decide⟩ (fun v H1 locs hp hS => ?_)
  obtain ⟨hv, hh⟩ := hp; subst hv; subst hh
  exact xe_aret hQ hx hb hr (Or.inl ⟨_, rfl⟩) hlocks hH hS (Nat.le_refl _) (Nat.le_refl _) (⟨rfl, rfl⟩) dJx4a65c_get_915e3_14

set_option maxHeartbeats 4000000 in
set_option maxRecDepth 100000 in
theorem c_size_elements (l : Launch) {D : va_G} {y : Nat → ClassId} {A : Nat → Prop} {ad : xL → Nat} {bl : xM} {z : xC} {g : Nat → Int32} {pl : Nat → Int32} {kn : Nat → Int64} {rw : Nat → Nat → Int64} {mi : Nat → Int64} {un : Int32} {fR fO : Nat → Nat → Option va_E} {Hs : Heap} (hP : xW D A ad (wU (wB y ad bl z g pl kn rw mi un) fR fO) Hs)  : Met l yJx4a65c_size_8abf5 (.code yJx4a65c_size_8abf5 cJx4a65c_size_8abf5 1 (some .int) :: WG) { frames := 0, cells := 0, slots := 0, locals := 0 } (xPc [.ref (ad (3, 0))] D y Hs) (xQ (fun v H1 => v = some (.int (nI (nE z))) ∧ Hs = H1) A) 0 0 A := by
  refine xM_go (by decide) (Nat.le_of_ble_eq_true rfl) (fun p e s m args below meth c ls R Q hx hb hr hlocks hml hown hts hH hE hnm hRf hRl hRc hRs hQ hS hl => ?_)
  have hRf : R.frames = 0 := hRf
  have hRl : R.locals = 0 := hRl
  have hRc : R.cells = 0 := hRc
  have hRs : R.slots = 0 := hRs
  have hl : lv_has ls 1 [(0, .ref (ad (3, 0)))] := hl
  refine lv_aload_n hx hb dJx4a65c_size_8abf5_0 rfl (lv_at hl 0 rfl) ?_
  refine fg_AL_elements_size hx hb hts hown hE hP q_65 dJx4a65c_size_8abf5_1 ?_
  exact xe_iret hQ hx hb hr hlocks hH hS (Nat.le_refl _) (Nat.le_refl _) (⟨rfl, rfl⟩) dJx4a65c_size_8abf5_4

set_option maxHeartbeats 4000000 in
set_option maxRecDepth 100000 in
theorem c_elData_elements (l : Launch) {D : va_G} {y : Nat → ClassId} {A : Nat → Prop} {ad : xL → Nat} {bl : xM} {z : xC} {g : Nat → Int32} {pl : Nat → Int32} {kn : Nat → Int64} {rw : Nat → Nat → Int64} {mi : Nat → Int64} {un : Int32} {fR fO : Nat → Nat → Option va_E} {Hs : Heap} (hP : xW D A ad (wU (wB y ad bl z g pl kn rw mi un) fR fO) Hs) (hz : bOk bl z) {i : Nat} (hi : i < nE z) : Met l yJx4a65c_elementData_915e3 (.code yJx4a65c_elementData_915e3 cJx4a65c_elementData_915e3 2 (some (.object "java/lang/Object")) :: WG) { frames := 0, cells := 0, slots := 0, locals := 0 } (xPc [.ref (ad (3, 0)), .int (nI i)] D y Hs) (xQ (fun v H1 => v = some (.ref (ad (13, i))) ∧ Hs = H1) A) 0 0 A := by
  refine xM_go (by decide) (Nat.le_of_ble_eq_true rfl) (fun p e s m args below meth c ls R Q hx hb hr hlocks hml hown hts hH hE hnm hRf hRl hRc hRs hQ hS hl => ?_)
  have hRf : R.frames = 0 := hRf
  have hRl : R.locals = 0 := hRl
  have hRc : R.cells = 0 := hRc
  have hRs : R.slots = 0 := hRs
  have hl : lv_has ls 2 [(0, .ref (ad (3, 0))), (1, .int (nI i))] := hl
  have hN := hz.w.N
  have hE20 := hz.w.E
  refine lv_aload_n hx hb dJx4a65c_elementData_915e3_0 rfl (lv_at hl 0 rfl) ?_
  refine fg_AL_elements_elementData hx hb hts hown hE hP q_64 dJx4a65c_elementData_915e3_1 ?_
  refine lv_iload_n hx hb dJx4a65c_elementData_915e3_4 rfl (lv_at hl 1 rfl) ?_
  refine al_elements hx hb hE hP (i := i) (by omega) ⟨hz.2.2.1, hz.2.2.2.2⟩ dJx4a65c_elementData_915e3_5 ?_
  exact xe_aret hQ hx hb hr (Or.inl ⟨_, rfl⟩) hlocks hH hS (Nat.le_refl _) (Nat.le_refl _) (⟨rfl, rfl⟩) dJx4a65c_elementData_915e3_6

set_option maxHeartbeats 4000000 in
set_option maxRecDepth 100000 in
theorem c_get_elements (l : Launch) {D : va_G} {y : Nat → ClassId} {A : Nat → Prop} {ad : xL → Nat} {bl : xM} {z : xC} {g : Nat → Int32} {pl : Nat → Int32} {kn : Nat → Int64} {rw : Nat → Nat → Int64} {mi : Nat → Int64} {un : Int32} {fR fO : Nat → Nat → Option va_E} {Hs : Heap} (hP : xW D A ad (wU (wB y ad bl z g pl kn rw mi un) fR fO) Hs) (hz : bOk bl z) {i : Nat} (hi : i < nE z) : Met l yJx4a65c_get_915e3 (.code yJx4a65c_get_915e3 cJx4a65c_get_915e3 2 (some (.object "java/lang/Object")) :: WG) { frames := 2, cells := 0, slots := 0, locals := 43 } (xPc [.ref (ad (3, 0)), .int (nI i)] D y Hs) (xQ (fun v H1 => v = some (.ref (ad (13, i))) ∧ Hs = H1) A) 0 0 A := by
  refine xM_go (by decide) (Nat.le_of_ble_eq_true rfl) (fun p e s m args below meth c ls R Q hx hb hr hlocks hml hown hts hH hE hnm hRf hRl hRc hRs hQ hS hl => ?_)
  have hRf : R.frames = 2 := hRf
  have hRl : R.locals = 43 := hRl
  have hRc : R.cells = 0 := hRc
  have hRs : R.slots = 0 := hRs
  have hl : lv_has ls 2 [(0, .ref (ad (3, 0))), (1, .int (nI i))] := hl
  have hN := hz.w.N
  have hE20 := hz.w.E
  refine lv_iload_n hx hb dJx4a65c_get_915e3_0 rfl (lv_at hl 1 rfl) ?_
  refine lv_aload_n hx hb dJx4a65c_get_915e3_1 rfl (lv_at hl 0 rfl) ?_
  refine fg_AL_elements_size hx hb hts hown hE hP q_65 dJx4a65c_get_915e3_2 ?_
  refine xw_callS (n := 2) [.int (nI i), .int (nI (nE z))] (c_J15_checkIndex_7cf53 l hi (by omega)) hx hb hml hown hts hE hS rfl rfl q_38 q_199 q_201 q_200 (by decide) rfl ⟨by rw [hRf]; decide, by rw [hRl]; decide⟩ hl.1 rfl (Nat.le_of_ble_eq_true rfl) dJx4a65c_get_915e3_5 ⟨by rw [hRc]; decide, by rw [hRs]; decide⟩ (fun v H1 locs hp hS => ?_)
  obtain ⟨hv, hh⟩ := hp; subst hv; subst hh
  refine lv_pop hx hb dJx4a65c_get_915e3_8 rfl ?_
  refine lv_aload_n hx hb dJx4a65c_get_915e3_9 rfl (lv_at hl 0 rfl) ?_
  refine lv_iload_n hx hb dJx4a65c_get_915e3_10 rfl (lv_at hl 1 rfl) ?_
  refine xw_callV (C := "java/util/ArrayList") (n := 1) [.int (nI i)] (c_elData_elements l hP hz hi) hx hb hml hown hts hE hS (xw_recv hE hP (3, 0) rfl rfl) rfl rfl q_24 q_205 q_208 q_206 q_207 (by decide) rfl ⟨by rw [hRf]; decide, by rw [hRl]; decide⟩ hl.1 rfl (Nat.le_of_ble_eq_true rfl) dJx4a65c_get_915e3_11 ⟨by rw [hRc]; decide, by rw [hRs]; decide⟩ (fun v H1 locs hp hS => ?_)
  obtain ⟨hv, hh⟩ := hp; subst hv; subst hh
  exact xe_aret hQ hx hb hr (Or.inl ⟨_, rfl⟩) hlocks hH hS (Nat.le_refl _) (Nat.le_refl _) (⟨rfl, rfl⟩) dJx4a65c_get_915e3_14
