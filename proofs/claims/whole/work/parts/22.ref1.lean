set_option maxHeartbeats 4000000 in
set_option maxRecDepth 100000 in
theorem c_X4_isIn (l : Launch) {D : va_G} {y : Nat → ClassId} {A : Nat → Prop}  {Hs : Heap} (x lo hi : Int32) : Met l yX4_isIn (.code yX4_isIn cX4_isIn 3 (some .boolean) :: WG) { frames := 0, cells := 0, slots := 0, locals := 0 } (xPc [.int x, .int lo, .int hi] D y Hs) (xQ (fun v H1 => v = some (.int (if ¬ (x < lo ∨ hi < x) then nI 1 else nI 0)) ∧ Hs = H1) A) 0 0 A := by
  refine xM_go (by decide) (Nat.le_of_ble_eq_true rfl) (fun p e s m args below meth c ls R Q hx hb hr hlocks hml hown hts hH hE hnm hRf hRl hRc hRs hQ hS hl => ?_)
  have hRf : R.frames = 0 := hRf
  have hRl : R.locals = 0 := hRl
  have hRc : R.cells = 0 := hRc
  have hRs : R.slots = 0 := hRs
  have hl : lv_has ls 3 [(0, .int x), (1, .int lo), (2, .int hi)] := hl
  refine lv_iload_n hx hb dX4_isIn_0 rfl (lv_at hl 0 rfl) ?_
  refine lv_iload_n hx hb dX4_isIn_1 rfl (lv_at hl 1 rfl) ?_
  refine lv_icmp_lt (tgt := 14) hx hb dX4_isIn_2 (by decide) (fun c2 => ?_) (fun c2 => ?_)
  · skip
    refine lv_iconst (v := nI 0) hx hb dX4_isIn_14 (by decide) ?_
    exact xe_zret hQ hx hb hr hlocks hH hS (by first | assumption | decide | omega) (Nat.le_refl _) (Nat.le_refl _) (⟨by rw [if_neg (fun h => by first | exact h (Or.inl c2) | exact h (Or.inr c7))], rfl⟩) dX4_isIn_15
  · skip
    refine lv_iload_n hx hb dX4_isIn_5 rfl (lv_at hl 0 rfl) ?_
    refine lv_iload_n hx hb dX4_isIn_6 rfl (lv_at hl 2 rfl) ?_
    refine lv_icmp_gt (tgt := 14) hx hb dX4_isIn_7 (by decide) (fun c7 => ?_) (fun c7 => ?_)
    · skip
      refine lv_iconst (v := nI 0) hx hb dX4_isIn_14 (by decide) ?_
      exact xe_zret hQ hx hb hr hlocks hH hS (by first | assumption | decide | omega) (Nat.le_refl _) (Nat.le_refl _) (⟨by rw [if_neg (fun h => by first | exact h (Or.inl c2) | exact h (Or.inr c7))], rfl⟩) dX4_isIn_15
    · skip
      refine lv_iconst (v := nI 1) hx hb dX4_isIn_10 (by decide) ?_
      refine lv_goto (tgt := 15) hx hb dX4_isIn_11 (by decide) ?_
      exact xe_zret hQ hx hb hr hlocks hH hS (by first | assumption | decide | omega) (Nat.le_refl _) (Nat.le_refl _) (⟨by rw [if_pos (fun h => by rcases h with h | h; exact c2 h; exact c7 h)], rfl⟩) dX4_isIn_15

set_option maxHeartbeats 4000000 in
set_option maxRecDepth 100000 in
theorem c_X4_thrown (l : Launch) {D : va_G} {y : Nat → ClassId} {A : Nat → Prop} {ad : xL → Nat} {th : Int32} {w : xC} {qp : Nat → Int32} {qm : Nat → Int64} {qr : Nat → Int64} {qi : Nat → Int64} {qn : Nat → Int64} {qf : Nat → Int32} {qu : Int32} {qd : Int64} {fB fO : Nat → Nat → Option va_E} {Hs : Heap} (hP : xW D A ad (wU fB (wR y ad th w qp qm qr qi qn qf qu qd) fO) Hs)  : Met l yX4_thrown (.code yX4_thrown cX4_thrown 1 (some .int) :: WG) { frames := 0, cells := 0, slots := 0, locals := 0 } (xPc [.ref (ad (20, 0))] D y Hs) (xQ (fun v H1 => v = some (.int th) ∧ Hs = H1) A) 0 0 A := by
  refine xM_go (by decide) (Nat.le_of_ble_eq_true rfl) (fun p e s m args below meth c ls R Q hx hb hr hlocks hml hown hts hH hE hnm hRf hRl hRc hRs hQ hS hl => ?_)
  have hRf : R.frames = 0 := hRf
  have hRl : R.locals = 0 := hRl
  have hRc : R.cells = 0 := hRc
  have hRs : R.slots = 0 := hRs
  have hl : lv_has ls 1 [(0, .ref (ad (20, 0)))] := hl
  refine lv_aload_n hx hb dX4_thrown_0 rfl (lv_at hl 0 rfl) ?_
  refine fg_X4_thrown hx hb hts hown hE hP q_728 dX4_thrown_1 ?_
  exact xe_iret hQ hx hb hr hlocks hH hS (Nat.le_refl _) (Nat.le_refl _) (⟨rfl, rfl⟩) dX4_thrown_4

set_option maxHeartbeats 4000000 in
set_option maxRecDepth 100000 in
theorem c_X4_fail (l : Launch) {D : va_G} {y : Nat → ClassId} {A : Nat → Prop} {ad : xL → Nat} {th : Int32} {w : xC} {qp : Nat → Int32} {qm : Nat → Int64} {qr : Nat → Int64} {qi : Nat → Int64} {qn : Nat → Int64} {qf : Nat → Int32} {qu : Int32} {qd : Int64} {fB fO : Nat → Nat → Option va_E} {Hs : Heap} (hP : xW D A ad (wU fB (wR y ad th w qp qm qr qi qn qf qu qd) fO) Hs) (k : Int32) : Met l yX4_fail (.code yX4_fail cX4_fail 2 (some .int) :: WG) { frames := 0, cells := 0, slots := 0, locals := 0 } (xPc [.ref (ad (20, 0)), .int k] D y Hs) (xQ (fun v H1 => v = some (.int 0) ∧ xW D A ad (wU fB (wR y ad k w qp qm qr qi qn qf qu qd) fO) H1) A) 0 0 A := by
  refine xM_go (by decide) (Nat.le_of_ble_eq_true rfl) (fun p e s m args below meth c ls R Q hx hb hr hlocks hml hown hts hH hE hnm hRf hRl hRc hRs hQ hS hl => ?_)
  have hRf : R.frames = 0 := hRf
  have hRl : R.locals = 0 := hRl
  have hRc : R.cells = 0 := hRc
  have hRs : R.slots = 0 := hRs
  have hl : lv_has ls 2 [(0, .ref (ad (20, 0))), (1, .int k)] := hl
  refine lv_aload_n hx hb dX4_fail_0 rfl (lv_at hl 0 rfl) ?_
  refine lv_iload_n hx hb dX4_fail_1 rfl (lv_at hl 1 rfl) ?_
  refine fp_X4_thrown hx hb hts hown hE hS hP q_728 dX4_fail_2 (fun H locs hP hS => ?_)
  refine lv_iconst (v := nI 0) hx hb dX4_fail_5 (by decide) ?_
  exact xe_iret hQ hx hb hr hlocks hH hS (Nat.le_refl _) (Nat.le_refl _) (⟨rfl, hP⟩) dX4_fail_6

set_option maxHeartbeats 4000000 in
set_option maxRecDepth 100000 in
theorem c_X4_isNode (l : Launch) {D : va_G} {y : Nat → ClassId} {A : Nat → Prop} {ad : xL → Nat} {th : Int32} {w : xC} {qp : Nat → Int32} {qm : Nat → Int64} {qr : Nat → Int64} {qi : Nat → Int64} {qn : Nat → Int64} {qf : Nat → Int32} {qu : Int32} {qd : Int64} {fB fO : Nat → Nat → Option va_E} {Hs : Heap} (hP : xW D A ad (wU fB (wR y ad th w qp qm qr qi qn qf qu qd) fO) Hs) {z : xC} (hq : Rq z w) (hw : wf z) (x : Int32) : Met l yX4_isNode (.code yX4_isNode cX4_isNode 2 (some .boolean) :: WG) { frames := 1, cells := 0, slots := 0, locals := 22 } (xPc [.ref (ad (20, 0)), .int x] D y Hs) (xQ (fun v H1 => v = some (.int (if nodeP z x then nI 1 else nI 0)) ∧ Hs = H1) A) 0 0 A := by
  refine xM_go (by decide) (Nat.le_of_ble_eq_true rfl) (fun p e s m args below meth c ls R Q hx hb hr hlocks hml hown hts hH hE hnm hRf hRl hRc hRs hQ hS hl => ?_)
  have hRf : R.frames = 1 := hRf
  have hRl : R.locals = 22 := hRl
  have hRc : R.cells = 0 := hRc
  have hRs : R.slots = 0 := hRs
  have hl : lv_has ls 2 [(0, .ref (ad (20, 0))), (1, .int x)] := hl
  have hN := hw.N
  have hE20 := hw.E
  refine lv_iload_n hx hb dX4_isNode_0 rfl (lv_at hl 1 rfl) ?_
  refine lv_iconst (v := nI 0) hx hb dX4_isNode_1 (by decide) ?_
  refine lv_aload_n hx hb dX4_isNode_2 rfl (lv_at hl 0 rfl) ?_
  refine fg_X4_nodes hx hb hts hown hE hP q_729 dX4_isNode_3 ?_
  refine xt_i (congrArg nI hq.N) ?_
  refine lv_iconst (v := nI 1) hx hb dX4_isNode_6 (by decide) ?_
  refine lv_isub hx hb dX4_isNode_7 ?_
  refine xw_callS (n := 3) [.int x, .int (nI 0), .int ((nI (nN z)) - (nI 1))] (c_X4_isIn l x (nI 0) (nI (nN z) - nI 1)) hx hb hml hown hts hE hS rfl rfl q_48 q_810 q_812 q_811 (by decide) rfl ⟨by rw [hRf]; decide, by rw [hRl]; decide⟩ hl.1 rfl (Nat.le_of_ble_eq_true rfl) dX4_isNode_8 ⟨by rw [hRc]; decide, by rw [hRs]; decide⟩ (fun v H1 locs hp hS => ?_)
  obtain ⟨hv, hh⟩ := hp; subst hv; subst hh
  refine xt_i (w := if nodeP z x then nI 1 else nI 0) (by simp only [nd_in (n := nN z) (by omega), Classical.not_not]) ?_
  exact xe_zret hQ hx hb hr hlocks hH hS b_01 (Nat.le_refl _) (Nat.le_refl _) (⟨rfl, rfl⟩) dX4_isNode_11

set_option maxHeartbeats 4000000 in
set_option maxRecDepth 100000 in
theorem c_X4_isElement (l : Launch) {D : va_G} {y : Nat → ClassId} {A : Nat → Prop} {ad : xL → Nat} {th : Int32} {w : xC} {qp : Nat → Int32} {qm : Nat → Int64} {qr : Nat → Int64} {qi : Nat → Int64} {qn : Nat → Int64} {qf : Nat → Int32} {qu : Int32} {qd : Int64} {fB fO : Nat → Nat → Option va_E} {Hs : Heap} (hP : xW D A ad (wU fB (wR y ad th w qp qm qr qi qn qf qu qd) fO) Hs) {z : xC} (hq : Rq z w) (hw : wf z) (x : Int32) : Met l yX4_isElement (.code yX4_isElement cX4_isElement 2 (some .boolean) :: WG) { frames := 1, cells := 0, slots := 0, locals := 22 } (xPc [.ref (ad (20, 0)), .int x] D y Hs) (xQ (fun v H1 => v = some (.int (if elP z x then nI 1 else nI 0)) ∧ Hs = H1) A) 0 0 A := by
  refine xM_go (by decide) (Nat.le_of_ble_eq_true rfl) (fun p e s m args below meth c ls R Q hx hb hr hlocks hml hown hts hH hE hnm hRf hRl hRc hRs hQ hS hl => ?_)
  have hRf : R.frames = 1 := hRf
  have hRl : R.locals = 22 := hRl
  have hRc : R.cells = 0 := hRc
  have hRs : R.slots = 0 := hRs
  have hl : lv_has ls 2 [(0, .ref (ad (20, 0))), (1, .int x)] := hl
  have hN := hw.N
  have hE20 := hw.E
  refine lv_iload_n hx hb dX4_isElement_0 rfl (lv_at hl 1 rfl) ?_
  refine lv_iconst (v := nI 0) hx hb dX4_isElement_1 (by decide) ?_
  refine lv_aload_n hx hb dX4_isElement_2 rfl (lv_at hl 0 rfl) ?_
  refine fg_X4_elements hx hb hts hown hE hP q_732 dX4_isElement_3 ?_
  refine xt_i (congrArg nI hq.E) ?_
  refine lv_iconst (v := nI 1) hx hb dX4_isElement_6 (by decide) ?_
  refine lv_isub hx hb dX4_isElement_7 ?_
  refine xw_callS (n := 3) [.int x, .int (nI 0), .int ((nI (nE z)) - (nI 1))] (c_X4_isIn l x (nI 0) (nI (nE z) - nI 1)) hx hb hml hown hts hE hS rfl rfl q_48 q_810 q_812 q_811 (by decide) rfl ⟨by rw [hRf]; decide, by rw [hRl]; decide⟩ hl.1 rfl (Nat.le_of_ble_eq_true rfl) dX4_isElement_8 ⟨by rw [hRc]; decide, by rw [hRs]; decide⟩ (fun v H1 locs hp hS => ?_)
  obtain ⟨hv, hh⟩ := hp; subst hv; subst hh
  refine xt_i (w := if elP z x then nI 1 else nI 0) (by simp only [nd_in (n := nE z) (by omega), Classical.not_not]) ?_
  exact xe_zret hQ hx hb hr hlocks hH hS b_01 (Nat.le_refl _) (Nat.le_refl _) (⟨rfl, rfl⟩) dX4_isElement_11

set_option maxHeartbeats 4000000 in
set_option maxRecDepth 100000 in
theorem c_X4_isTime (l : Launch) {D : va_G} {y : Nat → ClassId} {A : Nat → Prop}  {Hs : Heap} (x : Int32) : Met l yX4_isTime (.code yX4_isTime cX4_isTime 1 (some .boolean) :: WG) { frames := 1, cells := 0, slots := 0, locals := 22 } (xPc [.int x] D y Hs) (xQ (fun v H1 => v = some (.int (if timeP x then nI 1 else nI 0)) ∧ Hs = H1) A) 0 0 A := by
  refine xM_go (by decide) (Nat.le_of_ble_eq_true rfl) (fun p e s m args below meth c ls R Q hx hb hr hlocks hml hown hts hH hE hnm hRf hRl hRc hRs hQ hS hl => ?_)
  have hRf : R.frames = 1 := hRf
  have hRl : R.locals = 22 := hRl
  have hRc : R.cells = 0 := hRc
  have hRs : R.slots = 0 := hRs
  have hl : lv_has ls 1 [(0, .int x)] := hl
  refine lv_iload_n hx hb dX4_isTime_0 rfl (lv_at hl 0 rfl) ?_
  refine lv_iconst (v := nI 0) hx hb dX4_isTime_1 (by decide) ?_
  refine lv_sipush (v := nI 999) hx hb dX4_isTime_2 (by decide) ?_
  refine xw_callS (n := 3) [.int x, .int (nI 0), .int (nI 999)] (c_X4_isIn l x (nI 0) (nI 999)) hx hb hml hown hts hE hS rfl rfl q_48 q_810 q_812 q_811 (by decide) rfl ⟨by rw [hRf]; decide, by rw [hRl]; decide⟩ hl.1 rfl (Nat.le_of_ble_eq_true rfl) dX4_isTime_5 ⟨by rw [hRc]; decide, by rw [hRs]; decide⟩ (fun v H1 locs hp hS => ?_)
  obtain ⟨hv, hh⟩ := hp; subst hv; subst hh
  refine xt_i (w := if timeP x then nI 1 else nI 0) (by simp only [not_or, Int32.not_lt]; rfl) ?_
  exact xe_zret hQ hx hb hr hlocks hH hS b_01 (Nat.le_refl _) (Nat.le_refl _) (⟨rfl, rfl⟩) dX4_isTime_8

set_option maxHeartbeats 4000000 in
set_option maxRecDepth 100000 in
theorem c_X4_isSize (l : Launch) {D : va_G} {y : Nat → ClassId} {A : Nat → Prop}  {Hs : Heap} (sr x : Int32) : Met l yX4_isSize (.code yX4_isSize cX4_isSize 2 (some .boolean) :: WG) { frames := 1, cells := 0, slots := 0, locals := 22 } (xPc [.int sr, .int x] D y Hs) (xQ (fun v H1 => v = some (.int (if sizeP sr x then nI 1 else nI 0)) ∧ Hs = H1) A) 0 0 A := by
  refine xM_go (by decide) (Nat.le_of_ble_eq_true rfl) (fun p e s m args below meth c ls R Q hx hb hr hlocks hml hown hts hH hE hnm hRf hRl hRc hRs hQ hS hl => ?_)
  have hRf : R.frames = 1 := hRf
  have hRl : R.locals = 22 := hRl
  have hRc : R.cells = 0 := hRc
  have hRs : R.slots = 0 := hRs
  have hl : lv_has ls 2 [(0, .int sr), (1, .int x)] := hl
  refine lv_iload_n hx hb dX4_isSize_0 rfl (lv_at hl 0 rfl) ?_
  refine lv_if_eq (tgt := 15) hx hb dX4_isSize_1 (by decide) (fun c1 => ?_) (fun c1 => ?_)
  · skip
    refine lv_iload_n hx hb dX4_isSize_15 rfl (lv_at hl 1 rfl) ?_
    refine lv_iconst (v := nI 1) hx hb dX4_isSize_16 (by decide) ?_
    refine lv_bipush (v := nI 9) hx hb dX4_isSize_17 (by decide) ?_
    refine xw_callS (n := 3) [.int x, .int (nI 1), .int (nI 9)] (c_X4_isIn l x (nI 1) (nI 9)) hx hb hml hown hts hE hS rfl rfl q_48 q_810 q_812 q_811 (by decide) rfl ⟨by rw [hRf]; decide, by rw [hRl]; decide⟩ hl.1 rfl (Nat.le_of_ble_eq_true rfl) dX4_isSize_19 ⟨by rw [hRc]; decide, by rw [hRs]; decide⟩ (fun v H1 locs hp hS => ?_)
    obtain ⟨hv, hh⟩ := hp; subst hv; subst hh
    refine xt_i (w := if sizeP sr x then nI 1 else nI 0) (by simp only [not_or, Int32.not_lt, sizeP, c1, not_true_eq_false, false_and, or_false, true_and]; rfl) ?_
    exact xe_zret hQ hx hb hr hlocks hH hS b_01 (Nat.le_refl _) (Nat.le_refl _) (⟨rfl, rfl⟩) dX4_isSize_22
  · skip
    refine lv_iload_n hx hb dX4_isSize_4 rfl (lv_at hl 1 rfl) ?_
    refine lv_bipush (v := (-99)) hx hb dX4_isSize_5 (by decide) ?_
    refine lv_bipush (v := nI 99) hx hb dX4_isSize_7 (by decide) ?_
    refine xw_callS (n := 3) [.int x, .int ((-99)), .int (nI 99)] (c_X4_isIn l x (-99) (nI 99)) hx hb hml hown hts hE hS rfl rfl q_48 q_810 q_812 q_811 (by decide) rfl ⟨by rw [hRf]; decide, by rw [hRl]; decide⟩ hl.1 rfl (Nat.le_of_ble_eq_true rfl) dX4_isSize_9 ⟨by rw [hRc]; decide, by rw [hRs]; decide⟩ (fun v H1 locs hp hS => ?_)
    obtain ⟨hv, hh⟩ := hp; subst hv; subst hh
    refine xt_i (w := if sizeP sr x then nI 1 else nI 0) (by simp only [not_or, Int32.not_lt, sizeP, c1, false_and, false_or, not_false_eq_true, true_and]) ?_
    refine lv_goto (tgt := 22) hx hb dX4_isSize_12 (by decide) ?_
    exact xe_zret hQ hx hb hr hlocks hH hS b_01 (Nat.le_refl _) (Nat.le_refl _) (⟨rfl, rfl⟩) dX4_isSize_22

set_option maxHeartbeats 4000000 in
set_option maxRecDepth 100000 in
theorem c_X4_isOnAt (l : Launch) {D : va_G} {y : Nat → ClassId} {A : Nat → Prop} {ad : xL → Nat} {th : Int32} {w : xC} {qp : Nat → Int32} {qm : Nat → Int64} {qr : Nat → Int64} {qi : Nat → Int64} {qn : Nat → Int64} {qf : Nat → Int32} {qu : Int32} {qd : Int64} {fB fO : Nat → Nat → Option va_E} {Hs : Heap} (hP : xW D A ad (wU fB (wR y ad th w qp qm qr qi qn qf qu qd) fO) Hs) {z : xC} (hq : Rq z w) (hw : wf z) {i t : Nat} (hi : i < nE z) (ht : t ≤ 999) : Met l yX4_isOnAt (.code yX4_isOnAt cX4_isOnAt 5 (some .boolean) :: WG) { frames := 0, cells := 0, slots := 0, locals := 0 } (xPc [.ref (ad (20, 0)), .int (nI i), .int (nI t)] D y Hs) (xQ (fun v H1 => v = some (.int (onI z i (nI t))) ∧ Hs = H1) A) 0 0 A := by
  refine xM_go (by decide) (Nat.le_of_ble_eq_true rfl) (fun p e s m args below meth c ls R Q hx hb hr hlocks hml hown hts hH hE hnm hRf hRl hRc hRs hQ hS hl => ?_)
  have hRf : R.frames = 0 := hRf
  have hRl : R.locals = 0 := hRl
  have hRc : R.cells = 0 := hRc
  have hRs : R.slots = 0 := hRs
  have hl : lv_has ls 5 [(0, .ref (ad (20, 0))), (1, .int (nI i)), (2, .int (nI t))] := hl
  have hN := hw.N
  have hE20 := hw.E
  have ho := hw.o hi
  have ht6 := hw.t6 hi
  refine lv_aload_n hx hb dX4_isOnAt_0 rfl (lv_at hl 0 rfl) ?_
  refine fg_X4_areOn hx hb hts hown hE hP q_737 dX4_isOnAt_1 ?_
  refine lv_iload_n hx hb dX4_isOnAt_4 rfl (lv_at hl 1 rfl) ?_
  refine al_areOn hx hb hE hP (j := i) (by omega) dX4_isOnAt_5 ?_
  refine xt_i (hq.o (by first | assumption | omega)) ?_
  refine lv_istore_n (lv' := [(3, .int (eO z i)), (0, .ref (ad (20, 0))), (1, .int (nI i)), (2, .int (nI t))]) hx hb dX4_isOnAt_6 rfl hl (by decide) rfl (fun ls hl => ?_)
  refine lv_iconst (v := nI 0) hx hb dX4_isOnAt_7 (by decide) ?_
  refine lv_istore (lv' := [(4, .int (nI 0)), (3, .int (eO z i)), (0, .ref (ad (20, 0))), (1, .int (nI i)), (2, .int (nI t))]) hx hb dX4_isOnAt_8 hl (by decide) rfl (fun ls hl => ?_)
  have K10 : ∀ (nn : Nat), ∀ (k : Nat), (k ≤ cT z i) → cT z i - k < nn → ∀ (locs : List Loc) (ls : Array Slot), va_S A Hs Hs locs → lv_has ls 5 [(4, .int (nI k)), (3, .int (onX z i (nI t) k)), (2, .int (nI t)), (1, .int (nI i)), (0, .ref (ad (20, 0)))] → W p l e R s m args below meth c Hs locs 0 0 Q (F0 m 10 ls []) := by
    intro nn
    induction nn with
    | zero => intro k hk h; exact absurd h (Nat.not_lt_zero _)
    | succ nn ih10 =>
      intro k hk hn10 locs ls hS hl
      refine lv_iload hx hb dX4_isOnAt_10 (lv_at hl 0 rfl) ?_
      refine lv_aload_n hx hb dX4_isOnAt_12 rfl (lv_at hl 4 rfl) ?_
      refine fg_X4_toggles hx hb hts hown hE hP q_738 dX4_isOnAt_13 ?_
      refine lv_iload_n hx hb dX4_isOnAt_16 rfl (lv_at hl 3 rfl) ?_
      refine al_toggles hx hb hE hP (j := i) (by omega) dX4_isOnAt_17 ?_
      refine xt_i (hq.t hw (by first | assumption | omega)) ?_
      refine lv_icmp_ge (tgt := 58) hx hb dX4_isOnAt_18 (by decide) (fun c18 => ?_) (fun c18 => ?_)
      · skip
        have c18 := ni_le (a := (cT z i)) (b := k) (by omega) (by omega) c18
        refine lv_iload_n hx hb dX4_isOnAt_58 rfl (lv_at hl 1 rfl) ?_
        exact xe_zret hQ hx hb hr hlocks hH hS (onX_01 ho k) (Nat.le_refl _) (Nat.le_refl _) (⟨by rw [← onX_on hw hi ht, show k = cT z i by omega], rfl⟩) dX4_isOnAt_59
      · skip
        have c18 := ni_nle (a := (cT z i)) (b := k) (by omega) (by omega) c18
        refine lv_iload_n hx hb dX4_isOnAt_21 rfl (lv_at hl 1 rfl) ?_
        refine lv_aload_n hx hb dX4_isOnAt_22 rfl (lv_at hl 4 rfl) ?_
        refine fg_X4_toggleTimes hx hb hts hown hE hP q_739 dX4_isOnAt_23 ?_
        refine lv_bipush (v := nI 6) hx hb dX4_isOnAt_26 (by decide) ?_
        refine lv_iload_n hx hb dX4_isOnAt_28 rfl (lv_at hl 3 rfl) ?_
        refine lv_imul hx hb dX4_isOnAt_29 ?_
        refine xt_i (pk_mul 6 i) ?_
        refine lv_iload hx hb dX4_isOnAt_30 (lv_at hl 0 rfl) ?_
        refine lv_iadd hx hb dX4_isOnAt_32 ?_
        refine xt_i (nI_add (6 * i) k) ?_
        refine al_toggleTimes hx hb hE hP (j := (6 * i) + k) (by omega) dX4_isOnAt_33 ?_
        refine xt_i (w := tT z (6 * i + k)) (hq.m (j := i) (k := k) (by first | assumption | omega) (by first | assumption | omega)) ?_
        refine lv_iload_n hx hb dX4_isOnAt_34 rfl (lv_at hl 2 rfl) ?_
        refine lv_icmp_gt (tgt := 42) hx hb dX4_isOnAt_35 (by decide) (fun c35 => ?_) (fun c35 => ?_)
        · skip
          refine lv_iconst (v := nI 0) hx hb dX4_isOnAt_42 (by decide) ?_
          refine lv_icmp_eq (tgt := 50) hx hb dX4_isOnAt_43 (by decide) (fun c43 => ?_) (fun c43 => ?_)
          · skip
            refine lv_iconst (v := nI 0) hx hb dX4_isOnAt_50 (by decide) ?_
            refine lv_istore_n (lv' := [(3, .int (nI 0)), (4, .int (nI k)), (2, .int (nI t)), (1, .int (nI i)), (0, .ref (ad (20, 0)))]) hx hb dX4_isOnAt_51 rfl hl (by decide) rfl (fun ls hl => ?_)
            have e51 : nI 0 = onX z i (nI t) (k + 1) := by rw [onX_s, show (if tT z (6 * i + k) ≤ nI t then nI 1 else nI 0) = nI 0 from if_neg (Int32.not_le.mpr c35), if_pos c43]
            have hl : lv_has ls 5 [(3, .int (onX z i (nI t) (k + 1))), (4, .int (nI k)), (2, .int (nI t)), (1, .int (nI i)), (0, .ref (ad (20, 0)))] := by rw [← e51]; exact hl
            skip
            refine lv_iinc (v := nI (k + 1)) (lv' := [(4, .int (nI (k + 1))), (3, .int (onX z i (nI t) (k + 1))), (2, .int (nI t)), (1, .int (nI i)), (0, .ref (ad (20, 0)))]) hx hb dX4_isOnAt_52 hl (k := 1) rfl (nI_1 _) (by decide) rfl (fun ls hl => ?_)
            refine lv_goto (tgt := 10) hx hb dX4_isOnAt_55 (by decide) ?_
            exact ih10 (k + 1) (by omega) (by omega) _ _ hS (lv_sub hl [0, 1, 2, 3, 4] rfl)
          · skip
            refine lv_iconst (v := nI 1) hx hb dX4_isOnAt_46 (by decide) ?_
            refine lv_goto (tgt := 51) hx hb dX4_isOnAt_47 (by decide) ?_
            refine lv_istore_n (lv' := [(3, .int (nI 1)), (4, .int (nI k)), (2, .int (nI t)), (1, .int (nI i)), (0, .ref (ad (20, 0)))]) hx hb dX4_isOnAt_51 rfl hl (by decide) rfl (fun ls hl => ?_)
            have e51 : nI 1 = onX z i (nI t) (k + 1) := by rw [onX_s, show (if tT z (6 * i + k) ≤ nI t then nI 1 else nI 0) = nI 0 from if_neg (Int32.not_le.mpr c35), if_neg c43]
            have hl : lv_has ls 5 [(3, .int (onX z i (nI t) (k + 1))), (4, .int (nI k)), (2, .int (nI t)), (1, .int (nI i)), (0, .ref (ad (20, 0)))] := by rw [← e51]; exact hl
            skip
            refine lv_iinc (v := nI (k + 1)) (lv' := [(4, .int (nI (k + 1))), (3, .int (onX z i (nI t) (k + 1))), (2, .int (nI t)), (1, .int (nI i)), (0, .ref (ad (20, 0)))]) hx hb dX4_isOnAt_52 hl (k := 1) rfl (nI_1 _) (by decide) rfl (fun ls hl => ?_)
            refine lv_goto (tgt := 10) hx hb dX4_isOnAt_55 (by decide) ?_
            exact ih10 (k + 1) (by omega) (by omega) _ _ hS (lv_sub hl [0, 1, 2, 3, 4] rfl)
        · skip
          refine lv_iconst (v := nI 1) hx hb dX4_isOnAt_38 (by decide) ?_
          refine lv_goto (tgt := 43) hx hb dX4_isOnAt_39 (by decide) ?_
          refine lv_icmp_eq (tgt := 50) hx hb dX4_isOnAt_43 (by decide) (fun c43 => ?_) (fun c43 => ?_)
          · skip
            refine lv_iconst (v := nI 0) hx hb dX4_isOnAt_50 (by decide) ?_
            refine lv_istore_n (lv' := [(3, .int (nI 0)), (4, .int (nI k)), (2, .int (nI t)), (1, .int (nI i)), (0, .ref (ad (20, 0)))]) hx hb dX4_isOnAt_51 rfl hl (by decide) rfl (fun ls hl => ?_)
            have e51 : nI 0 = onX z i (nI t) (k + 1) := by rw [onX_s, show (if tT z (6 * i + k) ≤ nI t then nI 1 else nI 0) = nI 1 from if_pos (Int32.not_lt.mp c35), if_pos c43]
            have hl : lv_has ls 5 [(3, .int (onX z i (nI t) (k + 1))), (4, .int (nI k)), (2, .int (nI t)), (1, .int (nI i)), (0, .ref (ad (20, 0)))] := by rw [← e51]; exact hl
            skip
            refine lv_iinc (v := nI (k + 1)) (lv' := [(4, .int (nI (k + 1))), (3, .int (onX z i (nI t) (k + 1))), (2, .int (nI t)), (1, .int (nI i)), (0, .ref (ad (20, 0)))]) hx hb dX4_isOnAt_52 hl (k := 1) rfl (nI_1 _) (by decide) rfl (fun ls hl => ?_)
            refine lv_goto (tgt := 10) hx hb dX4_isOnAt_55 (by decide) ?_
            exact ih10 (k + 1) (by omega) (by omega) _ _ hS (lv_sub hl [0, 1, 2, 3, 4] rfl)
          · skip
            refine lv_iconst (v := nI 1) hx hb dX4_isOnAt_46 (by decide) ?_
            refine lv_goto (tgt := 51) hx hb dX4_isOnAt_47 (by decide) ?_
            refine lv_istore_n (lv' := [(3, .int (nI 1)), (4, .int (nI k)), (2, .int (nI t)), (1, .int (nI i)), (0, .ref (ad (20, 0)))]) hx hb dX4_isOnAt_51 rfl hl (by decide) rfl (fun ls hl => ?_)
            have e51 : nI 1 = onX z i (nI t) (k + 1) := by rw [onX_s, show (if tT z (6 * i + k) ≤ nI t then nI 1 else nI 0) = nI 1 from if_pos (Int32.not_lt.mp c35), if_neg c43]
            have hl : lv_has ls 5 [(3, .int (onX z i (nI t) (k + 1))), (4, .int (nI k)), (2, .int (nI t)), (1, .int (nI i)), (0, .ref (ad (20, 0)))] := by rw [← e51]; exact hl
            skip
            refine lv_iinc (v := nI (k + 1)) (lv' := [(4, .int (nI (k + 1))), (3, .int (onX z i (nI t) (k + 1))), (2, .int (nI t)), (1, .int (nI i)), (0, .ref (ad (20, 0)))]) hx hb dX4_isOnAt_52 hl (k := 1) rfl (nI_1 _) (by decide) rfl (fun ls hl => ?_)
            refine lv_goto (tgt := 10) hx hb dX4_isOnAt_55 (by decide) ?_
            exact ih10 (k + 1) (by omega) (by omega) _ _ hS (lv_sub hl [0, 1, 2, 3, 4] rfl)
  exact K10 _ 0 (by omega) (Nat.lt_succ_self _) _ _ hS (lv_sub hl [0, 1, 4, 3, 2] rfl)

set_option maxHeartbeats 4000000 in
set_option maxRecDepth 100000 in
theorem c_X4_conducts (l : Launch) {D : va_G} {y : Nat → ClassId} {A : Nat → Prop} {ad : xL → Nat} {th : Int32} {w : xC} {qp : Nat → Int32} {qm : Nat → Int64} {qr : Nat → Int64} {qi : Nat → Int64} {qn : Nat → Int64} {qf : Nat → Int32} {qu : Int32} {qd : Int64} {fB fO : Nat → Nat → Option va_E} {Hs : Heap} (hP : xW D A ad (wU fB (wR y ad th w qp qm qr qi qn qf qu qd) fO) Hs) {z : xC} (hq : Rq z w) (hw : wf z) {i t : Nat} (hi : i < nE z) (ht : t ≤ 999) : Met l yX4_conducts (.code yX4_conducts cX4_conducts 3 (some .boolean) :: WG) { frames := 1, cells := 0, slots := 0, locals := 24 } (xPc [.ref (ad (20, 0)), .int (nI i), .int (nI t)] D y Hs) (xQ (fun v H1 => v = some (.int (if eS z i = 0 ∧ ¬ onI z i (nI t) = 0 then nI 1 else nI 0)) ∧ Hs = H1) A) 0 0 A := by
  refine xM_go (by decide) (Nat.le_of_ble_eq_true rfl) (fun p e s m args below meth c ls R Q hx hb hr hlocks hml hown hts hH hE hnm hRf hRl hRc hRs hQ hS hl => ?_)
  have hRf : R.frames = 1 := hRf
  have hRl : R.locals = 24 := hRl
  have hRc : R.cells = 0 := hRc
  have hRs : R.slots = 0 := hRs
  have hl : lv_has ls 3 [(0, .ref (ad (20, 0))), (1, .int (nI i)), (2, .int (nI t))] := hl
  have hN := hw.N
  have hE20 := hw.E
  refine lv_aload_n hx hb dX4_conducts_0 rfl (lv_at hl 0 rfl) ?_
  refine fg_X4_areSources hx hb hts hown hE hP q_733 dX4_conducts_1 ?_
  refine lv_iload_n hx hb dX4_conducts_4 rfl (lv_at hl 1 rfl) ?_
  refine al_areSources hx hb hE hP (j := i) (by omega) dX4_conducts_5 ?_
  refine xt_i (hq.s (by first | assumption | omega)) ?_
  refine lv_if_ne (tgt := 22) hx hb dX4_conducts_6 (by decide) (fun c6 => ?_) (fun c6 => ?_)
  · skip
    refine lv_iconst (v := nI 0) hx hb dX4_conducts_22 (by decide) ?_
    exact xe_zret hQ hx hb hr hlocks hH hS (by first | exact Or.inr rfl | exact Or.inl rfl) (Nat.le_refl _) (Nat.le_refl _) (⟨by rw [if_neg (fun h => by first | exact c6 h.1 | exact h.2 c15)], rfl⟩) dX4_conducts_23
  · skip
    refine lv_aload_n hx hb dX4_conducts_9 rfl (lv_at hl 0 rfl) ?_
    refine lv_iload_n hx hb dX4_conducts_10 rfl (lv_at hl 1 rfl) ?_
    refine lv_iload_n hx hb dX4_conducts_11 rfl (lv_at hl 2 rfl) ?_
    refine xw_callV (C := "NetlistBenchModel") (n := 2) [.int (nI i), .int (nI t)] (c_X4_isOnAt l hP hq hw hi ht) hx hb hml hown hts hE hS (xw_recv hE hP (20, 0) rfl rfl) rfl rfl q_48 q_864 q_867 q_866 q_31 (by decide) rfl ⟨by rw [hRf]; decide, by rw [hRl]; decide⟩ hl.1 rfl (Nat.le_of_ble_eq_true rfl) dX4_conducts_12 ⟨by rw [hRc]; decide, by rw [hRs]; decide⟩ (fun v H1 locs hp hS => ?_)
    obtain ⟨hv, hh⟩ := hp; subst hv; subst hh
    refine lv_if_eq (tgt := 22) hx hb dX4_conducts_15 (by decide) (fun c15 => ?_) (fun c15 => ?_)
    · skip
      refine lv_iconst (v := nI 0) hx hb dX4_conducts_22 (by decide) ?_
      exact xe_zret hQ hx hb hr hlocks hH hS (by first | exact Or.inr rfl | exact Or.inl rfl) (Nat.le_refl _) (Nat.le_refl _) (⟨by rw [if_neg (fun h => by first | exact c6 h.1 | exact h.2 c15)], rfl⟩) dX4_conducts_23
    · skip
      refine lv_iconst (v := nI 1) hx hb dX4_conducts_18 (by decide) ?_
      refine lv_goto (tgt := 23) hx hb dX4_conducts_19 (by decide) ?_
      exact xe_zret hQ hx hb hr hlocks hH hS (by first | exact Or.inr rfl | exact Or.inl rfl) (Nat.le_refl _) (Nat.le_refl _) (⟨by rw [if_pos ⟨c6, c15⟩], rfl⟩) dX4_conducts_23

set_option maxHeartbeats 4000000 in
set_option maxRecDepth 100000 in
theorem c_X4_group (l : Launch) {D : va_G} {y : Nat → ClassId} {A : Nat → Prop} {ad : xL → Nat} {th : Int32} {w : xC} {qp : Nat → Int32} {qm : Nat → Int64} {qr : Nat → Int64} {qi : Nat → Int64} {qn : Nat → Int64} {qf : Nat → Int32} {qu : Int32} {qd : Int64} {fB fO : Nat → Nat → Option va_E} {Hs : Heap} (hP : xW D A ad (wU fB (wR y ad th w qp qm qr qi qn qf qu qd) fO) Hs) {z : xC} (hq : Rq z w) (hw : wf z) {j t : Nat} (hj : j < 8) (ht : t ≤ 999) : Met l yX4_group (.code yX4_group cX4_group 6 (some .int) :: WG) { frames := 2, cells := 0, slots := 0, locals := 46 } (xPc [.ref (ad (20, 0)), .int (nI j), .int (nI t)] D y Hs) (xQ (fun v H1 => v = some (.int (nI (gM z (nI t) j))) ∧ Hs = H1) A) 0 0 A := by
  refine xM_go (by decide) (Nat.le_of_ble_eq_true rfl) (fun p e s m args below meth c ls R Q hx hb hr hlocks hml hown hts hH hE hnm hRf hRl hRc hRs hQ hS hl => ?_)
  have hRf : R.frames = 2 := hRf
  have hRl : R.locals = 46 := hRl
  have hRc : R.cells = 0 := hRc
  have hRs : R.slots = 0 := hRs
  have hl : lv_has ls 6 [(0, .ref (ad (20, 0))), (1, .int (nI j)), (2, .int (nI t))] := hl
  have hN := hw.N
  have hE20 := hw.E
  refine lv_iconst (v := nI 1) hx hb dX4_group_0 (by decide) ?_
  refine lv_iload_n hx hb dX4_group_1 rfl (lv_at hl 1 rfl) ?_
  refine lv_ishl hx hb dX4_group_2 ?_
  refine xt_i (w := nI (2 ^ j)) (m_pow j hj) ?_
  refine lv_istore_n (lv' := [(3, .int (nI (2 ^ j))), (0, .ref (ad (20, 0))), (1, .int (nI j)), (2, .int (nI t))]) hx hb dX4_group_3 rfl hl (by decide) rfl (fun ls hl => ?_)
  refine lv_iconst (v := nI 0) hx hb dX4_group_4 (by decide) ?_
  refine lv_istore (lv' := [(4, .int (nI 0)), (3, .int (nI (2 ^ j))), (0, .ref (ad (20, 0))), (1, .int (nI j)), (2, .int (nI t))]) hx hb dX4_group_5 hl (by decide) rfl (fun ls hl => ?_)
  have K7 : ∀ (nn : Nat), ∀ (M B : Nat), (M < 256) → (B < 256) → (M.testBit j = true) → (∀ k, k < 8 → M.testBit k = true → (gM z (nI t) j).testBit k = true) → (B = M → clS z (nI t) M (nE z) = M) → (B ≤ M) → 2 * (256 - M) + (if B = M then 0 else 1) < nn → ∀ (locs : List Loc) (ls : Array Slot), va_S A Hs Hs locs → lv_has ls 6 [(4, .int (nI B)), (3, .int (nI M)), (2, .int (nI t)), (1, .int (nI j)), (0, .ref (ad (20, 0)))] → W p l e R s m args below meth c Hs locs 0 0 Q (F0 m 7 ls []) := by
    intro nn
    induction nn with
    | zero => intro M B hM hB hjM hs hcl hBM h; exact absurd h (Nat.not_lt_zero _)
    | succ nn ih7 =>
      intro M B hM hB hjM hs hcl hBM hn7 locs ls hS hl
      refine lv_iload_n hx hb dX4_group_7 rfl (lv_at hl 1 rfl) ?_
      refine lv_iload hx hb dX4_group_8 (lv_at hl 0 rfl) ?_
      refine lv_icmp_eq (tgt := 94) hx hb dX4_group_10 (by decide) (fun c10 => ?_) (fun c10 => ?_)
      · skip
        have c10 := ni_eq (a := M) (b := B) (by omega) (by omega) c10
        refine lv_iload_n hx hb dX4_group_94 rfl (lv_at hl 1 rfl) ?_
        exact xe_iret hQ hx hb hr hlocks hH hS (Nat.le_refl _) (Nat.le_refl _) (⟨by rw [← cl_end hw hj hM (hcl c10.symm) hjM hs], rfl⟩) dX4_group_95
      · skip
        have c10 := ni_ne (a := M) (b := B) (by omega) (by omega) c10
        refine lv_iload_n hx hb dX4_group_13 rfl (lv_at hl 1 rfl) ?_
        refine lv_istore (lv' := [(4, .int (nI M)), (3, .int (nI M)), (2, .int (nI t)), (1, .int (nI j)), (0, .ref (ad (20, 0)))]) hx hb dX4_group_14 hl (by decide) rfl (fun ls hl => ?_)
        refine lv_iconst (v := nI 0) hx hb dX4_group_16 (by decide) ?_
        refine lv_istore (lv' := [(5, .int (nI 0)), (4, .int (nI M)), (3, .int (nI M)), (2, .int (nI t)), (1, .int (nI j)), (0, .ref (ad (20, 0)))]) hx hb dX4_group_17 hl (by decide) rfl (fun ls hl => ?_)
        have K19 : ∀ (nn : Nat), ∀ (i : Nat), (i ≤ nE z) → nE z - i < nn → ∀ (locs : List Loc) (ls : Array Slot), va_S A Hs Hs locs → lv_has ls 6 [(5, .int (nI i)), (4, .int (nI M)), (3, .int (nI (clS z (nI t) M i))), (2, .int (nI t)), (1, .int (nI j)), (0, .ref (ad (20, 0)))] → W p l e R s m args below meth c Hs locs 0 0 Q (F0 m 19 ls []) := by
          intro nn
          induction nn with
          | zero => intro i hi h; exact absurd h (Nat.not_lt_zero _)
          | succ nn ih19 =>
            intro i hi hn19 locs ls hS hl
            refine lv_iload hx hb dX4_group_19 (lv_at hl 0 rfl) ?_
            refine lv_aload_n hx hb dX4_group_21 rfl (lv_at hl 5 rfl) ?_
            refine fg_X4_elements hx hb hts hown hE hP q_732 dX4_group_22 ?_
            refine xt_i (congrArg nI hq.E) ?_
            refine lv_icmp_ge (tgt := 91) hx hb dX4_group_25 (by decide) (fun c25 => ?_) (fun c25 => ?_)
            · skip
              have c25 := ni_le (a := (nE z)) (b := i) (by omega) (by omega) c25
              have hMi : clS z (nI t) M i < 256 := cl_lt hw _ hM i (by omega)
              refine lv_goto (tgt := 7) hx hb dX4_group_91 (by decide) ?_
              exact ih7 (clS z (nI t) M i) M hMi hM ((cl_ge z (nI t) M i).2 j hjM) (cl_sub hw hj hs i hi) (fun h => by rw [show nE z = i by omega, ← h]; exact h.symm) ((cl_ge z (nI t) M i).1) (by have hge := (cl_ge z (nI t) M i).1; have hne : ¬ B = M := fun h => c10 h.symm; rw [if_neg hne] at hn7; split <;> omega) _ _ hS (lv_sub hl [1, 2, 3, 4, 5] rfl)
            · skip
              have c25 := ni_nle (a := (nE z)) (b := i) (by omega) (by omega) c25
              have ha8 : cA z i < nN z := hw.a8 (i := i) (by omega)
              have hb8 : cB z i < nN z := hw.b8 (i := i) (by omega)
              have hMi : clS z (nI t) M i < 256 := cl_lt hw _ hM i (by omega)
              refine lv_aload_n hx hb dX4_group_28 rfl (lv_at hl 5 rfl) ?_
              refine lv_iload hx hb dX4_group_29 (lv_at hl 0 rfl) ?_
              refine lv_iload_n hx hb dX4_group_31 rfl (lv_at hl 3 rfl) ?_
              refine xw_callV (C := "NetlistBenchModel") (n := 2) [.int (nI i), .int (nI t)] (c_X4_conducts l hP hq hw (by omega) ht) hx hb hml hown hts hE hS (xw_recv hE hP (20, 0) rfl rfl) rfl rfl q_48 q_876 q_879 q_878 q_33 (by decide) rfl ⟨by rw [hRf]; decide, by rw [hRl]; decide⟩ hl.1 rfl (Nat.le_of_ble_eq_true rfl) dX4_group_32 ⟨by rw [hRc]; decide, by rw [hRs]; decide⟩ (fun v H1 locs hp hS => ?_)
              obtain ⟨hv, hh⟩ := hp; subst hv; subst hh
              refine lv_if_eq (tgt := 85) hx hb dX4_group_35 (by decide) (fun c35 => ?_) (fun c35 => ?_)
              · skip
                have c35 := b_f c35
                rw [show clS z (nI t) M i = clS z (nI t) M (i + 1) from (clS_0 (fun h => c35 h.1)).symm] at hl
                refine lv_iinc (v := nI (i + 1)) (lv' := [(5, .int (nI (i + 1))), (4, .int (nI M)), (3, .int (nI (clS z (nI t) M (i + 1)))), (2, .int (nI t)), (1, .int (nI j)), (0, .ref (ad (20, 0)))]) hx hb dX4_group_85 hl (k := 0) rfl (nI_1 _) (by decide) rfl (fun ls hl => ?_)
                refine lv_goto (tgt := 19) hx hb dX4_group_88 (by decide) ?_
                exact ih19 (i + 1) (by omega) (by omega) _ _ hS (lv_sub hl [0, 1, 2, 3, 4, 5] rfl)
              · skip
                have c35 := b_t c35
                refine lv_iload_n hx hb dX4_group_38 rfl (lv_at hl 2 rfl) ?_
                refine lv_aload_n hx hb dX4_group_39 rfl (lv_at hl 5 rfl) ?_
                refine fg_X4_as hx hb hts hown hE hP q_734 dX4_group_40 ?_
                refine lv_iload hx hb dX4_group_43 (lv_at hl 0 rfl) ?_
                refine al_as hx hb hE hP (j := i) (by omega) dX4_group_45 ?_
                refine xt_i (hq.a hw (by first | assumption | omega)) ?_
                refine lv_ishr hx hb dX4_group_46 ?_
                refine xt_i (w := nI (clS z (nI t) M i) >>> (nI (cA z i) &&& 31)) (rfl) ?_
                refine lv_iload_n hx hb dX4_group_47 rfl (lv_at hl 2 rfl) ?_
                refine lv_aload_n hx hb dX4_group_48 rfl (lv_at hl 5 rfl) ?_
                refine fg_X4_bs hx hb hts hown hE hP q_735 dX4_group_49 ?_
                refine lv_iload hx hb dX4_group_52 (lv_at hl 0 rfl) ?_
                refine al_bs hx hb hE hP (j := i) (by omega) dX4_group_54 ?_
                refine xt_i (hq.b hw (by first | assumption | omega)) ?_
                refine lv_ishr hx hb dX4_group_55 ?_
                refine lv_ior hx hb dX4_group_56 ?_
                refine lv_iconst (v := nI 1) hx hb dX4_group_57 (by decide) ?_
                refine lv_iand hx hb dX4_group_58 ?_
                refine lv_iconst (v := nI 1) hx hb dX4_group_59 (by decide) ?_
                refine lv_icmp_ne (tgt := 85) hx hb dX4_group_60 (by decide) (fun c60 => ?_) (fun c60 => ?_)
                · skip
                  have c60 : ¬ ((clS z (nI t) M i) / 2 ^ cA z i % 2 = 1 ∨ (clS z (nI t) M i) / 2 ^ cB z i % 2 = 1) := fun h => c60 ((m_two _ hMi _ (by omega) _ (by omega)).mpr h)
                  rw [show clS z (nI t) M i = clS z (nI t) M (i + 1) from (clS_0 (fun h => c60 h.2)).symm] at hl
                  refine lv_iinc (v := nI (i + 1)) (lv' := [(5, .int (nI (i + 1))), (4, .int (nI M)), (3, .int (nI (clS z (nI t) M (i + 1)))), (2, .int (nI t)), (1, .int (nI j)), (0, .ref (ad (20, 0)))]) hx hb dX4_group_85 hl (k := 0) rfl (nI_1 _) (by decide) rfl (fun ls hl => ?_)
                  refine lv_goto (tgt := 19) hx hb dX4_group_88 (by decide) ?_
                  exact ih19 (i + 1) (by omega) (by omega) _ _ hS (lv_sub hl [0, 1, 2, 3, 4, 5] rfl)
                · skip
                  have c60 : (clS z (nI t) M i) / 2 ^ cA z i % 2 = 1 ∨ (clS z (nI t) M i) / 2 ^ cB z i % 2 = 1 := (m_two _ hMi _ (by omega) _ (by omega)).mp c60
                  refine lv_iload_n hx hb dX4_group_63 rfl (lv_at hl 2 rfl) ?_
                  refine lv_iconst (v := nI 1) hx hb dX4_group_64 (by decide) ?_
                  refine lv_aload_n hx hb dX4_group_65 rfl (lv_at hl 5 rfl) ?_
                  refine fg_X4_as hx hb hts hown hE hP q_734 dX4_group_66 ?_
                  refine lv_iload hx hb dX4_group_69 (lv_at hl 0 rfl) ?_
                  refine al_as hx hb hE hP (j := i) (by omega) dX4_group_71 ?_
                  refine xt_i (hq.a hw (by first | assumption | omega)) ?_
                  refine lv_ishl hx hb dX4_group_72 ?_
                  refine xt_i (w := nI (2 ^ cA z i)) (m_pow _ (by omega)) ?_
                  refine lv_iconst (v := nI 1) hx hb dX4_group_73 (by decide) ?_
                  refine lv_aload_n hx hb dX4_group_74 rfl (lv_at hl 5 rfl) ?_
                  refine fg_X4_bs hx hb hts hown hE hP q_735 dX4_group_75 ?_
                  refine lv_iload hx hb dX4_group_78 (lv_at hl 0 rfl) ?_
                  refine al_bs hx hb hE hP (j := i) (by omega) dX4_group_80 ?_
                  refine xt_i (hq.b hw (by first | assumption | omega)) ?_
                  refine lv_ishl hx hb dX4_group_81 ?_
                  refine xt_i (w := nI (2 ^ cB z i)) (m_pow _ (by omega)) ?_
                  refine lv_ior hx hb dX4_group_82 ?_
                  refine xt_i (w := nI (2 ^ cA z i ||| 2 ^ cB z i)) (m_or _ (m_pw8 (by omega)) _ (m_pw8 (by omega))) ?_
                  refine lv_ior hx hb dX4_group_83 ?_
                  refine xt_i (w := nI (clS z (nI t) M i ||| (2 ^ cA z i ||| 2 ^ cB z i))) (m_or _ hMi _ (m_or8 (m_pw8 (by omega)) (m_pw8 (by omega)))) ?_
                  refine lv_istore_n (lv' := [(3, .int (nI (clS z (nI t) M i ||| (2 ^ cA z i ||| 2 ^ cB z i)))), (5, .int (nI i)), (4, .int (nI M)), (2, .int (nI t)), (1, .int (nI j)), (0, .ref (ad (20, 0)))]) hx hb dX4_group_84 rfl hl (by decide) rfl (fun ls hl => ?_)
                  rw [show clS z (nI t) M i ||| (2 ^ cA z i ||| 2 ^ cB z i) = clS z (nI t) M (i + 1) from (clS_1 ⟨c35, c60⟩).symm] at hl
                  refine lv_iinc (v := nI (i + 1)) (lv' := [(5, .int (nI (i + 1))), (3, .int (nI (clS z (nI t) M (i + 1)))), (4, .int (nI M)), (2, .int (nI t)), (1, .int (nI j)), (0, .ref (ad (20, 0)))]) hx hb dX4_group_85 hl (k := 1) rfl (nI_1 _) (by decide) rfl (fun ls hl => ?_)
                  refine lv_goto (tgt := 19) hx hb dX4_group_88 (by decide) ?_
                  exact ih19 (i + 1) (by omega) (by omega) _ _ hS (lv_sub hl [0, 2, 1, 3, 4, 5] rfl)
        exact K19 _ 0 (by omega) (Nat.lt_succ_self _) _ _ hS (lv_sub hl [0, 1, 2, 3, 4, 5] rfl)
  exact K7 _ (2 ^ j) 0 (m_pw8 hj) (by omega) (Nat.testBit_two_pow_self) (fun k _ h => by rw [← bt_pw h]; exact gM_self hw _ hj) (fun h => absurd h (Nat.ne_of_lt (Nat.pow_pos (by decide)))) (Nat.zero_le _) (Nat.lt_succ_self _) _ _ hS (lv_sub hl [0, 1, 4, 3, 2] rfl)

set_option maxHeartbeats 4000000 in
set_option maxRecDepth 100000 in
theorem c_X4_floatsAt (l : Launch) {D : va_G} {y : Nat → ClassId} {A : Nat → Prop} {ad : xL → Nat} {th : Int32} {w : xC} {qp : Nat → Int32} {qm : Nat → Int64} {qr : Nat → Int64} {qi : Nat → Int64} {qn : Nat → Int64} {qf : Nat → Int32} {qu : Int32} {qd : Int64} {fB fO : Nat → Nat → Option va_E} {Hs : Heap} (hP : xW D A ad (wU fB (wR y ad th w qp qm qr qi qn qf qu qd) fO) Hs) {z : xC} (hq : Rq z w) (hw : wf z) {j t : Nat} (hj : j < 8) (ht : t ≤ 999) : Met l yX4_floatsAt (.code yX4_floatsAt cX4_floatsAt 5 (some .boolean) :: WG) { frames := 3, cells := 0, slots := 0, locals := 71 } (xPc [.ref (ad (20, 0)), .int (nI j), .int (nI t)] D y Hs) (xQ (fun v H1 => v = some (.int (aflI z (gM z (nI t) j))) ∧ Hs = H1) A) 0 0 A := by
  refine xM_go (by decide) (Nat.le_of_ble_eq_true rfl) (fun p e s m args below meth c ls R Q hx hb hr hlocks hml hown hts hH hE hnm hRf hRl hRc hRs hQ hS hl => ?_)
  have hRf : R.frames = 3 := hRf
  have hRl : R.locals = 71 := hRl
  have hRc : R.cells = 0 := hRc
  have hRs : R.slots = 0 := hRs
  have hl : lv_has ls 5 [(0, .ref (ad (20, 0))), (1, .int (nI j)), (2, .int (nI t))] := hl
  have hN := hw.N
  have hE20 := hw.E
  have hg8 := gM_lt hw (nI t) hj
  refine lv_aload_n hx hb dX4_floatsAt_0 rfl (lv_at hl 0 rfl) ?_
  refine lv_iload_n hx hb dX4_floatsAt_1 rfl (lv_at hl 1 rfl) ?_
  refine lv_iload_n hx hb dX4_floatsAt_2 rfl (lv_at hl 2 rfl) ?_
  refine xw_callV (C := "NetlistBenchModel") (n := 2) [.int (nI j), .int (nI t)] (c_X4_group l hP hq hw hj ht) hx hb hml hown hts hE hS (xw_recv hE hP (20, 0) rfl rfl) rfl rfl q_48 q_872 q_875 q_874 q_32 (by decide) rfl ⟨by rw [hRf]; decide, by rw [hRl]; decide⟩ hl.1 rfl (Nat.le_of_ble_eq_true rfl) dX4_floatsAt_3 ⟨by rw [hRc]; decide, by rw [hRs]; decide⟩ (fun v H1 locs hp hS => ?_)
  obtain ⟨hv, hh⟩ := hp; subst hv; subst hh
  refine lv_istore_n (lv' := [(3, .int (nI (gM z (nI t) j))), (0, .ref (ad (20, 0))), (1, .int (nI j)), (2, .int (nI t))]) hx hb dX4_floatsAt_6 rfl hl (by decide) rfl (fun ls hl => ?_)
  refine lv_iconst (v := nI 0) hx hb dX4_floatsAt_7 (by decide) ?_
  refine lv_istore (lv' := [(4, .int (nI 0)), (3, .int (nI (gM z (nI t) j))), (0, .ref (ad (20, 0))), (1, .int (nI j)), (2, .int (nI t))]) hx hb dX4_floatsAt_8 hl (by decide) rfl (fun ls hl => ?_)
  have K10 : ∀ (nn : Nat), ∀ (o : Nat), (o ≤ nN z) → (aflB z (gM z (nI t) j) o = true) → nN z - o < nn → ∀ (locs : List Loc) (ls : Array Slot), va_S A Hs Hs locs → lv_has ls 5 [(4, .int (nI o)), (3, .int (nI (gM z (nI t) j))), (2, .int (nI t)), (1, .int (nI j)), (0, .ref (ad (20, 0)))] → W p l e R s m args below meth c Hs locs 0 0 Q (F0 m 10 ls []) := by
    intro nn
    induction nn with
    | zero => intro o ho hf h; exact absurd h (Nat.not_lt_zero _)
    | succ nn ih10 =>
      intro o ho hf hn10 locs ls hS hl
      refine lv_iload hx hb dX4_floatsAt_10 (lv_at hl 0 rfl) ?_
      refine lv_aload_n hx hb dX4_floatsAt_12 rfl (lv_at hl 4 rfl) ?_
      refine fg_X4_nodes hx hb hts hown hE hP q_729 dX4_floatsAt_13 ?_
      refine xt_i (congrArg nI hq.N) ?_
      refine lv_icmp_ge (tgt := 47) hx hb dX4_floatsAt_16 (by decide) (fun c16 => ?_) (fun c16 => ?_)
      · skip
        have c16 := ni_le (a := (nN z)) (b := o) (by omega) (by omega) c16
        refine lv_iconst (v := nI 1) hx hb dX4_floatsAt_47 (by decide) ?_
        exact xe_zret hQ hx hb hr hlocks hH hS (by first | assumption | decide | omega) (Nat.le_refl _) (Nat.le_refl _) (⟨by rw [aflI, show nN z = o by omega, hf]; rfl, rfl⟩) dX4_floatsAt_48
      · skip
        have c16 := ni_nle (a := (nN z)) (b := o) (by omega) (by omega) c16
        refine lv_iload_n hx hb dX4_floatsAt_19 rfl (lv_at hl 1 rfl) ?_
        refine lv_iload hx hb dX4_floatsAt_20 (lv_at hl 0 rfl) ?_
        refine lv_ishr hx hb dX4_floatsAt_22 ?_
        refine lv_iconst (v := nI 1) hx hb dX4_floatsAt_23 (by decide) ?_
        refine lv_iand hx hb dX4_floatsAt_24 ?_
        refine lv_iconst (v := nI 1) hx hb dX4_floatsAt_25 (by decide) ?_
        refine lv_icmp_ne (tgt := 41) hx hb dX4_floatsAt_26 (by decide) (fun c26 => ?_) (fun c26 => ?_)
        · skip
          have c26 : gM z (nI t) j / 2 ^ o % 2 = 0 := (m_bit _ hg8 o (by omega)).mp (m_and1 c26)
          refine lv_iinc (v := nI (o + 1)) (lv' := [(4, .int (nI (o + 1))), (3, .int (nI (gM z (nI t) j))), (2, .int (nI t)), (1, .int (nI j)), (0, .ref (ad (20, 0)))]) hx hb dX4_floatsAt_41 hl (k := 0) rfl (nI_1 _) (by decide) rfl (fun ls hl => ?_)
          refine lv_goto (tgt := 10) hx hb dX4_floatsAt_44 (by decide) ?_
          exact ih10 (o + 1) (by omega) (by first | exact aflB_s1 hf (Or.inl c36) | exact aflB_s1 hf (Or.inr c26)) (by omega) _ _ hS (lv_sub hl [0, 1, 2, 3, 4] rfl)
        · skip
          have c26 : ¬ gM z (nI t) j / 2 ^ o % 2 = 0 := fun h => by rw [(m_bit _ hg8 o (by omega)).mpr h] at c26; exact absurd c26 (by decide)
          refine lv_aload_n hx hb dX4_floatsAt_29 rfl (lv_at hl 4 rfl) ?_
          refine fg_X4_areRails hx hb hts hown hE hP q_730 dX4_floatsAt_30 ?_
          refine lv_iload hx hb dX4_floatsAt_33 (lv_at hl 0 rfl) ?_
          refine al_areRails hx hb hE hP (j := o) (by omega) dX4_floatsAt_35 ?_
          refine xt_i (hq.r (by first | assumption | omega)) ?_
          refine lv_if_eq (tgt := 41) hx hb dX4_floatsAt_36 (by decide) (fun c36 => ?_) (fun c36 => ?_)
          · skip
            refine lv_iinc (v := nI (o + 1)) (lv' := [(4, .int (nI (o + 1))), (3, .int (nI (gM z (nI t) j))), (2, .int (nI t)), (1, .int (nI j)), (0, .ref (ad (20, 0)))]) hx hb dX4_floatsAt_41 hl (k := 0) rfl (nI_1 _) (by decide) rfl (fun ls hl => ?_)
            refine lv_goto (tgt := 10) hx hb dX4_floatsAt_44 (by decide) ?_
            exact ih10 (o + 1) (by omega) (by first | exact aflB_s1 hf (Or.inl c36) | exact aflB_s1 hf (Or.inr c26)) (by omega) _ _ hS (lv_sub hl [0, 1, 2, 3, 4] rfl)
          · skip
            refine lv_iconst (v := nI 0) hx hb dX4_floatsAt_39 (by decide) ?_
            exact xe_zret hQ hx hb hr hlocks hH hS (by first | assumption | decide | omega) (Nat.le_refl _) (Nat.le_refl _) (⟨by rw [aflI, aflB_s0 c36 c26 (nN z) (by omega)]; rfl, rfl⟩) dX4_floatsAt_40
  exact K10 _ 0 (by omega) rfl (Nat.lt_succ_self _) _ _ hS (lv_sub hl [0, 1, 4, 3, 2] rfl)
