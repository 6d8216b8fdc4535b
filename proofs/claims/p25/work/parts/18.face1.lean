set_option maxHeartbeats 4000000 in
set_option maxRecDepth 100000 in
theorem c_X3_checkNode (l : Launch) (hls : l.stackTraces = false) {D : va_G} {y : Nat → ClassId} {A : Nat → Prop} {ad : xL → Nat} {bl : xM} {z : xC} {g : Nat → Int32} {pl : Nat → Int32} {kn : Nat → Int64} {rw : Nat → Nat → Int64} {mi : Nat → Int64} {un : Int32} {fR fO : Nat → Nat → Option va_E} {Hs : Heap} (hP : xW D A ad (wU (wB y ad bl z g pl kn rw mi un) fR fO) Hs) (hz : bOk bl z) (x : Int32) : vx_Met l yX3_checkNode (.code yX3_checkNode cX3_checkNode 2 none :: WG) { frames := 6, cells := 1, slots := 6, locals := 100 } (xPcX [.ref (ad (0, 0)), .int x] D y A Hs) (xQ (fun v H1 => v = none ∧ Hs = H1 ∧ nodeP z x) A) (xX (fun E H1 => E = eIOB ∧ ¬ nodeP z x ∧ xExt Hs H1) A) 1 6 A := by
  refine xM_goX (by decide) (Nat.le_of_ble_eq_true rfl) (fun p e s m args below meth c ls R Q hx hb hr hlocks hml hown hts hH hE hnm hRf hRl hRc hRs hQ hS hl hF htab => ?_)
  have hRf : R.frames = 6 := hRf
  have hRl : R.locals = 100 := hRl
  have hRc : R.cells = 1 := hRc
  have hRs : R.slots = 6 := hRs
  have hl : lv_has ls 2 [(0, .ref (ad (0, 0))), (1, .int x)] := hl
  have hw := hz.w
  have hN := hw.N
  have hE20 := hw.E
  refine lv_iload_n hx hb dX3_checkNode_0 rfl (lv_at hl 1 rfl) ?_
  refine lv_if_lt (tgt := 15) hx hb dX3_checkNode_1 (by decide) (fun c1 => ?_) (fun c1 => ?_)
  · skip
    exact xw_throw (text := "there is no such node") xt_IOB hQ hx hb hls hown hts hlocks hH hF hS htab (by rw [hml]; exact hl.1) (by decide) dX3_checkNode_15 dX3_checkNode_18 dX3_checkNode_19 dX3_checkNode_21 dX3_checkNode_24 (by rw [hRf]; decide) (by rw [hRl]; decide) (by rw [hRc]; omega) (by rw [hRs]; omega) (by omega) (by omega) (fun H1 hz1 hk1 => ⟨rfl, (fun h => by first | exact (Int32.not_le.mpr c1) h.1 | exact c12 h.2), ⟨hz1, hk1⟩⟩)
  · skip
    refine lv_iload_n hx hb dX3_checkNode_4 rfl (lv_at hl 1 rfl) ?_
    refine lv_aload_n hx hb dX3_checkNode_5 rfl (lv_at hl 0 rfl) ?_
    refine fg_X3_nodes hx hb hts hown hE hP q_102 dX3_checkNode_6 ?_
    refine xw_callV (C := "java/util/ArrayList") (n := 0) [] (c_size_nodes l hP ) hx hb hml hown hts hE hS (xw_recv hE hP (1, 0) rfl rfl) rfl rfl q_24 q_123 q_126 q_124 q_125 (by decide) rfl ⟨by rw [hRf]; decide, by rw [hRl]; decide⟩ hl.1 rfl (Nat.le_of_ble_eq_true rfl) dX3_checkNode_9 ⟨by rw [hRc]; omega, by rw [hRs]; omega⟩ (fun v H1 locs hp hS => ?_)
    obtain ⟨hv, hh⟩ := hp; subst hv; subst hh
    refine lv_icmp_lt (tgt := 25) hx hb dX3_checkNode_12 (by decide) (fun c12 => ?_) (fun c12 => ?_)
    · skip
      exact xx_vret hQ hx hb hr hlocks hH hS (by omega) (by omega) (⟨rfl, rfl, Int32.not_lt.mp c1, c12⟩) dX3_checkNode_25
    · skip
      exact xw_throw (text := "there is no such node") xt_IOB hQ hx hb hls hown hts hlocks hH hF hS htab (by rw [hml]; exact hl.1) (by decide) dX3_checkNode_15 dX3_checkNode_18 dX3_checkNode_19 dX3_checkNode_21 dX3_checkNode_24 (by rw [hRf]; decide) (by rw [hRl]; decide) (by rw [hRc]; omega) (by rw [hRs]; omega) (by omega) (by omega) (fun H1 hz1 hk1 => ⟨rfl, (fun h => by first | exact (Int32.not_le.mpr c1) h.1 | exact c12 h.2), ⟨hz1, hk1⟩⟩)

set_option maxHeartbeats 4000000 in
set_option maxRecDepth 100000 in
theorem c_X3_checkElement (l : Launch) (hls : l.stackTraces = false) {D : va_G} {y : Nat → ClassId} {A : Nat → Prop} {ad : xL → Nat} {bl : xM} {z : xC} {g : Nat → Int32} {pl : Nat → Int32} {kn : Nat → Int64} {rw : Nat → Nat → Int64} {mi : Nat → Int64} {un : Int32} {fR fO : Nat → Nat → Option va_E} {Hs : Heap} (hP : xW D A ad (wU (wB y ad bl z g pl kn rw mi un) fR fO) Hs) (hz : bOk bl z) (x : Int32) : vx_Met l yX3_checkElement (.code yX3_checkElement cX3_checkElement 2 none :: WG) { frames := 6, cells := 1, slots := 6, locals := 100 } (xPcX [.ref (ad (0, 0)), .int x] D y A Hs) (xQ (fun v H1 => v = none ∧ Hs = H1 ∧ elP z x) A) (xX (fun E H1 => E = eIOB ∧ ¬ elP z x ∧ xExt Hs H1) A) 1 6 A := by
  refine xM_goX (by decide) (Nat.le_of_ble_eq_true rfl) (fun p e s m args below meth c ls R Q hx hb hr hlocks hml hown hts hH hE hnm hRf hRl hRc hRs hQ hS hl hF htab => ?_)
  have hRf : R.frames = 6 := hRf
  have hRl : R.locals = 100 := hRl
  have hRc : R.cells = 1 := hRc
  have hRs : R.slots = 6 := hRs
  have hl : lv_has ls 2 [(0, .ref (ad (0, 0))), (1, .int x)] := hl
  have hw := hz.w
  have hN := hw.N
  have hE20 := hw.E
  refine lv_iload_n hx hb dX3_checkElement_0 rfl (lv_at hl 1 rfl) ?_
  refine lv_if_lt (tgt := 15) hx hb dX3_checkElement_1 (by decide) (fun c1 => ?_) (fun c1 => ?_)
  · skip
    exact xw_throw (text := "there is no such element") xt_IOB hQ hx hb hls hown hts hlocks hH hF hS htab (by rw [hml]; exact hl.1) (by decide) dX3_checkElement_15 dX3_checkElement_18 dX3_checkElement_19 dX3_checkElement_21 dX3_checkElement_24 (by rw [hRf]; decide) (by rw [hRl]; decide) (by rw [hRc]; omega) (by rw [hRs]; omega) (by omega) (by omega) (fun H1 hz1 hk1 => ⟨rfl, (fun h => by first | exact (Int32.not_le.mpr c1) h.1 | exact c12 h.2), ⟨hz1, hk1⟩⟩)
  · skip
    refine lv_iload_n hx hb dX3_checkElement_4 rfl (lv_at hl 1 rfl) ?_
    refine lv_aload_n hx hb dX3_checkElement_5 rfl (lv_at hl 0 rfl) ?_
    refine fg_X3_elements hx hb hts hown hE hP q_103 dX3_checkElement_6 ?_
    refine xw_callV (C := "java/util/ArrayList") (n := 0) [] (c_size_elements l hP ) hx hb hml hown hts hE hS (xw_recv hE hP (3, 0) rfl rfl) rfl rfl q_24 q_123 q_126 q_124 q_125 (by decide) rfl ⟨by rw [hRf]; decide, by rw [hRl]; decide⟩ hl.1 rfl (Nat.le_of_ble_eq_true rfl) dX3_checkElement_9 ⟨by rw [hRc]; omega, by rw [hRs]; omega⟩ (fun v H1 locs hp hS => ?_)
    obtain ⟨hv, hh⟩ := hp; subst hv; subst hh
    refine lv_icmp_lt (tgt := 25) hx hb dX3_checkElement_12 (by decide) (fun c12 => ?_) (fun c12 => ?_)
    · skip
      exact xx_vret hQ hx hb hr hlocks hH hS (by omega) (by omega) (⟨rfl, rfl, Int32.not_lt.mp c1, c12⟩) dX3_checkElement_25
    · skip
      exact xw_throw (text := "there is no such element") xt_IOB hQ hx hb hls hown hts hlocks hH hF hS htab (by rw [hml]; exact hl.1) (by decide) dX3_checkElement_15 dX3_checkElement_18 dX3_checkElement_19 dX3_checkElement_21 dX3_checkElement_24 (by rw [hRf]; decide) (by rw [hRl]; decide) (by rw [hRc]; omega) (by rw [hRs]; omega) (by omega) (by omega) (fun H1 hz1 hk1 => ⟨rfl, (fun h => by first | exact (Int32.not_le.mpr c1) h.1 | exact c12 h.2), ⟨hz1, hk1⟩⟩)

set_option maxHeartbeats 4000000 in
set_option maxRecDepth 100000 in
theorem c_X3_checkTime (l : Launch) (hls : l.stackTraces = false) {D : va_G} {y : Nat → ClassId} {A : Nat → Prop}  {Hs : Heap} (x : Int32) : vx_Met l yX3_checkTime (.code yX3_checkTime cX3_checkTime 1 none :: WG) { frames := 6, cells := 1, slots := 6, locals := 100 } (xPcX [.int x] D y A Hs) (xQ (fun v H1 => v = none ∧ Hs = H1 ∧ timeP x) A) (xX (fun E H1 => E = eIAE ∧ ¬ timeP x ∧ xExt Hs H1) A) 1 6 A := by
  refine xM_goX (by decide) (Nat.le_of_ble_eq_true rfl) (fun p e s m args below meth c ls R Q hx hb hr hlocks hml hown hts hH hE hnm hRf hRl hRc hRs hQ hS hl hF htab => ?_)
  have hRf : R.frames = 6 := hRf
  have hRl : R.locals = 100 := hRl
  have hRc : R.cells = 1 := hRc
  have hRs : R.slots = 6 := hRs
  have hl : lv_has ls 1 [(0, .int x)] := hl
  refine lv_iload_n hx hb dX3_checkTime_0 rfl (lv_at hl 0 rfl) ?_
  refine lv_if_lt (tgt := 11) hx hb dX3_checkTime_1 (by decide) (fun c1 => ?_) (fun c1 => ?_)
  · skip
    exact xw_throw (text := "a time is 0 to 999") xt_IAE hQ hx hb hls hown hts hlocks hH hF hS htab (by rw [hml]; exact hl.1) (by decide) dX3_checkTime_11 dX3_checkTime_14 dX3_checkTime_15 dX3_checkTime_17 dX3_checkTime_20 (by rw [hRf]; decide) (by rw [hRl]; decide) (by rw [hRc]; omega) (by rw [hRs]; omega) (by omega) (by omega) (fun H1 hz1 hk1 => ⟨rfl, (fun h => by first | exact (Int32.not_le.mpr c1) h.1 | exact c8 h.2), ⟨hz1, hk1⟩⟩)
  · skip
    refine lv_iload_n hx hb dX3_checkTime_4 rfl (lv_at hl 0 rfl) ?_
    refine lv_sipush (v := nI 999) hx hb dX3_checkTime_5 (by decide) ?_
    refine lv_icmp_le (tgt := 21) hx hb dX3_checkTime_8 (by decide) (fun c8 => ?_) (fun c8 => ?_)
    · skip
      exact xx_vret hQ hx hb hr hlocks hH hS (by omega) (by omega) (⟨rfl, rfl, Int32.not_lt.mp c1, c8⟩) dX3_checkTime_21
    · skip
      exact xw_throw (text := "a time is 0 to 999") xt_IAE hQ hx hb hls hown hts hlocks hH hF hS htab (by rw [hml]; exact hl.1) (by decide) dX3_checkTime_11 dX3_checkTime_14 dX3_checkTime_15 dX3_checkTime_17 dX3_checkTime_20 (by rw [hRf]; decide) (by rw [hRl]; decide) (by rw [hRc]; omega) (by rw [hRs]; omega) (by omega) (by omega) (fun H1 hz1 hk1 => ⟨rfl, (fun h => by first | exact (Int32.not_le.mpr c1) h.1 | exact c8 h.2), ⟨hz1, hk1⟩⟩)

set_option maxHeartbeats 4000000 in
set_option maxRecDepth 100000 in
theorem c_X3_checkSize (l : Launch) (hls : l.stackTraces = false) {D : va_G} {y : Nat → ClassId} {A : Nat → Prop}  {Hs : Heap} (sr x : Int32) : vx_Met l yX3_checkSize (.code yX3_checkSize cX3_checkSize 4 none :: WG) { frames := 6, cells := 1, slots := 6, locals := 100 } (xPcX [.int sr, .int x] D y A Hs) (xQ (fun v H1 => v = none ∧ Hs = H1 ∧ sizeP sr x) A) (xX (fun E H1 => E = eIAE ∧ ¬ sizeP sr x ∧ xExt Hs H1) A) 1 6 A := by
  refine xM_goX (by decide) (Nat.le_of_ble_eq_true rfl) (fun p e s m args below meth c ls R Q hx hb hr hlocks hml hown hts hH hE hnm hRf hRl hRc hRs hQ hS hl hF htab => ?_)
  have hRf : R.frames = 6 := hRf
  have hRl : R.locals = 100 := hRl
  have hRc : R.cells = 1 := hRc
  have hRs : R.slots = 6 := hRs
  have hl : lv_has ls 4 [(0, .int sr), (1, .int x)] := hl
  refine lv_iload_n hx hb dX3_checkSize_0 rfl (lv_at hl 0 rfl) ?_
  refine lv_if_eq (tgt := 9) hx hb dX3_checkSize_1 (by decide) (fun c1 => ?_) (fun c1 => ?_)
  · skip
    refine lv_iconst (v := nI 1) hx hb dX3_checkSize_9 (by decide) ?_
    refine lv_istore_n (lv' := [(2, .int (nI 1)), (0, .int sr), (1, .int x)]) hx hb dX3_checkSize_10 rfl hl (by decide) rfl (fun ls hl => ?_)
    refine lv_iload_n hx hb dX3_checkSize_11 rfl (lv_at hl 1 rfl) ?_
    refine lv_if_eq (tgt := 20) hx hb dX3_checkSize_12 (by decide) (fun c12 => ?_) (fun c12 => ?_)
    · skip
      refine lv_bipush (v := nI 9) hx hb dX3_checkSize_20 (by decide) ?_
      refine lv_istore_n (lv' := [(3, .int (nI 9)), (2, .int (nI 1)), (0, .int sr), (1, .int x)]) hx hb dX3_checkSize_22 rfl hl (by decide) rfl (fun ls hl => ?_)
      refine lv_iload_n hx hb dX3_checkSize_23 rfl (lv_at hl 3 rfl) ?_
      refine lv_iload_n hx hb dX3_checkSize_24 rfl (lv_at hl 1 rfl) ?_
      refine lv_icmp_lt (tgt := 33) hx hb dX3_checkSize_25 (by decide) (fun c25 => ?_) (fun c25 => ?_)
      · skip
        exact xw_throw (text := "the size is not one of such an element") xt_IAE hQ hx hb hls hown hts hlocks hH hF hS htab (by rw [hml]; exact hl.1) (by decide) dX3_checkSize_33 dX3_checkSize_36 dX3_checkSize_37 dX3_checkSize_39 dX3_checkSize_42 (by rw [hRf]; decide) (by rw [hRl]; decide) (by rw [hRc]; omega) (by rw [hRs]; omega) (by omega) (by omega) (fun H1 hz1 hk1 => ⟨rfl, (fun h => by rcases h with ⟨a, b, d⟩ | ⟨a, b, d⟩ <;> first | exact absurd a c12 | exact absurd c12 a | exact (Int32.not_le.mpr c25) b | exact c30 d), ⟨hz1, hk1⟩⟩)
      · skip
        refine lv_iload_n hx hb dX3_checkSize_28 rfl (lv_at hl 3 rfl) ?_
        refine lv_iload_n hx hb dX3_checkSize_29 rfl (lv_at hl 0 rfl) ?_
        refine lv_icmp_le (tgt := 43) hx hb dX3_checkSize_30 (by decide) (fun c30 => ?_) (fun c30 => ?_)
        · skip
          exact xx_vret hQ hx hb hr hlocks hH hS (by omega) (by omega) (⟨rfl, rfl, by first | exact Or.inl ⟨c12, Int32.not_lt.mp c25, c30⟩ | exact Or.inr ⟨c12, Int32.not_lt.mp c25, c30⟩⟩) dX3_checkSize_43
        · skip
          exact xw_throw (text := "the size is not one of such an element") xt_IAE hQ hx hb hls hown hts hlocks hH hF hS htab (by rw [hml]; exact hl.1) (by decide) dX3_checkSize_33 dX3_checkSize_36 dX3_checkSize_37 dX3_checkSize_39 dX3_checkSize_42 (by rw [hRf]; decide) (by rw [hRl]; decide) (by rw [hRc]; omega) (by rw [hRs]; omega) (by omega) (by omega) (fun H1 hz1 hk1 => ⟨rfl, (fun h => by rcases h with ⟨a, b, d⟩ | ⟨a, b, d⟩ <;> first | exact absurd a c12 | exact absurd c12 a | exact (Int32.not_le.mpr c25) b | exact c30 d), ⟨hz1, hk1⟩⟩)
    · skip
      exact absurd c1 c12
  · skip
    refine lv_bipush (v := (-99)) hx hb dX3_checkSize_4 (by decide) ?_
    refine lv_goto (tgt := 10) hx hb dX3_checkSize_6 (by decide) ?_
    refine lv_istore_n (lv' := [(2, .int ((-99))), (0, .int sr), (1, .int x)]) hx hb dX3_checkSize_10 rfl hl (by decide) rfl (fun ls hl => ?_)
    refine lv_iload_n hx hb dX3_checkSize_11 rfl (lv_at hl 1 rfl) ?_
    refine lv_if_eq (tgt := 20) hx hb dX3_checkSize_12 (by decide) (fun c12 => ?_) (fun c12 => ?_)
    · skip
      exact absurd c12 c1
    · skip
      refine lv_bipush (v := nI 99) hx hb dX3_checkSize_15 (by decide) ?_
      refine lv_goto (tgt := 22) hx hb dX3_checkSize_17 (by decide) ?_
      refine lv_istore_n (lv' := [(3, .int (nI 99)), (2, .int ((-99))), (0, .int sr), (1, .int x)]) hx hb dX3_checkSize_22 rfl hl (by decide) rfl (fun ls hl => ?_)
      refine lv_iload_n hx hb dX3_checkSize_23 rfl (lv_at hl 3 rfl) ?_
      refine lv_iload_n hx hb dX3_checkSize_24 rfl (lv_at hl 1 rfl) ?_
      refine lv_icmp_lt (tgt := 33) hx hb dX3_checkSize_25 (by decide) (fun c25 => ?_) (fun c25 => ?_)
      · skip
        exact xw_throw (text := "the size is not one of such an element") xt_IAE hQ hx hb hls hown hts hlocks hH hF hS htab (by rw [hml]; exact hl.1) (by decide) dX3_checkSize_33 dX3_checkSize_36 dX3_checkSize_37 dX3_checkSize_39 dX3_checkSize_42 (by rw [hRf]; decide) (by rw [hRl]; decide) (by rw [hRc]; omega) (by rw [hRs]; omega) (by omega) (by omega) (fun H1 hz1 hk1 => ⟨rfl, (fun h => by rcases h with ⟨a, b, d⟩ | ⟨a, b, d⟩ <;> first | exact absurd a c12 | exact absurd c12 a | exact (Int32.not_le.mpr c25) b | exact c30 d), ⟨hz1, hk1⟩⟩)
      · skip
        refine lv_iload_n hx hb dX3_checkSize_28 rfl (lv_at hl 3 rfl) ?_
        refine lv_iload_n hx hb dX3_checkSize_29 rfl (lv_at hl 0 rfl) ?_
        refine lv_icmp_le (tgt := 43) hx hb dX3_checkSize_30 (by decide) (fun c30 => ?_) (fun c30 => ?_)
        · skip
          exact xx_vret hQ hx hb hr hlocks hH hS (by omega) (by omega) (⟨rfl, rfl, by first | exact Or.inl ⟨c12, Int32.not_lt.mp c25, c30⟩ | exact Or.inr ⟨c12, Int32.not_lt.mp c25, c30⟩⟩) dX3_checkSize_43
        · skip
          exact xw_throw (text := "the size is not one of such an element") xt_IAE hQ hx hb hls hown hts hlocks hH hF hS htab (by rw [hml]; exact hl.1) (by decide) dX3_checkSize_33 dX3_checkSize_36 dX3_checkSize_37 dX3_checkSize_39 dX3_checkSize_42 (by rw [hRf]; decide) (by rw [hRl]; decide) (by rw [hRc]; omega) (by rw [hRs]; omega) (by omega) (by omega) (fun H1 hz1 hk1 => ⟨rfl, (fun h => by rcases h with ⟨a, b, d⟩ | ⟨a, b, d⟩ <;> first | exact absurd a c12 | exact absurd c12 a | exact (Int32.not_le.mpr c25) b | exact c30 d), ⟨hz1, hk1⟩⟩)

set_option maxHeartbeats 4000000 in
set_option maxRecDepth 100000 in
theorem c_X3_checkGrounded (l : Launch) (hls : l.stackTraces = false) {D : va_G} {y : Nat → ClassId} {A : Nat → Prop} {ad : xL → Nat} {bl : xM} {z : xC} {g : Nat → Int32} {pl : Nat → Int32} {kn : Nat → Int64} {rw : Nat → Nat → Int64} {mi : Nat → Int64} {un : Int32} {fR fO : Nat → Nat → Option va_E} {Hs : Heap} (hP : xW D A ad (wU (wB y ad bl z g pl kn rw mi un) fR fO) Hs) {m8 : Nat → Nat} (hg : g = fun j => nI (m8 j)) (hm : ∀ j, j < 8 → m8 j < 256) (hz : bOk bl z) {j : Nat} (hj : j < 8) : vx_Met l yX3_checkGrounded (.code yX3_checkGrounded cX3_checkGrounded 2 none :: WG) { frames := 6, cells := 1, slots := 6, locals := 100 } (xPcX [.ref (ad (0, 0)), .int (nI j)] D y A Hs) (xQ (fun v H1 => v = none ∧ Hs = H1 ∧ aflI z (m8 j) = 0) A) (xX (fun E H1 => E = eISE ∧ ¬ aflI z (m8 j) = 0 ∧ xExt Hs H1) A) 1 6 A := by
  refine xM_goX (by decide) (Nat.le_of_ble_eq_true rfl) (fun p e s m args below meth c ls R Q hx hb hr hlocks hml hown hts hH hE hnm hRf hRl hRc hRs hQ hS hl hF htab => ?_)
  have hRf : R.frames = 6 := hRf
  have hRl : R.locals = 100 := hRl
  have hRc : R.cells = 1 := hRc
  have hRs : R.slots = 6 := hRs
  have hl : lv_has ls 2 [(0, .ref (ad (0, 0))), (1, .int (nI j))] := hl
  have hw := hz.w
  have hN := hw.N
  have hE20 := hw.E
  refine lv_aload_n hx hb dX3_checkGrounded_0 rfl (lv_at hl 0 rfl) ?_
  refine lv_iload_n hx hb dX3_checkGrounded_1 rfl (lv_at hl 1 rfl) ?_
  refine xw_callV (C := "NetlistBench") (n := 1) [.int (nI j)] (c_X3_isAfloat l hP hg hm hz hj) hx hb hml hown hts hE hS (xw_recv hE hP (0, 0) rfl rfl) rfl rfl q_21 q_262 q_265 q_264 q_6 (by decide) rfl ⟨by rw [hRf]; decide, by rw [hRl]; decide⟩ hl.1 rfl (Nat.le_of_ble_eq_true rfl) dX3_checkGrounded_2 ⟨by rw [hRc]; omega, by rw [hRs]; omega⟩ (fun v H1 locs hp hS => ?_)
  obtain ⟨hv, hh⟩ := hp; subst hv; subst hh
  refine lv_if_eq (tgt := 18) hx hb dX3_checkGrounded_5 (by decide) (fun c5 => ?_) (fun c5 => ?_)
  · skip
    exact xx_vret hQ hx hb hr hlocks hH hS (by omega) (by omega) (⟨rfl, rfl, c5⟩) dX3_checkGrounded_18
  · skip
    exact xw_throw (text := "the node floats") xt_ISE hQ hx hb hls hown hts hlocks hH hF hS htab (by rw [hml]; exact hl.1) (by decide) dX3_checkGrounded_8 dX3_checkGrounded_11 dX3_checkGrounded_12 dX3_checkGrounded_14 dX3_checkGrounded_17 (by rw [hRf]; decide) (by rw [hRl]; decide) (by rw [hRc]; omega) (by rw [hRs]; omega) (by omega) (by omega) (fun H1 hz1 hk1 => ⟨rfl, c5, ⟨hz1, hk1⟩⟩)

set_option maxHeartbeats 4000000 in
set_option maxRecDepth 100000 in
theorem c_X3_floats (l : Launch) (hls : l.stackTraces = false) {D : va_G} {y : Nat → ClassId} {A : Nat → Prop} {ad : xL → Nat} {bl : xM} {z : xC} {g : Nat → Int32} {pl : Nat → Int32} {kn : Nat → Int64} {rw : Nat → Nat → Int64} {mi : Nat → Int64} {un : Int32} {fR fO : Nat → Nat → Option va_E} {Hs : Heap} (hP : xW D A ad (wU (wB y ad bl z g pl kn rw mi un) fR fO) Hs) (hz : bOk bl z) (x t : Int32) : vx_Met l yX3_floats (.code yX3_floats cX3_floats 3 (some .boolean) :: WG) { frames := 7, cells := 2, slots := 12, locals := 121 } (xPcX [.ref (ad (0, 0)), .int x, .int t] D y A Hs) (xQ (fun v H1 => v = some (.int (aflI z (gM z t (clN x)))) ∧ tNd z x t = 0 ∧ xB D A y ad bl z fR fO H1) A) (xX (fun E H1 => ex3 (tNd z x t) E ∧ xB D A y ad bl z fR fO H1) A) 2 12 A := by
  refine xM_goX (by decide) (Nat.le_of_ble_eq_true rfl) (fun p e s m args below meth c ls R Q hx hb hr hlocks hml hown hts hH hE hnm hRf hRl hRc hRs hQ hS hl hF htab => ?_)
  have hRf : R.frames = 7 := hRf
  have hRl : R.locals = 121 := hRl
  have hRc : R.cells = 2 := hRc
  have hRs : R.slots = 12 := hRs
  have hl : lv_has ls 3 [(0, .ref (ad (0, 0))), (1, .int x), (2, .int t)] := hl
  have hw := hz.w
  have hN := hw.N
  have hE20 := hw.E
  refine lv_aload_n hx hb dX3_floats_0 rfl (lv_at hl 0 rfl) ?_
  refine lv_iload_n hx hb dX3_floats_1 rfl (lv_at hl 1 rfl) ?_
  refine xx_callV (C := "NetlistBench") (n := 1) [.int x] (c_X3_checkNode l hls hP hz x) hx hb hml hown hts hE hF hS (xw_recv hE hP (0, 0) rfl rfl) rfl rfl q_21 q_233 q_236 q_235 q_2 (by decide) rfl ⟨by rw [hRf]; decide, by rw [hRl]; decide⟩ hl.1 rfl (Nat.le_of_ble_eq_true rfl) dX3_floats_2 ⟨by rw [hRc]; omega, by rw [hRs]; omega⟩ (fun E ce q9 H1 locs hp hS hce hcv hcl => ?_) (fun v H1 locs hp hS => ?_)
  · skip
    exact xx_out hQ htab hlocks hH hS hce hcv hcl (by omega) (by omega) (⟨Or.inl ⟨by rw [tNd, if_pos hp.2.1], hp.1⟩, (hP.kept hp.2.2.1 hp.2.2.2).B⟩)
  obtain ⟨hv, hh, hn⟩ := hp; subst hv; subst hh; obtain ⟨j, hj, ex⟩ := nodeP_i hw hn; subst ex
  refine lv_iload_n hx hb dX3_floats_5 rfl (lv_at hl 2 rfl) ?_
  refine xx_callS (n := 1) [.int t] (c_X3_checkTime l hls t) hx hb hml hown hts hE hF hS rfl rfl q_21 q_238 q_240 q_239 (by decide) rfl ⟨by rw [hRf]; decide, by rw [hRl]; decide⟩ hl.1 rfl (Nat.le_of_ble_eq_true rfl) dX3_floats_6 ⟨by rw [hRc]; omega, by rw [hRs]; omega⟩ (fun E ce q9 H1 locs hp hS hce hcv hcl => ?_) (fun v H1 locs hp hS => ?_)
  · skip
    exact xx_out hQ htab hlocks hH hS hce hcv hcl (by omega) (by omega) (⟨Or.inr (Or.inl ⟨by rw [tNd, if_neg (not_not_intro hn), if_pos hp.2.1], hp.1⟩), (hP.kept hp.2.2.1 hp.2.2.2).B⟩)
  obtain ⟨hv, hh, ht⟩ := hp; subst hv; subst hh; obtain ⟨tm, htl, ex⟩ := timeP_i ht; subst ex
  refine lv_aload_n hx hb dX3_floats_9 rfl (lv_at hl 0 rfl) ?_
  refine lv_iload_n hx hb dX3_floats_10 rfl (lv_at hl 2 rfl) ?_
  refine xw_callV (C := "NetlistBench") (n := 1) [.int (nI tm)] (c_X3_group l hP hz (nI tm)) hx hb hml hown hts hE hS (xw_recv hE hP (0, 0) rfl rfl) rfl rfl q_21 q_242 q_245 q_244 q_3 (by decide) rfl ⟨by rw [hRf]; decide, by rw [hRl]; decide⟩ hl.1 rfl (Nat.le_of_ble_eq_true rfl) dX3_floats_11 ⟨by rw [hRc]; omega, by rw [hRs]; omega⟩ (fun v H1 locs hp hS => ?_)
  obtain ⟨hv, hP⟩ := hp; subst hv
  generalize H1 = H at hP hS ⊢
  refine lv_aload_n hx hb dX3_floats_14 rfl (lv_at hl 0 rfl) ?_
  refine lv_iload_n hx hb dX3_floats_15 rfl (lv_at hl 1 rfl) ?_
  refine xw_callV (C := "NetlistBench") (n := 1) [.int (nI j)] (c_X3_isAfloat l hP (m8 := (gM z (nI tm))) rfl (fun j hj => gM_lt hw _ hj) hz (by omega)) hx hb hml hown hts hE hS (xw_recv hE hP (0, 0) rfl rfl) rfl rfl q_21 q_262 q_265 q_264 q_6 (by decide) rfl ⟨by rw [hRf]; decide, by rw [hRl]; decide⟩ hl.1 rfl (Nat.le_of_ble_eq_true rfl) dX3_floats_16 ⟨by rw [hRc]; omega, by rw [hRs]; omega⟩ (fun v H1 locs hp hS => ?_)
  obtain ⟨hv, hh⟩ := hp; subst hv; subst hh
  exact xx_zret hQ hx hb hr hlocks hH hS (aflI_01 z _) (by omega) (by omega) (⟨by rw [cl_nI (by omega)], by rw [tNd, if_neg (not_not_intro hn), if_neg (not_not_intro ht)], hP.B⟩) dX3_floats_19

set_option maxHeartbeats 4000000 in
set_option maxRecDepth 100000 in
theorem c_X3_feed (l : Launch) (hls : l.stackTraces = false) {D : va_G} {y : Nat → ClassId} {A : Nat → Prop} {ad : xL → Nat} {bl : xM} {z : xC} {g : Nat → Int32} {pl : Nat → Int32} {kn : Nat → Int64} {rw : Nat → Nat → Int64} {mi : Nat → Int64} {un : Int32} {fR fO : Nat → Nat → Option va_E} {Hs : Heap} (hP : xW D A ad (wU (wB y ad bl z g pl kn rw mi un) fR fO) Hs) (hz : bOk bl z) (x t f : Int32) : vx_Met l yX3_feed (.code yX3_feed cX3_feed 8 (some .long) :: WG) { frames := 7, cells := 3, slots := 18, locals := 121 } (xPcX [.ref (ad (0, 0)), .int x, .int t, .int f] D y A Hs) (xQ (fun v H1 => v = some (.long (rFeed z x t f)) ∧ tFeed z x t = 0 ∧ xB D A y ad bl z fR fO H1) A) (xX (fun E H1 => ex3 (tFeed z x t) E ∧ xB D A y ad bl z fR fO H1) A) 3 18 A := by
  refine xM_goX (by decide) (Nat.le_of_ble_eq_true rfl) (fun p e s m args below meth c ls R Q hx hb hr hlocks hml hown hts hH hE hnm hRf hRl hRc hRs hQ hS hl hF htab => ?_)
  have hRf : R.frames = 7 := hRf
  have hRl : R.locals = 121 := hRl
  have hRc : R.cells = 3 := hRc
  have hRs : R.slots = 18 := hRs
  have hl : lv_has ls 8 [(0, .ref (ad (0, 0))), (1, .int x), (2, .int t), (3, .int f)] := hl
  have hw := hz.w
  have hN := hw.N
  have hE20 := hw.E
  refine lv_aload_n hx hb dX3_feed_0 rfl (lv_at hl 0 rfl) ?_
  refine lv_iload_n hx hb dX3_feed_1 rfl (lv_at hl 1 rfl) ?_
  refine xx_callV (C := "NetlistBench") (n := 1) [.int x] (c_X3_checkNode l hls hP hz x) hx hb hml hown hts hE hF hS (xw_recv hE hP (0, 0) rfl rfl) rfl rfl q_21 q_233 q_236 q_235 q_2 (by decide) rfl ⟨by rw [hRf]; decide, by rw [hRl]; decide⟩ hl.1 rfl (Nat.le_of_ble_eq_true rfl) dX3_feed_2 ⟨by rw [hRc]; omega, by rw [hRs]; omega⟩ (fun E ce q9 H1 locs hp hS hce hcv hcl => ?_) (fun v H1 locs hp hS => ?_)
  · skip
    exact xx_out hQ htab hlocks hH hS hce hcv hcl (by omega) (by omega) (⟨Or.inl ⟨by rw [tFeed, if_pos hp.2.1], hp.1⟩, (hP.kept hp.2.2.1 hp.2.2.2).B⟩)
  obtain ⟨hv, hh, hn⟩ := hp; subst hv; subst hh; obtain ⟨j, hj, ex⟩ := nodeP_i hw hn; subst ex
  refine lv_iload_n hx hb dX3_feed_5 rfl (lv_at hl 2 rfl) ?_
  refine xx_callS (n := 1) [.int t] (c_X3_checkTime l hls t) hx hb hml hown hts hE hF hS rfl rfl q_21 q_238 q_240 q_239 (by decide) rfl ⟨by rw [hRf]; decide, by rw [hRl]; decide⟩ hl.1 rfl (Nat.le_of_ble_eq_true rfl) dX3_feed_6 ⟨by rw [hRc]; omega, by rw [hRs]; omega⟩ (fun E ce q9 H1 locs hp hS hce hcv hcl => ?_) (fun v H1 locs hp hS => ?_)
  · skip
    exact xx_out hQ htab hlocks hH hS hce hcv hcl (by omega) (by omega) (⟨Or.inr (Or.inl ⟨by rw [tFeed, if_neg (not_not_intro hn), if_pos hp.2.1], hp.1⟩), (hP.kept hp.2.2.1 hp.2.2.2).B⟩)
  obtain ⟨hv, hh, ht⟩ := hp; subst hv; subst hh; obtain ⟨tm, htl, ex⟩ := timeP_i ht; subst ex
  refine lv_aload_n hx hb dX3_feed_9 rfl (lv_at hl 0 rfl) ?_
  refine fg_X3_nodes hx hb hts hown hE hP q_102 dX3_feed_10 ?_
  refine lv_iload_n hx hb dX3_feed_13 rfl (lv_at hl 1 rfl) ?_
  refine xw_callV (C := "java/util/ArrayList") (n := 1) [.int (nI j)] (c_get_nodes l hP hz (by omega)) hx hb hml hown hts hE hS (xw_recv hE hP (1, 0) rfl rfl) rfl rfl q_24 q_195 q_198 q_196 q_197 (by decide) rfl ⟨by rw [hRf]; decide, by rw [hRl]; decide⟩ hl.1 rfl (Nat.le_of_ble_eq_true rfl) dX3_feed_14 ⟨by rw [hRc]; omega, by rw [hRs]; omega⟩ (fun v H1 locs hp hS => ?_)
  obtain ⟨hv, hh⟩ := hp; subst hv; subst hh
  refine xc_nd (i := j) hx hb hts hown hE hP (by first | assumption | omega) q_266 dX3_feed_17 ?_
  refine fg_X2_isRail (i := j) (by first | assumption | omega) hx hb hts hown hE hP q_471 dX3_feed_20 ?_
  refine lv_if_ne (tgt := 36) hx hb dX3_feed_23 (by decide) (fun c23 => ?_) (fun c23 => ?_)
  · skip
    refine lv_aload_n hx hb dX3_feed_36 rfl (lv_at hl 0 rfl) ?_
    refine lv_iload_n hx hb dX3_feed_37 rfl (lv_at hl 2 rfl) ?_
    refine xw_callV (C := "NetlistBench") (n := 1) [.int (nI tm)] (c_X3_settle l hP hz (nI tm)) hx hb hml hown hts hE hS (xw_recv hE hP (0, 0) rfl rfl) rfl rfl q_21 q_287 q_290 q_289 q_7 (by decide) rfl ⟨by rw [hRf]; decide, by rw [hRl]; decide⟩ hl.1 rfl (Nat.le_of_ble_eq_true rfl) dX3_feed_38 ⟨by rw [hRc]; omega, by rw [hRs]; omega⟩ (fun v H1 locs hp hS => ?_)
    obtain ⟨hv, mi', hmi, hP⟩ := hp; subst hv
    generalize H1 = H at hP hS ⊢
    have hn7 := sN_le z (nI tm)
    refine lv_lconst (v := 0) hx hb dX3_feed_41 (by decide) ?_
    refine lv_lstore (lv' := [(4, .long 0), (0, .ref (ad (0, 0))), (1, .int (nI j)), (2, .int (nI tm)), (3, .int f)]) hx hb dX3_feed_42 hl (by decide) rfl (fun ls hl => ?_)
    refine lv_iconst (v := nI 0) hx hb dX3_feed_44 (by decide) ?_
    refine lv_istore (lv' := [(6, .int (nI 0)), (4, .long 0), (0, .ref (ad (0, 0))), (1, .int (nI j)), (2, .int (nI tm)), (3, .int f)]) hx hb dX3_feed_45 hl (by decide) rfl (fun ls hl => ?_)
    have K47 : ∀ (nn : Nat), ∀ (i : Nat), (i ≤ nE z) → nE z - i < nn → ∀ (H : Heap) (locs : List Loc) (ls : Array Slot), xW D A ad (wU (wB y ad bl z ((sG z (nI tm))) ((sP z (nI tm))) ((sK z (nI tm))) ((sR z (nI tm))) mi' (nI (sN z (nI tm)))) fR fO) H → va_S A Hs H locs → lv_has ls 8 [(6, .int (nI i)), (4, .long (fdS z (nI tm) (num z (nI tm)) (den z (nI tm)) j i)), (3, .int f), (2, .int (nI tm)), (1, .int (nI j)), (0, .ref (ad (0, 0)))] → W p l e R s m args below meth c H locs 2 12 Q (F0 m 47 ls []) := by
      intro nn
      induction nn with
      | zero => intro i hi h; exact absurd h (Nat.not_lt_zero _)
      | succ nn ih47 =>
        intro i hi hn47 H locs ls hP hS hl
        refine lv_iload hx hb dX3_feed_47 (lv_at hl 0 rfl) ?_
        refine lv_aload_n hx hb dX3_feed_49 rfl (lv_at hl 5 rfl) ?_
        refine fg_X3_elements hx hb hts hown hE hP q_103 dX3_feed_50 ?_
        refine xw_callV (C := "java/util/ArrayList") (n := 0) [] (c_size_elements l hP ) hx hb hml hown hts hE hS (xw_recv hE hP (3, 0) rfl rfl) rfl rfl q_24 q_123 q_126 q_124 q_125 (by decide) rfl ⟨by rw [hRf]; decide, by rw [hRl]; decide⟩ hl.1 rfl (Nat.le_of_ble_eq_true rfl) dX3_feed_53 ⟨by rw [hRc]; omega, by rw [hRs]; omega⟩ (fun v H1 locs hp hS => ?_)
        obtain ⟨hv, hh⟩ := hp; subst hv; subst hh
        refine lv_icmp_ge (tgt := 100) hx hb dX3_feed_56 (by decide) (fun c56 => ?_) (fun c56 => ?_)
        · skip
          have c56 := ni_le (a := (nE z)) (b := i) (by omega) (by omega) c56
          rw [show i = nE z by omega] at hl
          refine lv_lload hx hb dX3_feed_100 (lv_at hl 1 rfl) ?_
          refine lv_aload_n hx hb dX3_feed_102 rfl (lv_at hl 5 rfl) ?_
          refine fg_X3_equations hx hb hts hown hE hP q_105 dX3_feed_103 ?_
          refine xw_callV (C := "NetlistBench$Equations") (n := 0) [] (c_X1_lower l hP (by omega)) hx hb hml hown hts hE hS (xw_recv hE hP (6, 0) rfl rfl) rfl rfl q_25 q_342 q_345 q_343 q_344 (by decide) rfl ⟨by rw [hRf]; decide, by rw [hRl]; decide⟩ hl.1 rfl (Nat.le_of_ble_eq_true rfl) dX3_feed_106 ⟨by rw [hRc]; omega, by rw [hRs]; omega⟩ (fun v H1 locs hp hS => ?_)
          obtain ⟨hv, hh⟩ := hp; subst hv; subst hh
          refine xt_l (w := den z (nI tm)) (den_dm hmi) ?_
          refine lv_iload_n hx hb dX3_feed_109 rfl (lv_at hl 2 rfl) ?_
          refine xw_callS (n := 3) [.long (fdS z (nI tm) (num z (nI tm)) (den z (nI tm)) j (nE z)), .long (den z (nI tm)), .int f] (c_X3_partOf l (fdS z (nI tm) (num z (nI tm)) (den z (nI tm)) j (nE z)) (den z (nI tm)) f) hx hb hml hown hts hE hS rfl rfl q_21 q_351 q_353 q_352 (by decide) rfl ⟨by rw [hRf]; decide, by rw [hRl]; decide⟩ hl.1 rfl (Nat.le_of_ble_eq_true rfl) dX3_feed_110 ⟨by rw [hRc]; omega, by rw [hRs]; omega⟩ (fun v H1 locs hp hS => ?_)
          obtain ⟨hv, hh⟩ := hp; subst hv; subst hh
          exact xx_lret hQ hx hb hr hlocks hH hS (by omega) (by omega) (⟨by rw [rFeed, cl_nI (by omega)], by rw [tFeed, if_neg (not_not_intro hn), if_neg (not_not_intro ht), cl_nI (by omega), if_neg c23], hP.B⟩) dX3_feed_113
        · skip
          have c56 := ni_nle (a := (nE z)) (b := i) (by omega) (by omega) c56
          refine lv_aload_n hx hb dX3_feed_59 rfl (lv_at hl 5 rfl) ?_
          refine fg_X3_elements hx hb hts hown hE hP q_103 dX3_feed_60 ?_
          refine lv_iload hx hb dX3_feed_63 (lv_at hl 0 rfl) ?_
          refine xw_callV (C := "java/util/ArrayList") (n := 1) [.int (nI i)] (c_get_elements l hP hz (by omega)) hx hb hml hown hts hE hS (xw_recv hE hP (3, 0) rfl rfl) rfl rfl q_24 q_195 q_198 q_196 q_197 (by decide) rfl ⟨by rw [hRf]; decide, by rw [hRl]; decide⟩ hl.1 rfl (Nat.le_of_ble_eq_true rfl) dX3_feed_65 ⟨by rw [hRc]; omega, by rw [hRs]; omega⟩ (fun v H1 locs hp hS => ?_)
          obtain ⟨hv, hh⟩ := hp; subst hv; subst hh
          refine xc_el (i := i) hx hb hts hown hE hP (by first | assumption | omega) q_209 dX3_feed_68 ?_
          refine lv_astore (lv' := [(7, .ref (ad (13, i))), (6, .int (nI i)), (4, .long (fdS z (nI tm) (num z (nI tm)) (den z (nI tm)) j i)), (3, .int f), (2, .int (nI tm)), (1, .int (nI j)), (0, .ref (ad (0, 0)))]) hx hb dX3_feed_71 hl (by decide) rfl (fun ls hl => ?_)
          have ha8 := hw.a8 (i := i) (by omega)
          have hb8 := hw.b8 (i := i) (by omega)
          refine lv_aload hx hb dX3_feed_73 (lv_at hl 0 rfl) ?_
          refine lv_iload_n hx hb dX3_feed_75 rfl (lv_at hl 4 rfl) ?_
          refine xw_callV (C := "NetlistBench$Element") (n := 1) [.int (nI tm)] (c_X0_runsAt l hP hw (by omega) (nI tm)) hx hb hml hown hts hE hS (xr_el hE hP (by first | assumption | omega)) rfl rfl q_40 q_246 q_249 q_247 q_248 (by decide) rfl ⟨by rw [hRf]; decide, by rw [hRl]; decide⟩ hl.1 rfl (Nat.le_of_ble_eq_true rfl) dX3_feed_76 ⟨by rw [hRc]; omega, by rw [hRs]; omega⟩ (fun v H1 locs hp hS => ?_)
          obtain ⟨hv, hh⟩ := hp; subst hv; subst hh
          refine lv_if_eq (tgt := 94) hx hb dX3_feed_79 (by decide) (fun c79 => ?_) (fun c79 => ?_)
          · skip
            rw [show fdS z (nI tm) (num z (nI tm)) (den z (nI tm)) j i = fdS z (nI tm) (num z (nI tm)) (den z (nI tm)) j (i + 1) from (fdS_0 c79).symm] at hl
            refine lv_iinc (v := nI (i + 1)) (lv' := [(6, .int (nI (i + 1))), (7, .ref (ad (13, i))), (4, .long (fdS z (nI tm) (num z (nI tm)) (den z (nI tm)) j (i + 1))), (3, .int f), (2, .int (nI tm)), (1, .int (nI j)), (0, .ref (ad (0, 0)))]) hx hb dX3_feed_94 hl (k := 1) rfl (nI_1 _) (by decide) rfl (fun ls hl => ?_)
            refine lv_goto (tgt := 47) hx hb dX3_feed_97 (by decide) ?_
            exact ih47 (i + 1) (by omega) (by omega) _ _ _ hP hS (lv_sub hl [0, 2, 3, 4, 5, 6] rfl)
          · skip
            refine lv_lload hx hb dX3_feed_82 (lv_at hl 2 rfl) ?_
            refine lv_aload_n hx hb dX3_feed_84 rfl (lv_at hl 6 rfl) ?_
            refine lv_aload hx hb dX3_feed_85 (lv_at hl 0 rfl) ?_
            refine lv_iload_n hx hb dX3_feed_87 rfl (lv_at hl 5 rfl) ?_
            refine xw_callV (C := "NetlistBench") (n := 2) [.ref (ad (13, i)), .int (nI j)] (c_X3_flowOut l hP (by omega) (sP_ok z (nI tm)) hz (by omega) (by omega)) hx hb hml hown hts hE hS (xw_recv hE hP (0, 0) rfl rfl) rfl rfl q_21 q_338 q_341 q_340 q_12 (by decide) rfl ⟨by rw [hRf]; decide, by rw [hRl]; decide⟩ hl.1 rfl (Nat.le_of_ble_eq_true rfl) dX3_feed_88 ⟨by rw [hRc]; omega, by rw [hRs]; omega⟩ (fun v H1 locs hp hS => ?_)
            obtain ⟨hv, hh⟩ := hp; subst hv; subst hh
            refine xt_l (w := flw z (num z (nI tm)) (den z (nI tm)) i j) (flw_congr (upV_dm hmi (sP_ok z _) (by omega) hn7) (upV_dm hmi (sP_ok z _) (by omega) hn7) (den_dm hmi)) ?_
            refine lv_ladd hx hb dX3_feed_91 ?_
            refine xt_l (w := fdS z (nI tm) (num z (nI tm)) (den z (nI tm)) j (i + 1)) ((fdS_1 c79).symm) ?_
            refine lv_lstore (lv' := [(4, .long (fdS z (nI tm) (num z (nI tm)) (den z (nI tm)) j (i + 1))), (7, .ref (ad (13, i))), (6, .int (nI i)), (3, .int f), (2, .int (nI tm)), (1, .int (nI j)), (0, .ref (ad (0, 0)))]) hx hb dX3_feed_92 hl (by decide) rfl (fun ls hl => ?_)
            refine lv_iinc (v := nI (i + 1)) (lv' := [(6, .int (nI (i + 1))), (4, .long (fdS z (nI tm) (num z (nI tm)) (den z (nI tm)) j (i + 1))), (7, .ref (ad (13, i))), (3, .int f), (2, .int (nI tm)), (1, .int (nI j)), (0, .ref (ad (0, 0)))]) hx hb dX3_feed_94 hl (k := 2) rfl (nI_1 _) (by decide) rfl (fun ls hl => ?_)
            refine lv_goto (tgt := 47) hx hb dX3_feed_97 (by decide) ?_
            exact ih47 (i + 1) (by omega) (by omega) _ _ _ hP hS (lv_sub hl [0, 1, 3, 4, 5, 6] rfl)
    exact K47 _ 0 (by omega) (Nat.lt_succ_self _) _ _ _ hP hS (lv_sub hl [0, 1, 5, 4, 3, 2] rfl)
  · skip
    exact xw_throw (text := "the node is no rail") xt_ISE hQ hx hb hls hown hts hlocks hH hF hS htab (by rw [hml]; exact hl.1) (by decide) dX3_feed_26 dX3_feed_29 dX3_feed_30 dX3_feed_32 dX3_feed_35 (by rw [hRf]; decide) (by rw [hRl]; decide) (by rw [hRc]; omega) (by rw [hRs]; omega) (by omega) (by omega) (fun H1 hz1 hk1 => ⟨Or.inr (Or.inr ⟨by rw [tFeed, if_neg (not_not_intro hn), if_neg (not_not_intro ht), cl_nI (by omega), if_pos c23], rfl⟩), (hP.kept hz1 hk1).B⟩)

set_option maxHeartbeats 4000000 in
set_option maxRecDepth 100000 in
theorem c_X3_resistance (l : Launch) (hls : l.stackTraces = false) {D : va_G} {y : Nat → ClassId} {A : Nat → Prop} {ad : xL → Nat} {bl : xM} {z : xC} {g : Nat → Int32} {pl : Nat → Int32} {kn : Nat → Int64} {rw : Nat → Nat → Int64} {mi : Nat → Int64} {un : Int32} {fR fO : Nat → Nat → Option va_E} {Hs : Heap} (hP : xW D A ad (wU (wB y ad bl z g pl kn rw mi un) fR fO) Hs) (hz : bOk bl z) (a b t f : Int32) : vx_Met l yX3_resistance (.code yX3_resistance cX3_resistance 5 (some .long) :: WG) { frames := 7, cells := 4, slots := 24, locals := 121 } (xPcX [.ref (ad (0, 0)), .int a, .int b, .int t, .int f] D y A Hs) (xQ (fun v H1 => v = some (.long (rRst z a b t f)) ∧ tRst z a b t = 0 ∧ xB D A y ad bl z fR fO H1) A) (xX (fun E H1 => ex3 (tRst z a b t) E ∧ xB D A y ad bl z fR fO H1) A) 4 24 A := by
  refine xM_goX (by decide) (Nat.le_of_ble_eq_true rfl) (fun p e s m args below meth c ls R Q hx hb hr hlocks hml hown hts hH hE hnm hRf hRl hRc hRs hQ hS hl hF htab => ?_)
  have hRf : R.frames = 7 := hRf
  have hRl : R.locals = 121 := hRl
  have hRc : R.cells = 4 := hRc
  have hRs : R.slots = 24 := hRs
  have hl : lv_has ls 5 [(0, .ref (ad (0, 0))), (1, .int a), (2, .int b), (3, .int t), (4, .int f)] := hl
  have hw := hz.w
  have hN := hw.N
  have hE20 := hw.E
  refine lv_aload_n hx hb dX3_resistance_0 rfl (lv_at hl 0 rfl) ?_
  refine lv_iload_n hx hb dX3_resistance_1 rfl (lv_at hl 1 rfl) ?_
  refine xx_callV (C := "NetlistBench") (n := 1) [.int a] (c_X3_checkNode l hls hP hz a) hx hb hml hown hts hE hF hS (xw_recv hE hP (0, 0) rfl rfl) rfl rfl q_21 q_233 q_236 q_235 q_2 (by decide) rfl ⟨by rw [hRf]; decide, by rw [hRl]; decide⟩ hl.1 rfl (Nat.le_of_ble_eq_true rfl) dX3_resistance_2 ⟨by rw [hRc]; omega, by rw [hRs]; omega⟩ (fun E ce q9 H1 locs hp hS hce hcv hcl => ?_) (fun v H1 locs hp hS => ?_)
  · skip
    exact xx_out hQ htab hlocks hH hS hce hcv hcl (by omega) (by omega) (⟨Or.inl ⟨by rw [tRst, if_pos hp.2.1], hp.1⟩, (hP.kept hp.2.2.1 hp.2.2.2).B⟩)
  obtain ⟨hv, hh, hna⟩ := hp; subst hv; subst hh; obtain ⟨ja, hja, ex⟩ := nodeP_i hw hna; subst ex
  refine lv_aload_n hx hb dX3_resistance_5 rfl (lv_at hl 0 rfl) ?_
  refine lv_iload_n hx hb dX3_resistance_6 rfl (lv_at hl 2 rfl) ?_
  refine xx_callV (C := "NetlistBench") (n := 1) [.int b] (c_X3_checkNode l hls hP hz b) hx hb hml hown hts hE hF hS (xw_recv hE hP (0, 0) rfl rfl) rfl rfl q_21 q_233 q_236 q_235 q_2 (by decide) rfl ⟨by rw [hRf]; decide, by rw [hRl]; decide⟩ hl.1 rfl (Nat.le_of_ble_eq_true rfl) dX3_resistance_7 ⟨by rw [hRc]; omega, by rw [hRs]; omega⟩ (fun E ce q9 H1 locs hp hS hce hcv hcl => ?_) (fun v H1 locs hp hS => ?_)
  · skip
    exact xx_out hQ htab hlocks hH hS hce hcv hcl (by omega) (by omega) (⟨Or.inl ⟨by rw [tRst, if_neg (not_not_intro hna), if_pos hp.2.1], hp.1⟩, (hP.kept hp.2.2.1 hp.2.2.2).B⟩)
  obtain ⟨hv, hh, hnb⟩ := hp; subst hv; subst hh; obtain ⟨jb, hjb, ex⟩ := nodeP_i hw hnb; subst ex
  refine lv_iload_n hx hb dX3_resistance_10 rfl (lv_at hl 3 rfl) ?_
  refine xx_callS (n := 1) [.int t] (c_X3_checkTime l hls t) hx hb hml hown hts hE hF hS rfl rfl q_21 q_238 q_240 q_239 (by decide) rfl ⟨by rw [hRf]; decide, by rw [hRl]; decide⟩ hl.1 rfl (Nat.le_of_ble_eq_true rfl) dX3_resistance_11 ⟨by rw [hRc]; omega, by rw [hRs]; omega⟩ (fun E ce q9 H1 locs hp hS hce hcv hcl => ?_) (fun v H1 locs hp hS => ?_)
  · skip
    exact xx_out hQ htab hlocks hH hS hce hcv hcl (by omega) (by omega) (⟨Or.inr (Or.inl ⟨by rw [tRst, if_neg (not_not_intro hna), if_neg (not_not_intro hnb), if_pos hp.2.1], hp.1⟩), (hP.kept hp.2.2.1 hp.2.2.2).B⟩)
  obtain ⟨hv, hh, ht⟩ := hp; subst hv; subst hh; obtain ⟨tm, htl, ex⟩ := timeP_i ht; subst ex
  refine lv_aload_n hx hb dX3_resistance_14 rfl (lv_at hl 0 rfl) ?_
  refine lv_iload_n hx hb dX3_resistance_15 rfl (lv_at hl 3 rfl) ?_
  refine xw_callV (C := "NetlistBench") (n := 1) [.int (nI tm)] (c_X3_group l hP hz (nI tm)) hx hb hml hown hts hE hS (xw_recv hE hP (0, 0) rfl rfl) rfl rfl q_21 q_242 q_245 q_244 q_3 (by decide) rfl ⟨by rw [hRf]; decide, by rw [hRl]; decide⟩ hl.1 rfl (Nat.le_of_ble_eq_true rfl) dX3_resistance_16 ⟨by rw [hRc]; omega, by rw [hRs]; omega⟩ (fun v H1 locs hp hS => ?_)
  obtain ⟨hv, hP⟩ := hp; subst hv
  generalize H1 = H at hP hS ⊢
  have hma := gM_lt hw (nI tm) (show ja < 8 by omega)
  refine lv_aload_n hx hb dX3_resistance_19 rfl (lv_at hl 0 rfl) ?_
  refine fg_X3_groups hx hb hts hown hE hP q_104 dX3_resistance_20 ?_
  refine lv_iload_n hx hb dX3_resistance_23 rfl (lv_at hl 1 rfl) ?_
  refine al_groups hx hb hE hP (j := ja) (by omega) dX3_resistance_24 ?_
  refine xt_i (w := nI (gM z (nI tm) ja)) (rfl) ?_
  refine lv_iload_n hx hb dX3_resistance_25 rfl (lv_at hl 2 rfl) ?_
  refine xw_callS (n := 2) [.int (nI (gM z (nI tm) ja)), .int (nI jb)] (c_X3_contains l (nI (gM z (nI tm) ja)) jb) hx hb hml hown hts hE hS rfl rfl q_21 q_259 q_261 q_260 (by decide) rfl ⟨by rw [hRf]; decide, by rw [hRl]; decide⟩ hl.1 rfl (Nat.le_of_ble_eq_true rfl) dX3_resistance_26 ⟨by rw [hRc]; omega, by rw [hRs]; omega⟩ (fun v H1 locs hp hS => ?_)
  obtain ⟨hv, hh⟩ := hp; subst hv; subst hh
  refine lv_if_ne (tgt := 42) hx hb dX3_resistance_29 (by decide) (fun c29 => ?_) (fun c29 => ?_)
  · skip
    have c29 := m_bitF hma (by omega) c29
    refine lv_aload_n hx hb dX3_resistance_42 rfl (lv_at hl 0 rfl) ?_
    refine lv_iload_n hx hb dX3_resistance_43 rfl (lv_at hl 1 rfl) ?_
    refine lv_iload_n hx hb dX3_resistance_44 rfl (lv_at hl 2 rfl) ?_
    refine lv_iload_n hx hb dX3_resistance_45 rfl (lv_at hl 3 rfl) ?_
    refine xw_callV (C := "NetlistBench") (n := 3) [.int (nI ja), .int (nI jb), .int (nI tm)] (c_X3_drive l hP (nI tm) rfl hz (by omega) (by omega)) hx hb hml hown hts hE hS (xw_recv hE hP (0, 0) rfl rfl) rfl rfl q_21 q_365 q_368 q_367 q_13 (by decide) rfl ⟨by rw [hRf]; decide, by rw [hRl]; decide⟩ hl.1 rfl (Nat.le_of_ble_eq_true rfl) dX3_resistance_46 ⟨by rw [hRc]; omega, by rw [hRs]; omega⟩ (fun v H1 locs hp hS => ?_)
    obtain ⟨hv, mi', hmi, hP⟩ := hp; subst hv
    generalize H1 = H at hP hS ⊢
    have hn7 : (dN z (nI tm) jb) ≤ 7 := (drS_le (gM z (nI tm) jb) jb (nN z)).1
    have hok : plOk (dP z (nI tm) jb) (dN z (nI tm) jb) := (drS_le (gM z (nI tm) jb) jb (nN z)).2
    refine lv_aload_n hx hb dX3_resistance_49 rfl (lv_at hl 0 rfl) ?_
    refine fg_X3_equations hx hb hts hown hE hP q_105 dX3_resistance_50 ?_
    refine lv_iload_n hx hb dX3_resistance_53 rfl (lv_at hl 1 rfl) ?_
    refine xw_callV (C := "NetlistBench$Equations") (n := 1) [.int (nI ja)] (c_X1_upper l hP (by omega) hok (by omega)) hx hb hml hown hts hE hS (xw_recv hE hP (6, 0) rfl rfl) rfl rfl q_25 q_346 q_349 q_347 q_348 (by decide) rfl ⟨by rw [hRf]; decide, by rw [hRl]; decide⟩ hl.1 rfl (Nat.le_of_ble_eq_true rfl) dX3_resistance_54 ⟨by rw [hRc]; omega, by rw [hRs]; omega⟩ (fun v H1 locs hp hS => ?_)
    obtain ⟨hv, hh⟩ := hp; subst hv; subst hh
    refine xt_l (w := upV (dP z (nI tm) jb) (fun _ => 0) (dm (dR z (nI tm) ja jb) (dN z (nI tm) jb)) (dN z (nI tm) jb) ja) (upV_dm hmi hok (by omega) hn7) ?_
    refine lv_aload_n hx hb dX3_resistance_57 rfl (lv_at hl 0 rfl) ?_
    refine fg_X3_equations hx hb hts hown hE hP q_105 dX3_resistance_58 ?_
    refine xw_callV (C := "NetlistBench$Equations") (n := 0) [] (c_X1_lower l hP (by omega)) hx hb hml hown hts hE hS (xw_recv hE hP (6, 0) rfl rfl) rfl rfl q_25 q_342 q_345 q_343 q_344 (by decide) rfl ⟨by rw [hRf]; decide, by rw [hRl]; decide⟩ hl.1 rfl (Nat.le_of_ble_eq_true rfl) dX3_resistance_61 ⟨by rw [hRc]; omega, by rw [hRs]; omega⟩ (fun v H1 locs hp hS => ?_)
    obtain ⟨hv, hh⟩ := hp; subst hv; subst hh
    refine xt_l (w := dm (dR z (nI tm) ja jb) (dN z (nI tm) jb) (2 ^ (dN z (nI tm) jb) - 1)) (den_dm hmi) ?_
    refine lv_iload hx hb dX3_resistance_64 (lv_at hl 4 rfl) ?_
    refine xw_callS (n := 3) [.long (upV (dP z (nI tm) jb) (fun _ => 0) (dm (dR z (nI tm) ja jb) (dN z (nI tm) jb)) (dN z (nI tm) jb) ja), .long (dm (dR z (nI tm) ja jb) (dN z (nI tm) jb) (2 ^ (dN z (nI tm) jb) - 1)), .int f] (c_X3_partOf l (upV (dP z (nI tm) jb) (fun _ => 0) (dm (dR z (nI tm) ja jb) (dN z (nI tm) jb)) (dN z (nI tm) jb) ja) (dm (dR z (nI tm) ja jb) (dN z (nI tm) jb) (2 ^ (dN z (nI tm) jb) - 1)) f) hx hb hml hown hts hE hS rfl rfl q_21 q_351 q_353 q_352 (by decide) rfl ⟨by rw [hRf]; decide, by rw [hRl]; decide⟩ hl.1 rfl (Nat.le_of_ble_eq_true rfl) dX3_resistance_66 ⟨by rw [hRc]; omega, by rw [hRs]; omega⟩ (fun v H1 locs hp hS => ?_)
    obtain ⟨hv, hh⟩ := hp; subst hv; subst hh
    exact xx_lret hQ hx hb hr hlocks hH hS (by omega) (by omega) (⟨by rw [rRst, cl_nI (by omega), cl_nI (by omega)], by rw [tRst, if_neg (not_not_intro hna), if_neg (not_not_intro hnb), if_neg (not_not_intro ht), cl_nI (by omega), cl_nI (by omega), if_neg c29], hP.B⟩) dX3_resistance_69
  · skip
    have c29 := m_bitT hma (by omega) c29
    exact xw_throw (text := "the nodes do not hang together") xt_ISE hQ hx hb hls hown hts hlocks hH hF hS htab (by rw [hml]; exact hl.1) (by decide) dX3_resistance_32 dX3_resistance_35 dX3_resistance_36 dX3_resistance_38 dX3_resistance_41 (by rw [hRf]; decide) (by rw [hRl]; decide) (by rw [hRc]; omega) (by rw [hRs]; omega) (by omega) (by omega) (fun H1 hz1 hk1 => ⟨Or.inr (Or.inr ⟨by rw [tRst, if_neg (not_not_intro hna), if_neg (not_not_intro hnb), if_neg (not_not_intro ht), cl_nI (by omega), cl_nI (by omega), if_pos c29], rfl⟩), (hP.kept hz1 hk1).B⟩)

set_option maxHeartbeats 4000000 in
set_option maxRecDepth 100000 in
theorem c_X3_compare (l : Launch) (hls : l.stackTraces = false) {D : va_G} {y : Nat → ClassId} {A : Nat → Prop} {ad : xL → Nat} {bl : xM} {z : xC} {g : Nat → Int32} {pl : Nat → Int32} {kn : Nat → Int64} {rw : Nat → Nat → Int64} {mi : Nat → Int64} {un : Int32} {fR fO : Nat → Nat → Option va_E} {Hs : Heap} (hP : xW D A ad (wU (wB y ad bl z g pl kn rw mi un) fR fO) Hs) (hz : bOk bl z) (x t u w : Int32) : vx_Met l yX3_compare (.code yX3_compare cX3_compare 5 (some .int) :: WG) { frames := 7, cells := 3, slots := 18, locals := 121 } (xPcX [.ref (ad (0, 0)), .int x, .int t, .int u, .int w] D y A Hs) (xQ (fun v H1 => v = some (.int (rCmp z x t u w)) ∧ tCmp z x t u w = 0 ∧ xB D A y ad bl z fR fO H1) A) (xX (fun E H1 => ex3 (tCmp z x t u w) E ∧ xB D A y ad bl z fR fO H1) A) 3 18 A := by
  refine xM_goX (by decide) (Nat.le_of_ble_eq_true rfl) (fun p e s m args below meth c ls R Q hx hb hr hlocks hml hown hts hH hE hnm hRf hRl hRc hRs hQ hS hl hF htab => ?_)
  have hRf : R.frames = 7 := hRf
  have hRl : R.locals = 121 := hRl
  have hRc : R.cells = 3 := hRc
  have hRs : R.slots = 18 := hRs
  have hl : lv_has ls 5 [(0, .ref (ad (0, 0))), (1, .int x), (2, .int t), (3, .int u), (4, .int w)] := hl
  have hw := hz.w
  have hN := hw.N
  have hE20 := hw.E
  refine lv_aload_n hx hb dX3_compare_0 rfl (lv_at hl 0 rfl) ?_
  refine lv_iload_n hx hb dX3_compare_1 rfl (lv_at hl 1 rfl) ?_
  refine xx_callV (C := "NetlistBench") (n := 1) [.int x] (c_X3_checkNode l hls hP hz x) hx hb hml hown hts hE hF hS (xw_recv hE hP (0, 0) rfl rfl) rfl rfl q_21 q_233 q_236 q_235 q_2 (by decide) rfl ⟨by rw [hRf]; decide, by rw [hRl]; decide⟩ hl.1 rfl (Nat.le_of_ble_eq_true rfl) dX3_compare_2 ⟨by rw [hRc]; omega, by rw [hRs]; omega⟩ (fun E ce q9 H1 locs hp hS hce hcv hcl => ?_) (fun v H1 locs hp hS => ?_)
  · skip
    exact xx_out hQ htab hlocks hH hS hce hcv hcl (by omega) (by omega) (⟨Or.inl ⟨by rw [tCmp, if_pos hp.2.1], hp.1⟩, (hP.kept hp.2.2.1 hp.2.2.2).B⟩)
  obtain ⟨hv, hh, hn⟩ := hp; subst hv; subst hh; obtain ⟨j, hj, ex⟩ := nodeP_i hw hn; subst ex
  refine lv_iload_n hx hb dX3_compare_5 rfl (lv_at hl 2 rfl) ?_
  refine xx_callS (n := 1) [.int t] (c_X3_checkTime l hls t) hx hb hml hown hts hE hF hS rfl rfl q_21 q_238 q_240 q_239 (by decide) rfl ⟨by rw [hRf]; decide, by rw [hRl]; decide⟩ hl.1 rfl (Nat.le_of_ble_eq_true rfl) dX3_compare_6 ⟨by rw [hRc]; omega, by rw [hRs]; omega⟩ (fun E ce q9 H1 locs hp hS hce hcv hcl => ?_) (fun v H1 locs hp hS => ?_)
  · skip
    exact xx_out hQ htab hlocks hH hS hce hcv hcl (by omega) (by omega) (⟨Or.inr (Or.inl ⟨by rw [tCmp, if_neg (not_not_intro hn), if_pos hp.2.1], hp.1⟩), (hP.kept hp.2.2.1 hp.2.2.2).B⟩)
  obtain ⟨hv, hh, ht⟩ := hp; subst hv; subst hh; obtain ⟨tm, htl, ex⟩ := timeP_i ht; subst ex
  refine lv_iload_n hx hb dX3_compare_9 rfl (lv_at hl 3 rfl) ?_
  refine lv_sipush (v := (-500)) hx hb dX3_compare_10 (by decide) ?_
  refine lv_icmp_lt (tgt := 37) hx hb dX3_compare_13 (by decide) (fun c13 => ?_) (fun c13 => ?_)
  · skip
    exact xw_throw (text := "the fraction is -500 to 500 by 1 to 500") xt_IAE hQ hx hb hls hown hts hlocks hH hF hS htab (by rw [hml]; exact hl.1) (by decide) dX3_compare_37 dX3_compare_40 dX3_compare_41 dX3_compare_43 dX3_compare_46 (by rw [hRf]; decide) (by rw [hRl]; decide) (by rw [hRc]; omega) (by rw [hRs]; omega) (by omega) (by omega) (fun H1 hz1 hk1 => ⟨Or.inr (Or.inl ⟨by rw [tCmp, if_neg (not_not_intro hn), if_neg (not_not_intro ht), if_pos (fun h => by first | exact (Int32.not_le.mpr c13) h.1 | exact (Int32.not_le.mpr c20) h.2.1 | exact (Int32.not_le.mpr c26) h.2.2.1 | exact c34 h.2.2.2)], rfl⟩), (hP.kept hz1 hk1).B⟩)
  · skip
    refine lv_iload_n hx hb dX3_compare_16 rfl (lv_at hl 3 rfl) ?_
    refine lv_sipush (v := nI 500) hx hb dX3_compare_17 (by decide) ?_
    refine lv_icmp_gt (tgt := 37) hx hb dX3_compare_20 (by decide) (fun c20 => ?_) (fun c20 => ?_)
    · skip
      exact xw_throw (text := "the fraction is -500 to 500 by 1 to 500") xt_IAE hQ hx hb hls hown hts hlocks hH hF hS htab (by rw [hml]; exact hl.1) (by decide) dX3_compare_37 dX3_compare_40 dX3_compare_41 dX3_compare_43 dX3_compare_46 (by rw [hRf]; decide) (by rw [hRl]; decide) (by rw [hRc]; omega) (by rw [hRs]; omega) (by omega) (by omega) (fun H1 hz1 hk1 => ⟨Or.inr (Or.inl ⟨by rw [tCmp, if_neg (not_not_intro hn), if_neg (not_not_intro ht), if_pos (fun h => by first | exact (Int32.not_le.mpr c13) h.1 | exact (Int32.not_le.mpr c20) h.2.1 | exact (Int32.not_le.mpr c26) h.2.2.1 | exact c34 h.2.2.2)], rfl⟩), (hP.kept hz1 hk1).B⟩)
    · skip
      refine lv_iload hx hb dX3_compare_23 (lv_at hl 4 rfl) ?_
      refine lv_iconst (v := nI 1) hx hb dX3_compare_25 (by decide) ?_
      refine lv_icmp_lt (tgt := 37) hx hb dX3_compare_26 (by decide) (fun c26 => ?_) (fun c26 => ?_)
      · skip
        exact xw_throw (text := "the fraction is -500 to 500 by 1 to 500") xt_IAE hQ hx hb hls hown hts hlocks hH hF hS htab (by rw [hml]; exact hl.1) (by decide) dX3_compare_37 dX3_compare_40 dX3_compare_41 dX3_compare_43 dX3_compare_46 (by rw [hRf]; decide) (by rw [hRl]; decide) (by rw [hRc]; omega) (by rw [hRs]; omega) (by omega) (by omega) (fun H1 hz1 hk1 => ⟨Or.inr (Or.inl ⟨by rw [tCmp, if_neg (not_not_intro hn), if_neg (not_not_intro ht), if_pos (fun h => by first | exact (Int32.not_le.mpr c13) h.1 | exact (Int32.not_le.mpr c20) h.2.1 | exact (Int32.not_le.mpr c26) h.2.2.1 | exact c34 h.2.2.2)], rfl⟩), (hP.kept hz1 hk1).B⟩)
      · skip
        refine lv_iload hx hb dX3_compare_29 (lv_at hl 4 rfl) ?_
        refine lv_sipush (v := nI 500) hx hb dX3_compare_31 (by decide) ?_
        refine lv_icmp_le (tgt := 47) hx hb dX3_compare_34 (by decide) (fun c34 => ?_) (fun c34 => ?_)
        · skip
          refine lv_aload_n hx hb dX3_compare_47 rfl (lv_at hl 0 rfl) ?_
          refine lv_iload_n hx hb dX3_compare_48 rfl (lv_at hl 2 rfl) ?_
          refine xw_callV (C := "NetlistBench") (n := 1) [.int (nI tm)] (c_X3_settle l hP hz (nI tm)) hx hb hml hown hts hE hS (xw_recv hE hP (0, 0) rfl rfl) rfl rfl q_21 q_287 q_290 q_289 q_7 (by decide) rfl ⟨by rw [hRf]; decide, by rw [hRl]; decide⟩ hl.1 rfl (Nat.le_of_ble_eq_true rfl) dX3_compare_49 ⟨by rw [hRc]; omega, by rw [hRs]; omega⟩ (fun v H1 locs hp hS => ?_)
          obtain ⟨hv, mi', hmi, hP⟩ := hp; subst hv
          generalize H1 = H at hP hS ⊢
          have hn7 := sN_le z (nI tm)
          refine lv_aload_n hx hb dX3_compare_52 rfl (lv_at hl 0 rfl) ?_
          refine lv_iload_n hx hb dX3_compare_53 rfl (lv_at hl 1 rfl) ?_
          refine xx_callV (C := "NetlistBench") (n := 1) [.int (nI j)] (c_X3_checkGrounded l hls hP (m8 := gM z (nI tm)) rfl (fun j hj => gM_lt hw _ hj) hz (by omega)) hx hb hml hown hts hE hF hS (xw_recv hE hP (0, 0) rfl rfl) rfl rfl q_21 q_408 q_411 q_410 q_16 (by decide) rfl ⟨by rw [hRf]; decide, by rw [hRl]; decide⟩ hl.1 rfl (Nat.le_of_ble_eq_true rfl) dX3_compare_54 ⟨by rw [hRc]; omega, by rw [hRs]; omega⟩ (fun E ce q9 H1 locs hp hS hce hcv hcl => ?_) (fun v H1 locs hp hS => ?_)
          · skip
            exact xx_out hQ htab hlocks hH hS hce hcv hcl (by omega) (by omega) (⟨Or.inr (Or.inr ⟨by rw [tCmp, if_neg (not_not_intro hn), if_neg (not_not_intro ht), if_neg (not_not_intro ⟨Int32.not_lt.mp c13, Int32.not_lt.mp c20, Int32.not_lt.mp c26, c34⟩), cl_nI (by omega), if_pos hp.2.1], hp.1⟩), (hP.kept hp.2.2.1 hp.2.2.2).B⟩)
          obtain ⟨hv, hh, hgr⟩ := hp; subst hv; subst hh
          refine lv_aload_n hx hb dX3_compare_57 rfl (lv_at hl 0 rfl) ?_
          refine fg_X3_equations hx hb hts hown hE hP q_105 dX3_compare_58 ?_
          refine lv_iload_n hx hb dX3_compare_61 rfl (lv_at hl 1 rfl) ?_
          refine xw_callV (C := "NetlistBench$Equations") (n := 1) [.int (nI j)] (c_X1_upper l hP (by omega) (sP_ok z (nI tm)) (by omega)) hx hb hml hown hts hE hS (xw_recv hE hP (6, 0) rfl rfl) rfl rfl q_25 q_346 q_349 q_347 q_348 (by decide) rfl ⟨by rw [hRf]; decide, by rw [hRl]; decide⟩ hl.1 rfl (Nat.le_of_ble_eq_true rfl) dX3_compare_62 ⟨by rw [hRc]; omega, by rw [hRs]; omega⟩ (fun v H1 locs hp hS => ?_)
          obtain ⟨hv, hh⟩ := hp; subst hv; subst hh
          refine xt_l (w := num z (nI tm) j) (upV_dm hmi (sP_ok z (nI tm)) (by omega) hn7) ?_
          refine lv_aload_n hx hb dX3_compare_65 rfl (lv_at hl 0 rfl) ?_
          refine fg_X3_equations hx hb hts hown hE hP q_105 dX3_compare_66 ?_
          refine xw_callV (C := "NetlistBench$Equations") (n := 0) [] (c_X1_lower l hP (by omega)) hx hb hml hown hts hE hS (xw_recv hE hP (6, 0) rfl rfl) rfl rfl q_25 q_342 q_345 q_343 q_344 (by decide) rfl ⟨by rw [hRf]; decide, by rw [hRl]; decide⟩ hl.1 rfl (Nat.le_of_ble_eq_true rfl) dX3_compare_69 ⟨by rw [hRc]; omega, by rw [hRs]; omega⟩ (fun v H1 locs hp hS => ?_)
          obtain ⟨hv, hh⟩ := hp; subst hv; subst hh
          refine xt_l (w := den z (nI tm)) (den_dm hmi) ?_
          refine lv_iload_n hx hb dX3_compare_72 rfl (lv_at hl 3 rfl) ?_
          refine lv_i2l (v := u.toInt64) hx hb dX3_compare_73 rfl ?_
          refine lv_iload hx hb dX3_compare_74 (lv_at hl 4 rfl) ?_
          refine lv_i2l (v := w.toInt64) hx hb dX3_compare_76 rfl ?_
          refine xw_callS (n := 4) [.long (num z (nI tm) j), .long (den z (nI tm)), .long u.toInt64, .long w.toInt64] (c_X3_compareFractions l (num z (nI tm) j) (den z (nI tm)) u.toInt64 w.toInt64) hx hb hml hown hts hE hS rfl rfl q_21 q_382 q_384 q_383 (by decide) rfl ⟨by rw [hRf]; decide, by rw [hRl]; decide⟩ hl.1 rfl (Nat.le_of_ble_eq_true rfl) dX3_compare_77 ⟨by rw [hRc]; omega, by rw [hRs]; omega⟩ (fun v H1 locs hp hS => ?_)
          obtain ⟨hv, hh⟩ := hp; subst hv; subst hh
          exact xx_iret hQ hx hb hr hlocks hH hS (by omega) (by omega) (⟨by rw [rCmp, cl_nI (by omega)], by rw [tCmp, if_neg (not_not_intro hn), if_neg (not_not_intro ht), if_neg (not_not_intro ⟨Int32.not_lt.mp c13, Int32.not_lt.mp c20, Int32.not_lt.mp c26, c34⟩), cl_nI (by omega), if_neg (not_not_intro hgr)], hP.B⟩) dX3_compare_80
        · skip
          exact xw_throw (text := "the fraction is -500 to 500 by 1 to 500") xt_IAE hQ hx hb hls hown hts hlocks hH hF hS htab (by rw [hml]; exact hl.1) (by decide) dX3_compare_37 dX3_compare_40 dX3_compare_41 dX3_compare_43 dX3_compare_46 (by rw [hRf]; decide) (by rw [hRl]; decide) (by rw [hRc]; omega) (by rw [hRs]; omega) (by omega) (by omega) (fun H1 hz1 hk1 => ⟨Or.inr (Or.inl ⟨by rw [tCmp, if_neg (not_not_intro hn), if_neg (not_not_intro ht), if_pos (fun h => by first | exact (Int32.not_le.mpr c13) h.1 | exact (Int32.not_le.mpr c20) h.2.1 | exact (Int32.not_le.mpr c26) h.2.2.1 | exact c34 h.2.2.2)], rfl⟩), (hP.kept hz1 hk1).B⟩)
