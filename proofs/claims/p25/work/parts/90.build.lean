set_option maxHeartbeats 8000000 in
set_option maxRecDepth 100000 in
theorem c_L_build (l : Launch) (hls : l.stackTraces = false) {D : va_G} {y : Nat → ClassId} {A : Nat → Prop} {ad0 : xL → Nat} {e0 b L n : Nat} {xs : Nat → Int32} {Hs : Heap} {g pl : Nat → Int32} {kn mi : Nat → Int64} {rw : Nat → Nat → Int64} {un : Int32} (hP : xW D A ad0 (wU (wB y ad0 bl0 zE g pl kn rw mi un) wN wN) Hs) (h2e : ad0 (2, 0) = e0) (h4e : ad0 (4, 0) = e0) (hn2 : 2 ≤ n) (hn6 : n ≤ 6) (hL : L ≤ 1000) (hbl : b < Hs.size) (hbA : ¬ A b) : Met l yL_build (.code yL_build cL_build 18 (some (.object "NetlistBenchLaw$Hand")) :: WG) { frames := 8, cells := 260, slots := 3800, locals := 265 } (va_Pc [.ref (ad0 (0, 0)), .ref b, .int (nI n), .int (nI 12)] (xKb D y A e0 b L xs Hs)) (xQ (fun v H1 => ∃ (z : xC) (ad : xL → Nat) (bl : xM) (fr : Nat → Int32) (fk : Nat → Nat) (fw : Nat → Nat → Int32), v = some (.ref (ad (20, 0))) ∧ xB D A y ad bl z (wH y ad n fr (nE z) fk fw) wN H1 ∧ bOk bl z ∧ bEq n (nE z) z fr fk fw ∧ ad (0, 0) = ad0 (0, 0) ∧ 1 ≤ nE z ∧ nE z ≤ 12) A) 260 3800 A := by
  refine xM_goK (by decide) (Nat.le_of_ble_eq_true rfl) (fun U h => h.1) (fun p e s m args below meth c ls R Q hx hb hr hlocks hml hown hts hK hnm hRf hRl hRc hRs hQ hS hl => ?_)
  have hRf : R.frames = 8 := hRf
  have hRl : R.locals = 265 := hRl
  have hRc : R.cells = 260 := hRc
  have hRs : R.slots = 3800 := hRs
  have hl : lv_has ls 18 [(0, .ref (ad0 (0, 0))), (1, .ref b), (2, .int (nI n)), (3, .int (nI 12))] := hl
  obtain ⟨hH, hE, hF, hG, hHd, hX⟩ := hK
  obtain ⟨qb, hqb⟩ : ∃ q, q = ad0 (0, 0) := ⟨_, rfl⟩
  rw [← hqb] at hl
  refine xw_new hx hb hts iw_X4 tyX4 tyX4_ok hown q_443 q_444 q_26 hE hP hS (ci := 5) rfl (fs := [.null, .null]) (fun j hj => match j, hj with | 0, _ => rfl | 1, _ => rfl | n + 2, h => absurd h (by omega)) (by rw [hRc]; omega) (by rw [hRs]; omega) dL_build_0 (20, 0) (fun qh H hP hS => ?_)
  refine lv_dup hx hb dL_build_3 rfl ?_
  refine xk_callIN (host := "NetlistBenchLaw") (n := 0) [] (c_X4_init l (h0 := qh) hP aw_up_self ad_up_self) xKh_bl (fun U hU hW => ⟨hU, hE.moved hW, hHd.warm hW⟩) hx hb hml hown hts hS rfl rfl q_26 hHd.2 q_447 q_446 rfl (by decide) rfl ⟨by rw [hRf]; decide, by rw [hRl]; decide⟩ hl.1 rfl (Nat.le_of_ble_eq_true rfl) dL_build_4 ⟨by rw [hRc]; omega, by rw [hRs]; omega⟩ (fun v H1 locs hp hS => ?_)
  obtain ⟨hv_, q1, q2, hP⟩ := hp; subst hv_; generalize H1 = H at hP hS ⊢
  have hP := xW.hand0 (fk := zK) (fw := zF) hP
  obtain ⟨ad, had⟩ : ∃ a, a = ad_up (ad_up (ad_up ad0 (20, 0) qh) (21, 0) q1) (22, 0) q2 := ⟨_, rfl⟩
  rw [← had] at hP
  have hA : ∀ k : xL, k.1 < 20 → ad k = ad0 k := fun k hk => by rw [had]; exact (up_lt (k := (22, 0)) (by decide) k hk).trans ((up_lt (k := (21, 0)) (by decide) k hk).trans (up_lt (k := (20, 0)) (by decide) k hk))
  have hq0 : ad (0, 0) = qb := (hA (0, 0) (by decide)).trans hqb.symm
  have hqh : ad (20, 0) = qh := by rw [had, ad_up_ne (by decide), ad_up_ne (by decide), ad_up_self]
  have h0n : nN zE = 0 → ad (2, 0) = e0 := fun _ => (hA (2, 0) (by decide)).trans h2e
  have h0e : nE zE = 0 → ad (4, 0) = e0 := fun _ => (hA (4, 0) (by decide)).trans h4e
  refine lv_astore (lv' := [(4, .ref qh), (0, .ref qb), (1, .ref b), (2, .int (nI n)), (3, .int (nI 12))]) hx hb dL_build_7 hl (by decide) rfl (fun ls hl => ?_)
  refine lv_iconst (v := nI 0) hx hb dL_build_9 (by decide) ?_
  refine lv_istore (lv' := [(5, .int (nI 0)), (4, .ref qh), (0, .ref qb), (1, .ref b), (2, .int (nI n)), (3, .int (nI 12))]) hx hb dL_build_10 hl (by decide) rfl (fun ls hl => ?_)
  have K12 : ∀ (nn : Nat), ∀ (k : Nat) (ad : xL → Nat) (bl : xM) (z : xC) (fr : Nat → Int32) (g pl : Nat → Int32) (kn : Nat → Int64) (rw : Nat → Nat → Int64) (mi : Nat → Int64) (un : Int32), (k ≤ n) → (bOk bl z) → (nN z = 0 → ad (2, 0) = e0) → (nE z = 0 → ad (4, 0) = e0) → (nN z = k) → (nE z = 0) → (∀ j, j < k → fr j = if nR z j = 0 then nI 100 else nP z j) → (ad (0, 0) = qb) → (ad (20, 0) = qh) → n - k < nn → ∀ (H : Heap) (locs : List Loc) (ls : Array Slot), xW D A ad (wU (wB y ad bl z g pl kn rw mi un) (wH y ad k fr 0 zK zF) wN) H → va_S A Hs H locs → lv_has ls 18 [(5, .int (nI k)), (4, .ref qh), (3, .int (nI 12)), (2, .int (nI n)), (1, .ref b), (0, .ref qb)] → W p l e R s m args below meth c H locs (3 + 5 * k) (2 + 94 * k) Q (F0 m 12 ls []) := by
    intro nn
    induction nn with
    | zero => intro k ad bl z fr g pl kn rw mi un hk hz h0n h0e hN1 hE1 hfr hq0 hqh h; exact absurd h (Nat.not_lt_zero _)
    | succ nn ih12 =>
      intro k ad bl z fr g pl kn rw mi un hk hz h0n h0e hN1 hE1 hfr hq0 hqh hn12 H locs ls hP hS hl
      refine lv_iload hx hb dL_build_12 (lv_at hl 0 rfl) ?_
      refine lv_iload_n hx hb dL_build_14 rfl (lv_at hl 3 rfl) ?_
      refine lv_icmp_ge (tgt := 122) hx hb dL_build_15 (by decide) (fun c15 => ?_) (fun c15 => ?_)
      · skip
        have c15 := ni_le (a := n) (b := k) (by omega) (by omega) c15
        have ek : k = n := by omega
        rw [ek] at hP hfr hN1
        refine lv_iconst (v := nI 1) hx hb dL_build_122 (by decide) ?_
        refine lv_aload_n hx hb dL_build_123 rfl (lv_at hl 4 rfl) ?_
        refine lv_iconst (v := nI 0) hx hb dL_build_124 (by decide) ?_
        refine xk_callS (n := 2) [.ref b, .int (nI 0)] (c_L_cell l (k := 0) hL (by omega) (Nat.lt_of_lt_of_le hbl hS.1) hbA) xKs_bl (fun U hU hW => ⟨hU, hE.moved hW, va_X.moved hW.alike (hX.kept (hS.2.1 _ hbl hbA))⟩) hx hb hml hown hts hS rfl rfl q_20 q_436 q_438 q_437 (by decide) rfl ⟨by rw [hRf]; decide, by rw [hRl]; decide⟩ hl.1 rfl (Nat.le_of_ble_eq_true rfl) dL_build_125 ⟨by rw [hRc]; omega, by rw [hRs]; omega⟩ (fun v H1 locs hp hS => ?_)
        obtain ⟨⟨x125, hv_⟩, hh_⟩ := hp; subst hv_; subst hh_
        refine lv_iload_n hx hb dL_build_128 rfl (lv_at hl 2 rfl) ?_
        refine xw_callS (n := 2) [.int x125, .int (nI 12)] (c_L_below l (x := x125) (n := 12) (by omega) (by omega)) hx hb hml hown hts hE hS rfl rfl q_20 q_432 q_434 q_433 (by decide) rfl ⟨by rw [hRf]; decide, by rw [hRl]; decide⟩ hl.1 rfl (Nat.le_of_ble_eq_true rfl) dL_build_129 ⟨by rw [hRc]; omega, by rw [hRs]; omega⟩ (fun v H1 locs hp hS => ?_)
        obtain ⟨⟨r129, hr129, hv_⟩, hh_⟩ := hp; subst hv_; subst hh_
        refine lv_iadd hx hb dL_build_132 ?_
        refine xt_i (nI_add 1 r129) ?_
        refine lv_istore (lv' := [(5, .int (nI (1 + r129))), (4, .ref qh), (3, .int (nI 12)), (2, .int (nI n)), (1, .ref b), (0, .ref qb)]) hx hb dL_build_133 hl (by decide) rfl (fun ls hl => ?_)
        refine lv_iconst (v := nI 0) hx hb dL_build_135 (by decide) ?_
        refine lv_istore (lv' := [(6, .int (nI 0)), (5, .int (nI (1 + r129))), (4, .ref qh), (3, .int (nI 12)), (2, .int (nI n)), (1, .ref b), (0, .ref qb)]) hx hb dL_build_136 hl (by decide) rfl (fun ls hl => ?_)
        have K138 : ∀ (nn : Nat), ∀ (ei : Nat) (ad : xL → Nat) (bl : xM) (z : xC) (fk : Nat → Nat) (fw : Nat → Nat → Int32) (g pl : Nat → Int32) (kn : Nat → Int64) (rw : Nat → Nat → Int64) (mi : Nat → Int64) (un : Int32), (ei ≤ 1 + r129) → (bOk bl z) → (nE z = 0 → ad (4, 0) = e0) → (nE z = ei) → (bEq n ei z fr fk fw) → (ad (0, 0) = qb) → (ad (20, 0) = qh) → 1 + r129 - ei < nn → ∀ (H : Heap) (locs : List Loc) (ls : Array Slot), xW D A ad (wU (wB y ad bl z g pl kn rw mi un) (wH y ad n fr ei fk fw) wN) H → va_S A Hs H locs → lv_has ls 18 [(6, .int (nI ei)), (5, .int (nI (1 + r129))), (4, .ref qh), (3, .int (nI 12)), (2, .int (nI n)), (1, .ref b), (0, .ref qb)] → W p l e R s m args below meth c H locs (40 + 18 * ei) (600 + 260 * ei) Q (F0 m 138 ls []) := by
          intro nn
          induction nn with
          | zero => intro ei ad bl z fk fw g pl kn rw mi un he hz h0e hE1 hBq hq0 hqh h; exact absurd h (Nat.not_lt_zero _)
          | succ nn ih138 =>
            intro ei ad bl z fk fw g pl kn rw mi un he hz h0e hE1 hBq hq0 hqh hn138 H locs ls hP hS hl
            refine lv_iload hx hb dL_build_138 (lv_at hl 0 rfl) ?_
            refine lv_iload hx hb dL_build_140 (lv_at hl 1 rfl) ?_
            refine lv_icmp_ge (tgt := 513) hx hb dL_build_142 (by decide) (fun c142 => ?_) (fun c142 => ?_)
            · skip
              have c142 := ni_le (a := (1 + r129)) (b := ei) (by omega) (by omega) c142
              refine lv_aload hx hb dL_build_513 (lv_at hl 2 rfl) ?_
              refine xt_v (w := .ref (ad (20, 0))) (congrArg Value.ref hqh.symm) ?_
              exact xe_aret hQ hx hb hr (Or.inl ⟨_, rfl⟩) hlocks hH hS (by omega) (by omega) (⟨z, ad, bl, fr, fk, fw, rfl, by rw [hE1]; exact hP.B, hz, by rw [hE1]; exact hBq, hq0.trans hqb, by omega, by omega⟩) dL_build_515
            · skip
              have c142 := ni_nle (a := (1 + r129)) (b := ei) (by omega) (by omega) c142
              have hw := hz.w
              have hN8 := hw.N
              have hE20 := hw.E
              have hNn := hBq.1
              have h0n : nN z = 0 → ad (2, 0) = e0 := fun h => absurd h (by omega)
              refine lv_aload_n hx hb dL_build_145 rfl (lv_at hl 5 rfl) ?_
              refine lv_iload hx hb dL_build_146 (lv_at hl 0 rfl) ?_
              refine lv_bipush (v := nI 16) hx hb dL_build_148 (by decide) ?_
              refine lv_irem hx hb dL_build_150 (by decide) ?_
              refine xt_i (w := nI (ei % 16)) (pk_rem (by omega) (by decide) (by decide)) ?_
              refine xk_callS (n := 2) [.ref b, .int (nI (ei % 16))] (c_L_cell l (k := ei % 16) hL (by omega) (Nat.lt_of_lt_of_le hbl hS.1) hbA) xKs_bl (fun U hU hW => ⟨hU, hE.moved hW, va_X.moved hW.alike (hX.kept (hS.2.1 _ hbl hbA))⟩) hx hb hml hown hts hS rfl rfl q_20 q_436 q_438 q_437 (by decide) rfl ⟨by rw [hRf]; decide, by rw [hRl]; decide⟩ hl.1 rfl (Nat.le_of_ble_eq_true rfl) dL_build_151 ⟨by rw [hRc]; omega, by rw [hRs]; omega⟩ (fun v H1 locs hp hS => ?_)
              obtain ⟨⟨x151, hv_⟩, hh_⟩ := hp; subst hv_; subst hh_
              refine lv_iload hx hb dL_build_154 (lv_at hl 0 rfl) ?_
              refine lv_bipush (v := nI 16) hx hb dL_build_156 (by decide) ?_
              refine lv_idiv hx hb dL_build_158 (by decide) ?_
              refine xt_i (w := nI (ei / 16)) (pk_div (by omega) (by decide) (by decide)) ?_
              refine lv_iconst (v := nI 3) hx hb dL_build_159 (by decide) ?_
              refine lv_imul hx hb dL_build_160 ?_
              refine xt_i (pk_mul (ei / 16) 3) ?_
              refine lv_ishr hx hb dL_build_161 ?_
              refine lv_istore (lv' := [(7, .int (x151 >>> ((nI ((ei / 16) * 3)) &&& 31))), (6, .int (nI ei)), (5, .int (nI (1 + r129))), (4, .ref qh), (3, .int (nI 12)), (2, .int (nI n)), (1, .ref b), (0, .ref qb)]) hx hb dL_build_162 hl (by decide) rfl (fun ls hl => ?_)
              generalize (x151 >>> ((nI ((ei / 16) * 3)) &&& 31)) = X7 at hl
              refine lv_iload hx hb dL_build_164 (lv_at hl 0 rfl) ?_
              refine lv_iload_n hx hb dL_build_166 rfl (lv_at hl 5 rfl) ?_
              refine xw_callS (n := 2) [.int X7, .int (nI n)] (c_L_below l (x := X7) (n := n) (by omega) (by omega)) hx hb hml hown hts hE hS rfl rfl q_20 q_432 q_434 q_433 (by decide) rfl ⟨by rw [hRf]; decide, by rw [hRl]; decide⟩ hl.1 rfl (Nat.le_of_ble_eq_true rfl) dL_build_167 ⟨by rw [hRc]; omega, by rw [hRs]; omega⟩ (fun v H1 locs hp hS => ?_)
              obtain ⟨⟨r167, hr167, hv_⟩, hh_⟩ := hp; subst hv_; subst hh_
              refine lv_istore (lv' := [(8, .int (nI r167)), (7, .int X7), (6, .int (nI ei)), (5, .int (nI (1 + r129))), (4, .ref qh), (3, .int (nI 12)), (2, .int (nI n)), (1, .ref b), (0, .ref qb)]) hx hb dL_build_170 hl (by decide) rfl (fun ls hl => ?_)
              refine lv_iload hx hb dL_build_172 (lv_at hl 0 rfl) ?_
              refine lv_iconst (v := nI 1) hx hb dL_build_174 (by decide) ?_
              refine lv_iadd hx hb dL_build_175 ?_
              refine xt_i (nI_add r167 1) ?_
              refine lv_iload hx hb dL_build_176 (lv_at hl 1 rfl) ?_
              refine lv_iconst (v := nI 4) hx hb dL_build_178 (by decide) ?_
              refine lv_ishr hx hb dL_build_179 ?_
              refine lv_iload_n hx hb dL_build_180 rfl (lv_at hl 6 rfl) ?_
              refine lv_iconst (v := nI 1) hx hb dL_build_181 (by decide) ?_
              refine lv_isub hx hb dL_build_182 ?_
              refine xt_i (w := nI (n - 1)) (pk_sub (by omega)) ?_
              refine xw_callS (n := 2) [.int (X7 >>> ((nI 4) &&& 31)), .int (nI (n - 1))] (c_L_below l (x := X7 >>> ((nI 4) &&& 31)) (n := n - 1) (by omega) (by omega)) hx hb hml hown hts hE hS rfl rfl q_20 q_432 q_434 q_433 (by decide) rfl ⟨by rw [hRf]; decide, by rw [hRl]; decide⟩ hl.1 rfl (Nat.le_of_ble_eq_true rfl) dL_build_183 ⟨by rw [hRc]; omega, by rw [hRs]; omega⟩ (fun v H1 locs hp hS => ?_)
              obtain ⟨⟨r183, hr183, hv_⟩, hh_⟩ := hp; subst hv_; subst hh_
              refine lv_iadd hx hb dL_build_186 ?_
              refine xt_i (nI_add (r167 + 1) r183) ?_
              refine lv_iload_n hx hb dL_build_187 rfl (lv_at hl 6 rfl) ?_
              refine lv_irem hx hb dL_build_188 (fun h => absurd ((nI_eq (by omega) (by decide)).mp (show nI n = nI 0 from h)) (by omega)) ?_
              refine xt_i (w := nI ((r167 + 1 + r183) % n)) (pk_rem (by omega) (by omega) (by omega)) ?_
              refine lv_istore (lv' := [(9, .int (nI ((r167 + 1 + r183) % n))), (8, .int (nI r167)), (7, .int X7), (6, .int (nI ei)), (5, .int (nI (1 + r129))), (4, .ref qh), (3, .int (nI 12)), (2, .int (nI n)), (1, .ref b), (0, .ref qb)]) hx hb dL_build_189 hl (by decide) rfl (fun ls hl => ?_)
              obtain ⟨hto, hne⟩ := to_ne hn2 hr167 hr183
              generalize (r167 + 1 + r183) % n = to at hl hto hne
              refine lv_iload hx hb dL_build_191 (lv_at hl 2 rfl) ?_
              refine lv_bipush (v := nI 7) hx hb dL_build_193 (by decide) ?_
              refine lv_ishr hx hb dL_build_195 ?_
              refine lv_iconst (v := nI 4) hx hb dL_build_196 (by decide) ?_
              refine xw_callS (n := 2) [.int (X7 >>> ((nI 7) &&& 31)), .int (nI 4)] (c_L_below l (x := X7 >>> ((nI 7) &&& 31)) (n := 4) (by omega) (by omega)) hx hb hml hown hts hE hS rfl rfl q_20 q_432 q_434 q_433 (by decide) rfl ⟨by rw [hRf]; decide, by rw [hRl]; decide⟩ hl.1 rfl (Nat.le_of_ble_eq_true rfl) dL_build_197 ⟨by rw [hRc]; omega, by rw [hRs]; omega⟩ (fun v H1 locs hp hS => ?_)
              obtain ⟨⟨r197, hr197, hv_⟩, hh_⟩ := hp; subst hv_; subst hh_
              have K208 : ∀ (v : Int32), (v = 0 ∨ v = 1) → ∀ (locs : List Loc) (ls : Array Slot), va_S A Hs H locs → lv_has ls 18 [(9, .int (nI to)), (8, .int (nI r167)), (7, .int X7), (6, .int (nI ei)), (5, .int (nI (1 + r129))), (4, .ref qh), (3, .int (nI 12)), (2, .int (nI n)), (1, .ref b), (0, .ref qb)] → W p l e R s m args below meth c H locs (40 + 18 * ei) (600 + 260 * ei) Q (F0 m 208 ls [.int v]) := by
                intro v hv locs ls hS hl
                refine lv_istore (lv' := [(10, .int v), (9, .int (nI to)), (8, .int (nI r167)), (7, .int X7), (6, .int (nI ei)), (5, .int (nI (1 + r129))), (4, .ref qh), (3, .int (nI 12)), (2, .int (nI n)), (1, .ref b), (0, .ref qb)]) hx hb dL_build_208 hl (by decide) rfl (fun ls hl => ?_)
                refine lv_iload hx hb dL_build_210 (lv_at hl 0 rfl) ?_
                have K242 : ∀ (x : Int32), (sizeP v x) → ∀ (locs : List Loc) (ls : Array Slot), va_S A Hs H locs → lv_has ls 18 [(10, .int v), (9, .int (nI to)), (8, .int (nI r167)), (7, .int X7), (6, .int (nI ei)), (5, .int (nI (1 + r129))), (4, .ref qh), (3, .int (nI 12)), (2, .int (nI n)), (1, .ref b), (0, .ref qb)] → W p l e R s m args below meth c H locs (40 + 18 * ei) (600 + 260 * ei) Q (F0 m 242 ls [.int x]) := by
                  intro x hsz locs ls hS hl
                  refine lv_istore (lv' := [(11, .int x), (10, .int v), (9, .int (nI to)), (8, .int (nI r167)), (7, .int X7), (6, .int (nI ei)), (5, .int (nI (1 + r129))), (4, .ref qh), (3, .int (nI 12)), (2, .int (nI n)), (1, .ref b), (0, .ref qb)]) hx hb dL_build_242 hl (by decide) rfl (fun ls hl => ?_)
                  refine lv_aload_n hx hb dL_build_244 rfl (lv_at hl 11 rfl) ?_
                  refine xt_v (w := .ref (ad (0, 0))) (congrArg Value.ref hq0.symm) ?_
                  refine lv_iload hx hb dL_build_245 (lv_at hl 1 rfl) ?_
                  refine lv_iload hx hb dL_build_247 (lv_at hl 3 rfl) ?_
                  refine lv_iload hx hb dL_build_249 (lv_at hl 2 rfl) ?_
                  refine lv_iload hx hb dL_build_251 (lv_at hl 0 rfl) ?_
                  refine xx2_callV (C := "NetlistBench") (n := 4) [.int v, .int (nI r167), .int (nI to), .int x] (c_X3_addElement l hls hP hz h0n h0e (sr := v) (a := nI r167) (b := nI to) (x := x) hv) hx hb hml hown hts hE hF hG hS (xw_recv hE hP (0, 0) rfl rfl) rfl rfl q_21 q_543 q_546 q_544 q_545 (by decide) rfl ⟨by rw [hRf]; decide, by rw [hRl]; decide⟩ hl.1 rfl (Nat.le_of_ble_eq_true rfl) dL_build_253 ⟨by rw [hRc]; omega, by rw [hRs]; omega⟩ (fun E ce q9 H1 locs hp hS hce hcv hcl => ?_) (fun v H1 locs hp hS => ?_)
                  · exact (ex3_n hp.1 (addEl_0 hw (by omega) (by omega) hne hsz (by omega))).elim
                  obtain ⟨hv_, ht_, ad, bl, hA2, hA0, h0n, h0e, hz, hB⟩ := hp; subst hv_; generalize H1 = H at hB hS ⊢
                  obtain ⟨g, pl, kn, rw, mi, un, hP⟩ := hB
                  rw [← wH_ad (ad' := ad) (hA2 (21, 0) (by decide)) (hA2 (22, 0) (by decide)) (fun i _ => hA2 (23, i) (show 20 ≤ 23 by decide))] at hP
                  have hq0 : ad (0, 0) = qb := hA0.trans hq0
                  have hqh : ad (20, 0) = qh := (hA2 (20, 0) (by decide)).trans hqh
                  obtain ⟨z1, hz1⟩ : ∃ a, a = (zAddEl z v (nI r167) (nI to) x) := ⟨_, rfl⟩
                  rw [← hz1] at hP hz
                  have hB1 : bEq n ei z1 fr fk fw := by rw [hz1]; exact bEq_el hBq (by omega) hw _ _ _ _
                  have hE2 : nE z1 = ei + 1 := by rw [hz1]; show nE z + 1 = _; omega
                  refine lv_iload hx hb dL_build_256 (lv_at hl 5 rfl) ?_
                  refine lv_icmp_eq (tgt := 263) hx hb dL_build_258 (by decide) (fun c258 => ?_) (fun c258 => ?_)
                  · skip
                    have c258 := ni_eq (a := (nE z)) (b := ei) (by omega) (by omega) c258
                    refine lv_iconst (v := nI 5) hx hb dL_build_263 (by decide) ?_
                    refine xw_newA hx hb (atype := .int) (ty := .int) (t := 0) (N := 5) (a0 := (5, .inl (fun _ => nI 0))) hts q_100 rfl rfl (fun _ => by rw [vp_cell_i]; rfl) hE hP hS (by decide) (by decide) (by rw [hRc]; omega) (by rw [hRs]; omega) dL_build_264 (24, 0) (fun q24 H hP hS => ?_)
                    have hP := xW.lab24 hP
                    obtain ⟨ad, had⟩ : ∃ a, a = ad_up ad (24, 0) q24 := ⟨_, rfl⟩
                    rw [← had] at hP
                    have hq0 : ad (0, 0) = qb := by rw [had, ad_up_ne (by decide)]; exact hq0
                    have hqh : ad (20, 0) = qh := by rw [had, ad_up_ne (by decide)]; exact hqh
                    have h24 : ad (24, 0) = q24 := by rw [had, ad_up_self]
                    refine xt_v (w := .ref (ad (24, 0))) (congrArg Value.ref h24.symm) ?_
                    refine lv_dup hx hb dL_build_266 rfl ?_
                    refine lv_iconst (v := nI 0) hx hb dL_build_267 (by decide) ?_
                    refine lv_iload hx hb dL_build_268 (lv_at hl 1 rfl) ?_
                    have K278 : ∀ (w0 : Int32), (w0 = v) → ∀ (locs : List Loc) (ls : Array Slot), va_S A Hs H locs → lv_has ls 18 [(11, .int x), (10, .int v), (9, .int (nI to)), (8, .int (nI r167)), (7, .int X7), (6, .int (nI ei)), (5, .int (nI (1 + r129))), (4, .ref qh), (3, .int (nI 12)), (2, .int (nI n)), (1, .ref b), (0, .ref qb)] → W p l e R s m args below meth c H locs (40 + 18 * ei + 6 + 1) (600 + 260 * ei + 80 + 5) Q (F0 m 278 ls [.int w0, .int (nI 0), .ref (ad (24, 0)), .ref (ad (24, 0))]) := by
                      intro w0 hw0 locs ls hS hl
                      refine xw_iast hx hb hE hP hS (24, 0) (n := 5) (f := fun _ => nI 0) rfl (i := 0) (by omega) (by omega) dL_build_278 (fun H locs hP hS => ?_)
                      have hP := hP.ct ((wU_fu (k := 4) (by decide)).trans (by rw [fu_fu]))
                      refine lv_dup hx hb dL_build_279 rfl ?_
                      refine lv_iconst (v := nI 1) hx hb dL_build_280 (by decide) ?_
                      refine lv_iload hx hb dL_build_281 (lv_at hl 3 rfl) ?_
                      refine xw_iast hx hb hE hP hS (24, 0) (n := 5) (f := upd (fun _ => nI 0) 0 w0) rfl (i := 1) (by omega) (by omega) dL_build_283 (fun H locs hP hS => ?_)
                      have hP := hP.ct ((wU_fu (k := 4) (by decide)).trans (by rw [fu_fu]))
                      refine lv_dup hx hb dL_build_284 rfl ?_
                      refine lv_iconst (v := nI 2) hx hb dL_build_285 (by decide) ?_
                      refine lv_iload hx hb dL_build_286 (lv_at hl 2 rfl) ?_
                      refine xw_iast hx hb hE hP hS (24, 0) (n := 5) (f := upd (upd (fun _ => nI 0) 0 w0) 1 (nI r167)) rfl (i := 2) (by omega) (by omega) dL_build_288 (fun H locs hP hS => ?_)
                      have hP := hP.ct ((wU_fu (k := 4) (by decide)).trans (by rw [fu_fu]))
                      refine lv_dup hx hb dL_build_289 rfl ?_
                      refine lv_iconst (v := nI 3) hx hb dL_build_290 (by decide) ?_
                      refine lv_iload hx hb dL_build_291 (lv_at hl 0 rfl) ?_
                      refine xw_iast hx hb hE hP hS (24, 0) (n := 5) (f := upd (upd (upd (fun _ => nI 0) 0 w0) 1 (nI r167)) 2 (nI to)) rfl (i := 3) (by omega) (by omega) dL_build_293 (fun H locs hP hS => ?_)
                      have hP := hP.ct ((wU_fu (k := 4) (by decide)).trans (by rw [fu_fu]))
                      refine lv_dup hx hb dL_build_294 rfl ?_
                      refine lv_iconst (v := nI 4) hx hb dL_build_295 (by decide) ?_
                      refine lv_iconst (v := nI 1) hx hb dL_build_296 (by decide) ?_
                      refine xw_iast hx hb hE hP hS (24, 0) (n := 5) (f := upd (upd (upd (upd (fun _ => nI 0) 0 w0) 1 (nI r167)) 2 (nI to)) 3 x) rfl (i := 4) (by omega) (by omega) dL_build_297 (fun H locs hP hS => ?_)
                      have hP := hP.ct ((wU_fu (k := 4) (by decide)).trans (by rw [fu_fu]))
                      refine lv_astore (lv' := [(12, .ref (ad (24, 0))), (11, .int x), (10, .int v), (9, .int (nI to)), (8, .int (nI r167)), (7, .int X7), (6, .int (nI ei)), (5, .int (nI (1 + r129))), (4, .ref qh), (3, .int (nI 12)), (2, .int (nI n)), (1, .ref b), (0, .ref qb)]) hx hb dL_build_298 hl (by decide) rfl (fun ls hl => ?_)
                      rw [h24] at hl
                      have hrow : rowOk z1 ei (upd (upd (upd (upd (upd (fun _ => nI 0) 0 w0) 1 (nI r167)) 2 (nI to)) 3 x) 4 (nI 1)) 5 := by rw [hz1, ← hE1]; exact row_new hw0 rfl rfl rfl rfl
                      refine lv_iload hx hb dL_build_300 (lv_at hl 5 rfl) ?_
                      refine lv_bipush (v := nI 6) hx hb dL_build_302 (by decide) ?_
                      refine lv_ishr hx hb dL_build_304 ?_
                      refine lv_iconst (v := nI 4) hx hb dL_build_305 (by decide) ?_
                      refine xw_callS (n := 2) [.int (X7 >>> ((nI 6) &&& 31)), .int (nI 4)] (c_L_below l (x := X7 >>> ((nI 6) &&& 31)) (n := 4) (by omega) (by omega)) hx hb hml hown hts hE hS rfl rfl q_20 q_432 q_434 q_433 (by decide) rfl ⟨by rw [hRf]; decide, by rw [hRl]; decide⟩ hl.1 rfl (Nat.le_of_ble_eq_true rfl) dL_build_306 ⟨by rw [hRc]; omega, by rw [hRs]; omega⟩ (fun v H1 locs hp hS => ?_)
                      obtain ⟨⟨r306, hr306, hv_⟩, hh_⟩ := hp; subst hv_; subst hh_
                      have K329 : ∀ (z : xC) (f : Nat → Int32) (g pl : Nat → Int32) (kn : Nat → Int64) (rw : Nat → Nat → Int64) (mi : Nat → Int64) (un : Int32), (bOk bl z) → (nE z = ei + 1) → (bEq n ei z fr fk fw) → (rowOk z ei f 5) → ∀ (H : Heap) (locs : List Loc) (ls : Array Slot), xW D A ad (wU (wB y ad bl z g pl kn rw mi un) (fu (wH y ad n fr ei fk fw) 4 0 (.inl (y 0, 5, .inl f))) wN) H → va_S A Hs H locs → lv_has ls 18 [(12, .ref q24), (7, .int X7), (6, .int (nI ei)), (5, .int (nI (1 + r129))), (4, .ref qh), (3, .int (nI 12)), (2, .int (nI n)), (1, .ref b), (0, .ref qb)] → W p l e R s m args below meth c H locs (40 + 18 * ei + 8) (600 + 260 * ei + 91) Q (F0 m 329 ls []) := by
                        intro z f g pl kn rw mi un hz hE2 hB1 hrow H locs ls hP hS hl
                        refine lv_iload hx hb dL_build_329 (lv_at hl 1 rfl) ?_
                        refine lv_bipush (v := nI 8) hx hb dL_build_331 (by decide) ?_
                        refine lv_ishr hx hb dL_build_333 ?_
                        refine lv_iconst (v := nI 4) hx hb dL_build_334 (by decide) ?_
                        refine xw_callS (n := 2) [.int (X7 >>> ((nI 8) &&& 31)), .int (nI 4)] (c_L_below l (x := X7 >>> ((nI 8) &&& 31)) (n := 4) (by omega) (by omega)) hx hb hml hown hts hE hS rfl rfl q_20 q_432 q_434 q_433 (by decide) rfl ⟨by rw [hRf]; decide, by rw [hRl]; decide⟩ hl.1 rfl (Nat.le_of_ble_eq_true rfl) dL_build_335 ⟨by rw [hRc]; omega, by rw [hRs]; omega⟩ (fun v H1 locs hp hS => ?_)
                        obtain ⟨⟨r335, hr335, hv_⟩, hh_⟩ := hp; subst hv_; subst hh_
                        refine lv_istore (lv' := [(13, .int (nI r335)), (12, .ref q24), (7, .int X7), (6, .int (nI ei)), (5, .int (nI (1 + r129))), (4, .ref qh), (3, .int (nI 12)), (2, .int (nI n)), (1, .ref b), (0, .ref qb)]) hx hb dL_build_338 hl (by decide) rfl (fun ls hl => ?_)
                        refine lv_iconst (v := nI 0) hx hb dL_build_340 (by decide) ?_
                        refine lv_istore (lv' := [(14, .int (nI 0)), (13, .int (nI r335)), (12, .ref q24), (7, .int X7), (6, .int (nI ei)), (5, .int (nI (1 + r129))), (4, .ref qh), (3, .int (nI 12)), (2, .int (nI n)), (1, .ref b), (0, .ref qb)]) hx hb dL_build_341 hl (by decide) rfl (fun ls hl => ?_)
                        have K343 : ∀ (nn : Nat), ∀ (k ci q24 : Nat) (ad : xL → Nat) (z : xC) (f : Nat → Int32) (g pl : Nat → Int32) (kn : Nat → Int64) (rw : Nat → Nat → Int64) (mi : Nat → Int64) (un : Int32), (k ≤ r335) → (ci ≤ k) → (bOk bl z) → (nE z = ei + 1) → (bEq n ei z fr fk fw) → (rowOk z ei f (5 + ci)) → (ad (0, 0) = qb) → (ad (20, 0) = qh) → (ad (24, 0) = q24) → r335 - k < nn → ∀ (H : Heap) (locs : List Loc) (ls : Array Slot), xW D A ad (wU (wB y ad bl z g pl kn rw mi un) (fu (wH y ad n fr ei fk fw) 4 0 (.inl (y 0, 5 + ci, .inl f))) wN) H → va_S A Hs H locs → lv_has ls 18 [(14, .int (nI k)), (13, .int (nI r335)), (12, .ref q24), (7, .int X7), (6, .int (nI ei)), (5, .int (nI (1 + r129))), (4, .ref qh), (3, .int (nI 12)), (2, .int (nI n)), (1, .ref b), (0, .ref qb)] → W p l e R s m args below meth c H locs (40 + 18 * ei + 8 + 3 * k) (600 + 260 * ei + 91 + 52 * k) Q (F0 m 343 ls []) := by
                          intro nn
                          induction nn with
                          | zero => intro k ci q24 ad z f g pl kn rw mi un hk hc hz hE2 hB1 hrow hq0 hqh h24 h; exact absurd h (Nat.not_lt_zero _)
                          | succ nn ih343 =>
                            intro k ci q24 ad z f g pl kn rw mi un hk hc hz hE2 hB1 hrow hq0 hqh h24 hn343 H locs ls hP hS hl
                            refine lv_iload hx hb dL_build_343 (lv_at hl 0 rfl) ?_
                            refine lv_iload hx hb dL_build_345 (lv_at hl 1 rfl) ?_
                            refine lv_icmp_ge (tgt := 455) hx hb dL_build_347 (by decide) (fun c347 => ?_) (fun c347 => ?_)
                            · skip
                              have c347 := ni_le (a := r335) (b := k) (by omega) (by omega) c347
                              refine lv_iload hx hb dL_build_455 (lv_at hl 4 rfl) ?_
                              refine lv_iconst (v := nI 1) hx hb dL_build_457 (by decide) ?_
                              refine lv_iadd hx hb dL_build_458 ?_
                              refine xt_i (nI_add ei 1) ?_
                              refine xw_anewI hx hb hts hown q_603 hHd.1 hE hP hS (N := ei + 1) (by omega) (by rw [hRc]; omega) (by rw [hRs]; omega) dL_build_459 (25, 0) (fun q25 H hP hS => ?_)
                              have hP := xW.lab25 hP
                              obtain ⟨ad, had⟩ : ∃ a, a = ad_up ad (25, 0) q25 := ⟨_, rfl⟩
                              rw [← had] at hP
                              have hq0 : ad (0, 0) = qb := by rw [had, ad_up_ne (by decide)]; exact hq0
                              have hqh : ad (20, 0) = qh := by rw [had, ad_up_ne (by decide)]; exact hqh
                              have h24 : ad (24, 0) = q24 := by rw [had, ad_up_ne (by decide)]; exact h24
                              have h25 : ad (25, 0) = q25 := by rw [had, ad_up_self]
                              refine lv_astore (lv' := [(14, .ref q25), (13, .int (nI r335)), (12, .ref q24), (7, .int X7), (6, .int (nI ei)), (5, .int (nI (1 + r129))), (4, .ref qh), (3, .int (nI 12)), (2, .int (nI n)), (1, .ref b), (0, .ref qb)]) hx hb dL_build_462 hl (by decide) rfl (fun ls hl => ?_)
                              refine lv_iconst (v := nI 0) hx hb dL_build_464 (by decide) ?_
                              refine lv_istore (lv' := [(15, .int (nI 0)), (14, .ref q25), (13, .int (nI r335)), (12, .ref q24), (7, .int X7), (6, .int (nI ei)), (5, .int (nI (1 + r129))), (4, .ref qh), (3, .int (nI 12)), (2, .int (nI n)), (1, .ref b), (0, .ref qb)]) hx hb dL_build_465 hl (by decide) rfl (fun ls hl => ?_)
                              have K467 : ∀ (nn : Nat), ∀ (i : Nat) (gr : Nat → Option Nat), (i ≤ ei) → (∀ j, j < i → gr j = some (ad (23, j))) → ei - i < nn → ∀ (H : Heap) (locs : List Loc) (ls : Array Slot), xW D A ad (wU (wB y ad bl z g pl kn rw mi un) (fu (fu (wH y ad n fr ei fk fw) 4 0 (.inl (y 0, 5 + ci, .inl f))) 5 0 (.inl (y 3, ei + 1, xr gr))) wN) H → va_S A Hs H locs → lv_has ls 18 [(15, .int (nI i)), (14, .ref q25), (12, .ref q24), (6, .int (nI ei)), (5, .int (nI (1 + r129))), (4, .ref qh), (3, .int (nI 12)), (2, .int (nI n)), (1, .ref b), (0, .ref qb)] → W p l e R s m args below meth c H locs (40 + 18 * ei + 8 + 3 * k + 1) (600 + 260 * ei + 91 + 52 * k + (ei + 1)) Q (F0 m 467 ls []) := by
                                intro nn
                                induction nn with
                                | zero => intro i gr hi hgr h; exact absurd h (Nat.not_lt_zero _)
                                | succ nn ih467 =>
                                  intro i gr hi hgr hn467 H locs ls hP hS hl
                                  refine lv_iload hx hb dL_build_467 (lv_at hl 0 rfl) ?_
                                  refine lv_iload hx hb dL_build_469 (lv_at hl 3 rfl) ?_
                                  refine lv_icmp_ge (tgt := 493) hx hb dL_build_471 (by decide) (fun c471 => ?_) (fun c471 => ?_)
                                  · skip
                                    have c471 := ni_le (a := ei) (b := i) (by omega) (by omega) c471
                                    refine lv_aload hx hb dL_build_493 (lv_at hl 1 rfl) ?_
                                    refine xt_v (w := .ref (ad (25, 0))) (congrArg Value.ref h25.symm) ?_
                                    refine lv_iload hx hb dL_build_495 (lv_at hl 3 rfl) ?_
                                    refine lv_aload hx hb dL_build_497 (lv_at hl 2 rfl) ?_
                                    refine xt_v (w := .ref (ad (24, 0))) (congrArg Value.ref h24.symm) ?_
                                    refine xw_aastI hx hb hE hHd.1 hP hS (25, 0) (24, 0) (n := ei + 1) (k := 5 + ci) (g := f) (f := gr) rfl rfl (i := ei) (by omega) (by omega) dL_build_499 (fun H locs hP hS => ?_)
                                    have hP := hP.ct ((wU_fu (k := 5) (by decide)).trans (by rw [fu_fu]))
                                    refine lv_aload hx hb dL_build_500 (lv_at hl 5 rfl) ?_
                                    refine xt_v (w := .ref (ad (20, 0))) (congrArg Value.ref hqh.symm) ?_
                                    refine lv_aload hx hb dL_build_502 (lv_at hl 1 rfl) ?_
                                    refine xt_v (w := .ref (ad (25, 0))) (congrArg Value.ref h25.symm) ?_
                                    refine xw_put hx hb hts hown hE hP hS iw_X4 tyX4 tyX4_ok nmX4 (20, 0) (fs := [.ref (ad (21, 0)), .ref (ad (22, 0))]) rfl rfl 1 (by decide) q_454 (fun x h => h) rfl (ty := .array (.array .int)) rfl rfl rfl (Nat.le_of_ble_eq_true rfl) dL_build_504 (fun H locs hP hS => ?_)
                                    have hP := xW.elems (fun j hj => by
                                      by_cases q : j = ei
                                      · subst q; simp [va_up]
                                      · rw [if_pos (show j < ei by omega), ← hgr j (by omega)]; simp [va_up, q]) hP
                                    obtain ⟨ad, had⟩ : ∃ a, a = ad_e ad ei := ⟨_, rfl⟩
                                    rw [← had] at hP
                                    have hq0 : ad (0, 0) = qb := by rw [had]; exact ((ad_up_ne (ne1 (by decide))).trans (ad_up_ne (by decide))).trans hq0
                                    have hqh : ad (20, 0) = qh := by rw [had]; exact ((ad_up_ne (ne1 (by decide))).trans (ad_up_ne (by decide))).trans hqh
                                    refine lv_iinc (v := nI (ei + 1)) (lv' := [(6, .int (nI (ei + 1))), (15, .int (nI i)), (14, .ref q25), (12, .ref q24), (5, .int (nI (1 + r129))), (4, .ref qh), (3, .int (nI 12)), (2, .int (nI n)), (1, .ref b), (0, .ref qb)]) hx hb dL_build_507 hl (k := 3) rfl (nI_1 _) (by decide) rfl (fun ls hl => ?_)
                                    refine lv_goto (tgt := 138) hx hb dL_build_510 (by decide) ?_
                                    refine W.widen (k := 40 + 18 * (ei + 1)) (n := 600 + 260 * (ei + 1)) (by omega) (by omega) ?_
                                    exact ih138 (ei + 1) ad bl z (fun i => if i = ei then 5 + ci else fk i) (fun i => if i = ei then f else fw i) g pl kn rw mi un (by omega) hz (fun h => absurd h (by omega)) hE2 (bEq_s hB1 hrow) hq0 hqh (by omega) _ _ _ hP hS (lv_sub hl [0, 4, 5, 6, 7, 8, 9] rfl)
                                  · skip
                                    have c471 := ni_nle (a := ei) (b := i) (by omega) (by omega) c471
                                    refine lv_aload hx hb dL_build_474 (lv_at hl 1 rfl) ?_
                                    refine xt_v (w := .ref (ad (25, 0))) (congrArg Value.ref h25.symm) ?_
                                    refine lv_iload hx hb dL_build_476 (lv_at hl 0 rfl) ?_
                                    refine lv_aload hx hb dL_build_478 (lv_at hl 5 rfl) ?_
                                    refine xt_v (w := .ref (ad (20, 0))) (congrArg Value.ref hqh.symm) ?_
                                    refine xw_get hx hb hts hown hE hP iw_X4 (20, 0) (fs := [.ref (ad (21, 0)), .ref (ad (22, 0))]) rfl rfl 1 (by decide) q_454 (fun x h => h) rfl dL_build_480 ?_
                                    refine lv_iload hx hb dL_build_483 (lv_at hl 0 rfl) ?_
                                    refine xw_aald3 hx hb hE hP (22, 0) (n := ei) (f := fun i => if i < ei then some (ad (23, i)) else none) rfl (i := i) (v := ad (23, i)) (if_pos (by omega)) (by omega) (by omega) dL_build_485 ?_
                                    refine xw_aastI hx hb hE hHd.1 hP hS (25, 0) (23, i) (n := ei + 1) (k := fk i) (g := fw i) (f := gr) rfl (if_pos (show i < ei by omega)) (i := i) (by omega) (by omega) dL_build_486 (fun H locs hP hS => ?_)
                                    have hP := hP.ct ((wU_fu (k := 5) (by decide)).trans (by rw [fu_fu]))
                                    refine lv_iinc (v := nI (i + 1)) (lv' := [(15, .int (nI (i + 1))), (14, .ref q25), (12, .ref q24), (6, .int (nI ei)), (5, .int (nI (1 + r129))), (4, .ref qh), (3, .int (nI 12)), (2, .int (nI n)), (1, .ref b), (0, .ref qb)]) hx hb dL_build_487 hl (k := 0) rfl (nI_1 _) (by decide) rfl (fun ls hl => ?_)
                                    refine lv_goto (tgt := 467) hx hb dL_build_490 (by decide) ?_
                                    exact ih467 (i + 1) (va_up gr i (some (ad (23, i)))) (by omega) (fun j hj => by
                                        by_cases q : j = i
                                        · subst q; simp [va_up]
                                        · rw [← hgr j (by omega)]; simp [va_up, q]) (by omega) _ _ _ hP hS (lv_sub hl [0, 1, 2, 3, 4, 5, 6, 7, 8, 9] rfl)
                              exact K467 _ 0 (fun _ => none) (Nat.zero_le _) (fun j hj => absurd hj (Nat.not_lt_zero _)) (Nat.lt_succ_self _) _ _ _ hP hS (lv_sub hl [0, 1, 3, 5, 6, 7, 8, 9, 10, 11] rfl)
                            · skip
                              have c347 := ni_nle (a := r335) (b := k) (by omega) (by omega) c347
                              have hw := hz.w
                              have hN8 := hw.N
                              have hE20 := hw.E
                              refine lv_iconst (v := nI 1) hx hb dL_build_350 (by decide) ?_
                              refine lv_iload hx hb dL_build_351 (lv_at hl 3 rfl) ?_
                              refine lv_iconst (v := nI 3) hx hb dL_build_353 (by decide) ?_
                              refine lv_iload hx hb dL_build_354 (lv_at hl 0 rfl) ?_
                              refine lv_imul hx hb dL_build_356 ?_
                              refine xt_i (pk_mul 3 k) ?_
                              refine lv_ishr hx hb dL_build_357 ?_
                              refine lv_bipush (v := nI 97) hx hb dL_build_358 (by decide) ?_
                              refine lv_iload hx hb dL_build_360 (lv_at hl 0 rfl) ?_
                              refine lv_imul hx hb dL_build_362 ?_
                              refine xt_i (pk_mul 97 k) ?_
                              refine lv_iadd hx hb dL_build_363 ?_
                              refine lv_bipush (v := nI 30) hx hb dL_build_364 (by decide) ?_
                              refine xw_callS (n := 2) [.int ((X7 >>> ((nI (3 * k)) &&& 31)) + (nI (97 * k))), .int (nI 30)] (c_L_below l (x := (X7 >>> ((nI (3 * k)) &&& 31)) + (nI (97 * k))) (n := 30) (by omega) (by omega)) hx hb hml hown hts hE hS rfl rfl q_20 q_432 q_434 q_433 (by decide) rfl ⟨by rw [hRf]; decide, by rw [hRl]; decide⟩ hl.1 rfl (Nat.le_of_ble_eq_true rfl) dL_build_366 ⟨by rw [hRc]; omega, by rw [hRs]; omega⟩ (fun v H1 locs hp hS => ?_)
                              obtain ⟨⟨r366, hr366, hv_⟩, hh_⟩ := hp; subst hv_; subst hh_
                              refine lv_iadd hx hb dL_build_369 ?_
                              refine xt_i (nI_add 1 r366) ?_
                              refine lv_istore (lv' := [(15, .int (nI (1 + r366))), (14, .int (nI k)), (13, .int (nI r335)), (12, .ref q24), (7, .int X7), (6, .int (nI ei)), (5, .int (nI (1 + r129))), (4, .ref qh), (3, .int (nI 12)), (2, .int (nI n)), (1, .ref b), (0, .ref qb)]) hx hb dL_build_370 hl (by decide) rfl (fun ls hl => ?_)
                              refine lv_iconst (v := nI 0) hx hb dL_build_372 (by decide) ?_
                              refine lv_istore (lv' := [(16, .int (nI 0)), (15, .int (nI (1 + r366))), (14, .int (nI k)), (13, .int (nI r335)), (12, .ref q24), (7, .int X7), (6, .int (nI ei)), (5, .int (nI (1 + r129))), (4, .ref qh), (3, .int (nI 12)), (2, .int (nI n)), (1, .ref b), (0, .ref qb)]) hx hb dL_build_373 hl (by decide) rfl (fun ls hl => ?_)
                              refine lv_iconst (v := nI 5) hx hb dL_build_375 (by decide) ?_
                              refine lv_istore (lv' := [(17, .int (nI 5)), (16, .int (nI 0)), (15, .int (nI (1 + r366))), (14, .int (nI k)), (13, .int (nI r335)), (12, .ref q24), (7, .int X7), (6, .int (nI ei)), (5, .int (nI (1 + r129))), (4, .ref qh), (3, .int (nI 12)), (2, .int (nI n)), (1, .ref b), (0, .ref qb)]) hx hb dL_build_376 hl (by decide) rfl (fun ls hl => ?_)
                              have K378 : ∀ (nn : Nat), ∀ (j : Nat) (th : Int32), (j ≤ ci) → (th = 0 ∨ th = 1) → (th = 0 → ∀ i, i < j → f (5 + i) ≠ nI (1 + r366)) → ci - j < nn → ∀ (locs : List Loc) (ls : Array Slot), va_S A Hs H locs → lv_has ls 18 [(17, .int (nI (5 + j))), (16, .int th), (15, .int (nI (1 + r366))), (14, .int (nI k)), (13, .int (nI r335)), (12, .ref q24), (7, .int X7), (6, .int (nI ei)), (5, .int (nI (1 + r129))), (4, .ref qh), (3, .int (nI 12)), (2, .int (nI n)), (1, .ref b), (0, .ref qb)] → W p l e R s m args below meth c H locs (40 + 18 * ei + 8 + 3 * k) (600 + 260 * ei + 91 + 52 * k) Q (F0 m 378 ls []) := by
                                intro nn
                                induction nn with
                                | zero => intro j th hj hth hno h; exact absurd h (Nat.not_lt_zero _)
                                | succ nn ih378 =>
                                  intro j th hj hth hno hn378 locs ls hS hl
                                  refine lv_iload hx hb dL_build_378 (lv_at hl 0 rfl) ?_
                                  refine lv_aload hx hb dL_build_380 (lv_at hl 5 rfl) ?_
                                  refine xt_v (w := .ref (ad (24, 0))) (congrArg Value.ref h24.symm) ?_
                                  refine xw_ialen hx hb hE hP (24, 0) (n := 5 + ci) (f := f) rfl dL_build_382 ?_
                                  refine lv_icmp_ge (tgt := 414) hx hb dL_build_383 (by decide) (fun c383 => ?_) (fun c383 => ?_)
                                  · skip
                                    have c383 := ni_le (a := (5 + ci)) (b := (5 + j)) (by omega) (by omega) c383
                                    refine lv_iload hx hb dL_build_414 (lv_at hl 1 rfl) ?_
                                    refine lv_if_eq (tgt := 422) hx hb dL_build_416 (by decide) (fun c416 => ?_) (fun c416 => ?_)
                                    · skip
                                      have ejc : j = ci := by omega
                                      rw [ejc] at hno
                                      have hc6 : cT z ei = ci := by have := hrow.2.2.2.2.2.1; omega
                                      have hno := hno c416
                                      have hh := no_has hrow (show 1 ≤ 1 + r366 by omega) (by omega) hno
                                      have hrow2 := row_put hrow hw (by omega) (by omega) (show 1 ≤ 1 + r366 by omega) (by omega) hno
                                      have hB2 := bEq_tog hB1 hw (show ei < nE z by omega) hh
                                      refine lv_aload hx hb dL_build_422 (lv_at hl 5 rfl) ?_
                                      refine xt_v (w := .ref (ad (24, 0))) (congrArg Value.ref h24.symm) ?_
                                      refine lv_iload hx hb dL_build_424 (lv_at hl 2 rfl) ?_
                                      refine xw_callS (n := 2) [.ref (ad (24, 0)), .int (nI (1 + r366))] (c_X4_more l (lab := (24, 0)) (n := 5 + ci) (f := f) (x := nI (1 + r366)) hP rfl (by decide) (by omega)) hx hb hml hown hts hE hS rfl rfl q_26 q_540 q_542 q_541 (by decide) rfl ⟨by rw [hRf]; decide, by rw [hRl]; decide⟩ hl.1 rfl (Nat.le_of_ble_eq_true rfl) dL_build_426 ⟨by rw [hRc]; omega, by rw [hRs]; omega⟩ (fun v H1 locs hp hS => ?_)
                                      obtain ⟨q24, hv_, hP⟩ := hp; subst hv_; generalize H1 = H at hP hS ⊢
                                      have hP := xW.row39 hP
                                      obtain ⟨ad, had⟩ : ∃ a, a = ad_up ad (24, 0) q24 := ⟨_, rfl⟩
                                      rw [← had] at hP
                                      have hq0 : ad (0, 0) = qb := by rw [had, ad_up_ne (by decide)]; exact hq0
                                      have hqh : ad (20, 0) = qh := by rw [had, ad_up_ne (by decide)]; exact hqh
                                      have h24 : ad (24, 0) = q24 := by rw [had, ad_up_self]
                                      refine lv_astore (lv' := [(12, .ref q24), (17, .int (nI (5 + j))), (16, .int th), (15, .int (nI (1 + r366))), (14, .int (nI k)), (13, .int (nI r335)), (7, .int X7), (6, .int (nI ei)), (5, .int (nI (1 + r129))), (4, .ref qh), (3, .int (nI 12)), (2, .int (nI n)), (1, .ref b), (0, .ref qb)]) hx hb dL_build_429 hl (by decide) rfl (fun ls hl => ?_)
                                      refine lv_aload_n hx hb dL_build_431 rfl (lv_at hl 13 rfl) ?_
                                      refine xt_v (w := .ref (ad (0, 0))) (congrArg Value.ref hq0.symm) ?_
                                      refine lv_iload hx hb dL_build_432 (lv_at hl 7 rfl) ?_
                                      refine lv_iload hx hb dL_build_434 (lv_at hl 3 rfl) ?_
                                      refine xx_callV (C := "NetlistBench") (n := 2) [.int (nI ei), .int (nI (1 + r366))] (c_X3_toggle l hls hP hz (nI ei) (nI (1 + r366))) hx hb hml hown hts hE hF hS (xw_recv hE hP (0, 0) rfl rfl) rfl rfl q_21 q_585 q_588 q_586 q_587 (by decide) rfl ⟨by rw [hRf]; decide, by rw [hRl]; decide⟩ hl.1 rfl (Nat.le_of_ble_eq_true rfl) dL_build_436 ⟨by rw [hRc]; omega, by rw [hRs]; omega⟩ (fun E ce q9 H1 locs hp hS hce hcv hcl => ?_) (fun v H1 locs hp hS => ?_)
                                      · exact (ex3_n hp.1 (tog_0 hz.w (by omega) (by omega) (by omega) (by omega))).elim
                                      obtain ⟨hv_, ht_, hB⟩ := hp; subst hv_; generalize H1 = H at hB hS ⊢
                                      obtain ⟨g, pl, kn, rw, mi, un, hP⟩ := hB
                                      rw [cl_nI (j := ei) (by omega)] at hP
                                      have hwt : wf (zTog z ei (nI (1 + r366))) := by have h := wf_tog hw (x := nI ei) (t := nI (1 + r366)) (tog_0 hw (by omega) (by omega) (by omega) (by omega)); rw [cl_nI (by omega)] at h; exact h
                                      have hE3 : nE (zTog z ei (nI (1 + r366))) = ei + 1 := by rw [show zTog z ei (nI (1 + r366)) = zPut z ei (nI (1 + r366)) from if_neg hh]; exact hE2
                                      have hz2 : bOk bl (zTog z ei (nI (1 + r366))) := ⟨hwt, by rw [show zTog z ei (nI (1 + r366)) = zPut z ei (nI (1 + r366)) from if_neg hh]; exact hz.2⟩
                                      refine xt_i (w := nI (ci + 1)) (by rw [cl_nI (by omega), hwt.t (by omega), show cT (zTog z ei (nI (1 + r366))) ei = ci + 1 by have := hrow2.2.2.2.2.2.1; omega]) ?_
                                      refine lv_aload hx hb dL_build_439 (lv_at hl 0 rfl) ?_
                                      refine xt_v (w := .ref (ad (24, 0))) (congrArg Value.ref h24.symm) ?_
                                      refine xw_ialen hx hb hE hP (24, 0) (n := 5 + ci + 1) (f := fun j => if j < 5 + ci then f j else nI (1 + r366)) rfl dL_build_441 ?_
                                      refine lv_iconst (v := nI 5) hx hb dL_build_442 (by decide) ?_
                                      refine lv_isub hx hb dL_build_443 ?_
                                      refine xt_i (w := nI (ci + 1)) ((pk_sub (by omega)).trans (congrArg nI (by omega))) ?_
                                      refine lv_icmp_eq (tgt := 449) hx hb dL_build_444 (by decide) (fun c444 => ?_) (fun c444 => ?_)
                                      · skip
                                        have c444 := ni_eq (a := (ci + 1)) (b := (ci + 1)) (by omega) (by omega) c444
                                        refine lv_iinc (v := nI (k + 1)) (lv' := [(14, .int (nI (k + 1))), (12, .ref q24), (17, .int (nI (5 + j))), (16, .int th), (15, .int (nI (1 + r366))), (13, .int (nI r335)), (7, .int X7), (6, .int (nI ei)), (5, .int (nI (1 + r129))), (4, .ref qh), (3, .int (nI 12)), (2, .int (nI n)), (1, .ref b), (0, .ref qb)]) hx hb dL_build_449 hl (k := 4) rfl (nI_1 _) (by decide) rfl (fun ls hl => ?_)
                                        refine lv_goto (tgt := 343) hx hb dL_build_452 (by decide) ?_
                                        refine W.widen (k := 40 + 18 * ei + 8 + 3 * (k + 1)) (n := 600 + 260 * ei + 91 + 52 * (k + 1)) (by omega) (by omega) ?_
                                        exact ih343 (k + 1) (ci + 1) q24 ad (zTog z ei (nI (1 + r366))) (fun j => if j < 5 + ci then f j else nI (1 + r366)) g pl kn rw mi un (by omega) (by omega) (by first | exact hz2 | exact hz) (by first | exact hE3 | exact hE2) (by first | exact hB2 | exact hB1) (by first | exact hrow2 | exact hrow) hq0 hqh h24 (by omega) _ _ _ hP hS (lv_sub hl [0, 5, 1, 6, 7, 8, 9, 10, 11, 12, 13] rfl)
                                      · skip
                                        have c444 := ni_ne (a := (ci + 1)) (b := (ci + 1)) (by omega) (by omega) c444
                                        exact absurd rfl c444
                                    · skip
                                      refine lv_goto (tgt := 449) hx hb dL_build_419 (by decide) ?_
                                      refine lv_iinc (v := nI (k + 1)) (lv' := [(14, .int (nI (k + 1))), (17, .int (nI (5 + j))), (16, .int th), (15, .int (nI (1 + r366))), (13, .int (nI r335)), (12, .ref q24), (7, .int X7), (6, .int (nI ei)), (5, .int (nI (1 + r129))), (4, .ref qh), (3, .int (nI 12)), (2, .int (nI n)), (1, .ref b), (0, .ref qb)]) hx hb dL_build_449 hl (k := 3) rfl (nI_1 _) (by decide) rfl (fun ls hl => ?_)
                                      refine lv_goto (tgt := 343) hx hb dL_build_452 (by decide) ?_
                                      refine W.widen (k := 40 + 18 * ei + 8 + 3 * (k + 1)) (n := 600 + 260 * ei + 91 + 52 * (k + 1)) (by omega) (by omega) ?_
                                      exact ih343 (k + 1) ci q24 ad z f g pl kn rw mi un (by omega) (by omega) (by first | exact hz2 | exact hz) (by first | exact hE3 | exact hE2) (by first | exact hB2 | exact hB1) (by first | exact hrow2 | exact hrow) hq0 hqh h24 (by omega) _ _ _ hP hS (lv_sub hl [0, 4, 5, 6, 7, 8, 9, 10, 11, 12, 13] rfl)
                                  · skip
                                    have c383 := ni_nle (a := (5 + ci)) (b := (5 + j)) (by omega) (by omega) c383
                                    refine lv_iload hx hb dL_build_386 (lv_at hl 1 rfl) ?_
                                    refine lv_if_ne (tgt := 401) hx hb dL_build_388 (by decide) (fun c388 => ?_) (fun c388 => ?_)
                                    · skip
                                      refine lv_iconst (v := nI 1) hx hb dL_build_401 (by decide) ?_
                                      refine lv_goto (tgt := 406) hx hb dL_build_402 (by decide) ?_
                                      refine lv_istore (lv' := [(16, .int (nI 1)), (17, .int (nI (5 + j))), (15, .int (nI (1 + r366))), (14, .int (nI k)), (13, .int (nI r335)), (12, .ref q24), (7, .int X7), (6, .int (nI ei)), (5, .int (nI (1 + r129))), (4, .ref qh), (3, .int (nI 12)), (2, .int (nI n)), (1, .ref b), (0, .ref qb)]) hx hb dL_build_406 hl (by decide) rfl (fun ls hl => ?_)
                                      refine lv_iinc (v := nI (5 + j + 1)) (lv' := [(17, .int (nI (5 + j + 1))), (16, .int (nI 1)), (15, .int (nI (1 + r366))), (14, .int (nI k)), (13, .int (nI r335)), (12, .ref q24), (7, .int X7), (6, .int (nI ei)), (5, .int (nI (1 + r129))), (4, .ref qh), (3, .int (nI 12)), (2, .int (nI n)), (1, .ref b), (0, .ref qb)]) hx hb dL_build_408 hl (k := 1) rfl (nI_1 _) (by decide) rfl (fun ls hl => ?_)
                                      refine lv_goto (tgt := 378) hx hb dL_build_411 (by decide) ?_
                                      exact ih378 (j + 1) (nI 1) (by omega) (by decide) (by first | exact (fun h => absurd h (by decide)) | exact (fun _ i hi => by
                                          by_cases q : i = j
                                          · rw [q]; exact c398
                                          · exact hno c388 i (by omega))) (by omega) _ _ hS (lv_sub hl [0, 1, 2, 3, 4, 5, 6, 7, 8, 9, 10, 11, 12, 13] rfl)
                                    · skip
                                      refine lv_aload hx hb dL_build_391 (lv_at hl 5 rfl) ?_
                                      refine xt_v (w := .ref (ad (24, 0))) (congrArg Value.ref h24.symm) ?_
                                      refine lv_iload hx hb dL_build_393 (lv_at hl 0 rfl) ?_
                                      refine xw_iald hx hb hE hP (24, 0) (n := 5 + ci) (f := f) rfl (i := 5 + j) (by omega) (by omega) dL_build_395 ?_
                                      refine lv_iload hx hb dL_build_396 (lv_at hl 2 rfl) ?_
                                      refine lv_icmp_ne (tgt := 405) hx hb dL_build_398 (by decide) (fun c398 => ?_) (fun c398 => ?_)
                                      · skip
                                        refine lv_iconst (v := nI 0) hx hb dL_build_405 (by decide) ?_
                                        refine lv_istore (lv' := [(16, .int (nI 0)), (17, .int (nI (5 + j))), (15, .int (nI (1 + r366))), (14, .int (nI k)), (13, .int (nI r335)), (12, .ref q24), (7, .int X7), (6, .int (nI ei)), (5, .int (nI (1 + r129))), (4, .ref qh), (3, .int (nI 12)), (2, .int (nI n)), (1, .ref b), (0, .ref qb)]) hx hb dL_build_406 hl (by decide) rfl (fun ls hl => ?_)
                                        refine lv_iinc (v := nI (5 + j + 1)) (lv' := [(17, .int (nI (5 + j + 1))), (16, .int (nI 0)), (15, .int (nI (1 + r366))), (14, .int (nI k)), (13, .int (nI r335)), (12, .ref q24), (7, .int X7), (6, .int (nI ei)), (5, .int (nI (1 + r129))), (4, .ref qh), (3, .int (nI 12)), (2, .int (nI n)), (1, .ref b), (0, .ref qb)]) hx hb dL_build_408 hl (k := 1) rfl (nI_1 _) (by decide) rfl (fun ls hl => ?_)
                                        refine lv_goto (tgt := 378) hx hb dL_build_411 (by decide) ?_
                                        exact ih378 (j + 1) (nI 0) (by omega) (by decide) (by first | exact (fun h => absurd h (by decide)) | exact (fun _ i hi => by
                                            by_cases q : i = j
                                            · rw [q]; exact c398
                                            · exact hno c388 i (by omega))) (by omega) _ _ hS (lv_sub hl [0, 1, 2, 3, 4, 5, 6, 7, 8, 9, 10, 11, 12, 13] rfl)
                                      · skip
                                        refine lv_iconst (v := nI 1) hx hb dL_build_401 (by decide) ?_
                                        refine lv_goto (tgt := 406) hx hb dL_build_402 (by decide) ?_
                                        refine lv_istore (lv' := [(16, .int (nI 1)), (17, .int (nI (5 + j))), (15, .int (nI (1 + r366))), (14, .int (nI k)), (13, .int (nI r335)), (12, .ref q24), (7, .int X7), (6, .int (nI ei)), (5, .int (nI (1 + r129))), (4, .ref qh), (3, .int (nI 12)), (2, .int (nI n)), (1, .ref b), (0, .ref qb)]) hx hb dL_build_406 hl (by decide) rfl (fun ls hl => ?_)
                                        refine lv_iinc (v := nI (5 + j + 1)) (lv' := [(17, .int (nI (5 + j + 1))), (16, .int (nI 1)), (15, .int (nI (1 + r366))), (14, .int (nI k)), (13, .int (nI r335)), (12, .ref q24), (7, .int X7), (6, .int (nI ei)), (5, .int (nI (1 + r129))), (4, .ref qh), (3, .int (nI 12)), (2, .int (nI n)), (1, .ref b), (0, .ref qb)]) hx hb dL_build_408 hl (k := 1) rfl (nI_1 _) (by decide) rfl (fun ls hl => ?_)
                                        refine lv_goto (tgt := 378) hx hb dL_build_411 (by decide) ?_
                                        exact ih378 (j + 1) (nI 1) (by omega) (by decide) (by first | exact (fun h => absurd h (by decide)) | exact (fun _ i hi => by
                                            by_cases q : i = j
                                            · rw [q]; exact c398
                                            · exact hno c388 i (by omega))) (by omega) _ _ hS (lv_sub hl [0, 1, 2, 3, 4, 5, 6, 7, 8, 9, 10, 11, 12, 13] rfl)
                              exact K378 _ 0 (nI 0) (Nat.zero_le _) (Or.inl rfl) (fun _ i hi => absurd hi (Nat.not_lt_zero _)) (Nat.lt_succ_self _) _ _ hS (lv_sub hl [0, 1, 2, 3, 4, 5, 6, 7, 8, 9, 10, 11, 12, 13] rfl)
                        refine W.widen (k := 40 + 18 * ei + 8 + 3 * 0) (n := 600 + 260 * ei + 91 + 52 * 0) (by omega) (by omega) ?_
                        exact K343 _ 0 0 q24 ad z f g pl kn rw mi un (Nat.zero_le _) (Nat.le_refl _) hz hE2 hB1 hrow hq0 hqh h24 (Nat.lt_succ_self _) _ _ _ hP hS (lv_sub hl [0, 1, 2, 3, 4, 5, 6, 7, 8, 9, 10] rfl)
                      refine lv_if_ne (tgt := 329) hx hb dL_build_309 (by decide) (fun c309 => ?_) (fun c309 => ?_)
                      · skip
                        have c309 := ni_ne (a := r306) (b := 0) (by omega) (by omega) c309
                        refine W.widen (k := 40 + 18 * ei + 8) (n := 600 + 260 * ei + 91) (by omega) (by omega) ?_
                        exact K329 z1 (upd (upd (upd (upd (upd (fun _ => nI 0) 0 w0) 1 (nI r167)) 2 (nI to)) 3 x) 4 (nI 1)) g pl kn rw mi un hz hE2 hB1 hrow _ _ _ hP hS (lv_sub hl [0, 5, 6, 7, 8, 9, 10, 11, 12] rfl)
                      · skip
                        have c309 := ni_eq (a := r306) (b := 0) (by omega) (by omega) c309
                        refine lv_aload_n hx hb dL_build_312 rfl (lv_at hl 12 rfl) ?_
                        refine xt_v (w := .ref (ad (0, 0))) (congrArg Value.ref hq0.symm) ?_
                        refine lv_iload hx hb dL_build_313 (lv_at hl 6 rfl) ?_
                        refine lv_iconst (v := nI 0) hx hb dL_build_315 (by decide) ?_
                        refine xx_callV (C := "NetlistBench") (n := 2) [.int (nI ei), .int (nI 0)] (c_X3_begin l hls hP hz (nI ei) (nI 0) (Or.inl rfl)) hx hb hml hown hts hE hF hS (xw_recv hE hP (0, 0) rfl rfl) rfl rfl q_21 q_581 q_584 q_582 q_583 (by decide) rfl ⟨by rw [hRf]; decide, by rw [hRl]; decide⟩ hl.1 rfl (Nat.le_of_ble_eq_true rfl) dL_build_316 ⟨by rw [hRc]; omega, by rw [hRs]; omega⟩ (fun E ce q9 H1 locs hp hS hce hcv hcl => ?_) (fun v H1 locs hp hS => ?_)
                        · exact (ex1_n (E := E) hp.1 (beg_0 hz.w (by omega))).elim
                        obtain ⟨hv_, ht_, hB⟩ := hp; subst hv_; generalize H1 = H at hB hS ⊢
                        obtain ⟨g, pl, kn, rw, mi, un, hP⟩ := hB
                        rw [cl_nI (j := ei) (by omega)] at hP
                        refine xt_i (w := nI 1) (by rw [cl_nI (by omega), hz1]; show upd (eO z) (nE z) (nI 1) ei = nI 1; rw [hE1]; exact pk_us) ?_
                        refine lv_if_ne (tgt := 324) hx hb dL_build_319 (by decide) (fun c319 => ?_) (fun c319 => ?_)
                        · skip
                          have c319 := ni_ne (a := 1) (b := 0) (by omega) (by omega) c319
                          refine lv_aload hx hb dL_build_324 (lv_at hl 0 rfl) ?_
                          refine xt_v (w := .ref (ad (24, 0))) (congrArg Value.ref h24.symm) ?_
                          refine lv_iconst (v := nI 4) hx hb dL_build_326 (by decide) ?_
                          refine lv_iconst (v := nI 0) hx hb dL_build_327 (by decide) ?_
                          refine xw_iast hx hb hE hP hS (24, 0) (n := 5) (f := upd (upd (upd (upd (upd (fun _ => nI 0) 0 w0) 1 (nI r167)) 2 (nI to)) 3 x) 4 (nI 1)) rfl (i := 4) (by omega) (by omega) dL_build_328 (fun H locs hP hS => ?_)
                          have hP := hP.ct ((wU_fu (k := 4) (by decide)).trans (by rw [fu_fu]))
                          refine W.widen (k := 40 + 18 * ei + 8) (n := 600 + 260 * ei + 91) (by omega) (by omega) ?_
                          exact K329 (s_eO z1 (upd (eO z1) ei (nI 0))) (upd (upd (upd (upd (upd (upd (fun _ => nI 0) 0 w0) 1 (nI r167)) 2 (nI to)) 3 x) 4 (nI 1)) 4 (nI 0)) g pl kn rw mi un ⟨wf_eO hz.w (Or.inl rfl), hz.2⟩ hE2 (bEq_eO hB1 _) (row_off hrow (nI 0)) _ _ _ hP hS (lv_sub hl [0, 5, 6, 7, 8, 9, 10, 11, 12] rfl)
                        · skip
                          have c319 := ni_eq (a := 1) (b := 0) (by omega) (by omega) c319
                          exact absurd c319 (by decide)
                    refine lv_if_eq (tgt := 277) hx hb dL_build_270 (by decide) (fun c270 => ?_) (fun c270 => ?_)
                    · skip
                      refine lv_iconst (v := nI 0) hx hb dL_build_277 (by decide) ?_
                      exact K278 (nI 0) (by first | (rw [c270]; rfl) | (rw [hv.resolve_left c270]; rfl)) _ _ hS (lv_sub hl [0, 1, 2, 3, 4, 5, 6, 7, 8, 9, 10, 11] rfl)
                    · skip
                      refine lv_iconst (v := nI 1) hx hb dL_build_273 (by decide) ?_
                      refine lv_goto (tgt := 278) hx hb dL_build_274 (by decide) ?_
                      exact K278 (nI 1) (by first | (rw [c270]; rfl) | (rw [hv.resolve_left c270]; rfl)) _ _ hS (lv_sub hl [0, 1, 2, 3, 4, 5, 6, 7, 8, 9, 10, 11] rfl)
                  · skip
                    have c258 := ni_ne (a := (nE z)) (b := ei) (by omega) (by omega) c258
                    exact absurd hE1 c258
                refine lv_if_eq (tgt := 231) hx hb dL_build_212 (by decide) (fun c212 => ?_) (fun c212 => ?_)
                · skip
                  refine lv_iconst (v := nI 1) hx hb dL_build_231 (by decide) ?_
                  refine lv_iload hx hb dL_build_232 (lv_at hl 3 rfl) ?_
                  refine lv_iconst (v := nI 5) hx hb dL_build_234 (by decide) ?_
                  refine lv_ishr hx hb dL_build_235 ?_
                  refine lv_bipush (v := nI 9) hx hb dL_build_236 (by decide) ?_
                  refine xw_callS (n := 2) [.int (X7 >>> ((nI 5) &&& 31)), .int (nI 9)] (c_L_below l (x := X7 >>> ((nI 5) &&& 31)) (n := 9) (by omega) (by omega)) hx hb hml hown hts hE hS rfl rfl q_20 q_432 q_434 q_433 (by decide) rfl ⟨by rw [hRf]; decide, by rw [hRl]; decide⟩ hl.1 rfl (Nat.le_of_ble_eq_true rfl) dL_build_238 ⟨by rw [hRc]; omega, by rw [hRs]; omega⟩ (fun v H1 locs hp hS => ?_)
                  obtain ⟨⟨r238, hr238, hv_⟩, hh_⟩ := hp; subst hv_; subst hh_
                  refine lv_iadd hx hb dL_build_241 ?_
                  refine xt_i (nI_add 1 r238) ?_
                  exact K242 (nI (1 + r238)) (by first | exact Or.inl ⟨c212, in_9 _ hr238⟩ | exact Or.inr ⟨c212, in_99 _ hr222⟩) _ _ hS (lv_sub hl [0, 1, 2, 3, 4, 5, 6, 7, 8, 9, 10] rfl)
                · skip
                  refine lv_iload hx hb dL_build_215 (lv_at hl 3 rfl) ?_
                  refine lv_iconst (v := nI 3) hx hb dL_build_217 (by decide) ?_
                  refine lv_ishr hx hb dL_build_218 ?_
                  refine lv_sipush (v := nI 199) hx hb dL_build_219 (by decide) ?_
                  refine xw_callS (n := 2) [.int (X7 >>> ((nI 3) &&& 31)), .int (nI 199)] (c_L_below l (x := X7 >>> ((nI 3) &&& 31)) (n := 199) (by omega) (by omega)) hx hb hml hown hts hE hS rfl rfl q_20 q_432 q_434 q_433 (by decide) rfl ⟨by rw [hRf]; decide, by rw [hRl]; decide⟩ hl.1 rfl (Nat.le_of_ble_eq_true rfl) dL_build_222 ⟨by rw [hRc]; omega, by rw [hRs]; omega⟩ (fun v H1 locs hp hS => ?_)
                  obtain ⟨⟨r222, hr222, hv_⟩, hh_⟩ := hp; subst hv_; subst hh_
                  refine lv_bipush (v := nI 99) hx hb dL_build_225 (by decide) ?_
                  refine lv_isub hx hb dL_build_227 ?_
                  refine lv_goto (tgt := 242) hx hb dL_build_228 (by decide) ?_
                  exact K242 ((nI r222) - (nI 99)) (by first | exact Or.inl ⟨c212, in_9 _ hr238⟩ | exact Or.inr ⟨c212, in_99 _ hr222⟩) _ _ hS (lv_sub hl [0, 1, 2, 3, 4, 5, 6, 7, 8, 9, 10] rfl)
              refine lv_if_ne (tgt := 207) hx hb dL_build_200 (by decide) (fun c200 => ?_) (fun c200 => ?_)
              · skip
                have c200 := ni_ne (a := r197) (b := 0) (by omega) (by omega) c200
                refine lv_iconst (v := nI 0) hx hb dL_build_207 (by decide) ?_
                exact K208 (nI 0) (by decide) _ _ hS (lv_sub hl [0, 1, 2, 3, 4, 5, 6, 7, 8, 9] rfl)
              · skip
                have c200 := ni_eq (a := r197) (b := 0) (by omega) (by omega) c200
                refine lv_iconst (v := nI 1) hx hb dL_build_203 (by decide) ?_
                refine lv_goto (tgt := 208) hx hb dL_build_204 (by decide) ?_
                exact K208 (nI 1) (by decide) _ _ hS (lv_sub hl [0, 1, 2, 3, 4, 5, 6, 7, 8, 9] rfl)
        refine W.widen (k := 40 + 18 * 0) (n := 600 + 260 * 0) (by omega) (by omega) ?_
        exact K138 _ 0 ad bl z zK zF g pl kn rw mi un (Nat.zero_le _) hz h0e hE1 ⟨hN1, hfr, fun i hi => absurd hi (Nat.not_lt_zero _)⟩ hq0 hqh (Nat.lt_succ_self _) _ _ _ hP hS (lv_sub hl [0, 1, 2, 3, 4, 5, 6] rfl)
      · skip
        have c15 := ni_nle (a := n) (b := k) (by omega) (by omega) c15
        have hw := hz.w
        have hN8 := hw.N
        have hE20 := hw.E
        refine lv_aload_n hx hb dL_build_18 rfl (lv_at hl 5 rfl) ?_
        refine xt_v (w := .ref (ad (0, 0))) (congrArg Value.ref hq0.symm) ?_
        refine xx2_callV (C := "NetlistBench") (n := 0) [] (c_X3_addNode l hls hP hz h0n h0e) hx hb hml hown hts hE hF hG hS (xw_recv hE hP (0, 0) rfl rfl) rfl rfl q_21 q_460 q_463 q_461 q_462 (by decide) rfl ⟨by rw [hRf]; decide, by rw [hRl]; decide⟩ hl.1 rfl (Nat.le_of_ble_eq_true rfl) dL_build_19 ⟨by rw [hRc]; omega, by rw [hRs]; omega⟩ (fun E ce q9 H1 locs hp hS hce hcv hcl => ?_) (fun v H1 locs hp hS => ?_)
        · exact (exS_n hp.1 (addNode_0 (by omega))).elim
        obtain ⟨hv_, ht_, ad, bl, hA2, hA0, h0n, h0e, hz, hB⟩ := hp; subst hv_; generalize H1 = H at hB hS ⊢
        obtain ⟨g, pl, kn, rw, mi, un, hP⟩ := hB
        rw [← wH_ad (ad' := ad) (hA2 (21, 0) (by decide)) (hA2 (22, 0) (by decide)) (fun i _ => hA2 (23, i) (show 20 ≤ 23 by decide))] at hP
        have hq0 : ad (0, 0) = qb := hA0.trans hq0
        have hqh : ad (20, 0) = qh := (hA2 (20, 0) (by decide)).trans hqh
        refine lv_iload hx hb dL_build_22 (lv_at hl 0 rfl) ?_
        refine lv_icmp_eq (tgt := 29) hx hb dL_build_24 (by decide) (fun c24 => ?_) (fun c24 => ?_)
        · skip
          have c24 := ni_eq (a := (nN z)) (b := k) (by omega) (by omega) c24
          refine lv_iload hx hb dL_build_29 (lv_at hl 0 rfl) ?_
          have K55 : ∀ (v : Int32), (v = 0 ∨ v = 1) → ∀ (locs : List Loc) (ls : Array Slot), va_S A Hs H locs → lv_has ls 18 [(5, .int (nI k)), (4, .ref qh), (3, .int (nI 12)), (2, .int (nI n)), (1, .ref b), (0, .ref qb)] → W p l e R s m args below meth c H locs (3 + 5 * k + 2) (2 + 94 * k + 42) Q (F0 m 55 ls [.int v]) := by
            intro v hv locs ls hS hl
            refine lv_istore (lv' := [(6, .int v), (5, .int (nI k)), (4, .ref qh), (3, .int (nI 12)), (2, .int (nI n)), (1, .ref b), (0, .ref qb)]) hx hb dL_build_55 hl (by decide) rfl (fun ls hl => ?_)
            refine lv_aload_n hx hb dL_build_57 rfl (lv_at hl 5 rfl) ?_
            refine lv_iload hx hb dL_build_58 (lv_at hl 1 rfl) ?_
            refine xk_callS (n := 2) [.ref b, .int (nI k)] (c_L_cell l (k := k) hL (by omega) (Nat.lt_of_lt_of_le hbl hS.1) hbA) xKs_bl (fun U hU hW => ⟨hU, hE.moved hW, va_X.moved hW.alike (hX.kept (hS.2.1 _ hbl hbA))⟩) hx hb hml hown hts hS rfl rfl q_20 q_436 q_438 q_437 (by decide) rfl ⟨by rw [hRf]; decide, by rw [hRl]; decide⟩ hl.1 rfl (Nat.le_of_ble_eq_true rfl) dL_build_60 ⟨by rw [hRc]; omega, by rw [hRs]; omega⟩ (fun v H1 locs hp hS => ?_)
            obtain ⟨⟨x60, hv_⟩, hh_⟩ := hp; subst hv_; subst hh_
            refine lv_iconst (v := nI 2) hx hb dL_build_63 (by decide) ?_
            refine lv_ishr hx hb dL_build_64 ?_
            refine lv_sipush (v := nI 199) hx hb dL_build_65 (by decide) ?_
            refine xw_callS (n := 2) [.int (x60 >>> ((nI 2) &&& 31)), .int (nI 199)] (c_L_below l (x := x60 >>> ((nI 2) &&& 31)) (n := 199) (by omega) (by omega)) hx hb hml hown hts hE hS rfl rfl q_20 q_432 q_434 q_433 (by decide) rfl ⟨by rw [hRf]; decide, by rw [hRl]; decide⟩ hl.1 rfl (Nat.le_of_ble_eq_true rfl) dL_build_68 ⟨by rw [hRc]; omega, by rw [hRs]; omega⟩ (fun v H1 locs hp hS => ?_)
            obtain ⟨⟨r68, hr68, hv_⟩, hh_⟩ := hp; subst hv_; subst hh_
            refine lv_bipush (v := nI 99) hx hb dL_build_71 (by decide) ?_
            refine lv_isub hx hb dL_build_73 ?_
            refine lv_istore (lv' := [(7, .int ((nI r68) - (nI 99))), (6, .int v), (5, .int (nI k)), (4, .ref qh), (3, .int (nI 12)), (2, .int (nI n)), (1, .ref b), (0, .ref qb)]) hx hb dL_build_74 hl (by decide) rfl (fun ls hl => ?_)
            have hp7 := in_99 r68 hr68
            refine lv_aload_n hx hb dL_build_76 rfl (lv_at hl 7 rfl) ?_
            refine xt_v (w := .ref (ad (0, 0))) (congrArg Value.ref hq0.symm) ?_
            refine lv_iload hx hb dL_build_77 (lv_at hl 2 rfl) ?_
            refine lv_iload hx hb dL_build_79 (lv_at hl 1 rfl) ?_
            refine lv_iload hx hb dL_build_81 (lv_at hl 0 rfl) ?_
            refine xx_callV (C := "NetlistBench") (n := 3) [.int (nI k), .int v, .int ((nI r68) - (nI 99))] (c_X3_rail l hls hP hz (nI k) v (nI r68 - nI 99) hv) hx hb hml hown hts hE hF hS (xw_recv hE hP (0, 0) rfl rfl) rfl rfl q_21 q_535 q_538 q_536 q_537 (by decide) rfl ⟨by rw [hRf]; decide, by rw [hRl]; decide⟩ hl.1 rfl (Nat.le_of_ble_eq_true rfl) dL_build_83 ⟨by rw [hRc]; omega, by rw [hRs]; omega⟩ (fun E ce q9 H1 locs hp hS hce hcv hcl => ?_) (fun v H1 locs hp hS => ?_)
            · exact (ex3_n hp.1 (rail_0 hz.w (show k < nN z + 1 by omega) hp7)).elim
            obtain ⟨hv_, ht_, hB⟩ := hp; subst hv_; generalize H1 = H at hB hS ⊢
            obtain ⟨g, pl, kn, rw, mi, un, hP⟩ := hB
            rw [cl_nI (j := k) (by omega)] at hP
            have hzr : bOk bl (zRail (zAddNode z) k v (nI r68 - nI 99)) := ⟨by have h := wf_rail hz.w hv (x := nI k) (k := (nI r68 - nI 99)) (rail_0 hz.w (show k < nN z + 1 by omega) hp7); rw [cl_nI (by omega)] at h; exact h, hz.2⟩
            refine xt_i (w := nI 0) (by rw [cl_nI (by omega)]; show upd (nR z) (nN z) 0 k = nI 0; rw [hN1]; exact pk_us) ?_
            refine lv_if_eq (tgt := 91) hx hb dL_build_86 (by decide) (fun c86 => ?_) (fun c86 => ?_)
            · skip
              have c86 := ni_eq (a := 0) (b := 0) (by omega) (by omega) c86
              refine lv_aload hx hb dL_build_91 (lv_at hl 3 rfl) ?_
              refine xt_v (w := .ref (ad (20, 0))) (congrArg Value.ref hqh.symm) ?_
              refine lv_aload hx hb dL_build_93 (lv_at hl 3 rfl) ?_
              refine xt_v (w := .ref (ad (20, 0))) (congrArg Value.ref hqh.symm) ?_
              refine xw_get hx hb hts hown hE hP iw_X4 (20, 0) (fs := [.ref (ad (21, 0)), .ref (ad (22, 0))]) rfl rfl 0 (by decide) q_452 (fun x h => h) rfl dL_build_95 ?_
              refine lv_iload hx hb dL_build_98 (lv_at hl 1 rfl) ?_
              have K110 : ∀ (u : Int32), (u = if v = 0 then nI 100 else (nI r68 - nI 99)) → ∀ (locs : List Loc) (ls : Array Slot), va_S A Hs H locs → lv_has ls 18 [(5, .int (nI k)), (4, .ref qh), (3, .int (nI 12)), (2, .int (nI n)), (1, .ref b), (0, .ref qb)] → W p l e R s m args below meth c H locs (3 + 5 * k + 2 + 2) (2 + 94 * k + 42 + 12) Q (F0 m 110 ls [.int u, .ref (ad (21, 0)), .ref (ad (20, 0))]) := by
                intro u hu locs ls hS hl
                refine xw_callS (n := 2) [.ref (ad (21, 0)), .int u] (c_X4_more l (lab := (21, 0)) (n := k) (f := fr) (x := u) hP rfl (by decide) (by omega)) hx hb hml hown hts hE hS rfl rfl q_26 q_540 q_542 q_541 (by decide) rfl ⟨by rw [hRf]; decide, by rw [hRl]; decide⟩ hl.1 rfl (Nat.le_of_ble_eq_true rfl) dL_build_110 ⟨by rw [hRc]; omega, by rw [hRs]; omega⟩ (fun v H1 locs hp hS => ?_)
                obtain ⟨q9, hv_, hP⟩ := hp; subst hv_; generalize H1 = H at hP hS ⊢
                refine xt_v2 (congrArg Value.ref (ad_up_ne (ad := ad) (k := (39, 0)) (j := (20, 0)) (q := q9) (by decide)).symm) ?_
                refine xw_put hx hb hts hown hE hP hS iw_X4 tyX4 tyX4_ok nmX4 (20, 0) (fs := [.ref (ad (21, 0)), .ref (ad (22, 0))]) rfl rfl 0 (by decide) q_452 (fun x h => h) rfl (ty := .array .int) rfl rfl rfl (Nat.le_of_ble_eq_true rfl) dL_build_113 (fun H locs hP hS => ?_)
                have hP := xW.rails hP
                obtain ⟨ad, had⟩ : ∃ a, a = ad_up ad (21, 0) q9 := ⟨_, rfl⟩
                rw [← had] at hP
                have hq0 : ad (0, 0) = qb := by rw [had, ad_up_ne (by decide)]; exact hq0
                have hqh : ad (20, 0) = qh := by rw [had, ad_up_ne (by decide)]; exact hqh
                have h0e : nE (zAddNode z) = 0 → ad (4, 0) = e0 := fun h => by rw [had, ad_up_ne (by decide)]; exact h0e h
                refine lv_iinc (v := nI (k + 1)) (lv' := [(5, .int (nI (k + 1))), (4, .ref qh), (3, .int (nI 12)), (2, .int (nI n)), (1, .ref b), (0, .ref qb)]) hx hb dL_build_116 hl (k := 0) rfl (nI_1 _) (by decide) rfl (fun ls hl => ?_)
                refine lv_goto (tgt := 12) hx hb dL_build_119 (by decide) ?_
                refine W.widen (k := 3 + 5 * (k + 1)) (n := 2 + 94 * (k + 1)) (by omega) (by omega) ?_
                exact ih12 (k + 1) ad bl (zRail (zAddNode z) k v (nI r68 - nI 99)) (fun j => if j < k then fr j else u) g pl kn rw mi un (by omega) hzr (fun h => absurd (show nN z + 1 = 0 from h) (by omega)) h0e (show nN z + 1 = k + 1 by omega) hE1 (by rw [hu]; exact rails_s hN1 hfr) hq0 hqh (by omega) _ _ _ hP hS (lv_sub hl [0, 1, 2, 3, 4, 5] rfl)
              refine lv_if_eq (tgt := 108) hx hb dL_build_100 (by decide) (fun c100 => ?_) (fun c100 => ?_)
              · skip
                refine lv_bipush (v := nI 100) hx hb dL_build_108 (by decide) ?_
                exact K110 (nI 100) (by first | rw [if_pos c100] | rw [if_neg c100]) _ _ hS (lv_sub hl [2, 3, 4, 5, 6, 7] rfl)
              · skip
                refine lv_iload hx hb dL_build_103 (lv_at hl 0 rfl) ?_
                refine lv_goto (tgt := 110) hx hb dL_build_105 (by decide) ?_
                exact K110 ((nI r68) - (nI 99)) (by first | rw [if_pos c100] | rw [if_neg c100]) _ _ hS (lv_sub hl [2, 3, 4, 5, 6, 7] rfl)
            · skip
              have c86 := ni_ne (a := 0) (b := 0) (by omega) (by omega) c86
              exact absurd rfl c86
          refine lv_if_eq (tgt := 50) hx hb dL_build_31 (by decide) (fun c31 => ?_) (fun c31 => ?_)
          · skip
            have c31 := ni_eq (a := k) (b := 0) (by omega) (by omega) c31
            refine lv_iconst (v := nI 1) hx hb dL_build_50 (by decide) ?_
            refine lv_goto (tgt := 55) hx hb dL_build_51 (by decide) ?_
            exact K55 (nI 1) (by decide) _ _ hS (lv_sub hl [0, 1, 2, 3, 4, 5] rfl)
          · skip
            have c31 := ni_ne (a := k) (b := 0) (by omega) (by omega) c31
            refine lv_aload_n hx hb dL_build_34 rfl (lv_at hl 4 rfl) ?_
            refine lv_iload hx hb dL_build_35 (lv_at hl 0 rfl) ?_
            refine xk_callS (n := 2) [.ref b, .int (nI k)] (c_L_cell l (k := k) hL (by omega) (Nat.lt_of_lt_of_le hbl hS.1) hbA) xKs_bl (fun U hU hW => ⟨hU, hE.moved hW, va_X.moved hW.alike (hX.kept (hS.2.1 _ hbl hbA))⟩) hx hb hml hown hts hS rfl rfl q_20 q_436 q_438 q_437 (by decide) rfl ⟨by rw [hRf]; decide, by rw [hRl]; decide⟩ hl.1 rfl (Nat.le_of_ble_eq_true rfl) dL_build_37 ⟨by rw [hRc]; omega, by rw [hRs]; omega⟩ (fun v H1 locs hp hS => ?_)
            obtain ⟨⟨x37, hv_⟩, hh_⟩ := hp; subst hv_; subst hh_
            refine lv_bipush (v := nI 9) hx hb dL_build_40 (by decide) ?_
            refine lv_ishr hx hb dL_build_42 ?_
            refine lv_iconst (v := nI 4) hx hb dL_build_43 (by decide) ?_
            refine xw_callS (n := 2) [.int (x37 >>> ((nI 9) &&& 31)), .int (nI 4)] (c_L_below l (x := x37 >>> ((nI 9) &&& 31)) (n := 4) (by omega) (by omega)) hx hb hml hown hts hE hS rfl rfl q_20 q_432 q_434 q_433 (by decide) rfl ⟨by rw [hRf]; decide, by rw [hRl]; decide⟩ hl.1 rfl (Nat.le_of_ble_eq_true rfl) dL_build_44 ⟨by rw [hRc]; omega, by rw [hRs]; omega⟩ (fun v H1 locs hp hS => ?_)
            obtain ⟨⟨r44, hr44, hv_⟩, hh_⟩ := hp; subst hv_; subst hh_
            refine lv_if_ne (tgt := 54) hx hb dL_build_47 (by decide) (fun c47 => ?_) (fun c47 => ?_)
            · skip
              have c47 := ni_ne (a := r44) (b := 0) (by omega) (by omega) c47
              refine lv_iconst (v := nI 0) hx hb dL_build_54 (by decide) ?_
              exact K55 (nI 0) (by decide) _ _ hS (lv_sub hl [0, 1, 2, 3, 4, 5] rfl)
            · skip
              have c47 := ni_eq (a := r44) (b := 0) (by omega) (by omega) c47
              refine lv_iconst (v := nI 1) hx hb dL_build_50 (by decide) ?_
              refine lv_goto (tgt := 55) hx hb dL_build_51 (by decide) ?_
              exact K55 (nI 1) (by decide) _ _ hS (lv_sub hl [0, 1, 2, 3, 4, 5] rfl)
        · skip
          have c24 := ni_ne (a := (nN z)) (b := k) (by omega) (by omega) c24
          exact absurd hN1 c24
  refine W.widen (k := 3 + 5 * 0) (n := 2 + 94 * 0) (by omega) (by omega) ?_
  exact K12 _ 0 ad bl0 zE (fun _ => nI 0) g pl kn rw mi un (Nat.zero_le _) ⟨wf_zE, by decide, by decide, by decide, by decide⟩ h0n h0e rfl rfl (fun j hj => absurd hj (Nat.not_lt_zero _)) hq0 hqh (Nat.lt_succ_self _) _ _ _ hP hS (lv_sub hl [0, 1, 5, 4, 3, 2] rfl)
