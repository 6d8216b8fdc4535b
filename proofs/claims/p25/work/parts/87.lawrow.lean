/-! calls from the law; what it makes: below, cell, more, a new circuit of its own -/
def xH (U : State) : Prop := va_AOA .int U ∧ va_Nw (.methodLinkNest "NetlistBenchLaw" 23 ⟨"NetlistBenchLaw$Hand", "<init>", "()V"⟩ "NetlistBenchLaw") U
theorem xH.warm {s U : State} (hW : s.WarmedH U.vm) (h : xH s) : xH U := ⟨xg_AOA hW.alike h.1, va_Nw.warmM hW h.2⟩
theorem xH.same {s U : State} (hv : s.vm = U.vm) (h : xH s) : xH U := ⟨xg_AOA (by rw [hv]; exact Vm.Alike.refl U.vm) h.1, va_Nw.same rfl hv h.2⟩
theorem vX.same {b L : Nat} {xs : Nat → Int32} {s U : State} {H : Heap} (hv : s.vm = U.vm) (h : va_X b L xs s H) : va_X b L xs U H := va_X.moved (by rw [hv]; exact Vm.Alike.refl U.vm) h
/-- starts: with the script; with what a new circuit wants; with all of it -/
def xKs (D : va_G) (y : Nat → ClassId) (b L : Nat) (xs : Nat → Int32) (H : Heap) (U : State) : Prop := U.heap = H ∧ xE D y U ∧ va_X b L xs U H
def xKh (D : va_G) (y : Nat → ClassId) (H : Heap) (U : State) : Prop := U.heap = H ∧ xE D y U ∧ xH U
def xKb (D : va_G) (y : Nat → ClassId) (A : Nat → Prop) (e0 b L : Nat) (xs : Nat → Int32) (H : Heap) (U : State) : Prop := U.heap = H ∧ xE D y U ∧ xF A U H ∧ xG A e0 U H ∧ xH U ∧ va_X b L xs U H
theorem xKs_bl {av : List Value} {D : va_G} {y : Nat → ClassId} {b L : Nat} {xs : Nat → Int32} {H : Heap} : FrameBlind (va_Pc av (xKs D y b L xs H)) := fun a U g mk q => ⟨q.1, q.2.1, q.2.2.1.same rfl, vX.same (show U.vm = (U.calling g mk a).vm from rfl) q.2.2.2⟩
theorem xKh_bl {av : List Value} {D : va_G} {y : Nat → ClassId} {H : Heap} : FrameBlind (va_Pc av (xKh D y H)) := fun a U g mk q => ⟨q.1, q.2.1, q.2.2.1.same rfl, xH.same (show U.vm = (U.calling g mk a).vm from rfl) q.2.2.2⟩
theorem xKb_bl {av : List Value} {D : va_G} {y : Nat → ClassId} {A : Nat → Prop} {e0 b L : Nat} {xs : Nat → Int32} {H : Heap} : FrameBlind (va_Pc av (xKb D y A e0 b L xs H)) := fun a U g mk q =>
  ⟨q.1, q.2.1, q.2.2.1.same rfl, q.2.2.2.1.same (show U.vm = (U.calling g mk a).vm from rfl), q.2.2.2.2.1.same (show U.vm = (U.calling g mk a).vm from rfl), xH.same (show U.vm = (U.calling g mk a).vm from rfl) q.2.2.2.2.2.1, vX.same (show U.vm = (U.calling g mk a).vm from rfl) q.2.2.2.2.2.2⟩
theorem ex3_n {E : String} {k : Int32} (h : ex3 k E) (h0 : k = 0) : False := by
  subst h0
  rcases h with ⟨h, -⟩ | ⟨h, -⟩ | ⟨h, -⟩ <;> exact absurd h (by decide)
theorem exA_n {E : String} {k : Int32} (h : exA k E) (h0 : k = 0) : False := by
  subst h0
  exact absurd h.1 (by decide)
theorem exS_n {E : String} {k : Int32} (h : exS k E) (h0 : k = 0) : False := by
  subst h0
  exact absurd h.1 (by decide)
theorem ex1_n {E : String} {k : Int32} {P : Prop} (h : k = 1 ∧ P) (h0 : k = 0) : False := by
  subst h0
  exact absurd h.1 (by decide)
theorem xM_goK {l : Launch} {x : MethodName} {cc : ByteArray} {maxL : Nat} {ret : Option FieldType} {rm : Room} {av : List Value} {K : State → Prop} {H : Heap} {post : Option Value → Heap → Prop} {A : Nat → Prop} {mc ms : Nat}
    (hy : plainName x.cls = true) (hlen : (lg_sl av).length ≤ maxL) (hK : ∀ U, K U → U.heap = H)
    (body : ∀ (p : Program) (e : Env) (s : State) (m : MethodId) (args : Array Value) (below : List Frame) (meth : Method) (c : Code) (ls : Array Slot) (R : Room) (Q : State → Prop), p.tables.exec = Jvm.exec → c.code = cc → meth.sig.returnType = ret → meth.locks = false → c.maxLocals = maxL → s.vm.findClass x.cls = some m.cls → (∀ w ∈ WG, w.before args s = true) → K s → meth.name = x.name → R.frames = rm.frames → R.locals = rm.locals → R.cells = rm.cells → R.slots = rm.slots → Q = MQ below (xQ post A) args s mc ms A → va_S A H H [] → lv_has ls maxL (lv_args 0 av) →
      W p l e R s m args below meth c H [] 0 0 Q (F0 m 0 ls [])) : Met l x (.code x cc maxL ret :: WG) rm (va_Pc av K) (xQ post A) mc ms A := by
  refine Met.ofW (cc := cc) (maxL := maxL) (ret := ret) hy rfl ?_
  intro p e s m args below meth c s₁ B hml hv
  obtain ⟨rfl, hKs⟩ := hv
  have hts := atoms_spec (ws := .code x cc maxL ret :: WG) B.pre
  have hl := lv_entry av (n := maxL) hlen
  rw [lg_entry_eq]
  have hb := body p e s m av.toArray below meth c _ rm _ B.exec B.bytes B.returns B.notSynchronized hml (findClass_of_methodNamed B.named) (fun w h => hts w (List.mem_cons_of_mem _ h)) hKs (name_of_methodNamed B.named B.method).1 rfl rfl rfl rfl rfl va_S.rf hl
  rw [hK s hKs]
  exact hb
section KC
variable {p : Program} {l : Launch} {e : Env} {R : Room} {s : State} {m : MethodId} {args : Array Value} {below : List Frame} {meth : Method} {c : Code} {H H0 : Heap} {locs : List Loc} {cells slots mc ms : Nat} {Q : State → Prop}
variable {cc : ByteArray} {pc : Nat} {ls : Array Slot} {rest : List Value} {A : Nat → Prop} {post : Option Value → Heap → Prop}
theorem xk_callS {own : String} {index maxL nL n : Nat} {x : MethodName} {bytes : ByteArray} {ret : Option FieldType} {rm : Room} {st0 : List Value} {K : State → Prop} (As : List Value) (hM : Met l x (.code x bytes maxL ret :: WG) rm (va_Pc As K) (xQ post A) mc ms A) (hbl : FrameBlind (va_Pc As K)) (hpre : ∀ U : State, U.heap = H → s.WarmedH U.vm → K U) (hexec : p.tables.exec = Jvm.exec) (hb : c.code = cc) (hml : c.maxLocals = nL) (hown : s.vm.findClass own = some m.cls) (hts : ∀ w ∈ WG, w.before args s = true) (hS : va_S A H0 H locs)
    (hrc : rm.cells = mc) (hrs : rm.slots = ms) (hini : Cond.initialized x.cls ∈ WG) (hl : Cond.methodLink own index x ∈ WG) (hcode : Cond.code x bytes maxL ret ∈ WG) (hst : Cond.static x ∈ WG) (hd : x.cls ≠ "java/lang/invoke/MethodHandle" ∧ x.cls ≠ "java/lang/invoke/VarHandle" ∧ (parseMethodDescriptor x.desc).map (fun d => d.parameters.length) = some n) (hn : As.length = n) (hR : rm.frames + 1 ≤ R.frames ∧ 8 + (maxL + 11) + rm.locals ≤ R.locals)
    (hsize : ls.size = nL) (hstack : st0 = As.reverse ++ rest) (hW : (rest.map fun v => v.category).sum ≤ 8) (hdg : decode cc pc = .ok (.invokestatic index, 3)) (hf : cells + mc ≤ R.cells ∧ slots + ms ≤ R.slots)
    (kk : ∀ (v : Option Value) (H1 : Heap) (locs1 : List Loc), post v H1 → va_S A H0 H1 locs1 → W p l e R s m args below meth c H1 locs1 (cells + mc) (slots + ms) Q (F0 m (pc + 3) ls (v.toList ++ rest))) : W p l e R s m args below meth c H locs cells slots Q (F0 m pc ls st0) :=
  xw_go (As := As) (va_runS (rest := rest) ⟨hexec, hb, hml, hown, hts⟩ hM ⟨xw_cb hts hrc hrs hini hl hcode hd hR, hts _ hst⟩ ⟨hbl, fun U hU hW => ⟨rfl, hpre U hU hW⟩⟩ rfl hn hsize hstack (lv_room hW) hdg hf) hS kk
theorem xk_callIN {own host : String} {index maxL nL n : Nat} {x : MethodName} {bytes : ByteArray} {rm : Room} {b : Addr} {st0 : List Value} {K : State → Prop} (As : List Value) (hM : Met l x (.code x bytes maxL none :: WG) rm (va_Pc (.ref b :: As) K) (xQ post A) mc ms A) (hbl : FrameBlind (va_Pc (.ref b :: As) K)) (hpre : ∀ U : State, U.heap = H → s.WarmedH U.vm → K U) (hexec : p.tables.exec = Jvm.exec) (hb : c.code = cc) (hml : c.maxLocals = nL) (hown : s.vm.findClass own = some m.cls) (hts : ∀ w ∈ WG, w.before args s = true) (hS : va_S A H0 H locs)
    (hrc : rm.cells = mc) (hrs : rm.slots = ms) (hini : Cond.initialized x.cls ∈ WG) (hl : va_Nw (.methodLinkNest own index x host) s) (hcode : Cond.code x bytes maxL none ∈ WG) (hin : Cond.instanceMethod x ∈ WG) (hy1 : x.name = "<init>") (hd : x.cls ≠ "java/lang/invoke/MethodHandle" ∧ x.cls ≠ "java/lang/invoke/VarHandle" ∧ (parseMethodDescriptor x.desc).map (fun d => d.parameters.length) = some n) (hn : As.length = n) (hR : rm.frames + 1 ≤ R.frames ∧ 8 + (maxL + 11) + rm.locals ≤ R.locals)
    (hsize : ls.size = nL) (hstack : st0 = As.reverse ++ .ref b :: rest) (hW : (rest.map fun v => v.category).sum ≤ 8) (hdg : decode cc pc = .ok (.invokespecial index, 3)) (hf : cells + mc ≤ R.cells ∧ slots + ms ≤ R.slots)
    (kk : ∀ (v : Option Value) (H1 : Heap) (locs1 : List Loc), post v H1 → va_S A H0 H1 locs1 → W p l e R s m args below meth c H1 locs1 (cells + mc) (slots + ms) Q (F0 m (pc + 3) ls (v.toList ++ rest))) : W p l e R s m args below meth c H locs cells slots Q (F0 m pc ls st0) :=
  xw_go (As := .ref b :: As) (va_runIN (host := host) (rest := rest) ⟨hexec, hb, hml, hown, hts⟩ hM ⟨va_cnB n hts (WG_in (fun w h => h) hcode) rfl hrc hrs hl (hts _ hini) hd hR, hy1, hts _ hin⟩ ⟨hbl, fun U hU hW => ⟨rfl, hpre U hU hW⟩⟩ rfl hn hsize hstack (lv_room hW) hdg hf) hS kk
end KC
set_option maxHeartbeats 4000000 in
set_option maxRecDepth 100000 in
theorem c_L_below (l : Launch) {D : va_G} {y : Nat → ClassId} {A : Nat → Prop} {Hs : Heap} {x : Int32} {n : Nat} (hn0 : 0 < n) (hn : n < 1000) : Met l yL_below (.code yL_below cL_below 2 (some .int) :: WG) { frames := 0, cells := 0, slots := 0, locals := 0 } (va_Pc [.int x, .int (nI n)] (fun U => U.heap = Hs ∧ xE D y U)) (xQ (fun v H1 => (∃ k, k < n ∧ v = some (.int (nI k))) ∧ Hs = H1) A) 0 0 A := by
  refine xM_goK (by decide) (Nat.le_of_ble_eq_true rfl) (fun U h => h.1) (fun p e s m args below meth c ls R Q hx hb hr hlocks hml hown hts hK hnm hRf hRl hRc hRs hQ hS hl => ?_)
  have hRf : R.frames = 0 := hRf
  have hRl : R.locals = 0 := hRl
  have hRc : R.cells = 0 := hRc
  have hRs : R.slots = 0 := hRs
  have hl : lv_has ls 2 [(0, .int x), (1, .int (nI n))] := hl
  obtain ⟨hH, hE⟩ := hK
  refine lv_iload_n hx hb dL_below_0 rfl (lv_at hl 0 rfl) ?_
  refine lv_ldc hx hb hown (hts _ q_435) dL_below_1 ?_
  refine lv_iand hx hb dL_below_3 ?_
  obtain ⟨j, hj, ej⟩ := pk_andE x (m := 2147483647) 31 (by decide)
  refine xt_i ej ?_
  refine lv_iload_n hx hb dL_below_4 rfl (lv_at hl 1 rfl) ?_
  refine lv_irem hx hb dL_below_5 (fun h => absurd ((nI_eq (by omega) (by decide)).mp (show nI n = nI 0 from h)) (by omega)) ?_
  refine xt_i (pk_rem (by omega) hn0 (by omega)) ?_
  exact xe_iret hQ hx hb hr hlocks hH hS (Nat.le_refl _) (Nat.le_refl _) ⟨⟨j % n, Nat.mod_lt _ hn0, rfl⟩, rfl⟩ dL_below_6
set_option maxHeartbeats 4000000 in
set_option maxRecDepth 100000 in
theorem c_L_cell (l : Launch) {D : va_G} {y : Nat → ClassId} {A : Nat → Prop} {Hs : Heap} {b L : Nat} {xs : Nat → Int32} {k : Nat} (hL : L ≤ 1000) (hk : k < 1000) (hbl : b < Hs.size) (hbA : ¬ A b) : Met l yL_cell (.code yL_cell cL_cell 2 (some .int) :: WG) { frames := 0, cells := 0, slots := 0, locals := 0 } (va_Pc [.ref b, .int (nI k)] (xKs D y b L xs Hs)) (xQ (fun v H1 => (∃ x : Int32, v = some (.int x)) ∧ Hs = H1) A) 0 0 A := by
  refine xM_goK (by decide) (Nat.le_of_ble_eq_true rfl) (fun U h => h.1) (fun p e s m args below meth c ls R Q hx hb hr hlocks hml hown hts hK hnm hRf hRl hRc hRs hQ hS hl => ?_)
  have hRf : R.frames = 0 := hRf
  have hRl : R.locals = 0 := hRl
  have hRc : R.cells = 0 := hRc
  have hRs : R.slots = 0 := hRs
  have hl : lv_has ls 2 [(0, .ref b), (1, .int (nI k))] := hl
  obtain ⟨hH, hE, hX⟩ := hK
  refine lv_iload_n hx hb dL_cell_0 rfl (lv_at hl 1 rfl) ?_
  refine lv_aload_n hx hb dL_cell_1 rfl (lv_at hl 0 rfl) ?_
  refine va_slen hx hb hX hbl hbA hS dL_cell_2 ?_
  refine lv_icmp_ge (tgt := 12) hx hb dL_cell_3 (by decide) (fun c3 => ?_) (fun c3 => ?_)
  · refine lv_ldc hx hb hown (hts _ q_439) dL_cell_12 ?_
    refine lv_iload_n hx hb dL_cell_14 rfl (lv_at hl 1 rfl) ?_
    refine lv_iconst (v := nI 3) hx hb dL_cell_15 (by decide) ?_
    refine lv_iadd hx hb dL_cell_16 ?_
    refine lv_imul hx hb dL_cell_17 ?_
    exact xe_iret hQ hx hb hr hlocks hH hS (Nat.le_refl _) (Nat.le_refl _) ⟨⟨_, rfl⟩, rfl⟩ dL_cell_18
  · have c3 := ni_nle (by omega) (by omega) c3
    refine lv_aload_n hx hb dL_cell_6 rfl (lv_at hl 0 rfl) ?_
    refine lv_iload_n hx hb dL_cell_7 rfl (lv_at hl 1 rfl) ?_
    refine va_sld hx hb hX hbl hbA hS (vp_in_nI c3 (by omega)) dL_cell_8 ?_
    refine lv_goto (tgt := 18) hx hb dL_cell_9 (by decide) ?_
    exact xe_iret hQ hx hb hr hlocks hH hS (Nat.le_refl _) (Nat.le_refl _) ⟨⟨_, rfl⟩, rfl⟩ dL_cell_18
set_option maxHeartbeats 4000000 in
set_option maxRecDepth 100000 in
theorem c_X4_more (l : Launch) {D : va_G} {y : Nat → ClassId} {A : Nat → Prop} {Hs : Heap} {ad0 : xL → Nat} {ct : xL → Option va_E} {lab : xL} {n : Nat} {f : Nat → Int32} {x : Int32} (hP : xW D A ad0 ct Hs) (he : ct lab = some (.inl (y 0, n, .inl f))) (hne : lab ≠ (39, 0)) (hn : n < 40) : Met l yX4_more (.code yX4_more cX4_more 4 (some (.array .int)) :: WG) { frames := 0, cells := 1, slots := 40, locals := 0 } (va_Pc [.ref (ad0 lab), .int x] (fun U => U.heap = Hs ∧ xE D y U)) (xQ (fun v H1 => ∃ q, v = some (.ref q) ∧ xW D A (ad_up ad0 (39, 0) q) (aw_up ct (39, 0) (.inl (y 0, n + 1, .inl (fun j => if j < n then f j else x)))) H1) A) 1 40 A := by
  refine xM_goK (by decide) (Nat.le_of_ble_eq_true rfl) (fun U h => h.1) (fun p e s m args below meth c ls R Q hx hb hr hlocks hml hown hts hK hnm hRf hRl hRc hRs hQ hS hl => ?_)
  have hRf : R.frames = 0 := hRf
  have hRl : R.locals = 0 := hRl
  have hRc : R.cells = 1 := hRc
  have hRs : R.slots = 40 := hRs
  have hl : lv_has ls 4 [(0, .ref (ad0 lab)), (1, .int x)] := hl
  obtain ⟨hH, hE⟩ := hK
  refine lv_aload_n hx hb dX4_more_0 rfl (lv_at hl 0 rfl) ?_
  refine xw_ialen hx hb hE hP lab he dX4_more_1 ?_
  refine lv_iconst (v := nI 1) hx hb dX4_more_2 (by decide) ?_
  refine lv_iadd hx hb dX4_more_3 ?_
  refine xt_i (nI_add n 1) ?_
  refine xw_newA hx hb (atype := .int) (ty := .int) (t := 0) (N := n + 1) (a0 := (n + 1, .inl (fun _ => nI 0))) hts q_100 rfl rfl (fun _ => by rw [vp_cell_i]; rfl) hE hP hS (by omega) (by show (n + 1) * 4 ≤ _; omega) (by rw [hRc]; omega) (by rw [hRs]; omega) dX4_more_4 (39, 0) (fun q9 H hP hS => ?_)
  obtain ⟨ad, had⟩ : ∃ ad, ad = ad_up ad0 (39, 0) q9 := ⟨_, rfl⟩
  rw [← had] at hP
  have hq : ad (39, 0) = q9 := by rw [had, ad_up_self]
  have hlb : ad lab = ad0 lab := by rw [had, ad_up_ne hne]
  rw [← hlb] at hl
  rw [← hq]
  have hel : ∀ g : Nat → Int32, (aw_up ct (39, 0) (.inl (y 0, n + 1, .inl (g)))) lab = some (.inl (y 0, n, .inl f)) := fun g => (aw_up_ne hne).trans he
  refine lv_astore_n (lv' := [(2, .ref (ad (39, 0))), (0, .ref (ad lab)), (1, .int x)]) hx hb dX4_more_6 rfl hl (by decide) rfl (fun ls hl => ?_)
  refine lv_iconst (v := nI 0) hx hb dX4_more_7 (by decide) ?_
  refine lv_istore_n (lv' := [(3, .int (nI 0)), (2, .ref (ad (39, 0))), (0, .ref (ad lab)), (1, .int x)]) hx hb dX4_more_8 rfl hl (by decide) rfl (fun ls hl => ?_)
  have K9 : ∀ (nn : Nat), ∀ (k : Nat) (g : Nat → Int32), k ≤ n → (∀ j, j < k → g j = f j) → n - k < nn → ∀ (H : Heap) (locs : List Loc) (ls : Array Slot), xW D A ad (aw_up ct (39, 0) (.inl (y 0, n + 1, .inl (g)))) H → va_S A Hs H locs → lv_has ls 4 [(3, .int (nI k)), (2, .ref (ad (39, 0))), (0, .ref (ad lab)), (1, .int x)] → W p l e R s m args below meth c H locs (0 + 1) (0 + (n + 1)) Q (F0 m 9 ls []) := by
    intro nn
    induction nn with
    | zero => intro k g hk hg h; exact absurd h (Nat.not_lt_zero _)
    | succ nn ih =>
      intro k g hk hg hnn H locs ls hP hS hl
      refine lv_iload_n hx hb dX4_more_9 rfl (lv_at hl 0 rfl) ?_
      refine lv_aload_n hx hb dX4_more_10 rfl (lv_at hl 2 rfl) ?_
      refine xw_ialen hx hb hE hP lab (hel g) dX4_more_11 ?_
      refine lv_icmp_ge (tgt := 27) hx hb dX4_more_12 (by decide) (fun c12 => ?_) (fun c12 => ?_)
      · have c12 := ni_le (a := n) (b := k) (by omega) (by omega) c12
        have ek : k = n := by omega
        subst ek
        refine lv_aload_n hx hb dX4_more_27 rfl (lv_at hl 1 rfl) ?_
        refine lv_aload_n hx hb dX4_more_28 rfl (lv_at hl 2 rfl) ?_
        refine xw_ialen hx hb hE hP lab (hel g) dX4_more_29 ?_
        refine lv_iload_n hx hb dX4_more_30 rfl (lv_at hl 3 rfl) ?_
        refine xw_iast hx hb hE hP hS (39, 0) aw_up_self (i := k) (by omega) (by omega) dX4_more_31 (fun H locs hP hS => ?_)
        have hP := hP.ct aw_up_up
        refine lv_aload_n hx hb dX4_more_32 rfl (lv_at hl 1 rfl) ?_
        refine xe_aret hQ hx hb hr (Or.inr ⟨_, rfl⟩) hlocks hH hS (by omega) (by omega) ⟨ad (39, 0), rfl, ?_⟩ dX4_more_33
        rw [hq, ← had]
        refine hP.eqv (fun h => xW_i (fun j hj => ?_) h)
        by_cases e : j = k
        · subst e
          rw [pk_us, if_neg (Nat.lt_irrefl _)]
        · rw [pk_un e, if_pos (by omega), hg j (by omega)]
      · have c12 := ni_nle (a := n) (b := k) (by omega) (by omega) c12
        refine lv_aload_n hx hb dX4_more_15 rfl (lv_at hl 1 rfl) ?_
        refine lv_iload_n hx hb dX4_more_16 rfl (lv_at hl 0 rfl) ?_
        refine lv_aload_n hx hb dX4_more_17 rfl (lv_at hl 2 rfl) ?_
        refine lv_iload_n hx hb dX4_more_18 rfl (lv_at hl 0 rfl) ?_
        refine xw_iald hx hb hE hP lab (hel g) (i := k) (by omega) (by omega) dX4_more_19 ?_
        refine xw_iast hx hb hE hP hS (39, 0) aw_up_self (i := k) (by omega) (by omega) dX4_more_20 (fun H locs hP hS => ?_)
        have hP := hP.ct aw_up_up
        refine lv_iinc (v := nI (k + 1)) (lv' := [(3, .int (nI (k + 1))), (2, .ref (ad (39, 0))), (0, .ref (ad lab)), (1, .int x)]) hx hb dX4_more_21 hl (k := 0) rfl (nI_1 _) (by decide) rfl (fun ls hl => ?_)
        refine lv_goto (tgt := 9) hx hb dX4_more_24 (by decide) ?_
        refine ih (k + 1) _ (by omega) (fun j hj => ?_) (by omega) _ _ _ hP hS hl
        by_cases e : j = k
        · subst e; exact pk_us
        · rw [pk_un e, hg j (by omega)]
  exact K9 _ 0 _ (by omega) (fun j hj => absurd hj (Nat.not_lt_zero _)) (Nat.lt_succ_self _) _ _ _ hP hS hl
set_option maxHeartbeats 4000000 in
set_option maxRecDepth 100000 in
theorem c_X4_init (l : Launch) {D : va_G} {y : Nat → ClassId} {A : Nat → Prop} {Hs : Heap} {ad0 : xL → Nat} {ct : xL → Option va_E} {h0 : Nat} (hP : xW D A ad0 ct Hs) (he : ct (20, 0) = some (.inr (5, [.null, .null]))) (hO : ad0 (20, 0) = h0) : Met l yX4_init (.code yX4_init cX4_init 1 none :: WG) { frames := 1, cells := 2, slots := 0, locals := 12 } (va_Pc [.ref h0] (xKh D y Hs)) (xQ (fun v H1 => v = none ∧ ∃ q1 q2, xW D A (ad_up (ad_up ad0 (21, 0) q1) (22, 0) q2) (aw_up (aw_up (aw_up ct (21, 0) (.inl (y 0, 0, .inl (fun _ => nI 0)))) (22, 0) (.inl (y 3, 0, xr (fun _ => none)))) (20, 0) (.inr (5, [.ref q1, .ref q2]))) H1) A) 2 0 A := by
  refine xM_goK (by decide) (Nat.le_of_ble_eq_true rfl) (fun U h => h.1) (fun p e s m args below meth c ls R Q hx hb hr hlocks hml hown hts hK hnm hRf hRl hRc hRs hQ hS hl => ?_)
  have hRf : R.frames = 1 := hRf
  have hRl : R.locals = 12 := hRl
  have hRc : R.cells = 2 := hRc
  have hRs : R.slots = 0 := hRs
  have hl : lv_has ls 1 [(0, .ref h0)] := hl
  obtain ⟨hH, hE, hHd⟩ := hK
  refine lv_aload_n hx hb dX4_init_0 rfl (lv_at hl 0 rfl) ?_
  refine W.objInit hx hb hown (hts _ q_448) (hts _ q_48) (hts _ q_49) rfl (by rw [hml]; exact hl.1) rfl dX4_init_1 (by rw [hRf]; decide) (by rw [hRl]; exact Nat.le_of_ble_eq_true rfl) ?_
  have hP := hP.ct (aw_same he).symm
  refine lv_aload_n hx hb dX4_init_4 rfl (lv_at hl 0 rfl) ?_
  refine lv_iconst (v := nI 0) hx hb dX4_init_5 (by decide) ?_
  refine xw_newB hx hb (atype := .int) (ty := .int) (t := 0) (N := 0) (a0 := (0, .inl (fun _ => nI 0))) hts q_100 rfl rfl (fun _ => by rw [vp_cell_i]; rfl) hE hP hS hO (by decide) (by decide) (by rw [hRc]; decide) (by rw [hRs]; decide) dX4_init_6 (21, 0) (by decide) (fun q1 H hP hS hO => ?_)
  refine xw_puta hx hb hts hown hE (20, 0) (e0 := .inr (5, [.ref q1, .null])) hP hS hO iw_X4 tyX4 tyX4_ok nmX4 rfl 0 (by decide) q_451 (fun x h => h) rfl (ty := .array .int) rfl rfl rfl (Nat.le_of_ble_eq_true rfl) rfl dX4_init_8 (fun H locs hP hS => ?_)
  refine lv_aload_n hx hb dX4_init_11 rfl (lv_at hl 0 rfl) ?_
  refine lv_iconst (v := nI 0) hx hb dX4_init_12 (by decide) ?_
  refine xw_anewI hx hb hts hown q_449 hHd.1 hE hP hS (N := 0) (by decide) (by rw [hRc]; decide) (by rw [hRs]; decide) dX4_init_13 (22, 0) (fun q2 H hP hS => ?_)
  have hP := hP.ct (aw_comm (by decide))
  have hO := (ad_up_ne (ad := ad_up ad0 (21, 0) q1) (q := q2) (show ((20, 0) : xL) ≠ (22, 0) by decide)).trans hO
  refine xw_puta hx hb hts hown hE (20, 0) (e0 := .inr (5, [.ref q1, .ref q2])) hP hS hO iw_X4 tyX4 tyX4_ok nmX4 rfl 1 (by decide) q_453 (fun x h => h) rfl (ty := .array (.array .int)) rfl rfl rfl (Nat.le_of_ble_eq_true rfl) rfl dX4_init_16 (fun H locs hP hS => ?_)
  exact xe_vret hQ hx hb hr hlocks hH hS (by decide) (by decide) ⟨rfl, q1, q2, hP⟩ dX4_init_19
