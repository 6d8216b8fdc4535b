/-! methods that return or throw -/
def XNB : List Cond := [.castable "java/lang/IllegalStateException" "java/lang/IllegalStateException", .castable "java/lang/IllegalArgumentException" "java/lang/IllegalArgumentException", .castable "java/lang/IndexOutOfBoundsException" "java/lang/IndexOutOfBoundsException", .declares ⟨"java/lang/RuntimeException", "<init>", "()V"⟩, .declares ⟨"java/lang/RuntimeException", "<init>", "(Ljava/lang/String;)V"⟩, .declares ⟨"java/lang/Exception", "<init>", "()V"⟩, .declares ⟨"java/lang/Exception", "<init>", "(Ljava/lang/String;)V"⟩, .declares ⟨"java/lang/Throwable", "<init>", "()V"⟩, .declares ⟨"java/lang/Throwable", "<init>", "(Ljava/lang/String;)V"⟩]
def XST : List (Nat × String) := [(36, "there are 8 nodes"), (209, "there is no such node"), (54, "the potential of a rail is -99 to 99"), (69, "an element goes to another node"), (215, "the size is not one of such an element"), (75, "there are 20 elements"), (211, "there is no such element"), (93, "the time of a toggle is 1 to 999"), (108, "the element has 6 toggles"), (213, "a time is 0 to 999"), (217, "the node floats"), (166, "the node is no rail"), (172, "the nodes do not hang together"), (188, "the last time is before the first one"), (194, "the fraction is -500 to 500 by 1 to 500")]
def xNB (w : Cond) : Bool := match w with
  | .castable _ _ => true
  | .declares _ => true
  | _ => false
theorem XNB_all : ∀ w ∈ XNB, xNB w = true := by decide +kernel
theorem xNB_warm {w : Cond} {s U : State} (hb : xNB w = true) (hW : s.WarmedH U.vm) (h : va_Nw w s) : va_Nw w U := by
  cases w with
  | castable a b => exact va_Nw.warmC hW h
  | declares x => exact va_Nw.warmD hW h
  | _ => cases hb
theorem xNB_same {w : Cond} {s U : State} (hb : xNB w = true) (hv : s.vm = U.vm) (h : va_Nw w s) : va_Nw w U := by
  cases w with
  | castable a b => exact va_Nw.same rfl hv h
  | declares x => exact va_Nw.same rfl hv h
  | _ => cases hb
def xF (A : Nat → Prop) (U : State) (H : Heap) : Prop := (∀ w ∈ XNB, va_Nw w U) ∧ vx_Zq Bundle.tN "UNASSIGNED_STACK" Bundle.steD A U H ∧ vx_Zq Bundle.tN "SUPPRESSED_SENTINEL" Bundle.listD A U H ∧ ∀ q ∈ XST, ∃ sa, vk_R "NetlistBench" q.1 q.2 sa U
theorem xF.warm {A : Nat → Prop} {s U : State} {H H1 : Heap} (hW : s.WarmedH U.vm) (hk : ∀ a : Nat, a < H.size → ¬ A a → H1[a]? = H[a]?) (h : xF A s H) : xF A U H1 :=
  ⟨fun w hw => xNB_warm (XNB_all w hw) hW (h.1 w hw), (h.2.1.kept hk).moved hW.alike, (h.2.2.1.kept hk).moved hW.alike, fun q hq => by
    obtain ⟨sa, hs⟩ := h.2.2.2 q hq
    exact ⟨sa, hs.warm hW⟩⟩
theorem xF.same {A : Nat → Prop} {s U : State} {H : Heap} (hv : s.vm = U.vm) (h : xF A s H) : xF A U H :=
  ⟨fun w hw => xNB_same (XNB_all w hw) hv (h.1 w hw), h.2.1.moved (by rw [hv]; exact Vm.Alike.refl U.vm), h.2.2.1.moved (by rw [hv]; exact Vm.Alike.refl U.vm), fun q hq => by
    obtain ⟨sa, hs⟩ := h.2.2.2 q hq
    exact ⟨sa, hs.same hv.symm⟩⟩
def xPcX (av : List Value) (D : va_G) (y : Nat → ClassId) (A : Nat → Prop) (H : Heap) : Array Value → State → Prop := va_Pc av (fun U => U.heap = H ∧ xE D y U ∧ xF A U H)
def xX (pX : String → Heap → Prop) (A : Nat → Prop) : String → State → State → Prop := fun E st t => pX E t.heap ∧ va_F A st t
theorem xPcX_blind {av : List Value} {D : va_G} {y : Nat → ClassId} {A : Nat → Prop} {H : Heap} : FrameBlind (xPcX av D y A H) := fun a U g mk q => ⟨q.1, q.2.1, q.2.2.1.same rfl, q.2.2.2.same (show U.vm = (U.calling g mk a).vm from rfl)⟩
theorem xM_goX {l : Launch} {x : MethodName} {cc : ByteArray} {maxL : Nat} {ret : Option FieldType} {rm : Room} {av : List Value} {D : va_G} {y : Nat → ClassId} {H : Heap} {post : Option Value → Heap → Prop} {pX : String → Heap → Prop} {A : Nat → Prop} {mc ms : Nat}
    (hy : plainName x.cls = true) (hlen : (lg_sl av).length ≤ maxL)
    (body : ∀ (p : Program) (e : Env) (s : State) (m : MethodId) (args : Array Value) (below : List Frame) (meth : Method) (c : Code) (ls : Array Slot) (R : Room) (Q : State → Prop), p.tables.exec = Jvm.exec → c.code = cc → meth.sig.returnType = ret → meth.locks = false → c.maxLocals = maxL → s.vm.findClass x.cls = some m.cls → (∀ w ∈ WG, w.before args s = true) → s.heap = H → xE D y s → meth.name = x.name → R.frames = rm.frames → R.locals = rm.locals → R.cells = rm.cells → R.slots = rm.slots → Q = vx_MQ below (xQ post A) (xX pX A) args s mc ms A → va_S A H H [] → lv_has ls maxL (lv_args 0 av) → xF A s H → (∀ z ∈ c.exceptionTable.toList, False) →
      W p l e R s m args below meth c H [] 0 0 Q (F0 m 0 ls [])) : vx_Met l x (.code x cc maxL ret :: WG) rm (xPcX av D y A H) (xQ post A) (xX pX A) mc ms A := by
  refine vx_ofW (cc := cc) (maxL := maxL) (ret := ret) hy rfl ?_
  intro p e s m args below meth c s₁ B hml htab hv
  obtain ⟨rfl, hH, hE, hF⟩ := hv
  have hts := atoms_spec (ws := .code x cc maxL ret :: WG) B.pre
  have hl := lv_entry av (n := maxL) hlen
  rw [lg_entry_eq]
  have hb := body p e s m av.toArray below meth c _ rm _ B.exec B.bytes B.returns B.notSynchronized hml (findClass_of_methodNamed B.named) (fun w h => hts w (List.mem_cons_of_mem _ h)) hH hE (name_of_methodNamed B.named B.method).1 rfl rfl rfl rfl rfl va_S.rf hl hF htab
  rw [hH]
  exact hb
theorem xW.kept {D : va_G} {A : Nat → Prop} {ad : xL → Nat} {ct : xL → Option va_E} {H H1 : Heap} (h : xW D A ad ct H) (z : H.size ≤ H1.size) (hk : ∀ q : Nat, q < H.size → H1[q]? = H[q]?) : xW D A ad ct H1 :=
  ⟨fun k e hk2 => (h.1 k e hk2).kept (hk _ (h.lt hk2)), h.2.1, fun q hq => h.2.2 q (Nat.le_trans z hq)⟩
theorem xB.kept {D : va_G} {A : Nat → Prop} {y : Nat → ClassId} {ad : xL → Nat} {bl : xM} {z : xC} {fR fO : Nat → Nat → Option va_E} {H H1 : Heap} (h : xB D A y ad bl z fR fO H) (zz : H.size ≤ H1.size) (hk : ∀ q : Nat, q < H.size → H1[q]? = H[q]?) : xB D A y ad bl z fR fO H1 := by
  obtain ⟨g, pl, kn, rw, mi, un, h⟩ := h
  exact ⟨g, pl, kn, rw, mi, un, h.kept zz hk⟩
def nmE : List String := ["java/lang/RuntimeException", "java/lang/Exception"]
theorem xa_ISE : ∀ w ∈ (vx_atS "NetlistBench" 38 "java/lang/IllegalStateException" nmE).filter goodWord, w ∈ lw_tbl := by decide +kernel
theorem xa_IAE : ∀ w ∈ (vx_atS "NetlistBench" 56 "java/lang/IllegalArgumentException" nmE).filter goodWord, w ∈ lw_tbl := by decide +kernel
theorem xa_IOB : ∀ w ∈ (vx_atS "NetlistBench" 114 "java/lang/IndexOutOfBoundsException" nmE).filter goodWord, w ∈ lw_tbl := by decide +kernel
theorem xb_ISE : ∀ w ∈ (vx_atS "NetlistBench" 38 "java/lang/IllegalStateException" nmE).filter (fun w => !goodWord w), w ∈ XNB := by decide +kernel
theorem xb_IAE : ∀ w ∈ (vx_atS "NetlistBench" 56 "java/lang/IllegalArgumentException" nmE).filter (fun w => !goodWord w), w ∈ XNB := by decide +kernel
theorem xb_IOB : ∀ w ∈ (vx_atS "NetlistBench" 114 "java/lang/IndexOutOfBoundsException" nmE).filter (fun w => !goodWord w), w ∈ XNB := by decide +kernel
def xThr (cls : String) (ik ic : Nat) : Prop := Bundle.fit cls = true ∧ Cond.classLink "NetlistBench" ik cls ∈ WG ∧ Cond.initialized cls ∈ WG ∧ (∀ w ∈ (vx_atS "NetlistBench" ic cls nmE).filter goodWord, w ∈ lw_tbl) ∧ (∀ w ∈ (vx_atS "NetlistBench" ic cls nmE).filter (fun w => !goodWord w), w ∈ XNB) ∧ ∀ w ∈ Cond.classLink "NetlistBench" ik cls :: Cond.initialized cls :: vx_atS "NetlistBench" ic cls nmE, vx_ot w = true
theorem xt_ISE : xThr "java/lang/IllegalStateException" 34 38 := ⟨by decide +kernel, q_271, q_30, xa_ISE, xb_ISE, by decide +kernel⟩
theorem xt_IAE : xThr "java/lang/IllegalArgumentException" 52 56 := ⟨by decide +kernel, q_213, q_37, xa_IAE, xb_IAE, by decide +kernel⟩
theorem xt_IOB : xThr "java/lang/IndexOutOfBoundsException" 110 114 := ⟨by decide +kernel, q_127, q_36, xa_IOB, xb_IOB, by decide +kernel⟩
section XY
variable {p : Program} {l : Launch} {e : Env} {R : Room} {s : State} {m : MethodId} {args : Array Value} {below : List Frame} {meth : Method} {c : Code} {H H0 : Heap} {locs : List Loc} {cells slots mc ms : Nat} {Q : State → Prop}
variable {cc : ByteArray} {pc : Nat} {ls : Array Slot} {rest : List Value} {D : va_G} {y : Nat → ClassId} {A : Nat → Prop} {post : Option Value → Heap → Prop} {pX : String → Heap → Prop}
theorem xw_throw {cls text : String} {ik is ic : Nat} (ht : xThr cls ik ic) (hQ : Q = vx_MQ below (xQ post A) (xX pX A) args s mc ms A) (hexec : p.tables.exec = Jvm.exec) (hb : c.code = cc) (hls : l.stackTraces = false) (hown : s.vm.findClass "NetlistBench" = some m.cls) (hts : ∀ w ∈ WG, w.before args s = true) (hlocks : meth.locks = false) (hH : s.heap = H0) (hF : xF A s H0) (hS : va_S A H0 H locs) (htab : ∀ z ∈ c.exceptionTable.toList, False) (hsize : ls.size = c.maxLocals) (hst : (is, text) ∈ XST)
    (d0 : decode cc pc = .ok (.new ik, 3)) (d3 : decode cc (pc + 3) = .ok (.dup, 1)) (d4 : decode cc (pc + 4) = .ok (.ldc is, 2)) (d6 : decode cc (pc + 6) = .ok (.invokespecial ic, 3)) (d9 : decode cc (pc + 9) = .ok (.athrow, 1))
    (hR1 : 5 < R.frames) (hR2 : (rest.map fun v => v.category).sum + 82 ≤ R.locals) (hR3 : cells + 1 ≤ R.cells) (hR4 : slots + 6 ≤ R.slots) (hc : cells + 1 ≤ mc) (hs : slots + 6 ≤ ms)
    (hp : ∀ H1 : Heap, H.size ≤ H1.size → (∀ q : Nat, q < H.size → H1[q]? = H[q]?) → pX cls H1) : W p l e R s m args below meth c H locs cells slots Q (F0 m pc ls rest) := by
  obtain ⟨h1, h2, h3, h4, h5, h6⟩ := ht
  obtain ⟨sa, hsa⟩ := hF.2.2.2 _ hst
  subst hH
  rw [hQ]
  refine vx_throwS (names := nmE) hexec hb hls hown h1 (by decide +kernel) (hts _ h2) (hts _ h3) hsa ?_ h6 hF.2.1 hF.2.2.1 hS hsize d0 d3 d4 d6 d9 (fun x hx => (htab x hx).elim) hR1 hR2 hR3 hR4 hlocks ?_ hS.2.2 hc hs
  · exact vx_hat (B := XNB) (fun w hw => hts w (List.mem_filter.mpr ⟨h4 w hw, (List.mem_filter.mp hw).2⟩)) h5 (fun w hw => va_Nw.use (by have := XNB_all w hw; cases w <;> first | rfl | cases this) (hF.1 w hw))
  · intro t hvm z hk
    exact ⟨hp t.heap z hk, Nat.le_trans hS.1 z, fun q g1 g2 => by rw [hk q (Nat.lt_of_lt_of_le g1 hS.1)]; exact hS.2.1 q g1 g2⟩
theorem xx_iret {v : Int32} (hQ : Q = vx_MQ below (xQ post A) (xX pX A) args s mc ms A) (hexec : p.tables.exec = Jvm.exec) (hb : c.code = cc) (hr : meth.sig.returnType = some .int) (hlocks : meth.locks = false) (hH : s.heap = H0) (hS : va_S A H0 H locs) (h1 : cells ≤ mc) (h2 : slots ≤ ms) (hp : post (some (.int v)) H) (hdg : decode cc pc = .ok (.ireturn, 1)) : W p l e R s m args below meth c H locs cells slots Q (F0 m pc ls [.int v]) := by
  rw [hQ]; exact vx_ret (xw_iret hexec hb hr hlocks hH hS h1 h2 hp hdg)
theorem xx_zret {v : Int32} (hQ : Q = vx_MQ below (xQ post A) (xX pX A) args s mc ms A) (hexec : p.tables.exec = Jvm.exec) (hb : c.code = cc) (hr : meth.sig.returnType = some .boolean) (hlocks : meth.locks = false) (hH : s.heap = H0) (hS : va_S A H0 H locs) (hz : v = 0 ∨ v = 1) (h1 : cells ≤ mc) (h2 : slots ≤ ms) (hp : post (some (.int v)) H) (hdg : decode cc pc = .ok (.ireturn, 1)) : W p l e R s m args below meth c H locs cells slots Q (F0 m pc ls [.int v]) := by
  rw [hQ]; exact vx_ret (xw_zret hexec hb hr hlocks hH hS (by rcases hz with h | h <;> subst h <;> rfl) h1 h2 hp hdg)
theorem xx_lret {v : Int64} (hQ : Q = vx_MQ below (xQ post A) (xX pX A) args s mc ms A) (hexec : p.tables.exec = Jvm.exec) (hb : c.code = cc) (hr : meth.sig.returnType = some .long) (hlocks : meth.locks = false) (hH : s.heap = H0) (hS : va_S A H0 H locs) (h1 : cells ≤ mc) (h2 : slots ≤ ms) (hp : post (some (.long v)) H) (hdg : decode cc pc = .ok (.lreturn, 1)) : W p l e R s m args below meth c H locs cells slots Q (F0 m pc ls [.long v]) := by
  rw [hQ]; exact vx_ret (xw_lret hexec hb hr hlocks hH hS h1 h2 hp hdg)
theorem xx_vret (hQ : Q = vx_MQ below (xQ post A) (xX pX A) args s mc ms A) (hexec : p.tables.exec = Jvm.exec) (hb : c.code = cc) (hr : meth.sig.returnType = none) (hlocks : meth.locks = false) (hH : s.heap = H0) (hS : va_S A H0 H locs) (h1 : cells ≤ mc) (h2 : slots ≤ ms) (hp : post none H) (hdg : decode cc pc = .ok (.return_, 1)) : W p l e R s m args below meth c H locs cells slots Q (F0 m pc ls []) := by
  rw [hQ]; exact vx_ret (xw_vret hexec hb hr hlocks hH hS h1 h2 hp hdg)
theorem xF_pre {av : List Value} {Hx : Heap} (hE : xE D y s) (hF : xF A s H0) (hS : va_S A H0 Hx locs) : ∀ U : State, U.heap = Hx → s.WarmedH U.vm → xPcX av D y A Hx av.toArray U := fun U hU hW => ⟨rfl, hU, hE.moved hW, hF.warm hW hS.2.1⟩
theorem xx_go {a : Array Value} {st0 : List Value} (hr : vx_Run p l e R s m args below meth c H locs cells slots mc ms (F0 m pc ls st0) rest (xQ post A a) (xX pX A) A) (hS : va_S A H0 H locs)
    (kx : ∀ (E : String) (ce : Cell) (q9 : Addr) (H1 : Heap) (locs1 : List Loc), pX E H1 → va_S A H0 H1 locs1 → H1[q9]? = some ce → ce.vm = .none → s.vm.findClass E = some ce.cls → vx_W p l e R s m args below meth c H1 locs1 (cells + mc) (slots + ms) Q (F0 m pc ls rest) q9)
    (kk : ∀ (v : Option Value) (H1 : Heap) (locs1 : List Loc), post v H1 → va_S A H0 H1 locs1 → W p l e R s m args below meth c H1 locs1 (cells + mc) (slots + ms) Q (F0 m (pc + 3) ls (v.toList ++ rest))) : W p l e R s m args below meth c H locs cells slots Q (F0 m pc ls st0) := by
  intro T hT X
  rcases hr T hT X with ⟨v, st₀, t, T', L, h0, X', hL, e1, e2, ⟨⟨r, hv, hp⟩, hF⟩, st⟩ | ⟨q, st₀, t, T', L, E, ce, h0, X', hL, e1, e2, ⟨hp, hF⟩, hce, hcv, hcl, st⟩
  · cases hv
    obtain ⟨k1, k2, k3⟩ := vx_keep h0 e1 hS (fun _ _ h => h) (fun _ h => h) hL hF
    obtain ⟨t2, a1, b1⟩ := kk v T'.heap (locs ++ L) (by rw [e1]; exact hp) k3 T' rfl X'
    exact ⟨t2, st t2 a1, b1⟩
  · obtain ⟨k1, k2, k3⟩ := vx_keep h0 e1 hS (fun _ _ h => h) (fun _ h => h) hL hF
    obtain ⟨t2, a1, b1⟩ := kx E ce q T'.heap (locs ++ L) (by rw [e1]; exact hp) k3 (by rw [e1]; exact hce) hcv hcl T' rfl X'
    exact ⟨t2, st.trans a1, b1⟩
/-- thrown on to the caller -/
theorem xx_out {E : String} {ce : Cell} {q9 : Addr} (hQ : Q = vx_MQ below (xQ post A) (xX pX A) args s mc ms A) (htab : ∀ z ∈ c.exceptionTable.toList, False) (hlocks : meth.locks = false) (hH : s.heap = H0) (hS : va_S A H0 H locs) (hce : H[q9]? = some ce) (hcv : ce.vm = .none) (hcl : s.vm.findClass E = some ce.cls) (hc : cells ≤ mc) (hs : slots ≤ ms) (hp : pX E H) : vx_W p l e R s m args below meth c H locs cells slots Q (F0 m pc ls rest) q9 := by
  rw [hQ]
  exact vx_out (fun x hx => (htab x hx).elim) hlocks hce hcv hcl (fun t ht _ => ⟨by rw [ht]; exact hp, by rw [ht, hH]; exact hS.1, fun q h1 h2 => by rw [ht, hH]; rw [hH] at h1; exact hS.2.1 q h1 h2⟩) hS.2.2 hc hs
theorem xx_callV {own C : String} {index maxL nL n mc' ms' : Nat} {x : MethodName} {bytes : ByteArray} {ret : Option FieldType} {rm : Room} {b : Addr} {st0 : List Value} (As : List Value) (hM : vx_Met l x (.code x bytes maxL ret :: WG) rm (xPcX (.ref b :: As) D y A H) (xQ post A) (xX pX A) mc' ms' A) (hexec : p.tables.exec = Jvm.exec) (hb : c.code = cc) (hml : c.maxLocals = nL) (hown : s.vm.findClass own = some m.cls) (hts : ∀ w ∈ WG, w.before args s = true) (hE : xE D y s) (hF : xF A s H0) (hS : va_S A H0 H locs) (hrecv : ∃ cellB : Cell, H[b]? = some cellB ∧ cellB.vm.isStatics = false ∧ s.vm.findClass C = some cellB.cls)
    (hrc : rm.cells = mc') (hrs : rm.slots = ms') (hini : Cond.initialized x.cls ∈ WG) (hl : Cond.methodLink own index x ∈ WG) (hcode : Cond.code x bytes maxL ret ∈ WG) (hin : Cond.instanceMethod x ∈ WG) (hsel : Cond.selects C x x ∈ WG) (hd : x.cls ≠ "java/lang/invoke/MethodHandle" ∧ x.cls ≠ "java/lang/invoke/VarHandle" ∧ (parseMethodDescriptor x.desc).map (fun d => d.parameters.length) = some n) (hn : As.length = n) (hR : rm.frames + 1 ≤ R.frames ∧ 8 + (maxL + 11) + rm.locals ≤ R.locals)
    (hsize : ls.size = nL) (hstack : st0 = As.reverse ++ .ref b :: rest) (hW : (rest.map fun v => v.category).sum ≤ 8) (hdg : decode cc pc = .ok (.invokevirtual index, 3)) (hf : cells + mc' ≤ R.cells ∧ slots + ms' ≤ R.slots)
    (kx : ∀ (E : String) (ce : Cell) (q9 : Addr) (H1 : Heap) (locs1 : List Loc), pX E H1 → va_S A H0 H1 locs1 → H1[q9]? = some ce → ce.vm = .none → s.vm.findClass E = some ce.cls → vx_W p l e R s m args below meth c H1 locs1 (cells + mc') (slots + ms') Q (F0 m pc ls rest) q9)
    (kk : ∀ (v : Option Value) (H1 : Heap) (locs1 : List Loc), post v H1 → va_S A H0 H1 locs1 → W p l e R s m args below meth c H1 locs1 (cells + mc') (slots + ms') Q (F0 m (pc + 3) ls (v.toList ++ rest))) : W p l e R s m args below meth c H locs cells slots Q (F0 m pc ls st0) :=
  xx_go (a := (Value.ref b :: As).toArray) (vx_runV (rest := rest) ⟨hexec, hb, hml, hown, hts⟩ hM ⟨xw_cb hts hrc hrs hini hl hcode hd hR, hts _ hin, hts _ hsel⟩ ⟨xPcX_blind, hrecv, xF_pre hE hF hS⟩ rfl hn hsize hstack (lv_room hW) hdg hf) hS kx kk
theorem xx_callS {own : String} {index maxL nL n mc' ms' : Nat} {x : MethodName} {bytes : ByteArray} {ret : Option FieldType} {rm : Room} {st0 : List Value} (As : List Value) (hM : vx_Met l x (.code x bytes maxL ret :: WG) rm (xPcX As D y A H) (xQ post A) (xX pX A) mc' ms' A) (hexec : p.tables.exec = Jvm.exec) (hb : c.code = cc) (hml : c.maxLocals = nL) (hown : s.vm.findClass own = some m.cls) (hts : ∀ w ∈ WG, w.before args s = true) (hE : xE D y s) (hF : xF A s H0) (hS : va_S A H0 H locs)
    (hrc : rm.cells = mc') (hrs : rm.slots = ms') (hini : Cond.initialized x.cls ∈ WG) (hl : Cond.methodLink own index x ∈ WG) (hcode : Cond.code x bytes maxL ret ∈ WG) (hst : Cond.static x ∈ WG) (hd : x.cls ≠ "java/lang/invoke/MethodHandle" ∧ x.cls ≠ "java/lang/invoke/VarHandle" ∧ (parseMethodDescriptor x.desc).map (fun d => d.parameters.length) = some n) (hn : As.length = n) (hR : rm.frames + 1 ≤ R.frames ∧ 8 + (maxL + 11) + rm.locals ≤ R.locals)
    (hsize : ls.size = nL) (hstack : st0 = As.reverse ++ rest) (hW : (rest.map fun v => v.category).sum ≤ 8) (hdg : decode cc pc = .ok (.invokestatic index, 3)) (hf : cells + mc' ≤ R.cells ∧ slots + ms' ≤ R.slots)
    (kx : ∀ (E : String) (ce : Cell) (q9 : Addr) (H1 : Heap) (locs1 : List Loc), pX E H1 → va_S A H0 H1 locs1 → H1[q9]? = some ce → ce.vm = .none → s.vm.findClass E = some ce.cls → vx_W p l e R s m args below meth c H1 locs1 (cells + mc') (slots + ms') Q (F0 m pc ls rest) q9)
    (kk : ∀ (v : Option Value) (H1 : Heap) (locs1 : List Loc), post v H1 → va_S A H0 H1 locs1 → W p l e R s m args below meth c H1 locs1 (cells + mc') (slots + ms') Q (F0 m (pc + 3) ls (v.toList ++ rest))) : W p l e R s m args below meth c H locs cells slots Q (F0 m pc ls st0) :=
  xx_go (a := As.toArray) (vx_runS (rest := rest) ⟨hexec, hb, hml, hown, hts⟩ hM ⟨xw_cb hts hrc hrs hini hl hcode hd hR, hts _ hst⟩ ⟨xPcX_blind, xF_pre hE hF hS⟩ rfl hn hsize hstack (lv_room hW) hdg hf) hS kx kk
end XY
