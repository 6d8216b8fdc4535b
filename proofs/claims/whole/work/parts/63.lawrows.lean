/-! the law's helpers: what they know, how they are called, how they end -/
def xN (U : State) : Prop := va_Nc eIAE eIOB U ∧ va_Nc eISE eIOB U ∧ va_Nc eISE eIAE U
theorem xN.warm {s U : State} (hW : s.WarmedH U.vm) (h : xN s) : xN U := ⟨h.1.moved hW.alike, h.2.1.moved hW.alike, h.2.2.moved hW.alike⟩
theorem xN.same {s U : State} (hv : s.vm = U.vm) (h : xN s) : xN U := ⟨h.1.moved (by rw [hv]; exact Vm.Alike.refl U.vm), h.2.1.moved (by rw [hv]; exact Vm.Alike.refl U.vm), h.2.2.moved (by rw [hv]; exact Vm.Alike.refl U.vm)⟩
def xPcL (av : List Value) (D : va_G) (y : Nat → ClassId) (A : Nat → Prop) (e0 : Nat) (H : Heap) : Array Value → State → Prop := va_Pc av (fun U => U.heap = H ∧ xE D y U ∧ xF A U H ∧ xG A e0 U H ∧ xN U)
theorem xPcL_blind {av : List Value} {D : va_G} {y : Nat → ClassId} {A : Nat → Prop} {e0 : Nat} {H : Heap} : FrameBlind (xPcL av D y A e0 H) := fun a U g mk q => ⟨q.1, q.2.1, q.2.2.1.same rfl, q.2.2.2.1.same (show U.vm = (U.calling g mk a).vm from rfl), q.2.2.2.2.1.same (show U.vm = (U.calling g mk a).vm from rfl), q.2.2.2.2.2.same (show U.vm = (U.calling g mk a).vm from rfl)⟩
theorem xM_goL {l : Launch} {x : MethodName} {cc : ByteArray} {maxL : Nat} {ret : Option FieldType} {hh : List (Nat × Nat × Nat × Nat)} {rm : Room} {av : List Value} {D : va_G} {y : Nat → ClassId} {H : Heap} {post : Option Value → Heap → Prop} {A : Nat → Prop} {e0 mc ms : Nat}
    (hy : plainName x.cls = true) (hlen : (lg_sl av).length ≤ maxL)
    (body : ∀ (p : Program) (e : Env) (s : State) (m : MethodId) (args : Array Value) (below : List Frame) (meth : Method) (c : Code) (ls : Array Slot) (R : Room) (Q : State → Prop), p.tables.exec = Jvm.exec → c.code = cc → meth.sig.returnType = ret → meth.locks = false → c.maxLocals = maxL → s.vm.findClass x.cls = some m.cls → (∀ w ∈ WG, w.before args s = true) → s.heap = H → xE D y s → meth.name = x.name → R.frames = rm.frames → R.locals = rm.locals → R.cells = rm.cells → R.slots = rm.slots → Q = MQ below (xQ post A) args s mc ms A → va_S A H H [] → lv_has ls maxL (lv_args 0 av) → xF A s H → xG A e0 s H → xN s → c.exceptionTable.toList = tableOf hh →
      W p l e R s m args below meth c H [] 0 0 Q (F0 m 0 ls [])) : Met l x (.codeWith x cc maxL ret hh :: WG) rm (xPcL av D y A e0 H) (xQ post A) mc ms A := by
  refine MetFree.of_bodyS (code := cc) (maxLocals := maxL) (ret := ret) hy ?_ ?_
  · intro args s m h hn
    obtain ⟨m9, meth, c, hn9, h1, h2, h3, h4, -, h5, h6, -⟩ := Cond.codeWith_spec (atoms_spec (ws := .codeWith x cc maxL ret hh :: WG) h _ List.mem_cons_self)
    cases hn.symm.trans hn9
    exact ⟨meth, c, h1, h2, h3, h4, h5, h6⟩
  · intro p e s m args below meth c s₁ B hml hv _
    obtain ⟨rfl, hH, hE, hF, hG, hN⟩ := hv
    have hh0 : s₁.heap = s.heap := by rw [B.state]; rfl
    have hts := atoms_spec (ws := .codeWith x cc maxL ret hh :: WG) B.pre
    have hl := lv_entry av (n := maxL) hlen
    have hb := body p e s m av.toArray below meth c _ rm _ B.exec B.bytes B.returns B.notSynchronized hml (findClass_of_methodNamed B.named) (fun w h => hts w (List.mem_cons_of_mem _ h)) hH hE (name_of_methodNamed B.named B.method).1 rfl rfl rfl rfl rfl va_S.rf hl hF hG hN (vx_table (x := x) B (hts _ List.mem_cons_self))
    rw [← lg_entry_eq] at hb
    obtain ⟨t, a1, o, b1, b2, b3⟩ := hb s₁ (hh0.trans hH) (Stand.of_body B)
    exact ⟨t, o, a1, b1, b2, ⟨b3.1, b3.2⟩⟩
def bL (r : Int32) : Int64 := if r = 0 then 0 else 1
section LR
variable {p : Program} {l : Launch} {e : Env} {R : Room} {s : State} {m : MethodId} {args : Array Value} {below : List Frame} {meth : Method} {c : Code} {H H0 : Heap} {locs : List Loc} {cells slots mc ms : Nat} {Q : State → Prop}
variable {cc : ByteArray} {pc : Nat} {ls : Array Slot} {rest : List Value} {D : va_G} {y : Nat → ClassId} {A : Nat → Prop} {ad : xL → Nat} {ct : xL → Option va_E} {post : Option Value → Heap → Prop} {e0 : Nat} {fB fR fO : Nat → Nat → Option va_E} {oj : Nat → Int64} {od : Nat → UInt64}
theorem xl_pre {av : List Value} {Hx : Heap} (hE : xE D y s) (hF : xF A s H0) (hG : xG A e0 s H0) (hN : xN s) (hS : va_S A H0 Hx locs) : ∀ U : State, U.heap = Hx → s.WarmedH U.vm → xPcL av D y A e0 Hx av.toArray U := fun U hU hW => ⟨rfl, hU, hE.moved hW, hF.warm hW hS.2.1, hG.warm hW hS.2.1, hN.warm hW⟩
theorem xl_callS {own : String} {index maxL nL n : Nat} {x : MethodName} {bytes : ByteArray} {ret : Option FieldType} {hh : List (Nat × Nat × Nat × Nat)} {rm : Room} {st0 : List Value} (As : List Value) (hM : Met l x (.codeWith x bytes maxL ret hh :: WG) rm (xPcL As D y A e0 H) (xQ post A) mc ms A) (hexec : p.tables.exec = Jvm.exec) (hb : c.code = cc) (hml : c.maxLocals = nL) (hown : s.vm.findClass own = some m.cls) (hts : ∀ w ∈ WG, w.before args s = true) (hE : xE D y s) (hF : xF A s H0) (hG : xG A e0 s H0) (hN : xN s) (hS : va_S A H0 H locs)
    (hrc : rm.cells = mc) (hrs : rm.slots = ms) (hini : Cond.initialized x.cls ∈ WG) (hl : Cond.methodLink own index x ∈ WG) (hcode : Cond.codeWith x bytes maxL ret hh ∈ WG) (hst : Cond.static x ∈ WG) (hd : x.cls ≠ "java/lang/invoke/MethodHandle" ∧ x.cls ≠ "java/lang/invoke/VarHandle" ∧ (parseMethodDescriptor x.desc).map (fun d => d.parameters.length) = some n) (hn : As.length = n) (hR : rm.frames + 1 ≤ R.frames ∧ 8 + (maxL + 11) + rm.locals ≤ R.locals)
    (hsize : ls.size = nL) (hstack : st0 = As.reverse ++ rest) (hW : (rest.map fun v => v.category).sum ≤ 8) (hdg : decode cc pc = .ok (.invokestatic index, 3)) (hf : cells + mc ≤ R.cells ∧ slots + ms ≤ R.slots)
    (kk : ∀ (v : Option Value) (H1 : Heap) (locs1 : List Loc), post v H1 → va_S A H0 H1 locs1 → W p l e R s m args below meth c H1 locs1 (cells + mc) (slots + ms) Q (F0 m (pc + 3) ls (v.toList ++ rest))) : W p l e R s m args below meth c H locs cells slots Q (F0 m pc ls st0) :=
  xw_go (As := As) (vx_runSW (rest := rest) ⟨hexec, hb, hml, hown, hts⟩ hM (by
    have hG2 : GoodIn WG (.codeWith x bytes maxL ret hh :: WG) := WG_in (fun w h => h) hcode
    have h2 := hd.2.2
    exact ⟨⟨hrc, hrs, hR.1, hR.2, pay_in hts hG2, List.mem_cons_self⟩, hts _ hcode, hts _ hini, ⟨hd.1, hd.2.1⟩, fun sig h => by rw [h] at h2; exact (Option.some.inj h2).symm, hts _ hl, hts _ hst⟩) ⟨xPcL_blind, xl_pre hE hF hG hN hS⟩ rfl hn hsize hstack (lv_room hW) hdg hf) hS kk
/-! the two rows the law reads results from -/
theorem wO_1 {v : Int64} : ∀ a b : Nat, ¬ (a = 0 ∧ b = 0) → wO y oj od a b = wO y (vp_updL oj 0 v) od a b
  | 0, 0, h => absurd ⟨rfl, rfl⟩ h
  | 0, _ + 1, _ => rfl
  | 1, 0, _ => rfl
  | 1, _ + 1, _ => rfl
  | _ + 2, _, _ => rfl
theorem wO_2 {v : UInt64} : ∀ a b : Nat, ¬ (a = 1 ∧ b = 0) → wO y oj od a b = wO y oj (vf_upd od 0 v) a b
  | 0, 0, _ => rfl
  | 0, _ + 1, _ => rfl
  | 1, 0, h => absurd ⟨rfl, rfl⟩ h
  | 1, _ + 1, _ => rfl
  | _ + 2, _, _ => rfl
theorem xo_last {a : Nat} (hexec : p.tables.exec = Jvm.exec) (hb : c.code = cc) (hE : xE D y s) (hP : xW D A ad (wU fB fR (wO y oj od)) H) (hS : va_S A H0 H locs) (ha : ad (40, 0) = a) {v : Int64} (hdg : decode cc pc = .ok (.lastore, 1))
    (kk : ∀ (H1 : Heap) (locs1 : List Loc), xW D A ad (wU fB fR (wO y (vp_updL oj 0 v) od)) H1 → va_S A H0 H1 locs1 → W p l e R s m args below meth c H1 locs1 cells slots Q (F0 m (pc + 1) ls rest)) : W p l e R s m args below meth c H locs cells slots Q (F0 m pc ls (.long v :: .int (nI 0) :: .ref a :: rest)) := by
  subst ha
  exact xw_last hexec hb hE hP hS (40, 0) rfl (by decide) (by decide) hdg (fun H1 l1 h1 h2 => kk H1 l1 (h1.ct (wU_O (k := 0) wO_1 rfl)) h2)
theorem xw_dast (hexec : p.tables.exec = Jvm.exec) (hb : c.code = cc) (hE : xE D y s) (hP : xW D A ad ct H) (hS : va_S A H0 H locs) (lab : xL) {n : Nat} {f : Nat → UInt64} (he : ct lab = some (.inl (y 3, n, .inr (.inr (.inr (.inl f)))))) {i : Nat} (hi : i < n) (hn : n < 2 ^ 31) {x : UInt64} (hdg : decode cc pc = .ok (.dastore, 1))
    (kk : ∀ (H1 : Heap) (locs1 : List Loc), xW D A ad (aw_up ct lab (.inl (y 3, n, .inr (.inr (.inr (.inl (vf_upd f i x))))))) H1 → va_S A H0 H1 locs1 → W p l e R s m args below meth c H1 locs1 cells slots Q (F0 m (pc + 1) ls rest)) : W p l e R s m args below meth c H locs cells slots Q (F0 m pc ls (.double x :: .int (nI i) :: .ref (ad lab) :: rest)) := by
  refine W.dast hexec hb (hP.1 _ _ he) ((hE.1.2 3 _ rfl).1 n (fun j => .double (f j))) (fun q => by cases q) (by show ¬ (nI i < 0 ∨ (arrV _ _ _).slots.size ≤ _); rw [arrV_size]; exact vp_in_nI hi hn) rfl rfl hdg fun H1 e z oq => ?_
  refine kk H1 _ (hP.set he ?_ z oq) (hS.put z oq (hP.inA he))
  show H1[ad lab]? = some (vp_cell _ _)
  rw [e, nI_clamp (by omega)]
  show some ((vp_cell (y 3) (n, .inr (.inr (.inr (.inl f))))).setSlot i (.double x)) = _
  rw [vp_cell_d, vp_cell_d, arrV_store]
  congr 2
  funext q
  by_cases hq : q = i
  · subst hq
    simp [updV, vf_upd]
  · simp [updV, vf_upd, hq]
theorem xo_dast {a : Nat} (hexec : p.tables.exec = Jvm.exec) (hb : c.code = cc) (hE : xE D y s) (hP : xW D A ad (wU fB fR (wO y oj od)) H) (hS : va_S A H0 H locs) (ha : ad (41, 0) = a) {v : UInt64} (hdg : decode cc pc = .ok (.dastore, 1))
    (kk : ∀ (H1 : Heap) (locs1 : List Loc), xW D A ad (wU fB fR (wO y oj (vf_upd od 0 v))) H1 → va_S A H0 H1 locs1 → W p l e R s m args below meth c H1 locs1 cells slots Q (F0 m (pc + 1) ls rest)) : W p l e R s m args below meth c H locs cells slots Q (F0 m pc ls (.double v :: .int (nI 0) :: .ref a :: rest)) := by
  subst ha
  exact xw_dast hexec hb hE hP hS (41, 0) rfl (by decide) (by decide) hdg (fun H1 l1 h1 h2 => kk H1 l1 (h1.ct (wU_O (k := 1) wO_2 rfl)) h2)
theorem xo_lald {a : Nat} (hexec : p.tables.exec = Jvm.exec) (hb : c.code = cc) (hE : xE D y s) (hP : xW D A ad (wU fB fR (wO y oj od)) H) (ha : ad (40, 0) = a) (hdg : decode cc pc = .ok (.laload, 1))
    (kk : W p l e R s m args below meth c H locs cells slots Q (F0 m (pc + 1) ls (.long (oj 0) :: rest))) : W p l e R s m args below meth c H locs cells slots Q (F0 m pc ls (.int (nI 0) :: .ref a :: rest)) := by
  subst ha
  exact xw_lald hexec hb hE hP (40, 0) rfl (by decide) (by decide) hdg kk
theorem xo_dald {a : Nat} (hexec : p.tables.exec = Jvm.exec) (hb : c.code = cc) (hE : xE D y s) (hP : xW D A ad (wU fB fR (wO y oj od)) H) (ha : ad (41, 0) = a) (hdg : decode cc pc = .ok (.daload, 1))
    (kk : W p l e R s m args below meth c H locs cells slots Q (F0 m (pc + 1) ls (.double (od 0) :: rest))) : W p l e R s m args below meth c H locs cells slots Q (F0 m pc ls (.int (nI 0) :: .ref a :: rest)) := by
  subst ha
  exact va_dald hexec hb hE.1 (hP.one (show (wU fB fR (wO y oj od)) (41, 0) = some (.inl (y 3, 1, .inr (.inr (.inr (.inl od))))) from rfl)) 0 3 rfl rfl (vp_in_nI (by decide) (by decide)) hdg (by rw [nI_clamp (by decide)]; exact kk)
end LR
/-! what a helper leaves -/
def xLp (D : va_G) (A : Nat → Prop) (y : Nat → ClassId) (ad : xL → Nat) (e0 : Nat) (fR : Nat → Nat → Option va_E) (od : Nat → UInt64) (t : Int32) (z z1 : xC) (val : Int64) (v : Option Value) (H1 : Heap) : Prop :=
  v = some (.int t) ∧ ∃ (ad' : xL → Nat) (bl' : xM) (oj' : Nat → Int64), (∀ k : xL, 20 ≤ k.1 → ad' k = ad k) ∧ ad' (0, 0) = ad (0, 0) ∧ (nN (if t = 0 then z1 else z) = 0 → ad' (2, 0) = e0) ∧ (nE (if t = 0 then z1 else z) = 0 → ad' (4, 0) = e0) ∧ bOk bl' (if t = 0 then z1 else z) ∧ (t = 0 → oj' 0 = val) ∧ xB D A y ad' bl' (if t = 0 then z1 else z) fR (wO y oj' od) H1
def xLpD (D : va_G) (A : Nat → Prop) (y : Nat → ClassId) (ad : xL → Nat) (fR : Nat → Nat → Option va_E) (oj : Nat → Int64) (t : Int32) (bl : xM) (z : xC) (val : UInt64) (v : Option Value) (H1 : Heap) : Prop :=
  v = some (.int t) ∧ ∃ od' : Nat → UInt64, (t = 0 → od' 0 = val) ∧ xB D A y ad bl z fR (wO y oj od') H1
section LP
variable {D : va_G} {A : Nat → Prop} {y : Nat → ClassId} {ad : xL → Nat} {e0 : Nat} {fR : Nat → Nat → Option va_E} {oj : Nat → Int64} {od : Nat → UInt64} {t k : Int32} {bl : xM} {z z1 : xC} {val : Int64} {H1 : Heap}
theorem xLp_x (hk : t = k) (hk0 : k ≠ 0) (hz : bOk bl z) (h0n : nN z = 0 → ad (2, 0) = e0) (h0e : nE z = 0 → ad (4, 0) = e0) (h : xB D A y ad bl z fR (wO y oj od) H1) : xLp D A y ad e0 fR od t z z1 val (some (.int k)) H1 := by
  subst hk
  have e : (if t = 0 then z1 else z) = z := if_neg hk0
  refine ⟨rfl, ad, bl, oj, fun _ _ => rfl, rfl, ?_, ?_, ?_, fun q => absurd q hk0, ?_⟩
  · rw [e]; exact h0n
  · rw [e]; exact h0e
  · rw [e]; exact hz
  · rw [e]; exact h
theorem xLp_r (ht : t = 0) {ad' : xL → Nat} {bl' : xM} {oj' : Nat → Int64} (h1 : ∀ k : xL, 20 ≤ k.1 → ad' k = ad k) (h2 : ad' (0, 0) = ad (0, 0)) (h0n : nN z1 = 0 → ad' (2, 0) = e0) (h0e : nE z1 = 0 → ad' (4, 0) = e0) (hz : bOk bl' z1) (hv : oj' 0 = val) (h : xB D A y ad' bl' z1 fR (wO y oj' od) H1) : xLp D A y ad e0 fR od t z z1 val (some (.int (nI 0))) H1 := by
  subst ht
  have e : (if (0 : Int32) = 0 then z1 else z) = z1 := if_pos rfl
  refine ⟨rfl, ad', bl', oj', h1, h2, ?_, ?_, ?_, fun _ => hv, ?_⟩
  · rw [e]; exact h0n
  · rw [e]; exact h0e
  · rw [e]; exact hz
  · rw [e]; exact h
end LP
theorem nN_tog {z : xC} {i : Nat} {t : Int32} : nN (zTog z i t) = nN z := by unfold zTog; split <;> rfl
theorem nE_tog {z : xC} {i : Nat} {t : Int32} : nE (zTog z i t) = nE z := by unfold zTog; split <;> rfl
