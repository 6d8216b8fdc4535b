/-! THE WORLD BY LABELS: every cell has a label (kind, number); its address is ad label, what it holds ct label. -/
abbrev xL : Type := Nat × Nat
def aw_P (D : va_G) (ad : xL → Nat) (ct : xL → Option va_E) (H : Heap) : Prop := ∀ (k : xL) (e : va_E), ct k = some e → va_at D vwCl (ad k, e) H
def aw_D (A : Nat → Prop) (ad : xL → Nat) (ct : xL → Option va_E) : Prop := (∀ i j : xL, ct i ≠ none → ct j ≠ none → ad i = ad j → i = j) ∧ ∀ i : xL, ct i ≠ none → A (ad i)
/-- the world: what the cells hold, that they are apart and among those that may change; whatever is new may change -/
def xW (D : va_G) (A : Nat → Prop) (ad : xL → Nat) (ct : xL → Option va_E) (H : Heap) : Prop := aw_P D ad ct H ∧ aw_D A ad ct ∧ ∀ q : Nat, H.size ≤ q → A q
def aw_up (ct : xL → Option va_E) (k : xL) (e : va_E) : xL → Option va_E := fun j => if j = k then some e else ct j
theorem aw_up_self {ct : xL → Option va_E} {k : xL} {e : va_E} : aw_up ct k e k = some e := if_pos rfl
theorem aw_up_ne {ct : xL → Option va_E} {k j : xL} {e : va_E} (h : j ≠ k) : aw_up ct k e j = ct j := if_neg h
theorem xW.one {D : va_G} {A : Nat → Prop} {ad : xL → Nat} {ct : xL → Option va_E} {H : Heap} (h : xW D A ad ct H) {k : xL} {e : va_E} (hk : ct k = some e) : va_P D vwCl [(ad k, e)] H := by
  intro i q hi
  cases i with
  | zero => cases hi; exact h.1 k e hk
  | succ i => simp at hi
theorem xW.inA {D : va_G} {A : Nat → Prop} {ad : xL → Nat} {ct : xL → Option va_E} {H : Heap} (h : xW D A ad ct H) {k : xL} {e : va_E} (hk : ct k = some e) : A (ad k) := h.2.1.2 k (by rw [hk]; exact fun q => by cases q)
theorem xW.lt {D : va_G} {A : Nat → Prop} {ad : xL → Nat} {ct : xL → Option va_E} {H : Heap} (h : xW D A ad ct H) {k : xL} {e : va_E} (hk : ct k = some e) : ad k < H.size := (h.1 k e hk).lt
theorem xW.ne {D : va_G} {A : Nat → Prop} {ad : xL → Nat} {ct : xL → Option va_E} {H : Heap} (h : xW D A ad ct H) {i j : xL} {e f : va_E} (hi : ct i = some e) (hj : ct j = some f) (hn : i ≠ j) : ad i ≠ ad j := fun q => hn (h.2.1.1 i j (by rw [hi]; exact fun q => by cases q) (by rw [hj]; exact fun q => by cases q) q)
theorem xW.set {D : va_G} {A : Nat → Prop} {ad : xL → Nat} {ct : xL → Option va_E} {H H1 : Heap} (h : xW D A ad ct H) {k : xL} {e0 e : va_E} (hk : ct k = some e0) (he : va_at D vwCl (ad k, e) H1) (z : H1.size = H.size) (oq : ∀ q : Nat, q ≠ ad k → H1[q]? = H[q]?) : xW D A ad (aw_up ct k e) H1 := by
  have hkn : ct k ≠ none := by rw [hk]; exact fun q => by cases q
  have dn : ∀ j : xL, aw_up ct k e j ≠ none → ct j ≠ none := by
    intro j hj
    by_cases hjk : j = k
    · rw [hjk]; exact hkn
    · rwa [aw_up_ne hjk] at hj
  refine ⟨?_, ⟨fun i j hi hj q => h.2.1.1 i j (dn i hi) (dn j hj) q, fun i hi => h.2.1.2 i (dn i hi)⟩, by rw [z]; exact h.2.2⟩
  intro j f hj
  by_cases hjk : j = k
  · subst hjk
    rw [aw_up_self] at hj
    cases hj
    exact he
  · rw [aw_up_ne hjk] at hj
    refine (h.1 j f hj).kept (oq _ ?_)
    exact fun q => hjk (h.2.1.1 j k (by rw [hj]; exact fun q => by cases q) hkn q)
theorem xW.ct {D : va_G} {A : Nat → Prop} {ad : xL → Nat} {ct ct' : xL → Option va_E} {H : Heap} (h : xW D A ad ct H) (e : ct = ct') : xW D A ad ct' H := e ▸ h
/-- the same labels, and cells that hold the same -/
theorem xW.alike {D : va_G} {A : Nat → Prop} {ad : xL → Nat} {ct ct' : xL → Option va_E} {H : Heap} (h : xW D A ad ct H) (e : ∀ (k : xL) (f : va_E), ct' k = some f → ∃ g, ct k = some g ∧ (va_at D vwCl (ad k, g) H → va_at D vwCl (ad k, f) H)) : xW D A ad ct' H := by
  have dn : ∀ k : xL, ct' k ≠ none → ct k ≠ none := by
    intro k hk
    cases hc : ct' k with
    | none => exact absurd hc hk
    | some f =>
      obtain ⟨g, hg, -⟩ := e k f hc
      rw [hg]
      exact fun q => by cases q
  refine ⟨fun k f hk => ?_, ⟨fun i j hi hj q => h.2.1.1 i j (dn i hi) (dn j hj) q, fun i hi => h.2.1.2 i (dn i hi)⟩, h.2.2⟩
  obtain ⟨g, hg, hi⟩ := e k f hk
  exact hi (h.1 k g hg)
/-- arrays that agree within their length are one cell -/
theorem xW_arrV {cA : ClassId} {n : Nat} {f g : Nat → Value} (h : ∀ j, j < n → f j = g j) : arrV cA n f = arrV cA n g := by
  have e : ∀ q : Nat, (arrV cA n f).slots[q]? = (arrV cA n g).slots[q]? := by
    intro q
    by_cases hq : q < n
    · rw [arrV_read _ _ hq, arrV_read _ _ hq, h q hq]
    · rw [Array.getElem?_eq_none (by rw [arrV_size]; omega), Array.getElem?_eq_none (by rw [arrV_size]; omega)]
  have e2 : (arrV cA n f).slots = (arrV cA n g).slots := Array.ext_getElem? e
  show ({ cls := cA, slots := (arrV cA n f).slots, vm := (arrV cA n f).vm } : Cell) = ({ cls := cA, slots := (arrV cA n g).slots, vm := (arrV cA n g).vm } : Cell)
  rw [e2]
  rfl
theorem xW_i {D : va_G} {a : Nat} {cA : ClassId} {n : Nat} {f g : Nat → Int32} {H : Heap} (h : ∀ j, j < n → f j = g j) (k : va_at D vwCl (a, .inl (cA, n, .inl f)) H) : va_at D vwCl (a, .inl (cA, n, .inl g)) H := by
  show H[a]? = some (vp_cell cA (n, .inl g))
  rw [vp_cell_i, ← xW_arrV (f := fun j => .int (f j)) (fun j hj => by rw [h j hj]), ← vp_cell_i]
  exact k
theorem xW_l {D : va_G} {a : Nat} {cA : ClassId} {n : Nat} {f g : Nat → Int64} {H : Heap} (h : ∀ j, j < n → f j = g j) (k : va_at D vwCl (a, .inl (cA, n, .inr (.inl f))) H) : va_at D vwCl (a, .inl (cA, n, .inr (.inl g))) H := by
  show H[a]? = some (vp_cell cA (n, .inr (.inl g)))
  rw [vp_cell_l, ← xW_arrV (f := fun j => .long (f j)) (fun j hj => by rw [h j hj]), ← vp_cell_l]
  exact k
/-- the arrays' classes: int, long, boolean, int[], Object, long[] -/
def xT (y : Nat → ClassId) : List (ClassId × FieldType) := [(y 0, .int), (y 1, .long), (y 2, .boolean), (y 3, .array .int), (y 4, .object "java/lang/Object"), (y 5, .array .long)]
/-- what every method knows of the machine beside the words -/
def xE (D : va_G) (y : Nat → ClassId) (U : State) : Prop := va_K D vwCl (xT y) U ∧ va_Nw (.methodLinkNest "NetlistBench$Equations" 49 ⟨"NetlistBench", "contains", "(II)Z"⟩ "NetlistBench") U
theorem xE.moved {D : va_G} {y : Nat → ClassId} {s U : State} (hW : s.WarmedH U.vm) (h : xE D y s) : xE D y U := ⟨va_K.moved hW.alike h.1, va_Nw.warmM hW h.2⟩
theorem xE.same {D : va_G} {y : Nat → ClassId} {s U : State} (hv : s.vm = U.vm) (h : xE D y s) : xE D y U := ⟨va_K.moved (by rw [hv]; exact Vm.Alike.refl U.vm) h.1, va_Nw.same rfl hv h.2⟩
/-- a method's start and its end -/
def xPc (av : List Value) (D : va_G) (y : Nat → ClassId) (H : Heap) : Array Value → State → Prop := va_Pc av (fun U => U.heap = H ∧ xE D y U)
def xQ (post : Option Value → Heap → Prop) (A : Nat → Prop) : Array Value → State → Outcome → State → Prop := fun _ st oc t => (∃ v, oc = .returned v ∧ post v t.heap) ∧ va_F A st t
theorem xPc_blind {av : List Value} {D : va_G} {y : Nat → ClassId} {H : Heap} : FrameBlind (xPc av D y H) := fun a U g mk q => ⟨q.1, q.2.1, q.2.2.same rfl⟩
theorem xM_start {l : Launch} {x : MethodName} {cc : ByteArray} {maxL : Nat} {ret : Option FieldType} {rm : Room} {av : List Value} {D : va_G} {y : Nat → ClassId} {H : Heap} {post : Option Value → Heap → Prop} {A : Nat → Prop} {mc ms : Nat}
    (hy : plainName x.cls = true) (hlen : (lg_sl av).length ≤ maxL)
    (body : ∀ (p : Program) (e : Env) (s : State) (m : MethodId) (below : List Frame) (meth : Method) (c : Code) (ls : Array Slot), p.tables.exec = Jvm.exec → c.code = cc → meth.sig.returnType = ret → meth.locks = false → c.maxLocals = maxL → s.vm.findClass x.cls = some m.cls → (∀ w ∈ WG, w.before av.toArray s = true) → s.heap = H → xE D y s → meth.name = x.name → va_S A H H [] → lv_has ls maxL (lv_args 0 av) →
      W p l e rm s m av.toArray below meth c H [] 0 0 (MQ below (xQ post A) av.toArray s mc ms A) (F0 m 0 ls [])) : Met l x (.code x cc maxL ret :: WG) rm (xPc av D y H) (xQ post A) mc ms A := by
  refine Met.ofW (cc := cc) (maxL := maxL) (ret := ret) hy rfl ?_
  intro p e s m args below meth c s₁ B hml hv
  obtain ⟨rfl, hH, hE⟩ := hv
  have hts := atoms_spec (ws := .code x cc maxL ret :: WG) B.pre
  have hl := lv_entry av (n := maxL) hlen
  rw [lg_entry_eq]
  have hb := body p e s m below meth c _ B.exec B.bytes B.returns B.notSynchronized hml (findClass_of_methodNamed B.named) (fun w h => hts w (List.mem_cons_of_mem _ h)) hH hE (name_of_methodNamed B.named B.method).1 va_S.rf hl
  rw [hH]
  exact hb
theorem xM_startF {l : Launch} {x : MethodName} {cc : ByteArray} {maxL : Nat} {ret : Option FieldType} {rm : Room} {av : List Value} {D : va_G} {y : Nat → ClassId} {H : Heap} {post : Option Value → Heap → Prop} {A : Nat → Prop} {mc ms : Nat}
    (hy : plainFor x = true) (hlen : (lg_sl av).length ≤ maxL)
    (body : ∀ (p : Program) (e : Env) (s : State) (m : MethodId) (below : List Frame) (meth : Method) (c : Code) (ls : Array Slot), p.tables.exec = Jvm.exec → c.code = cc → meth.sig.returnType = ret → meth.locks = false → c.maxLocals = maxL → s.vm.findClass x.cls = some m.cls → (∀ w ∈ WG, w.before av.toArray s = true) → s.heap = H → xE D y s → meth.name = x.name → va_S A H H [] → lv_has ls maxL (lv_args 0 av) →
      W p l e rm s m av.toArray below meth c H [] 0 0 (MQ below (xQ post A) av.toArray s mc ms A) (F0 m 0 ls [])) : Met l x (.code x cc maxL ret :: WG) rm (xPc av D y H) (xQ post A) mc ms A := by
  refine va_MetF (cc := cc) (maxL := maxL) (ret := ret) hy rfl ?_
  intro p e s m args below meth c s₁ B hml hv
  obtain ⟨rfl, hH, hE⟩ := hv
  have hts := atoms_spec (ws := .code x cc maxL ret :: WG) B.pre
  have hl := lv_entry av (n := maxL) hlen
  rw [lg_entry_eq]
  have hb := body p e s m below meth c _ B.exec B.bytes B.returns B.notSynchronized hml (findClass_of_methodNamed B.named) (fun w h => hts w (List.mem_cons_of_mem _ h)) hH hE (name_of_methodNamed B.named B.method).1 va_S.rf hl
  rw [hH]
  exact hb
section XR
variable {p : Program} {l : Launch} {e : Env} {R : Room} {s : State} {m : MethodId} {args : Array Value} {below : List Frame} {meth : Method} {c : Code} {H H0 : Heap} {locs : List Loc} {cells slots mc ms : Nat} {Q : State → Prop}
variable {cc : ByteArray} {pc : Nat} {ls : Array Slot} {rest : List Value} {D : va_G} {y : Nat → ClassId} {A : Nat → Prop} {ad : xL → Nat} {ct : xL → Option va_E} {post : Option Value → Heap → Prop}
theorem xq_end {v : Option Value} (hH : s.heap = H0) (hS : va_S A H0 H locs) (hp : post v H) (t : State) (ht : t.heap = H) : xQ post A args s (.returned v) t := ⟨⟨v, rfl, by rw [ht]; exact hp⟩, by rw [ht, hH]; exact hS.1, fun q h1 h2 => by rw [ht, hH]; rw [hH] at h1; exact hS.2.1 q h1 h2⟩
theorem xw_iret {v : Int32} (hexec : p.tables.exec = Jvm.exec) (hb : c.code = cc) (hr : meth.sig.returnType = some .int) (hlocks : meth.locks = false) (hH : s.heap = H0) (hS : va_S A H0 H locs) (h1 : cells ≤ mc) (h2 : slots ≤ ms) (hp : post (some (.int v)) H) (hdg : decode cc pc = .ok (.ireturn, 1)) : W p l e R s m args below meth c H locs cells slots (MQ below (xQ post A) args s mc ms A) (F0 m pc ls [.int v]) :=
  W.widen h1 h2 (W.iret hexec hb hr (fun t ht _ => xq_end hH hS hp t ht) hS.2.2 hdg hlocks)
theorem xw_zret {v : Int32} (hexec : p.tables.exec = Jvm.exec) (hb : c.code = cc) (hr : meth.sig.returnType = some .boolean) (hlocks : meth.locks = false) (hH : s.heap = H0) (hS : va_S A H0 H locs) (hn : narrow .boolean (.int v) = .int v) (h1 : cells ≤ mc) (h2 : slots ≤ ms) (hp : post (some (.int v)) H) (hdg : decode cc pc = .ok (.ireturn, 1)) : W p l e R s m args below meth c H locs cells slots (MQ below (xQ post A) args s mc ms A) (F0 m pc ls [.int v]) :=
  W.widen h1 h2 (W.zret hexec hb hr hn (fun t ht _ => xq_end hH hS hp t ht) hS.2.2 hdg hlocks)
theorem xw_lret {v : Int64} (hexec : p.tables.exec = Jvm.exec) (hb : c.code = cc) (hr : meth.sig.returnType = some .long) (hlocks : meth.locks = false) (hH : s.heap = H0) (hS : va_S A H0 H locs) (h1 : cells ≤ mc) (h2 : slots ≤ ms) (hp : post (some (.long v)) H) (hdg : decode cc pc = .ok (.lreturn, 1)) : W p l e R s m args below meth c H locs cells slots (MQ below (xQ post A) args s mc ms A) (F0 m pc ls [.long v]) :=
  W.widen h1 h2 (W.lret hexec hb hr (fun t ht _ => xq_end hH hS hp t ht) hS.2.2 hdg hlocks)
theorem xw_vret (hexec : p.tables.exec = Jvm.exec) (hb : c.code = cc) (hr : meth.sig.returnType = none) (hlocks : meth.locks = false) (hH : s.heap = H0) (hS : va_S A H0 H locs) (h1 : cells ≤ mc) (h2 : slots ≤ ms) (hp : post none H) (hdg : decode cc pc = .ok (.return_, 1)) : W p l e R s m args below meth c H locs cells slots (MQ below (xQ post A) args s mc ms A) (F0 m pc ls []) :=
  W.widen h1 h2 (W.vret hexec hb hr (fun t ht _ => xq_end hH hS hp t ht) hS.2.2 hdg hlocks)
theorem xw_aret {a : Nat} {rt : FieldType} (hexec : p.tables.exec = Jvm.exec) (hb : c.code = cc) (hr : meth.sig.returnType = some rt) (hrt : (∃ n, rt = .object n) ∨ ∃ t, rt = .array t) (hlocks : meth.locks = false) (hH : s.heap = H0) (hS : va_S A H0 H locs) (h1 : cells ≤ mc) (h2 : slots ≤ ms) (hp : post (some (.ref a)) H) (hdg : decode cc pc = .ok (.areturn, 1)) : W p l e R s m args below meth c H locs cells slots (MQ below (xQ post A) args s mc ms A) (F0 m pc ls [.ref a]) :=
  W.widen h1 h2 (W.aret hexec hb hr hrt (Or.inr ⟨a, rfl⟩) (fun t ht _ => xq_end hH hS hp t ht) hS.2.2 hdg hlocks)
/-- a value on the stack, written otherwise -/
theorem xt_i {v w : Int32} (h : v = w) (k : W p l e R s m args below meth c H locs cells slots Q (F0 m pc ls (.int w :: rest))) : W p l e R s m args below meth c H locs cells slots Q (F0 m pc ls (.int v :: rest)) := by rw [h]; exact k
theorem xt_l {v w : Int64} (h : v = w) (k : W p l e R s m args below meth c H locs cells slots Q (F0 m pc ls (.long w :: rest))) : W p l e R s m args below meth c H locs cells slots Q (F0 m pc ls (.long v :: rest)) := by rw [h]; exact k
theorem xt_d {v w : UInt64} (h : v = w) (k : W p l e R s m args below meth c H locs cells slots Q (F0 m pc ls (.double w :: rest))) : W p l e R s m args below meth c H locs cells slots Q (F0 m pc ls (.double v :: rest)) := by rw [h]; exact k
theorem xt_v {v w : Value} (h : v = w) (k : W p l e R s m args below meth c H locs cells slots Q (F0 m pc ls (w :: rest))) : W p l e R s m args below meth c H locs cells slots Q (F0 m pc ls (v :: rest)) := by rw [h]; exact k
/-- fields -/
theorem xw_get (hexec : p.tables.exec = Jvm.exec) (hb : c.code = cc) {own ref C : String} {T : u_T} {N ci index : Nat} (hts : ∀ w ∈ WG, w.before args s = true) (hown : s.vm.findClass own = some m.cls) (hE : xE D y s) (hP : xW D A ad ct H) (hin : ∀ w ∈ u_ws C T N, w ∈ WG) (lab : xL) {fs : List Value} (he : ct lab = some (.inr (ci, fs))) (hc : vwCl[ci]? = some (C, T, N)) (k : Nat) (hk : k < N) (hlink : Cond.fieldLink own index ref (T k).2.1 (T k).2.2.1 ∈ WG) (hsame : ∀ x, s.fieldFound? (T k).1 (T k).2.1 (T k).2.2.1 = some x → s.fieldFound? ref (T k).2.1 (T k).2.2.1 = some x) {v : Value} (hv : fs[k]? = some v) (hdg : decode cc pc = .ok (.getfield index, 3))
    (kk : W p l e R s m args below meth c H locs cells slots Q (F0 m (pc + 3) ls (v :: rest))) : W p l e R s m args below meth c H locs cells slots Q (F0 m pc ls (.ref (ad lab) :: rest)) :=
  va_get hexec hb hts hin hown hE.1 (hP.one he) 0 rfl hc k hk (hts _ hlink) hsame hv hdg kk
theorem xw_put (hexec : p.tables.exec = Jvm.exec) (hb : c.code = cc) {own ref C : String} {T : u_T} {N ci index : Nat} (hts : ∀ w ∈ WG, w.before args s = true) (hown : s.vm.findClass own = some m.cls) (hE : xE D y s) (hP : xW D A ad ct H) (hS0 : va_S A H0 H locs) (hin : ∀ w ∈ u_ws C T N, w ∈ WG) (ty0 : Nat → FieldType) (hty : ∀ k, k < N → parseFieldDescriptor (T k).2.2.1 = some (ty0 k)) (hnm : ∀ a, a < N → ∀ b, b < N → a ≠ b → (T a).2.1 ≠ (T b).2.1) (lab : xL) {fs : List Value} (he : ct lab = some (.inr (ci, fs))) (hc : vwCl[ci]? = some (C, T, N)) (k : Nat) (hk : k < N) (hlink : Cond.fieldLink own index ref (T k).2.1 (T k).2.2.1 ∈ WG) (hsame : ∀ x, s.fieldFound? (T k).1 (T k).2.1 (T k).2.2.1 = some x → s.fieldFound? ref (T k).2.1 (T k).2.2.1 = some x) (hfin : (T k).2.2.2 = false) {ty : FieldType} {v : Value} (hd : parseFieldDescriptor (T k).2.2.1 = some ty) (hn : narrow ty v = v) (hfit : fits ty v = true) (hl : k < fs.length) (hdg : decode cc pc = .ok (.putfield index, 3))
    (kk : ∀ (H1 : Heap) (locs1 : List Loc), xW D A ad (aw_up ct lab (.inr (ci, fs.set k v))) H1 → va_S A H0 H1 locs1 → W p l e R s m args below meth c H1 locs1 cells slots Q (F0 m (pc + 3) ls rest)) : W p l e R s m args below meth c H locs cells slots Q (F0 m pc ls (v :: .ref (ad lab) :: rest)) := by
  have hap := va_apart (own := own) hts hin ty0 hty hnm hE.1 hc
  obtain ⟨r, h1, cell, q1, q2, q3, q4⟩ := hP.1 _ _ he
  have hr : r = (C, T, N) := Option.some.inj (h1.symm.trans hc)
  subst hr
  obtain ⟨hS, hfc, kC, hkC, hkind⟩ := hE.1.1 ci _ hc
  obtain ⟨cf, kf, fi, f, hi, hsl⟩ := hS k hk
  have hlay := hts _ (hin _ (u_in_lay hk))
  unfold u_lay at hlay
  rw [if_neg (by rw [hfin]; decide)] at hlay
  have hst := (u_facts hfc hkC (u_lays hts hin hk) hi).1
  have h6 := u_store hfc hkC hkind hlay hi hd hn hfit
  refine W.putK hexec hb (f := f) ⟨hown, hts _ hlink, ⟨_, _, _, hsame _ hi⟩, hst⟩ (by rw [q2]; exact h6) q1 q3 (by rw [hsl]; exact k2_hasslot (q4 k hk)) rfl rfl hdg fun H' e1 e2 e3 => ?_
  rw [hsl] at e1 ⊢
  exact kk H' _ (hP.set he ⟨_, hc, t_OB.to (V := updV (vp_V fs) k v) ⟨_, e1, q2, q3, t_set q4 hap hk v⟩ (fun j _ => vp_updV_set hl v j)⟩ e2 e3) (hS0.put e2 e3 (hP.inA he))
/-- arrays -/
theorem xw_iald (hexec : p.tables.exec = Jvm.exec) (hb : c.code = cc) (hE : xE D y s) (hP : xW D A ad ct H) (lab : xL) {n : Nat} {f : Nat → Int32} (he : ct lab = some (.inl (y 0, n, .inl f))) {i : Nat} (hi : i < n) (hn : n < 2 ^ 31) (hdg : decode cc pc = .ok (.iaload, 1))
    (kk : W p l e R s m args below meth c H locs cells slots Q (F0 m (pc + 1) ls (.int (f i) :: rest))) : W p l e R s m args below meth c H locs cells slots Q (F0 m pc ls (.int (nI i) :: .ref (ad lab) :: rest)) :=
  va_iald hexec hb hE.1 (hP.one he) 0 0 rfl rfl (vp_in_nI hi hn) hdg (by rw [nI_clamp (by omega)]; exact kk)
theorem xw_zald (hexec : p.tables.exec = Jvm.exec) (hb : c.code = cc) (hE : xE D y s) (hP : xW D A ad ct H) (lab : xL) {n : Nat} {f : Nat → Int32} (he : ct lab = some (.inl (y 2, n, .inl f))) {i : Nat} (hi : i < n) (hn : n < 2 ^ 31) (hdg : decode cc pc = .ok (.baload, 1))
    (kk : W p l e R s m args below meth c H locs cells slots Q (F0 m (pc + 1) ls (.int (f i) :: rest))) : W p l e R s m args below meth c H locs cells slots Q (F0 m pc ls (.int (nI i) :: .ref (ad lab) :: rest)) :=
  va_zald hexec hb hE.1 (hP.one he) 0 2 rfl rfl (vp_in_nI hi hn) hdg (by rw [nI_clamp (by omega)]; exact kk)
theorem xw_lald (hexec : p.tables.exec = Jvm.exec) (hb : c.code = cc) (hE : xE D y s) (hP : xW D A ad ct H) (lab : xL) {n : Nat} {f : Nat → Int64} (he : ct lab = some (.inl (y 1, n, .inr (.inl f)))) {i : Nat} (hi : i < n) (hn : n < 2 ^ 31) (hdg : decode cc pc = .ok (.laload, 1))
    (kk : W p l e R s m args below meth c H locs cells slots Q (F0 m (pc + 1) ls (.long (f i) :: rest))) : W p l e R s m args below meth c H locs cells slots Q (F0 m pc ls (.int (nI i) :: .ref (ad lab) :: rest)) :=
  va_lald hexec hb hE.1 (hP.one he) 0 1 rfl rfl (vp_in_nI hi hn) hdg (by rw [nI_clamp (by omega)]; exact kk)
theorem xw_iast (hexec : p.tables.exec = Jvm.exec) (hb : c.code = cc) (hE : xE D y s) (hP : xW D A ad ct H) (hS : va_S A H0 H locs) (lab : xL) {n : Nat} {f : Nat → Int32} (he : ct lab = some (.inl (y 0, n, .inl f))) {i : Nat} (hi : i < n) (hn : n < 2 ^ 31) {x : Int32} (hdg : decode cc pc = .ok (.iastore, 1))
    (kk : ∀ (H1 : Heap) (locs1 : List Loc), xW D A ad (aw_up ct lab (.inl (y 0, n, .inl (upd f i x)))) H1 → va_S A H0 H1 locs1 → W p l e R s m args below meth c H1 locs1 cells slots Q (F0 m (pc + 1) ls rest)) : W p l e R s m args below meth c H locs cells slots Q (F0 m pc ls (.int x :: .int (nI i) :: .ref (ad lab) :: rest)) := by
  refine W.iast hexec hb (hP.1 _ _ he) ((hE.1.2 0 _ rfl).1 n (fun j => .int (f j))) (fun q => by cases q) (by show ¬ (nI i < 0 ∨ (arrV _ _ _).slots.size ≤ _); rw [arrV_size]; exact vp_in_nI hi hn) rfl rfl hdg fun H1 e z oq => ?_
  refine kk H1 _ (hP.set he ?_ z oq) (hS.put z oq (hP.inA he))
  show H1[ad lab]? = some (vp_cell _ _)
  rw [e, nI_clamp (by omega)]
  show some ((vp_cell (y 0) (n, .inl f)).setSlot i (.int x)) = _
  rw [vp_cell_i, vp_cell_i, arrV_store]
  congr 2
  funext q
  by_cases hq : q = i
  · subst hq
    simp [updV, upd]
  · simp [updV, upd, hq]
theorem xw_zast (hexec : p.tables.exec = Jvm.exec) (hb : c.code = cc) (hE : xE D y s) (hP : xW D A ad ct H) (hS : va_S A H0 H locs) (lab : xL) {n : Nat} {f : Nat → Int32} (he : ct lab = some (.inl (y 2, n, .inl f))) {i : Nat} (hi : i < n) (hn : n < 2 ^ 31) {x : Int32} (hx : narrow .boolean (.int x) = .int x) (hdg : decode cc pc = .ok (.bastore, 1))
    (kk : ∀ (H1 : Heap) (locs1 : List Loc), xW D A ad (aw_up ct lab (.inl (y 2, n, .inl (upd f i x)))) H1 → va_S A H0 H1 locs1 → W p l e R s m args below meth c H1 locs1 cells slots Q (F0 m (pc + 1) ls rest)) : W p l e R s m args below meth c H locs cells slots Q (F0 m pc ls (.int x :: .int (nI i) :: .ref (ad lab) :: rest)) := by
  refine W.zast hexec hb (hP.1 _ _ he) ((hE.1.2 2 _ rfl).1 n (fun j => .int (f j))) (fun q => by cases q) (by show ¬ (nI i < 0 ∨ (arrV _ _ _).slots.size ≤ _); rw [arrV_size]; exact vp_in_nI hi hn) rfl rfl hdg fun H1 e z oq => ?_
  refine kk H1 _ (hP.set he ?_ z oq) (hS.put z oq (hP.inA he))
  show H1[ad lab]? = some (vp_cell _ _)
  rw [e, nI_clamp (by omega)]
  show some ((vp_cell (y 2) (n, .inl f)).setSlot i (narrow .boolean (.int x))) = _
  rw [hx, vp_cell_i, vp_cell_i, arrV_store]
  congr 2
  funext q
  by_cases hq : q = i
  · subst hq
    simp [updV, upd]
  · simp [updV, upd, hq]
theorem xw_last (hexec : p.tables.exec = Jvm.exec) (hb : c.code = cc) (hE : xE D y s) (hP : xW D A ad ct H) (hS : va_S A H0 H locs) (lab : xL) {n : Nat} {f : Nat → Int64} (he : ct lab = some (.inl (y 1, n, .inr (.inl f)))) {i : Nat} (hi : i < n) (hn : n < 2 ^ 31) {x : Int64} (hdg : decode cc pc = .ok (.lastore, 1))
    (kk : ∀ (H1 : Heap) (locs1 : List Loc), xW D A ad (aw_up ct lab (.inl (y 1, n, .inr (.inl (vp_updL f i x))))) H1 → va_S A H0 H1 locs1 → W p l e R s m args below meth c H1 locs1 cells slots Q (F0 m (pc + 1) ls rest)) : W p l e R s m args below meth c H locs cells slots Q (F0 m pc ls (.long x :: .int (nI i) :: .ref (ad lab) :: rest)) := by
  refine W.last hexec hb (hP.1 _ _ he) ((hE.1.2 1 _ rfl).1 n (fun j => .long (f j))) (fun q => by cases q) (by show ¬ (nI i < 0 ∨ (arrV _ _ _).slots.size ≤ _); rw [arrV_size]; exact vp_in_nI hi hn) rfl rfl hdg fun H1 e z oq => ?_
  refine kk H1 _ (hP.set he ?_ z oq) (hS.put z oq (hP.inA he))
  show H1[ad lab]? = some (vp_cell _ _)
  rw [e, nI_clamp (by omega)]
  show some ((vp_cell (y 1) (n, .inr (.inl f))).setSlot i (.long x)) = _
  rw [vp_cell_l, vp_cell_l, arrV_store]
  congr 2
  funext q
  by_cases hq : q = i
  · subst hq
    simp [updV, vp_updL]
  · simp [updV, vp_updL, hq]
/-- calls -/
theorem xw_pre {av : List Value} (hE : xE D y s) : ∀ U : State, U.heap = H → s.WarmedH U.vm → xPc av D y H av.toArray U := fun U hU hW => ⟨rfl, hU, hE.moved hW⟩
theorem xw_cb {own : String} {index maxL n : Nat} {x : MethodName} {bytes : ByteArray} {ret : Option FieldType} {rm : Room} (hts : ∀ w ∈ WG, w.before args s = true) (hrc : rm.cells = mc) (hrs : rm.slots = ms) (hini : Cond.initialized x.cls ∈ WG) (hl : Cond.methodLink own index x ∈ WG) (hcode : Cond.code x bytes maxL ret ∈ WG) (hd : x.cls ≠ "java/lang/invoke/MethodHandle" ∧ x.cls ≠ "java/lang/invoke/VarHandle" ∧ (parseMethodDescriptor x.desc).map (fun d => d.parameters.length) = some n) (hR : rm.frames + 1 ≤ R.frames ∧ 8 + (maxL + 11) + rm.locals ≤ R.locals) : CallB R s args own index x bytes maxL ret (.code x bytes maxL ret :: WG) rm mc ms n :=
  callB_of n hts (WG_in (fun w h => h) hcode) rfl hrc hrs (hts _ hini) (hts _ hl) hd hR
theorem xw_go {As : List Value} {a : Array Value} {st0 : List Value} (hr : va_Run p l e R s m args below meth c H locs cells slots mc ms (F0 m pc ls st0) rest (xQ post A a) A) (hS : va_S A H0 H locs)
    (kk : ∀ (v : Option Value) (H1 : Heap) (locs1 : List Loc), post v H1 → va_S A H0 H1 locs1 → W p l e R s m args below meth c H1 locs1 (cells + mc) (slots + ms) Q (F0 m (pc + 3) ls (v.toList ++ rest))) : W p l e R s m args below meth c H locs cells slots Q (F0 m pc ls st0) := by
  intro T hT X
  obtain ⟨v, st₀, t, T', L, h0, X', hL, e1, e2, ⟨⟨r, hv, hp⟩, hz, hk⟩, st⟩ := hr T hT X
  cases hv
  rw [h0] at hz hk
  obtain ⟨t2, a1, b1⟩ := kk v T'.heap (locs ++ L) (by rw [e1]; exact hp)
    ⟨Nat.le_trans hS.1 (by rw [e1]; exact hz), fun q h1 h2 => by rw [e1, hk q (Nat.lt_of_lt_of_le h1 hS.1) h2]; exact hS.2.1 q h1 h2, fun q hq => by
      rcases List.mem_append.mp hq with h | h
      · exact hS.2.2 q h
      · exact hL q h⟩ T' rfl X'
  exact ⟨t2, st t2 a1, b1⟩
theorem xw_callV {own C : String} {index maxL nL n : Nat} {x : MethodName} {bytes : ByteArray} {ret : Option FieldType} {rm : Room} {b : Addr} {st0 : List Value} (As : List Value) (hM : Met l x (.code x bytes maxL ret :: WG) rm (xPc (.ref b :: As) D y H) (xQ post A) mc ms A) (hexec : p.tables.exec = Jvm.exec) (hb : c.code = cc) (hml : c.maxLocals = nL) (hown : s.vm.findClass own = some m.cls) (hts : ∀ w ∈ WG, w.before args s = true) (hE : xE D y s) (hS : va_S A H0 H locs) (hrecv : ∃ cellB : Cell, H[b]? = some cellB ∧ cellB.vm.isStatics = false ∧ s.vm.findClass C = some cellB.cls)
    (hrc : rm.cells = mc) (hrs : rm.slots = ms) (hini : Cond.initialized x.cls ∈ WG) (hl : Cond.methodLink own index x ∈ WG) (hcode : Cond.code x bytes maxL ret ∈ WG) (hin : Cond.instanceMethod x ∈ WG) (hsel : Cond.selects C x x ∈ WG) (hd : x.cls ≠ "java/lang/invoke/MethodHandle" ∧ x.cls ≠ "java/lang/invoke/VarHandle" ∧ (parseMethodDescriptor x.desc).map (fun d => d.parameters.length) = some n) (hn : As.length = n) (hR : rm.frames + 1 ≤ R.frames ∧ 8 + (maxL + 11) + rm.locals ≤ R.locals)
    (hsize : ls.size = nL) (hstack : st0 = As.reverse ++ .ref b :: rest) (hW : (rest.map fun v => v.category).sum ≤ 8) (hdg : decode cc pc = .ok (.invokevirtual index, 3)) (hf : cells + mc ≤ R.cells ∧ slots + ms ≤ R.slots)
    (kk : ∀ (v : Option Value) (H1 : Heap) (locs1 : List Loc), post v H1 → va_S A H0 H1 locs1 → W p l e R s m args below meth c H1 locs1 (cells + mc) (slots + ms) Q (F0 m (pc + 3) ls (v.toList ++ rest))) : W p l e R s m args below meth c H locs cells slots Q (F0 m pc ls st0) :=
  xw_go (As := As) (va_runV (rest := rest) ⟨hexec, hb, hml, hown, hts⟩ hM ⟨xw_cb hts hrc hrs hini hl hcode hd hR, hts _ hin, hts _ hsel⟩ ⟨xPc_blind, hrecv, xw_pre hE⟩ rfl hn hsize hstack (lv_room hW) hdg hf) hS kk
theorem xw_callS {own : String} {index maxL nL n : Nat} {x : MethodName} {bytes : ByteArray} {ret : Option FieldType} {rm : Room} {st0 : List Value} (As : List Value) (hM : Met l x (.code x bytes maxL ret :: WG) rm (xPc As D y H) (xQ post A) mc ms A) (hexec : p.tables.exec = Jvm.exec) (hb : c.code = cc) (hml : c.maxLocals = nL) (hown : s.vm.findClass own = some m.cls) (hts : ∀ w ∈ WG, w.before args s = true) (hE : xE D y s) (hS : va_S A H0 H locs)
    (hrc : rm.cells = mc) (hrs : rm.slots = ms) (hini : Cond.initialized x.cls ∈ WG) (hl : Cond.methodLink own index x ∈ WG) (hcode : Cond.code x bytes maxL ret ∈ WG) (hst : Cond.static x ∈ WG) (hd : x.cls ≠ "java/lang/invoke/MethodHandle" ∧ x.cls ≠ "java/lang/invoke/VarHandle" ∧ (parseMethodDescriptor x.desc).map (fun d => d.parameters.length) = some n) (hn : As.length = n) (hR : rm.frames + 1 ≤ R.frames ∧ 8 + (maxL + 11) + rm.locals ≤ R.locals)
    (hsize : ls.size = nL) (hstack : st0 = As.reverse ++ rest) (hW : (rest.map fun v => v.category).sum ≤ 8) (hdg : decode cc pc = .ok (.invokestatic index, 3)) (hf : cells + mc ≤ R.cells ∧ slots + ms ≤ R.slots)
    (kk : ∀ (v : Option Value) (H1 : Heap) (locs1 : List Loc), post v H1 → va_S A H0 H1 locs1 → W p l e R s m args below meth c H1 locs1 (cells + mc) (slots + ms) Q (F0 m (pc + 3) ls (v.toList ++ rest))) : W p l e R s m args below meth c H locs cells slots Q (F0 m pc ls st0) :=
  xw_go (As := As) (va_runS (rest := rest) ⟨hexec, hb, hml, hown, hts⟩ hM ⟨xw_cb hts hrc hrs hini hl hcode hd hR, hts _ hst⟩ ⟨xPc_blind, xw_pre hE⟩ rfl hn hsize hstack (lv_room hW) hdg hf) hS kk
theorem xw_recv {C : String} {T : u_T} {N ci : Nat} (hE : xE D y s) (hP : xW D A ad ct H) (lab : xL) {fs : List Value} (he : ct lab = some (.inr (ci, fs))) (hc : vwCl[ci]? = some (C, T, N)) : ∃ cellB : Cell, H[ad lab]? = some cellB ∧ cellB.vm.isStatics = false ∧ s.vm.findClass C = some cellB.cls := va_recv hE.1 (hP.one he) (q0 := 0) hc rfl
theorem xw_cast {own nm : String} {T : u_T} {N ci index : Nat} (hexec : p.tables.exec = Jvm.exec) (hb : c.code = cc) (hts : ∀ w ∈ WG, w.before args s = true) (hown : s.vm.findClass own = some m.cls) (hE : xE D y s) (hP : xW D A ad ct H) (lab : xL) {fs : List Value} (he : ct lab = some (.inr (ci, fs))) (hc : vwCl[ci]? = some (nm, T, N)) (hlink : Cond.classLink own index nm ∈ WG) (hdg : decode cc pc = .ok (.checkcast index, 3))
    (k : W p l e R s m args below meth c H locs cells slots Q (F0 m (pc + 3) ls (.ref (ad lab) :: rest))) : W p l e R s m args below meth c H locs cells slots Q (F0 m pc ls (.ref (ad lab) :: rest)) :=
  va_castS hexec hb hown (hts _ hlink) (hE.1.1 ci _ hc).2 (xw_recv hE hP lab he hc) hdg k
end XR
