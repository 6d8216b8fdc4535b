/-! cells that are made, in the labelled world; what the makers know of the machine -/
def ad_up (ad : xL → Nat) (k : xL) (q : Nat) : xL → Nat := fun j => if j = k then q else ad j
theorem ad_up_self {ad : xL → Nat} {k : xL} {q : Nat} : ad_up ad k q k = q := if_pos rfl
theorem ad_up_ne {ad : xL → Nat} {k j : xL} {q : Nat} (h : j ≠ k) : ad_up ad k q j = ad j := if_neg h
theorem aw_up_up {ct : xL → Option va_E} {k : xL} {e f : va_E} : aw_up (aw_up ct k e) k f = aw_up ct k f := by
  funext j
  unfold aw_up
  by_cases h : j = k <;> simp [h]
theorem xW.sub {D : va_G} {A : Nat → Prop} {ad : xL → Nat} {ct ct' : xL → Option va_E} {H : Heap} (h : xW D A ad ct H) (e : ∀ (k : xL) (f : va_E), ct' k = some f → ct k = some f) : xW D A ad ct' H := h.alike (fun k f hf => ⟨f, e k f hf, fun x => x⟩)
theorem xW.made {D : va_G} {A : Nat → Prop} {ad : xL → Nat} {ct : xL → Option va_E} {H H1 : Heap} (h : xW D A ad ct H) (k : xL) {e : va_E} {q : Nat} (hq : H.size ≤ q) (he : va_at D vwCl (q, e) H1) (z : H.size ≤ H1.size) (o : ∀ a : Nat, a < H.size → H1[a]? = H[a]?) : xW D A (ad_up ad k q) (aw_up ct k e) H1 := by
  have nn : ∀ j, j ≠ k → aw_up ct k e j ≠ none → ct j ≠ none ∧ ad j < H.size := fun j hj hn => by
    rw [aw_up_ne hj] at hn
    refine ⟨hn, ?_⟩
    cases hc : ct j with
    | none => exact absurd hc hn
    | some f => exact h.lt hc
  refine ⟨fun j f hj => ?_, ⟨fun i j hi hj e2 => ?_, fun i hi => ?_⟩, fun x hx => h.2.2 x (Nat.le_trans z hx)⟩
  · by_cases hk : j = k
    · subst hk
      rw [aw_up_self] at hj
      cases hj
      rw [ad_up_self]
      exact he
    · rw [aw_up_ne hk] at hj
      rw [ad_up_ne hk]
      exact (h.1 j f hj).kept (o _ (h.lt hj))
  · by_cases hik : i = k
    · by_cases hjk : j = k
      · rw [hik, hjk]
      · have := (nn j hjk hj).2
        rw [hik, ad_up_self, ad_up_ne hjk] at e2
        omega
    · by_cases hjk : j = k
      · have := (nn i hik hi).2
        rw [hjk, ad_up_self, ad_up_ne hik] at e2
        omega
      · rw [ad_up_ne hik, ad_up_ne hjk] at e2
        exact h.2.1.1 i j (nn i hik hi).1 (nn j hjk hj).1 e2
  · by_cases hik : i = k
    · rw [hik, ad_up_self]; exact h.2.2 q hq
    · rw [ad_up_ne hik]; exact h.2.1.2 i (nn i hik hi).1
/-- another address for a label without a cell -/
theorem xW.readd {D : va_G} {A : Nat → Prop} {ad : xL → Nat} {ct : xL → Option va_E} {H : Heap} (h : xW D A ad ct H) {k : xL} (q : Nat) (hk : ct k = none) : xW D A (ad_up ad k q) ct H := by
  have nk : ∀ j, ct j ≠ none → j ≠ k := fun j hj e => hj (by rw [e]; exact hk)
  refine ⟨fun j f hj => ?_, ⟨fun i j hi hj e2 => ?_, fun i hi => ?_⟩, h.2.2⟩
  · rw [ad_up_ne (nk j (by rw [hj]; exact fun e => by cases e))]; exact h.1 j f hj
  · rw [ad_up_ne (nk i hi), ad_up_ne (nk j hj)] at e2; exact h.2.1.1 i j hi hj e2
  · rw [ad_up_ne (nk i hi)]; exact h.2.1.2 i hi
/-- the rows of the equations: seven at once -/
def ad_rw (ad : xL → Nat) (q : Nat) : xL → Nat := fun j => if j = (9, 0) then q else if j.1 = 10 ∧ j.2 < 7 then q + 1 + j.2 else ad j
def ct_rw (y : Nat → ClassId) (ct : xL → Option va_E) (q : Nat) : xL → Option va_E := fun j => if j = (9, 0) then some (.inl (y 5, 7, xr (fun i => if i < 7 then some (q + 1 + i) else none))) else if j.1 = 10 ∧ j.2 < 7 then some (.inl (y 1, 8, .inr (.inl (fun _ => 0)))) else ct j
theorem xW.rows {D : va_G} {A : Nat → Prop} {y : Nat → ClassId} {ad : xL → Nat} {ct : xL → Option va_E} {H H1 : Heap} (h : xW D A ad ct H) (h1 : H1[H.size]? = some (vp_cell (y 5) (7, xr (fun i => if i < 7 then some (H.size + 1 + i) else none)))) (h2 : ∀ i, i < 7 → H1[H.size + 1 + i]? = some (vp_cell (y 1) (8, .inr (.inl (fun _ => 0))))) (z : H.size ≤ H1.size) (o : ∀ a : Nat, a < H.size → H1[a]? = H[a]?) : xW D A (ad_rw ad H.size) (ct_rw y ct H.size) H1 := by
  have cls : ∀ j : xL, ct_rw y ct H.size j ≠ none → (j = (9, 0) ∧ ad_rw ad H.size j = H.size) ∨ ((j.1 = 10 ∧ j.2 < 7) ∧ j ≠ (9, 0) ∧ ad_rw ad H.size j = H.size + 1 + j.2) ∨ (j ≠ (9, 0) ∧ ¬ (j.1 = 10 ∧ j.2 < 7) ∧ ct j ≠ none ∧ ad_rw ad H.size j = ad j ∧ ad j < H.size) := fun j hj => by
    by_cases e1 : j = (9, 0)
    · exact Or.inl ⟨e1, if_pos e1⟩
    · by_cases e2 : j.1 = 10 ∧ j.2 < 7
      · exact Or.inr (Or.inl ⟨e2, e1, (if_neg e1).trans (if_pos e2)⟩)
      · have e3 : ct_rw y ct H.size j = ct j := (if_neg e1).trans (if_neg e2)
        rw [e3] at hj
        refine Or.inr (Or.inr ⟨e1, e2, hj, (if_neg e1).trans (if_neg e2), ?_⟩)
        cases hc : ct j with
        | none => exact absurd hc hj
        | some f => exact h.lt hc
  refine ⟨fun j f hj => ?_, ⟨fun i j hi hj e => ?_, fun i hi => ?_⟩, fun x hx => h.2.2 x (Nat.le_trans z hx)⟩
  · rcases cls j (by rw [hj]; exact fun e => by cases e) with ⟨e1, e2⟩ | ⟨e1, e0, e2⟩ | ⟨e1, e2, e3, e4, e5⟩
    · rw [e2]
      have e3 : ct_rw y ct H.size j = _ := if_pos e1
      rw [e3] at hj
      cases hj
      exact h1
    · rw [e2]
      have e3 : ct_rw y ct H.size j = _ := (if_neg e0).trans (if_pos e1)
      rw [e3] at hj
      cases hj
      exact h2 j.2 e1.2
    · rw [e4]
      have e6 : ct_rw y ct H.size j = ct j := (if_neg e1).trans (if_neg e2)
      rw [e6] at hj
      exact (h.1 j f hj).kept (o _ e5)
  · rcases cls i hi with ⟨a1, a2⟩ | ⟨a1, a0, a2⟩ | ⟨a1, a2, a3, a4, a5⟩ <;> rcases cls j hj with ⟨b1, b2⟩ | ⟨b1, b0, b2⟩ | ⟨b1, b2, b3, b4, b5⟩
    · rw [a1, b1]
    · rw [a2, b2] at e; omega
    · rw [a2, b4] at e; omega
    · rw [a2, b2] at e; omega
    · rw [a2, b2] at e
      exact Prod.ext (a1.1.trans b1.1.symm) (by omega)
    · rw [a2, b4] at e; omega
    · rw [a4, b2] at e; omega
    · rw [a4, b2] at e; omega
    · rw [a4, b4] at e
      exact h.2.1.1 i j a3 b3 e
  · rcases cls i hi with ⟨a1, a2⟩ | ⟨a1, a0, a2⟩ | ⟨a1, a2, a3, a4, a5⟩
    · rw [a2]; exact h.2.2 _ (Nat.le_refl _)
    · rw [a2]; exact h.2.2 _ (by omega)
    · rw [a4]; exact h.2.1.2 i a3
/-! what the makers know: the empty array of all lists, the classes of arrays, nest mates -/
def XNG : List Cond := [.castable "NetlistBench$Node" "java/lang/Object", .castable "NetlistBench$Element" "java/lang/Object", .methodLinkNest "NetlistBench" 25 ⟨"NetlistBench$Equations", "<init>", "()V"⟩ "NetlistBench", .methodLinkNest "NetlistBench" 43 ⟨"NetlistBench$Node", "<init>", "()V"⟩ "NetlistBench"]
theorem XNG_warm {w : Cond} (hw : w ∈ XNG) {s U : State} (hW : s.WarmedH U.vm) (h : va_Nw w s) : va_Nw w U := by
  have h4 : w = .castable "NetlistBench$Node" "java/lang/Object" ∨ w = .castable "NetlistBench$Element" "java/lang/Object" ∨ w = .methodLinkNest "NetlistBench" 25 ⟨"NetlistBench$Equations", "<init>", "()V"⟩ "NetlistBench" ∨ w = .methodLinkNest "NetlistBench" 43 ⟨"NetlistBench$Node", "<init>", "()V"⟩ "NetlistBench" := by
    unfold XNG at hw
    simpa using hw
  rcases h4 with rfl | rfl | rfl | rfl
  · exact va_Nw.warmC hW h
  · exact va_Nw.warmC hW h
  · exact va_Nw.warmM hW h
  · exact va_Nw.warmM hW h
theorem XNG_same {w : Cond} (hw : w ∈ XNG) {s U : State} (hv : s.vm = U.vm) (h : va_Nw w s) : va_Nw w U := by
  have h4 : w = .castable "NetlistBench$Node" "java/lang/Object" ∨ w = .castable "NetlistBench$Element" "java/lang/Object" ∨ w = .methodLinkNest "NetlistBench" 25 ⟨"NetlistBench$Equations", "<init>", "()V"⟩ "NetlistBench" ∨ w = .methodLinkNest "NetlistBench" 43 ⟨"NetlistBench$Node", "<init>", "()V"⟩ "NetlistBench" := by
    unfold XNG at hw
    simpa using hw
  rcases h4 with rfl | rfl | rfl | rfl <;> exact va_Nw.same rfl hv h
theorem xg_AOA {t : FieldType} {u U : State} (hvm : u.vm.Alike U.vm) (h : va_AOA t u) : va_AOA t U := by
  obtain ⟨comp, c, k, h1, h2, h3, h4, h5⟩ := arrayOverA_spec h
  obtain ⟨k', hk', he⟩ := hvm.2.2 _ _ h3
  have hi : (U.vm.classes.findIdx? fun (x : Class) => match x.kind with | .array component _ => component == comp | _ => false) = some c := by
    rw [hvm.findIdx?_eq _ (fun _ => rfl)]
    exact h2
  have hkind : k'.kind = .array comp (.array t) := by rw [he]; exact h4
  have f1 : U.vm.findClass (FieldType.array t).toString = some comp := by rw [hvm.findClass]; exact h1
  have f2 : U.vm.findClass ("[" ++ (FieldType.array t).toString) = some c := by rw [hvm.findClass]; exact h5
  unfold va_AOA Cond.before Cond.holds
  simp only [Cond.value]
  rw [f1, Option.bind_some]
  refine (congrArg (fun o : Option Nat => (o.bind (fun c => (U.vm.classes[c]?).map fun (k : Class) => match k.kind with | .array _ ty => decide (ty = FieldType.array t) && decide (U.vm.findClass ("[" ++ (FieldType.array t).toString) = some c) | _ => false) == some true)) hi).trans ?_
  simp [hk', hkind, f2]
abbrev nmDC : String := "DEFAULTCAPACITY_EMPTY_ELEMENTDATA"
abbrev dsOA : String := "[Ljava/lang/Object;"
def xG (A : Nat → Prop) (e0 : Nat) (U : State) (H : Heap) : Prop := va_Z "java/util/ArrayList" nmDC dsOA (.ref e0) A U H ∧ va_T (.object "java/lang/Object") e0 0 (fun _ => .null) A U H ∧ (∃ mi : Nat, va_Mi dsOA mi U) ∧ va_Dc U ∧ va_AO "java/lang/Object" U ∧ va_AOA .long U ∧ ∀ w ∈ XNG, va_Nw w U
theorem xG.warm {A : Nat → Prop} {e0 : Nat} {s U : State} {H H1 : Heap} (hW : s.WarmedH U.vm) (hk : ∀ a : Nat, a < H.size → ¬ A a → H1[a]? = H[a]?) (h : xG A e0 s H) : xG A e0 U H1 := by
  obtain ⟨h1, h2, ⟨mi, h3⟩, h4, h5, h6, h7⟩ := h
  exact ⟨(h1.kept hk).moved hW.alike, (h2.kept hk).moved hW.alike, ⟨mi, h3.moved hW.alike⟩, h4.moved hW.alike, h5.moved hW.alike, xg_AOA hW.alike h6, fun w hw => XNG_warm hw hW (h7 w hw)⟩
theorem xG.same {A : Nat → Prop} {e0 : Nat} {s U : State} {H : Heap} (hv : s.vm = U.vm) (h : xG A e0 s H) : xG A e0 U H := by
  have hal : s.vm.Alike U.vm := by rw [hv]; exact Vm.Alike.refl U.vm
  obtain ⟨h1, h2, ⟨mi, h3⟩, h4, h5, h6, h7⟩ := h
  exact ⟨h1.moved hal, h2.moved hal, ⟨mi, h3.moved hal⟩, h4.moved hal, h5.moved hal, xg_AOA hal h6, fun w hw => XNG_same hw hv (h7 w hw)⟩
/-- a start that knows it all -/
def xPc2 (av : List Value) (D : va_G) (y : Nat → ClassId) (A : Nat → Prop) (e0 : Nat) (H : Heap) : Array Value → State → Prop := va_Pc av (fun U => U.heap = H ∧ xE D y U ∧ xF A U H ∧ xG A e0 U H)
theorem xPc2_blind {av : List Value} {D : va_G} {y : Nat → ClassId} {A : Nat → Prop} {e0 : Nat} {H : Heap} : FrameBlind (xPc2 av D y A e0 H) := fun a U g mk q => ⟨q.1, q.2.1, q.2.2.1.same rfl, q.2.2.2.1.same (show U.vm = (U.calling g mk a).vm from rfl), q.2.2.2.2.same (show U.vm = (U.calling g mk a).vm from rfl)⟩
theorem xM_go2 {l : Launch} {x : MethodName} {cc : ByteArray} {maxL : Nat} {ret : Option FieldType} {rm : Room} {av : List Value} {D : va_G} {y : Nat → ClassId} {H : Heap} {post : Option Value → Heap → Prop} {A : Nat → Prop} {e0 mc ms : Nat}
    (hy : plainName x.cls = true) (hlen : (lg_sl av).length ≤ maxL)
    (body : ∀ (p : Program) (e : Env) (s : State) (m : MethodId) (args : Array Value) (below : List Frame) (meth : Method) (c : Code) (ls : Array Slot) (R : Room) (Q : State → Prop), p.tables.exec = Jvm.exec → c.code = cc → meth.sig.returnType = ret → meth.locks = false → c.maxLocals = maxL → s.vm.findClass x.cls = some m.cls → (∀ w ∈ WG, w.before args s = true) → s.heap = H → xE D y s → meth.name = x.name → R.frames = rm.frames → R.locals = rm.locals → R.cells = rm.cells → R.slots = rm.slots → Q = MQ below (xQ post A) args s mc ms A → va_S A H H [] → lv_has ls maxL (lv_args 0 av) → xF A s H → xG A e0 s H →
      W p l e R s m args below meth c H [] 0 0 Q (F0 m 0 ls [])) : Met l x (.code x cc maxL ret :: WG) rm (xPc2 av D y A e0 H) (xQ post A) mc ms A := by
  refine Met.ofW (cc := cc) (maxL := maxL) (ret := ret) hy rfl ?_
  intro p e s m args below meth c s₁ B hml hv
  obtain ⟨rfl, hH, hE, hF, hG⟩ := hv
  have hts := atoms_spec (ws := .code x cc maxL ret :: WG) B.pre
  have hl := lv_entry av (n := maxL) hlen
  rw [lg_entry_eq]
  have hb := body p e s m av.toArray below meth c _ rm _ B.exec B.bytes B.returns B.notSynchronized hml (findClass_of_methodNamed B.named) (fun w h => hts w (List.mem_cons_of_mem _ h)) hH hE (name_of_methodNamed B.named B.method).1 rfl rfl rfl rfl rfl va_S.rf hl hF hG
  rw [hH]
  exact hb
