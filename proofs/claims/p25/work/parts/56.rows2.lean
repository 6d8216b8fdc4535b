/-! rows of the makers -/
theorem xM_goX2 {l : Launch} {x : MethodName} {cc : ByteArray} {maxL : Nat} {ret : Option FieldType} {rm : Room} {av : List Value} {D : va_G} {y : Nat → ClassId} {H : Heap} {post : Option Value → Heap → Prop} {pX : String → Heap → Prop} {A : Nat → Prop} {e0 mc ms : Nat}
    (hy : plainName x.cls = true) (hlen : (lg_sl av).length ≤ maxL)
    (body : ∀ (p : Program) (e : Env) (s : State) (m : MethodId) (args : Array Value) (below : List Frame) (meth : Method) (c : Code) (ls : Array Slot) (R : Room) (Q : State → Prop), p.tables.exec = Jvm.exec → c.code = cc → meth.sig.returnType = ret → meth.locks = false → c.maxLocals = maxL → s.vm.findClass x.cls = some m.cls → (∀ w ∈ WG, w.before args s = true) → s.heap = H → xE D y s → meth.name = x.name → R.frames = rm.frames → R.locals = rm.locals → R.cells = rm.cells → R.slots = rm.slots → Q = vx_MQ below (xQ post A) (xX pX A) args s mc ms A → va_S A H H [] → lv_has ls maxL (lv_args 0 av) → xF A s H → xG A e0 s H → (∀ z ∈ c.exceptionTable.toList, False) →
      W p l e R s m args below meth c H [] 0 0 Q (F0 m 0 ls [])) : vx_Met l x (.code x cc maxL ret :: WG) rm (xPc2 av D y A e0 H) (xQ post A) (xX pX A) mc ms A := by
  refine vx_ofW (cc := cc) (maxL := maxL) (ret := ret) hy rfl ?_
  intro p e s m args below meth c s₁ B hml htab hv
  obtain ⟨rfl, hH, hE, hF, hG⟩ := hv
  have hts := atoms_spec (ws := .code x cc maxL ret :: WG) B.pre
  have hl := lv_entry av (n := maxL) hlen
  rw [lg_entry_eq]
  have hb := body p e s m av.toArray below meth c _ rm _ B.exec B.bytes B.returns B.notSynchronized hml (findClass_of_methodNamed B.named) (fun w h => hts w (List.mem_cons_of_mem _ h)) hH hE (name_of_methodNamed B.named B.method).1 rfl rfl rfl rfl rfl va_S.rf hl hF hG htab
  rw [hH]
  exact hb
/-- a method with an exception table that returns -/
theorem xM_goH2 {l : Launch} {x : MethodName} {cc : ByteArray} {maxL : Nat} {ret : Option FieldType} {hh : List (Nat × Nat × Nat × Nat)} {rm : Room} {av : List Value} {D : va_G} {y : Nat → ClassId} {H : Heap} {post : Option Value → Heap → Prop} {A : Nat → Prop} {e0 mc ms : Nat}
    (hy : plainName x.cls = true) (hlen : (lg_sl av).length ≤ maxL)
    (body : ∀ (p : Program) (e : Env) (s : State) (m : MethodId) (args : Array Value) (below : List Frame) (meth : Method) (c : Code) (ls : Array Slot) (R : Room) (Q : State → Prop), p.tables.exec = Jvm.exec → c.code = cc → meth.sig.returnType = ret → meth.locks = false → c.maxLocals = maxL → s.vm.findClass x.cls = some m.cls → (∀ w ∈ WG, w.before args s = true) → s.heap = H → xE D y s → meth.name = x.name → R.frames = rm.frames → R.locals = rm.locals → R.cells = rm.cells → R.slots = rm.slots → Q = MQ below (xQ post A) args s mc ms A → va_S A H H [] → lv_has ls maxL (lv_args 0 av) → xF A s H → xG A e0 s H → c.exceptionTable.toList = tableOf hh →
      W p l e R s m args below meth c H [] 0 0 Q (F0 m 0 ls [])) : Met l x (.codeWith x cc maxL ret hh :: WG) rm (xPc2 av D y A e0 H) (xQ post A) mc ms A := by
  refine MetFree.of_bodyS (code := cc) (maxLocals := maxL) (ret := ret) hy ?_ ?_
  · intro args s m h hn
    obtain ⟨m9, meth, c, hn9, h1, h2, h3, h4, -, h5, h6, -⟩ := Cond.codeWith_spec (atoms_spec (ws := .codeWith x cc maxL ret hh :: WG) h _ List.mem_cons_self)
    cases hn.symm.trans hn9
    exact ⟨meth, c, h1, h2, h3, h4, h5, h6⟩
  · intro p e s m args below meth c s₁ B hml hv _
    obtain ⟨rfl, hH, hE, hF, hG⟩ := hv
    have hh0 : s₁.heap = s.heap := by rw [B.state]; rfl
    have hts := atoms_spec (ws := .codeWith x cc maxL ret hh :: WG) B.pre
    have hl := lv_entry av (n := maxL) hlen
    have hb := body p e s m av.toArray below meth c _ rm _ B.exec B.bytes B.returns B.notSynchronized hml (findClass_of_methodNamed B.named) (fun w h => hts w (List.mem_cons_of_mem _ h)) hH hE (name_of_methodNamed B.named B.method).1 rfl rfl rfl rfl rfl va_S.rf hl hF hG (vx_table (x := x) B (hts _ List.mem_cons_self))
    rw [← lg_entry_eq] at hb
    obtain ⟨t, a1, o, b1, b2, b3⟩ := hb s₁ (hh0.trans hH) (Stand.of_body B)
    exact ⟨t, o, a1, b1, b2, ⟨b3.1, b3.2⟩⟩
section MK
variable {p : Program} {l : Launch} {e : Env} {R : Room} {s : State} {m : MethodId} {args : Array Value} {below : List Frame} {meth : Method} {c : Code} {H H0 : Heap} {locs : List Loc} {cells slots mc ms : Nat} {Q : State → Prop}
variable {cc : ByteArray} {pc : Nat} {ls : Array Slot} {rest : List Value} {D : va_G} {y : Nat → ClassId} {A : Nat → Prop} {ad : xL → Nat} {ct : xL → Option va_E} {post : Option Value → Heap → Prop} {pX : String → Heap → Prop} {e0 : Nat}
theorem xs_new {H1 : Heap} (hS : va_S A H0 H locs) (z : H.size ≤ H1.size) (o : ∀ a : Nat, a < H.size → H1[a]? = H[a]?) : va_S A H0 H1 locs := ⟨Nat.le_trans hS.1 z, fun x h1 h2 => (o x (Nat.lt_of_lt_of_le h1 hS.1)).trans (hS.2.1 x h1 h2), hS.2.2⟩
theorem xw_new (hexec : p.tables.exec = Jvm.exec) (hb : c.code = cc) {own C : String} {T : u_T} {N ci index : Nat} (hts : ∀ w ∈ WG, w.before args s = true) (hin : ∀ w ∈ u_ws C T N, w ∈ WG) (ty : Nat → FieldType) (hty : ∀ k, k < N → parseFieldDescriptor (T k).2.2.1 = some (ty k)) (hown : s.vm.findClass own = some m.cls) (hcl : Cond.classLink own index C ∈ WG) (hinst : Cond.instantiable C N ∈ WG) (hini : Cond.initialized C ∈ WG)
    (hE : xE D y s) (hP : xW D A ad ct H) (hS : va_S A H0 H locs) (hc : vwCl[ci]? = some (C, T, N)) {fs : List Value} (hfs : ∀ j, j < N → defaultValue (ty j) = vp_V fs j) (hcells : cells + 1 ≤ R.cells) (hslots : slots + N ≤ R.slots) (hdg : decode cc pc = .ok (.new index, 3)) (lab : xL)
    (kk : ∀ (q : Nat) (H1 : Heap), xW D A (ad_up ad lab q) (aw_up ct lab (.inr (ci, fs))) H1 → va_S A H0 H1 locs → W p l e R s m args below meth c H1 locs (cells + 1) (slots + N) Q (F0 m (pc + 3) ls (.ref q :: rest))) : W p l e R s m args below meth c H locs cells slots Q (F0 m pc ls rest) := by
  have hKn := hE.1.1 ci _ hc
  refine W.newcK hexec hb hown (hts _ hcl) (hts _ hinst) (hts _ hini) rfl hdg hcells hslots hKn.2.1 rfl fun H1 kC hkC e1 z1 o1 => ?_
  exact kk H.size H1 (hP.made lab (Nat.le_refl _) ⟨_, hc, (u_born ty hts hin hKn hkC e1 hty).to hfs⟩ (by omega) o1) (xs_new hS (by omega) o1)
theorem xw_newA (hexec : p.tables.exec = Jvm.exec) (hb : c.code = cc) {atype : ArrayType} {ty : FieldType} {t N : Nat} {a0 : vp_A} (hts : ∀ w ∈ WG, w.before args s = true) (harr : Cond.arrayClass ty ∈ WG) (hty : newarray.typeOf atype = ty) (hxt : (xT y)[t]? = some (y t, ty)) (ha : ∀ cA : ClassId, vp_cell cA a0 = arrV cA N (fun _ => defaultValue ty))
    (hE : xE D y s) (hP : xW D A ad ct H) (hS : va_S A H0 H locs) (hN : N < 2 ^ 31) (hbytes : N * componentBytes ty ≤ 536870912) (hcells : cells + 1 ≤ R.cells) (hslots : slots + N ≤ R.slots) (hdg : decode cc pc = .ok (.newarray atype, 2)) (lab : xL)
    (kk : ∀ (q : Nat) (H1 : Heap), xW D A (ad_up ad lab q) (aw_up ct lab (.inl (y t, a0))) H1 → va_S A H0 H1 locs → W p l e R s m args below meth c H1 locs (cells + 1) (slots + N) Q (F0 m (pc + 2) ls (.ref q :: rest))) : W p l e R s m args below meth c H locs cells slots Q (F0 m pc ls (.int (nI N) :: rest)) := by
  subst hty
  refine va_newaK hexec hb (atype := atype) (hts _ harr) rfl hdg rfl (nI_pos hN) (nI_clamp hN) hbytes hcells hslots rfl fun H1 cA e1 z1 o1 hAr hNm => ?_
  have hcA : cA = y t := by
    have h := (hE.1.2 t _ hxt).2
    cases atype <;> exact Option.some.inj (hNm.symm.trans h)
  subst hcA
  exact kk H.size H1 (hP.made lab (Nat.le_refl _) (by show H1[H.size]? = some (vp_cell _ _); rw [ha]; exact e1) (by omega) o1) (xs_new hS (by omega) o1)
theorem xw_anewO (hexec : p.tables.exec = Jvm.exec) (hb : c.code = cc) {own : String} {index N : Nat} (hts : ∀ w ∈ WG, w.before args s = true) (hown : s.vm.findClass own = some m.cls) (hcl : Cond.classLink own index "java/lang/Object" ∈ WG) (hover : va_AO "java/lang/Object" s)
    (hE : xE D y s) (hP : xW D A ad ct H) (hS : va_S A H0 H locs) (hN : N ≤ 1000) (hcells : cells + 1 ≤ R.cells) (hslots : slots + N ≤ R.slots) (hdg : decode cc pc = .ok (.anewarray index, 3)) (lab : xL)
    (kk : ∀ (q : Nat) (H1 : Heap), xW D A (ad_up ad lab q) (aw_up ct lab (.inl (y 4, N, xr (fun _ => none)))) H1 → va_S A H0 H1 locs → W p l e R s m args below meth c H1 locs (cells + 1) (slots + N) Q (F0 m (pc + 3) ls (.ref q :: rest))) : W p l e R s m args below meth c H locs cells slots Q (F0 m pc ls (.int (nI N) :: rest)) := by
  have hcl2 : (nI N).toNatClampNeg = N := nI_clamp (by omega)
  refine W.anew hexec hb hown (hts _ hcl) (va_AO.use hover) rfl hdg rfl (nI_pos (by omega)) (by rw [hcl2]; omega) hcells (by rw [hcl2]; exact hslots) fun cA kA comp h1 h2 h3 h4 => ?_
  have hcA : cA = y 4 := by
    have h := va_nmO (hE.1.2 4 _ rfl).2 rfl
    exact Option.some.inj (h1.symm.trans h)
  subst hcA
  rw [hcl2]
  have o1 : ∀ a : Nat, a < H.size → (H.push ({ cls := y 4, slots := Array.replicate N .null, vm := .none } : Cell))[a]? = H[a]? := fun a ha => by
    rw [Array.getElem?_push, if_neg (Nat.ne_of_lt ha)]
  refine kk H.size _ (hP.made lab (Nat.le_refl _) ?_ (by simp) o1) (xs_new hS (by simp) o1)
  show (H.push _)[H.size]? = some (vp_cell _ _)
  rw [vp_cell_q, arrV_new]
  simp [va_rf]
theorem xw_mul (hexec : p.tables.exec = Jvm.exec) (hb : c.code = cc) {own : String} {index : Nat} (hts : ∀ w ∈ WG, w.before args s = true) (hown : s.vm.findClass own = some m.cls) (hcl : Cond.classLink own index ("[" ++ (FieldType.array .long).toString) ∈ WG) (hover : va_AOA .long s) (harr : Cond.arrayClass .long ∈ WG)
    (hE : xE D y s) (hP : xW D A ad ct H) (hS : va_S A H0 H locs) (hcells : cells + 8 ≤ R.cells) (hslots : slots + 63 ≤ R.slots) (hdg : decode cc pc = .ok (.multianewarray index 2, 4))
    (kk : ∀ (q : Nat) (H1 : Heap), xW D A (ad_rw ad q) (ct_rw y ct q) H1 → va_S A H0 H1 locs → W p l e R s m args below meth c H1 locs (cells + 8) (slots + 63) Q (F0 m (pc + 4) ls (.ref q :: rest))) : W p l e R s m args below meth c H locs cells slots Q (F0 m pc ls (.int (nI 8) :: .int (nI 7) :: rest)) := by
  have e7 : (nI 7).toNatClampNeg = 7 := by decide
  have e8 : (nI 8).toNatClampNeg = 8 := by decide
  intro T hT Xs
  obtain ⟨vm₁, cA, comp, -, fA, fC, hO, -, X', step⟩ := Xs.multianewarray2F hexec hown (hts _ hcl) (va_AOA.use hover) (hts _ harr) (g := F0 m pc ls (.int (nI 8) :: .int (nI 7) :: rest)) rfl (by rw [hb]; exact hdg) rfl (by decide) (by decide) (by decide) (by decide) (by decide) rfl rfl (by rw [e7]; exact hcells) (by rw [e7, e8]; exact hslots)
  have c1 : comp = y 1 := Option.some.inj (fC.symm.trans (hE.1.2 1 _ rfl).2)
  have c5 : cA = y 5 := Option.some.inj (fA.symm.trans (hE.1.2 5 _ rfl).2)
  subst c1
  subst c5
  rw [e7, e8] at X' step
  generalize hF : Jvm.Free.Multi.fill (T.setVm vm₁) (y 5) (y 1) 7 8 (defaultValue .long) 7 = F at X' step
  have hTh : (T.setVm vm₁).heap = H := hT
  obtain ⟨f1, f2, -, -⟩ := Jvm.Free.Multi.fill_facts (T.setVm vm₁) (y 5) (y 1) 7 8 (defaultValue .long) 7
  rw [hF, hTh] at f1 f2
  have hold : ∀ x : Nat, x < H.size → F.heap[x]? = H[x]? := fun x hx => by
    have := Jvm.Free.Multi.fill_old (T.setVm vm₁) (y 5) (y 1) 7 8 (defaultValue .long) (a := x) (by rw [hTh]; exact hx) 7
    rw [hF, hTh] at this
    exact this
  have hrow : ∀ j : Nat, j < 7 → F.heap[H.size + 1 + j]? = some (vp_cell (y 1) (8, .inr (.inl (fun _ => 0)))) := fun j hj => by
    have := Jvm.Free.Multi.fill_inner (T.setVm vm₁) (y 5) (y 1) 7 8 (defaultValue .long) 7 j hj
    rw [hF, hTh] at this
    rw [this, vp_cell_l, ← arrV_new]
    rfl
  have hout : Jvm.Free.Multi.outerC (y 5) 7 H.size 7 = vp_cell (y 5) (7, xr (fun i => if i < 7 then some (H.size + 1 + i) else none)) := by
    rw [vp_cell_q]
    exact vr_outer (y 5) 7 H.size 7
  rw [hout] at f2
  obtain ⟨t, a1, b1⟩ := kk H.size F.heap (hP.rows f2 hrow (by omega) hold) (xs_new hS (by omega) hold) F rfl X'
  exact ⟨t, step _ (by rw [show T.heap.size = H.size by rw [hT]]; exact a1), b1⟩
theorem xw_putF (hexec : p.tables.exec = Jvm.exec) (hb : c.code = cc) {own ref C : String} {T : u_T} {N ci index : Nat} (hts : ∀ w ∈ WG, w.before args s = true) (hown : s.vm.findClass own = some m.cls) (hE : xE D y s) (hP : xW D A ad ct H) (hS0 : va_S A H0 H locs) (hin : ∀ w ∈ u_ws C T N, w ∈ WG) (ty0 : Nat → FieldType) (hty : ∀ k, k < N → parseFieldDescriptor (T k).2.2.1 = some (ty0 k)) (hnm : ∀ a, a < N → ∀ b, b < N → a ≠ b → (T a).2.1 ≠ (T b).2.1) (lab : xL) {fs : List Value} (he : ct lab = some (.inr (ci, fs))) (hc : vwCl[ci]? = some (C, T, N)) (k : Nat) (hk : k < N) (hlink : Cond.fieldLink own index ref (T k).2.1 (T k).2.2.1 ∈ WG) (hsame : ∀ x, s.fieldFound? (T k).1 (T k).2.1 (T k).2.2.1 = some x → s.fieldFound? ref (T k).2.1 (T k).2.2.1 = some x) (hfin : (T k).2.2.2 = true) (hin2 : meth.name = "<init>") (hdecl : (T k).1 = own) {ty : FieldType} {v : Value} (hd : parseFieldDescriptor (T k).2.2.1 = some ty) (hn : narrow ty v = v) (hfit : fits ty v = true) (hl : k < fs.length)
    (hdg : decode cc pc = .ok (.putfield index, 3)) (kk : ∀ (H1 : Heap) (locs1 : List Loc), xW D A ad (aw_up ct lab (.inr (ci, fs.set k v))) H1 → va_S A H0 H1 locs1 → W p l e R s m args below meth c H1 locs1 cells slots Q (F0 m (pc + 3) ls rest)) : W p l e R s m args below meth c H locs cells slots Q (F0 m pc ls (v :: .ref (ad lab) :: rest)) := by
  have hap := va_apart (own := own) hts hin ty0 hty hnm hE.1 hc
  obtain ⟨r, h1, cell, q1, q2, q3, q4⟩ := hP.1 _ _ he
  have hr : r = (C, T, N) := Option.some.inj (h1.symm.trans hc)
  subst hr
  obtain ⟨hS, hfc, kC, hkC, hkind⟩ := hE.1.1 ci _ hc
  obtain ⟨cf, kf, fi, f, hi, hsl⟩ := hS k hk
  have hlay := hts _ (hin _ (u_in_lay hk))
  unfold u_lay at hlay
  rw [if_pos hfin] at hlay
  have hst := (u_facts hfc hkC (u_lays hts hin hk) hi).1
  have hcf : m.cls = cf := by
    obtain ⟨_, _, c', _, _, _, -, -, hf', -, -, -, hown2, -⟩ := Cond.laysFinal_spec hlay
    have e1 : c' = cf := by have := hi.symm.trans hf'; simp at this; exact this.1.symm
    rw [hdecl] at hown2
    rw [← e1]; exact Option.some.inj (hown.symm.trans hown2)
  have h6 := u_fits hfc hkC hkind (Or.inr hlay) hi hd hn hfit
  refine W.putFinK hexec hb hown (hts _ hlink) (hsame _ hi) hst hcf hin2 (by rw [q2]; exact h6) q1 q3 (by rw [hsl]; exact k2_hasslot (q4 k hk)) rfl rfl hdg fun H' e1 e2 e3 => ?_
  rw [hsl] at e1 ⊢
  exact kk H' _ (hP.set he ⟨_, hc, t_OB.to (V := updV (vp_V fs) k v) ⟨_, e1, q2, q3, t_set q4 hap hk v⟩ (fun j _ => vp_updV_set hl v j)⟩ e2 e3) (hS0.put e2 e3 (hP.inA he))
/-- a reference to an object of the world, stored in an Object[] of the world -/
theorem xw_aast (hexec : p.tables.exec = Jvm.exec) (hb : c.code = cc) (hE : xE D y s) (hP : xW D A ad ct H) (hS : va_S A H0 H locs) (lab labV : xL) {n ci : Nat} {r : vw_C} {vs : List Value} {f : Nat → Option Nat} (he : ct lab = some (.inl (y 4, n, xr f))) (hv : ct labV = some (.inr (ci, vs))) (hc : vwCl[ci]? = some r) (hca : va_Nw (.castable r.1 "java/lang/Object") s) {i : Nat} (hi : i < n) (hn : n < 2 ^ 31) (hdg : decode cc pc = .ok (.aastore, 1))
    (kk : ∀ (H1 : Heap) (locs1 : List Loc), xW D A ad (aw_up ct lab (.inl (y 4, n, xr (va_up f i (some (ad labV)))))) H1 → va_S A H0 H1 locs1 → W p l e R s m args below meth c H1 locs1 cells slots Q (F0 m (pc + 1) ls rest)) : W p l e R s m args below meth c H locs cells slots Q (F0 m pc ls (.ref (ad labV) :: .int (nI i) :: .ref (ad lab) :: rest)) := by
  have hcl : (nI i).toNatClampNeg = i := nI_clamp (by omega)
  obtain ⟨r', hr', cellV, g1, g2, g3, -⟩ := hP.1 _ _ hv
  have hcls := (hE.1.1 ci r hc).2
  obtain ⟨kA, comp, k1, k2, k3, -⟩ := (hE.1.2 4 _ rfl).2
  obtain ⟨kE, hkE, -⟩ := Vm.findClass_spec k3
  obtain ⟨c0, t1, f1, f2, f3⟩ := Cond.castable_spec (va_Nw.use (A := args) rfl hca)
  cases hcls.1.symm.trans f1
  cases k3.symm.trans f2
  obtain ⟨kC, hkC, -⟩ := hcls.2
  refine W.aast hexec hb (hP.1 _ _ he) (fun q h => by cases h) (fun h => by cases h) k1 k2 rfl hkE ⟨nI_pos (by omega), by show _ < (arrV _ _ _).slots.size; rw [arrV_size, hcl]; exact hi⟩ g1 (fun q h => by rw [g3] at h; cases h) (by rw [g2]; exact hkC) (by rw [g2]; exact f3) rfl rfl hdg fun H1 e z oq => ?_
  refine kk H1 _ (hP.set he ?_ z oq) (hS.put z oq (hP.inA he))
  show H1[ad lab]? = some (vp_cell _ _)
  rw [e]
  rw [vp_cell_q, vp_cell_q, arrV_store, hcl]
  congr 2
  funext q
  by_cases hq : q = i
  · subst hq
    simp [updV, va_up, va_rf]
  · simp [updV, va_up, hq]
theorem xw_qalen (hexec : p.tables.exec = Jvm.exec) (hb : c.code = cc) (hE : xE D y s) (hP : xW D A ad ct H) (lab : xL) {n : Nat} {f : Nat → Option Nat} (he : ct lab = some (.inl (y 4, n, xr f))) (hdg : decode cc pc = .ok (.arraylength, 1))
    (kk : W p l e R s m args below meth c H locs cells slots Q (F0 m (pc + 1) ls (.int (nI n) :: rest))) : W p l e R s m args below meth c H locs cells slots Q (F0 m pc ls (.ref (ad lab) :: rest)) :=
  va_alen hexec hb hE.1 (hP.one he) 0 4 rfl rfl rfl hdg kk
/-! calls of methods that start knowing it all -/
theorem x2_pre {av : List Value} {Hx : Heap} (hE : xE D y s) (hF : xF A s H0) (hG : xG A e0 s H0) (hS : va_S A H0 Hx locs) : ∀ U : State, U.heap = Hx → s.WarmedH U.vm → xPc2 av D y A e0 Hx av.toArray U := fun U hU hW => ⟨rfl, hU, hE.moved hW, hF.warm hW hS.2.1, hG.warm hW hS.2.1⟩
theorem x2_callV {own C : String} {index maxL nL n : Nat} {x : MethodName} {bytes : ByteArray} {ret : Option FieldType} {rm : Room} {b : Addr} {st0 : List Value} (As : List Value) (hM : Met l x (.code x bytes maxL ret :: WG) rm (xPc2 (.ref b :: As) D y A e0 H) (xQ post A) mc ms A) (hexec : p.tables.exec = Jvm.exec) (hb : c.code = cc) (hml : c.maxLocals = nL) (hown : s.vm.findClass own = some m.cls) (hts : ∀ w ∈ WG, w.before args s = true) (hE : xE D y s) (hF : xF A s H0) (hG : xG A e0 s H0) (hS : va_S A H0 H locs) (hrecv : ∃ cellB : Cell, H[b]? = some cellB ∧ cellB.vm.isStatics = false ∧ s.vm.findClass C = some cellB.cls)
    (hrc : rm.cells = mc) (hrs : rm.slots = ms) (hini : Cond.initialized x.cls ∈ WG) (hl : Cond.methodLink own index x ∈ WG) (hcode : Cond.code x bytes maxL ret ∈ WG) (hin : Cond.instanceMethod x ∈ WG) (hsel : Cond.selects C x x ∈ WG) (hd : x.cls ≠ "java/lang/invoke/MethodHandle" ∧ x.cls ≠ "java/lang/invoke/VarHandle" ∧ (parseMethodDescriptor x.desc).map (fun d => d.parameters.length) = some n) (hn : As.length = n) (hR : rm.frames + 1 ≤ R.frames ∧ 8 + (maxL + 11) + rm.locals ≤ R.locals)
    (hsize : ls.size = nL) (hstack : st0 = As.reverse ++ .ref b :: rest) (hW : (rest.map fun v => v.category).sum ≤ 8) (hdg : decode cc pc = .ok (.invokevirtual index, 3)) (hf : cells + mc ≤ R.cells ∧ slots + ms ≤ R.slots)
    (kk : ∀ (v : Option Value) (H1 : Heap) (locs1 : List Loc), post v H1 → va_S A H0 H1 locs1 → W p l e R s m args below meth c H1 locs1 (cells + mc) (slots + ms) Q (F0 m (pc + 3) ls (v.toList ++ rest))) : W p l e R s m args below meth c H locs cells slots Q (F0 m pc ls st0) :=
  xw_go (As := As) (va_runV (rest := rest) ⟨hexec, hb, hml, hown, hts⟩ hM ⟨xw_cb hts hrc hrs hini hl hcode hd hR, hts _ hin, hts _ hsel⟩ ⟨xPc2_blind, hrecv, x2_pre hE hF hG hS⟩ rfl hn hsize hstack (lv_room hW) hdg hf) hS kk
theorem x2_callS {own : String} {index maxL nL n : Nat} {x : MethodName} {bytes : ByteArray} {ret : Option FieldType} {rm : Room} {st0 : List Value} (As : List Value) (hM : Met l x (.code x bytes maxL ret :: WG) rm (xPc2 As D y A e0 H) (xQ post A) mc ms A) (hexec : p.tables.exec = Jvm.exec) (hb : c.code = cc) (hml : c.maxLocals = nL) (hown : s.vm.findClass own = some m.cls) (hts : ∀ w ∈ WG, w.before args s = true) (hE : xE D y s) (hF : xF A s H0) (hG : xG A e0 s H0) (hS : va_S A H0 H locs)
    (hrc : rm.cells = mc) (hrs : rm.slots = ms) (hini : Cond.initialized x.cls ∈ WG) (hl : Cond.methodLink own index x ∈ WG) (hcode : Cond.code x bytes maxL ret ∈ WG) (hst : Cond.static x ∈ WG) (hd : x.cls ≠ "java/lang/invoke/MethodHandle" ∧ x.cls ≠ "java/lang/invoke/VarHandle" ∧ (parseMethodDescriptor x.desc).map (fun d => d.parameters.length) = some n) (hn : As.length = n) (hR : rm.frames + 1 ≤ R.frames ∧ 8 + (maxL + 11) + rm.locals ≤ R.locals)
    (hsize : ls.size = nL) (hstack : st0 = As.reverse ++ rest) (hW : (rest.map fun v => v.category).sum ≤ 8) (hdg : decode cc pc = .ok (.invokestatic index, 3)) (hf : cells + mc ≤ R.cells ∧ slots + ms ≤ R.slots)
    (kk : ∀ (v : Option Value) (H1 : Heap) (locs1 : List Loc), post v H1 → va_S A H0 H1 locs1 → W p l e R s m args below meth c H1 locs1 (cells + mc) (slots + ms) Q (F0 m (pc + 3) ls (v.toList ++ rest))) : W p l e R s m args below meth c H locs cells slots Q (F0 m pc ls st0) :=
  xw_go (As := As) (va_runS (rest := rest) ⟨hexec, hb, hml, hown, hts⟩ hM ⟨xw_cb hts hrc hrs hini hl hcode hd hR, hts _ hst⟩ ⟨xPc2_blind, x2_pre hE hF hG hS⟩ rfl hn hsize hstack (lv_room hW) hdg hf) hS kk
/-- a static method with an exception table -/
theorem x2_callSH {own : String} {index maxL nL n : Nat} {x : MethodName} {bytes : ByteArray} {ret : Option FieldType} {hh : List (Nat × Nat × Nat × Nat)} {rm : Room} {st0 : List Value} (As : List Value) (hM : Met l x (.codeWith x bytes maxL ret hh :: WG) rm (xPc2 As D y A e0 H) (xQ post A) mc ms A) (hexec : p.tables.exec = Jvm.exec) (hb : c.code = cc) (hml : c.maxLocals = nL) (hown : s.vm.findClass own = some m.cls) (hts : ∀ w ∈ WG, w.before args s = true) (hE : xE D y s) (hF : xF A s H0) (hG : xG A e0 s H0) (hS : va_S A H0 H locs)
    (hrc : rm.cells = mc) (hrs : rm.slots = ms) (hini : Cond.initialized x.cls ∈ WG) (hl : Cond.methodLink own index x ∈ WG) (hcode : Cond.codeWith x bytes maxL ret hh ∈ WG) (hst : Cond.static x ∈ WG) (hd : x.cls ≠ "java/lang/invoke/MethodHandle" ∧ x.cls ≠ "java/lang/invoke/VarHandle" ∧ (parseMethodDescriptor x.desc).map (fun d => d.parameters.length) = some n) (hn : As.length = n) (hR : rm.frames + 1 ≤ R.frames ∧ 8 + (maxL + 11) + rm.locals ≤ R.locals)
    (hsize : ls.size = nL) (hstack : st0 = As.reverse ++ rest) (hW : (rest.map fun v => v.category).sum ≤ 8) (hdg : decode cc pc = .ok (.invokestatic index, 3)) (hf : cells + mc ≤ R.cells ∧ slots + ms ≤ R.slots)
    (kk : ∀ (v : Option Value) (H1 : Heap) (locs1 : List Loc), post v H1 → va_S A H0 H1 locs1 → W p l e R s m args below meth c H1 locs1 (cells + mc) (slots + ms) Q (F0 m (pc + 3) ls (v.toList ++ rest))) : W p l e R s m args below meth c H locs cells slots Q (F0 m pc ls st0) :=
  xw_go (As := As) (vx_runSW (rest := rest) ⟨hexec, hb, hml, hown, hts⟩ hM (by
    have hG2 : GoodIn WG (.codeWith x bytes maxL ret hh :: WG) := WG_in (fun w h => h) hcode
    have h2 := hd.2.2
    exact ⟨⟨hrc, hrs, hR.1, hR.2, pay_in hts hG2, List.mem_cons_self⟩, hts _ hcode, hts _ hini, ⟨hd.1, hd.2.1⟩, fun sig h => by rw [h] at h2; exact (Option.some.inj h2).symm, hts _ hl, hts _ hst⟩) ⟨xPc2_blind, x2_pre hE hF hG hS⟩ rfl hn hsize hstack (lv_room hW) hdg hf) hS kk
theorem x2_callI {own : String} {index maxL nL n : Nat} {x : MethodName} {bytes : ByteArray} {rm : Room} {b : Addr} {st0 : List Value} (As : List Value) (hM : Met l x (.code x bytes maxL none :: WG) rm (xPc2 (.ref b :: As) D y A e0 H) (xQ post A) mc ms A) (hexec : p.tables.exec = Jvm.exec) (hb : c.code = cc) (hml : c.maxLocals = nL) (hown : s.vm.findClass own = some m.cls) (hts : ∀ w ∈ WG, w.before args s = true) (hE : xE D y s) (hF : xF A s H0) (hG : xG A e0 s H0) (hS : va_S A H0 H locs)
    (hrc : rm.cells = mc) (hrs : rm.slots = ms) (hini : Cond.initialized x.cls ∈ WG) (hl : Cond.methodLink own index x ∈ WG) (hcode : Cond.code x bytes maxL none ∈ WG) (hin : Cond.instanceMethod x ∈ WG) (hy1 : x.name = "<init>") (hd : x.cls ≠ "java/lang/invoke/MethodHandle" ∧ x.cls ≠ "java/lang/invoke/VarHandle" ∧ (parseMethodDescriptor x.desc).map (fun d => d.parameters.length) = some n) (hn : As.length = n) (hR : rm.frames + 1 ≤ R.frames ∧ 8 + (maxL + 11) + rm.locals ≤ R.locals)
    (hsize : ls.size = nL) (hstack : st0 = As.reverse ++ .ref b :: rest) (hW : (rest.map fun v => v.category).sum ≤ 8) (hdg : decode cc pc = .ok (.invokespecial index, 3)) (hf : cells + mc ≤ R.cells ∧ slots + ms ≤ R.slots)
    (kk : ∀ (v : Option Value) (H1 : Heap) (locs1 : List Loc), post v H1 → va_S A H0 H1 locs1 → W p l e R s m args below meth c H1 locs1 (cells + mc) (slots + ms) Q (F0 m (pc + 3) ls (v.toList ++ rest))) : W p l e R s m args below meth c H locs cells slots Q (F0 m pc ls st0) :=
  xw_go (As := .ref b :: As) (va_runI (rest := rest) ⟨hexec, hb, hml, hown, hts⟩ hM ⟨xw_cb hts hrc hrs hini hl hcode hd hR, hy1, hts _ hin⟩ ⟨xPc2_blind, x2_pre hE hF hG hS⟩ rfl hn hsize hstack (lv_room hW) hdg hf) hS kk
theorem x2_callIN {own host : String} {index maxL nL n : Nat} {x : MethodName} {bytes : ByteArray} {rm : Room} {b : Addr} {st0 : List Value} (As : List Value) (hM : Met l x (.code x bytes maxL none :: WG) rm (xPc2 (.ref b :: As) D y A e0 H) (xQ post A) mc ms A) (hexec : p.tables.exec = Jvm.exec) (hb : c.code = cc) (hml : c.maxLocals = nL) (hown : s.vm.findClass own = some m.cls) (hts : ∀ w ∈ WG, w.before args s = true) (hE : xE D y s) (hF : xF A s H0) (hG : xG A e0 s H0) (hS : va_S A H0 H locs)
    (hrc : rm.cells = mc) (hrs : rm.slots = ms) (hini : Cond.initialized x.cls ∈ WG) (hl : va_Nw (.methodLinkNest own index x host) s) (hcode : Cond.code x bytes maxL none ∈ WG) (hin : Cond.instanceMethod x ∈ WG) (hy1 : x.name = "<init>") (hd : x.cls ≠ "java/lang/invoke/MethodHandle" ∧ x.cls ≠ "java/lang/invoke/VarHandle" ∧ (parseMethodDescriptor x.desc).map (fun d => d.parameters.length) = some n) (hn : As.length = n) (hR : rm.frames + 1 ≤ R.frames ∧ 8 + (maxL + 11) + rm.locals ≤ R.locals)
    (hsize : ls.size = nL) (hstack : st0 = As.reverse ++ .ref b :: rest) (hW : (rest.map fun v => v.category).sum ≤ 8) (hdg : decode cc pc = .ok (.invokespecial index, 3)) (hf : cells + mc ≤ R.cells ∧ slots + ms ≤ R.slots)
    (kk : ∀ (v : Option Value) (H1 : Heap) (locs1 : List Loc), post v H1 → va_S A H0 H1 locs1 → W p l e R s m args below meth c H1 locs1 (cells + mc) (slots + ms) Q (F0 m (pc + 3) ls (v.toList ++ rest))) : W p l e R s m args below meth c H locs cells slots Q (F0 m pc ls st0) :=
  xw_go (As := .ref b :: As) (va_runIN (host := host) (rest := rest) ⟨hexec, hb, hml, hown, hts⟩ hM ⟨va_cnB n hts (WG_in (fun w h => h) hcode) rfl hrc hrs hl (hts _ hini) hd hR, hy1, hts _ hin⟩ ⟨xPc2_blind, x2_pre hE hF hG hS⟩ rfl hn hsize hstack (lv_room hW) hdg hf) hS kk
theorem xx2_callV {own C : String} {index maxL nL n mc' ms' : Nat} {x : MethodName} {bytes : ByteArray} {ret : Option FieldType} {rm : Room} {b : Addr} {st0 : List Value} (As : List Value) (hM : vx_Met l x (.code x bytes maxL ret :: WG) rm (xPc2 (.ref b :: As) D y A e0 H) (xQ post A) (xX pX A) mc' ms' A) (hexec : p.tables.exec = Jvm.exec) (hb : c.code = cc) (hml : c.maxLocals = nL) (hown : s.vm.findClass own = some m.cls) (hts : ∀ w ∈ WG, w.before args s = true) (hE : xE D y s) (hF : xF A s H0) (hG : xG A e0 s H0) (hS : va_S A H0 H locs) (hrecv : ∃ cellB : Cell, H[b]? = some cellB ∧ cellB.vm.isStatics = false ∧ s.vm.findClass C = some cellB.cls)
    (hrc : rm.cells = mc') (hrs : rm.slots = ms') (hini : Cond.initialized x.cls ∈ WG) (hl : Cond.methodLink own index x ∈ WG) (hcode : Cond.code x bytes maxL ret ∈ WG) (hin : Cond.instanceMethod x ∈ WG) (hsel : Cond.selects C x x ∈ WG) (hd : x.cls ≠ "java/lang/invoke/MethodHandle" ∧ x.cls ≠ "java/lang/invoke/VarHandle" ∧ (parseMethodDescriptor x.desc).map (fun d => d.parameters.length) = some n) (hn : As.length = n) (hR : rm.frames + 1 ≤ R.frames ∧ 8 + (maxL + 11) + rm.locals ≤ R.locals)
    (hsize : ls.size = nL) (hstack : st0 = As.reverse ++ .ref b :: rest) (hW : (rest.map fun v => v.category).sum ≤ 8) (hdg : decode cc pc = .ok (.invokevirtual index, 3)) (hf : cells + mc' ≤ R.cells ∧ slots + ms' ≤ R.slots)
    (kx : ∀ (E : String) (ce : Cell) (q9 : Addr) (H1 : Heap) (locs1 : List Loc), pX E H1 → va_S A H0 H1 locs1 → H1[q9]? = some ce → ce.vm = .none → s.vm.findClass E = some ce.cls → vx_W p l e R s m args below meth c H1 locs1 (cells + mc') (slots + ms') Q (F0 m pc ls rest) q9)
    (kk : ∀ (v : Option Value) (H1 : Heap) (locs1 : List Loc), post v H1 → va_S A H0 H1 locs1 → W p l e R s m args below meth c H1 locs1 (cells + mc') (slots + ms') Q (F0 m (pc + 3) ls (v.toList ++ rest))) : W p l e R s m args below meth c H locs cells slots Q (F0 m pc ls st0) :=
  xx_go (a := (Value.ref b :: As).toArray) (vx_runV (rest := rest) ⟨hexec, hb, hml, hown, hts⟩ hM ⟨xw_cb hts hrc hrs hini hl hcode hd hR, hts _ hin, hts _ hsel⟩ ⟨xPc2_blind, hrecv, x2_pre hE hF hG hS⟩ rfl hn hsize hstack (lv_room hW) hdg hf) hS kx kk
end MK
