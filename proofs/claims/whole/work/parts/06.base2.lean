/-! numbers that are nI of a Nat, and the frame of a walk with its end named -/
theorem ni_lt {a b : Nat} (ha : a < 2 ^ 31) (hb : b < 2 ^ 31) (h : nI a < nI b) : a < b := (nI_ltI ha hb).mp h
theorem ni_nlt {a b : Nat} (ha : a < 2 ^ 31) (hb : b < 2 ^ 31) (h : ¬ nI a < nI b) : b ≤ a := Nat.le_of_not_lt (mt (nI_ltI ha hb).mpr h)
theorem ni_le {a b : Nat} (ha : a < 2 ^ 31) (hb : b < 2 ^ 31) (h : nI a ≤ nI b) : a ≤ b := (nI_leI ha hb).mp h
theorem ni_nle {a b : Nat} (ha : a < 2 ^ 31) (hb : b < 2 ^ 31) (h : ¬ nI a ≤ nI b) : b < a := Nat.lt_of_not_le (mt (nI_leI ha hb).mpr h)
theorem ni_eq {a b : Nat} (ha : a < 2 ^ 31) (hb : b < 2 ^ 31) (h : nI a = nI b) : a = b := (nI_eq ha hb).mp h
theorem ni_ne {a b : Nat} (ha : a < 2 ^ 31) (hb : b < 2 ^ 31) (h : ¬ nI a = nI b) : a ≠ b := mt (nI_eq ha hb).mpr h
theorem xM_go {l : Launch} {x : MethodName} {cc : ByteArray} {maxL : Nat} {ret : Option FieldType} {rm : Room} {av : List Value} {D : va_G} {y : Nat → ClassId} {H : Heap} {post : Option Value → Heap → Prop} {A : Nat → Prop} {mc ms : Nat}
    (hy : plainName x.cls = true) (hlen : (lg_sl av).length ≤ maxL)
    (body : ∀ (p : Program) (e : Env) (s : State) (m : MethodId) (args : Array Value) (below : List Frame) (meth : Method) (c : Code) (ls : Array Slot) (R : Room) (Q : State → Prop), p.tables.exec = Jvm.exec → c.code = cc → meth.sig.returnType = ret → meth.locks = false → c.maxLocals = maxL → s.vm.findClass x.cls = some m.cls → (∀ w ∈ WG, w.before args s = true) → s.heap = H → xE D y s → meth.name = x.name → R.frames = rm.frames → R.locals = rm.locals → R.cells = rm.cells → R.slots = rm.slots → Q = MQ below (xQ post A) args s mc ms A → va_S A H H [] → lv_has ls maxL (lv_args 0 av) →
      W p l e R s m args below meth c H [] 0 0 Q (F0 m 0 ls [])) : Met l x (.code x cc maxL ret :: WG) rm (xPc av D y H) (xQ post A) mc ms A :=
  xM_start hy hlen (fun p e s m below meth c ls a1 a2 a3 a4 a5 a6 a7 a8 a9 a10 a11 a12 => body p e s m av.toArray below meth c ls rm _ a1 a2 a3 a4 a5 a6 a7 a8 a9 a10 rfl rfl rfl rfl rfl a11 a12)
section XE
variable {p : Program} {l : Launch} {e : Env} {R : Room} {s : State} {m : MethodId} {args : Array Value} {below : List Frame} {meth : Method} {c : Code} {H H0 : Heap} {locs : List Loc} {cells slots mc ms : Nat} {Q : State → Prop}
variable {cc : ByteArray} {pc : Nat} {ls : Array Slot} {rest : List Value} {D : va_G} {y : Nat → ClassId} {A : Nat → Prop} {post : Option Value → Heap → Prop}
theorem xe_iret {v : Int32} (hQ : Q = MQ below (xQ post A) args s mc ms A) (hexec : p.tables.exec = Jvm.exec) (hb : c.code = cc) (hr : meth.sig.returnType = some .int) (hlocks : meth.locks = false) (hH : s.heap = H0) (hS : va_S A H0 H locs) (h1 : cells ≤ mc) (h2 : slots ≤ ms) (hp : post (some (.int v)) H) (hdg : decode cc pc = .ok (.ireturn, 1)) : W p l e R s m args below meth c H locs cells slots Q (F0 m pc ls [.int v]) := by
  rw [hQ]; exact xw_iret hexec hb hr hlocks hH hS h1 h2 hp hdg
theorem xe_zret {v : Int32} (hQ : Q = MQ below (xQ post A) args s mc ms A) (hexec : p.tables.exec = Jvm.exec) (hb : c.code = cc) (hr : meth.sig.returnType = some .boolean) (hlocks : meth.locks = false) (hH : s.heap = H0) (hS : va_S A H0 H locs) (hz : v = 0 ∨ v = 1) (h1 : cells ≤ mc) (h2 : slots ≤ ms) (hp : post (some (.int v)) H) (hdg : decode cc pc = .ok (.ireturn, 1)) : W p l e R s m args below meth c H locs cells slots Q (F0 m pc ls [.int v]) := by
  rw [hQ]; exact xw_zret hexec hb hr hlocks hH hS (by rcases hz with h | h <;> subst h <;> rfl) h1 h2 hp hdg
theorem xe_lret {v : Int64} (hQ : Q = MQ below (xQ post A) args s mc ms A) (hexec : p.tables.exec = Jvm.exec) (hb : c.code = cc) (hr : meth.sig.returnType = some .long) (hlocks : meth.locks = false) (hH : s.heap = H0) (hS : va_S A H0 H locs) (h1 : cells ≤ mc) (h2 : slots ≤ ms) (hp : post (some (.long v)) H) (hdg : decode cc pc = .ok (.lreturn, 1)) : W p l e R s m args below meth c H locs cells slots Q (F0 m pc ls [.long v]) := by
  rw [hQ]; exact xw_lret hexec hb hr hlocks hH hS h1 h2 hp hdg
theorem xe_vret (hQ : Q = MQ below (xQ post A) args s mc ms A) (hexec : p.tables.exec = Jvm.exec) (hb : c.code = cc) (hr : meth.sig.returnType = none) (hlocks : meth.locks = false) (hH : s.heap = H0) (hS : va_S A H0 H locs) (h1 : cells ≤ mc) (h2 : slots ≤ ms) (hp : post none H) (hdg : decode cc pc = .ok (.return_, 1)) : W p l e R s m args below meth c H locs cells slots Q (F0 m pc ls []) := by
  rw [hQ]; exact xw_vret hexec hb hr hlocks hH hS h1 h2 hp hdg
theorem xe_aret {a : Nat} {rt : FieldType} (hQ : Q = MQ below (xQ post A) args s mc ms A) (hexec : p.tables.exec = Jvm.exec) (hb : c.code = cc) (hr : meth.sig.returnType = some rt) (hrt : (∃ n, rt = .object n) ∨ ∃ t, rt = .array t) (hlocks : meth.locks = false) (hH : s.heap = H0) (hS : va_S A H0 H locs) (h1 : cells ≤ mc) (h2 : slots ≤ ms) (hp : post (some (.ref a)) H) (hdg : decode cc pc = .ok (.areturn, 1)) : W p l e R s m args below meth c H locs cells slots Q (F0 m pc ls [.ref a]) := by
  rw [hQ]; exact xw_aret hexec hb hr hrt hlocks hH hS h1 h2 hp hdg
/-- a static method of the host, called from the nest -/
theorem xw_callSN {own host : String} {index maxL nL n : Nat} {x : MethodName} {bytes : ByteArray} {ret : Option FieldType} {rm : Room} {st0 : List Value} (As : List Value) (hM : Met l x (.code x bytes maxL ret :: WG) rm (xPc As D y H) (xQ post A) mc ms A) (hexec : p.tables.exec = Jvm.exec) (hb : c.code = cc) (hml : c.maxLocals = nL) (hown : s.vm.findClass own = some m.cls) (hts : ∀ w ∈ WG, w.before args s = true) (hE : xE D y s) (hS : va_S A H0 H locs)
    (hrc : rm.cells = mc) (hrs : rm.slots = ms) (hini : Cond.initialized x.cls ∈ WG) (hl : va_Nw (.methodLinkNest own index x host) s) (hcode : Cond.code x bytes maxL ret ∈ WG) (hst : Cond.static x ∈ WG) (hd : x.cls ≠ "java/lang/invoke/MethodHandle" ∧ x.cls ≠ "java/lang/invoke/VarHandle" ∧ (parseMethodDescriptor x.desc).map (fun d => d.parameters.length) = some n) (hn : As.length = n) (hR : rm.frames + 1 ≤ R.frames ∧ 8 + (maxL + 11) + rm.locals ≤ R.locals)
    (hsize : ls.size = nL) (hstack : st0 = As.reverse ++ rest) (hW : (rest.map fun v => v.category).sum ≤ 8) (hdg : decode cc pc = .ok (.invokestatic index, 3)) (hf : cells + mc ≤ R.cells ∧ slots + ms ≤ R.slots)
    (kk : ∀ (v : Option Value) (H1 : Heap) (locs1 : List Loc), post v H1 → va_S A H0 H1 locs1 → W p l e R s m args below meth c H1 locs1 (cells + mc) (slots + ms) Q (F0 m (pc + 3) ls (v.toList ++ rest))) : W p l e R s m args below meth c H locs cells slots Q (F0 m pc ls st0) :=
  xw_go (As := As) (va_runSN (rest := rest) ⟨hexec, hb, hml, hown, hts⟩ hM ⟨va_cnB n hts (WG_in (fun w h => h) hcode) rfl hrc hrs hl (hts _ hini) hd hR, hts _ hst, trivial⟩ ⟨xPc_blind, xw_pre hE⟩ rfl hn hsize hstack (lv_room hW) hdg hf) hS kk
end XE
section XP
variable {p : Program} {l : Launch} {e : Env} {R : Room} {s : State} {m : MethodId} {args : Array Value} {below : List Frame} {meth : Method} {c : Code} {H H0 : Heap} {locs : List Loc} {cells slots : Nat} {Q : State → Prop}
variable {cc : ByteArray} {pc : Nat} {ls : Array Slot} {rest : List Value} {D : va_G} {y : Nat → ClassId} {A : Nat → Prop} {ad : xL → Nat} {bl : xM} {z : xC} {g pl : Nat → Int32} {kn mi : Nat → Int64} {rw : Nat → Nat → Int64} {un : Int32} {fR fO : Nat → Nat → Option va_E}
theorem xr_nd {i : Nat} (hE : xE D y s) (hP : xW D A ad (wU (wB y ad bl z g pl kn rw mi un) fR fO) H) (hi : i < nN z) : ∃ cellB : Cell, H[ad (12, i)]? = some cellB ∧ cellB.vm.isStatics = false ∧ s.vm.findClass "NetlistBench$Node" = some cellB.cls := by
  have he : wU (wB y ad bl z g pl kn rw mi un) fR fO (12, i) = some (.inr (3, [.int (nR z i), .int (nP z i)])) := if_pos hi
  exact xw_recv hE hP (12, i) he rfl
theorem xr_el {i : Nat} (hE : xE D y s) (hP : xW D A ad (wU (wB y ad bl z g pl kn rw mi un) fR fO) H) (hi : i < nE z) : ∃ cellB : Cell, H[ad (13, i)]? = some cellB ∧ cellB.vm.isStatics = false ∧ s.vm.findClass "NetlistBench$Element" = some cellB.cls := by
  have he : wU (wB y ad bl z g pl kn rw mi un) fR fO (13, i) = some (.inr (1, [.int (eS z i), .int (eA z i), .int (eB z i), .int (eZ z i), .int (eO z i), .int (eT z i), .ref (ad (14, i))])) := if_pos hi
  exact xw_recv hE hP (13, i) he rfl
theorem xc_nd {own : String} {index i : Nat} (hexec : p.tables.exec = Jvm.exec) (hb : c.code = cc) (hts : ∀ w ∈ WG, w.before args s = true) (hown : s.vm.findClass own = some m.cls) (hE : xE D y s) (hP : xW D A ad (wU (wB y ad bl z g pl kn rw mi un) fR fO) H) (hi : i < nN z) (hlink : Cond.classLink own index "NetlistBench$Node" ∈ WG) (hdg : decode cc pc = .ok (.checkcast index, 3))
    (k : W p l e R s m args below meth c H locs cells slots Q (F0 m (pc + 3) ls (.ref (ad (12, i)) :: rest))) : W p l e R s m args below meth c H locs cells slots Q (F0 m pc ls (.ref (ad (12, i)) :: rest)) :=
  va_castS hexec hb hown (hts _ hlink) (hE.1.1 3 _ rfl).2 (xr_nd hE hP hi) hdg k
theorem xc_el {own : String} {index i : Nat} (hexec : p.tables.exec = Jvm.exec) (hb : c.code = cc) (hts : ∀ w ∈ WG, w.before args s = true) (hown : s.vm.findClass own = some m.cls) (hE : xE D y s) (hP : xW D A ad (wU (wB y ad bl z g pl kn rw mi un) fR fO) H) (hi : i < nE z) (hlink : Cond.classLink own index "NetlistBench$Element" ∈ WG) (hdg : decode cc pc = .ok (.checkcast index, 3))
    (k : W p l e R s m args below meth c H locs cells slots Q (F0 m (pc + 3) ls (.ref (ad (13, i)) :: rest))) : W p l e R s m args below meth c H locs cells slots Q (F0 m pc ls (.ref (ad (13, i)) :: rest)) :=
  va_castS hexec hb hown (hts _ hlink) (hE.1.1 1 _ rfl).2 (xr_el hE hP hi) hdg k
end XP
