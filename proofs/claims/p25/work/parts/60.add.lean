/-! ArrayList.add -/
def fG (g : Nat → Nat) (n : Nat) : Nat → Option Nat := fun i => if i < n then some (g i) else none
def gX (g : Nat → Nat) (n a : Nat) : Nat → Nat := fun i => if i = n then a else g i
theorem fG_up (g : Nat → Nat) (n a : Nat) : va_up (fG g n) n (some a) = fG (gX g n a) (n + 1) := by
  funext i
  unfold fG gX va_up
  by_cases h : i = n
  · subst h
    rw [if_pos rfl, if_pos (Nat.lt_succ_self _), if_pos rfl]
  · rw [if_neg h]
    show (if i < n then some (g i) else none) = _
    by_cases h2 : i < n
    · rw [if_pos h2, if_pos (by omega), if_neg h]
    · rw [if_neg h2, if_neg (by omega)]
theorem xA_q {D : va_G} {a cA n : Nat} {f g : Nat → Option Nat} {H : Heap} (h : ∀ j, j < n → f j = g j) (k : va_at D vwCl (a, .inl (cA, n, xr f)) H) : va_at D vwCl (a, .inl (cA, n, xr g)) H := by
  show H[a]? = some (vp_cell cA (n, xr g))
  rw [vp_cell_q, ← xW_arrV (f := fun j => va_rf (f j)) (fun j hj => by rw [h j hj]), ← vp_cell_q]
  exact k
def elH (ad : xL → Nat) (ct : xL → Option va_E) (g : Nat → Nat) (n : Nat) (lb dt : xL) : Prop := ∀ i, i < n → ∃ (labV : xL) (ci : Nat) (cn : String) (T : u_T) (K : Nat) (vs : List Value), g i = ad labV ∧ labV ≠ lb ∧ labV ≠ dt ∧ labV ≠ (19, 0) ∧ ct labV = some (.inr (ci, vs)) ∧ vwCl[ci]? = some (cn, T, K) ∧ Cond.castable cn "java/lang/Object" ∈ XNG
theorem aw_sh {ct : xL → Option va_E} {k j : xL} {e f g : va_E} (h : j ≠ k) : aw_up (aw_up (aw_up ct k e) j f) k g = aw_up (aw_up ct j f) k g := by rw [aw_comm h, aw_up_up]
theorem ad_same (ad : xL → Nat) (k : xL) : ad_up ad k (ad k) = ad := by
  funext j
  by_cases h : j = k
  · rw [h, ad_up_self]
  · exact ad_up_ne h
theorem xW.eqv {D : va_G} {A : Nat → Prop} {ad : xL → Nat} {ct : xL → Option va_E} {H : Heap} {k : xL} {e f : va_E} (h : xW D A ad (aw_up ct k e) H) (hf : va_at D vwCl (ad k, e) H → va_at D vwCl (ad k, f) H) : xW D A ad (aw_up ct k f) H := by
  refine h.alike (fun j x hj => ?_)
  by_cases hk : j = k
  · subst hk
    rw [aw_up_self] at hj
    cases hj
    exact ⟨e, aw_up_self, hf⟩
  · rw [aw_up_ne hk] at hj
    exact ⟨x, (aw_up_ne hk).trans hj, fun q => q⟩
theorem sh_half : ∀ n, n ≤ 20 → nI n >>> (nI 1 &&& 31) = nI (n / 2) := by decide +kernel
/-! the start of the copier: it is handed the kind of the array -/
def xPc3 (av : List Value) (D : va_G) (y : Nat → ClassId) (A : Nat → Prop) (e0 mi : Nat) (H : Heap) : Array Value → State → Prop := va_Pc av (fun U => U.heap = H ∧ xE D y U ∧ xF A U H ∧ xG A e0 U H ∧ va_Mi dsOA mi U)
theorem xPc3_blind {av : List Value} {D : va_G} {y : Nat → ClassId} {A : Nat → Prop} {e0 mi : Nat} {H : Heap} : FrameBlind (xPc3 av D y A e0 mi H) := fun a U g mk q => ⟨q.1, q.2.1, q.2.2.1.same rfl, q.2.2.2.1.same (show U.vm = (U.calling g mk a).vm from rfl), q.2.2.2.2.1.same (show U.vm = (U.calling g mk a).vm from rfl), q.2.2.2.2.2⟩
theorem xM_go3 {l : Launch} {x : MethodName} {cc : ByteArray} {maxL : Nat} {ret : Option FieldType} {rm : Room} {av : List Value} {D : va_G} {y : Nat → ClassId} {H : Heap} {post : Option Value → Heap → Prop} {A : Nat → Prop} {e0 mi mc ms : Nat}
    (hy : plainName x.cls = true) (hlen : (lg_sl av).length ≤ maxL)
    (body : ∀ (p : Program) (e : Env) (s : State) (m : MethodId) (args : Array Value) (below : List Frame) (meth : Method) (c : Code) (ls : Array Slot) (R : Room) (Q : State → Prop), p.tables.exec = Jvm.exec → c.code = cc → meth.sig.returnType = ret → meth.locks = false → c.maxLocals = maxL → s.vm.findClass x.cls = some m.cls → (∀ w ∈ WG, w.before args s = true) → s.heap = H → xE D y s → meth.name = x.name → R.frames = rm.frames → R.locals = rm.locals → R.cells = rm.cells → R.slots = rm.slots → Q = MQ below (xQ post A) args s mc ms A → va_S A H H [] → lv_has ls maxL (lv_args 0 av) → xF A s H → xG A e0 s H → va_Mi dsOA mi s →
      W p l e R s m args below meth c H [] 0 0 Q (F0 m 0 ls [])) : Met l x (.code x cc maxL ret :: WG) rm (xPc3 av D y A e0 mi H) (xQ post A) mc ms A := by
  refine Met.ofW (cc := cc) (maxL := maxL) (ret := ret) hy rfl ?_
  intro p e s m args below meth c s₁ B hml hv
  obtain ⟨rfl, hH, hE, hF, hG, hM⟩ := hv
  have hts := atoms_spec (ws := .code x cc maxL ret :: WG) B.pre
  have hl := lv_entry av (n := maxL) hlen
  rw [lg_entry_eq]
  have hb := body p e s m av.toArray below meth c _ rm _ B.exec B.bytes B.returns B.notSynchronized hml (findClass_of_methodNamed B.named) (fun w h => hts w (List.mem_cons_of_mem _ h)) hH hE (name_of_methodNamed B.named B.method).1 rfl rfl rfl rfl rfl va_S.rf hl hF hG hM
  rw [hH]
  exact hb
section C3
variable {p : Program} {l : Launch} {e : Env} {R : Room} {s : State} {m : MethodId} {args : Array Value} {below : List Frame} {meth : Method} {c : Code} {H H0 : Heap} {locs : List Loc} {cells slots mc ms : Nat} {Q : State → Prop}
variable {cc : ByteArray} {pc : Nat} {ls : Array Slot} {rest : List Value} {D : va_G} {y : Nat → ClassId} {A : Nat → Prop} {post : Option Value → Heap → Prop} {e0 mi : Nat}
theorem x3_callS {own : String} {index maxL nL n : Nat} {x : MethodName} {bytes : ByteArray} {ret : Option FieldType} {rm : Room} {st0 : List Value} (As : List Value) (hM : Met l x (.code x bytes maxL ret :: WG) rm (xPc3 As D y A e0 mi H) (xQ post A) mc ms A) (hMi : va_Mi dsOA mi s) (hexec : p.tables.exec = Jvm.exec) (hb : c.code = cc) (hml : c.maxLocals = nL) (hown : s.vm.findClass own = some m.cls) (hts : ∀ w ∈ WG, w.before args s = true) (hE : xE D y s) (hF : xF A s H0) (hG : xG A e0 s H0) (hS : va_S A H0 H locs)
    (hrc : rm.cells = mc) (hrs : rm.slots = ms) (hini : Cond.initialized x.cls ∈ WG) (hl : Cond.methodLink own index x ∈ WG) (hcode : Cond.code x bytes maxL ret ∈ WG) (hst : Cond.static x ∈ WG) (hd : x.cls ≠ "java/lang/invoke/MethodHandle" ∧ x.cls ≠ "java/lang/invoke/VarHandle" ∧ (parseMethodDescriptor x.desc).map (fun d => d.parameters.length) = some n) (hn : As.length = n) (hR : rm.frames + 1 ≤ R.frames ∧ 8 + (maxL + 11) + rm.locals ≤ R.locals)
    (hsize : ls.size = nL) (hstack : st0 = As.reverse ++ rest) (hW : (rest.map fun v => v.category).sum ≤ 8) (hdg : decode cc pc = .ok (.invokestatic index, 3)) (hf : cells + mc ≤ R.cells ∧ slots + ms ≤ R.slots)
    (kk : ∀ (v : Option Value) (H1 : Heap) (locs1 : List Loc), post v H1 → va_S A H0 H1 locs1 → W p l e R s m args below meth c H1 locs1 (cells + mc) (slots + ms) Q (F0 m (pc + 3) ls (v.toList ++ rest))) : W p l e R s m args below meth c H locs cells slots Q (F0 m pc ls st0) :=
  xw_go (As := As) (va_runS (rest := rest) ⟨hexec, hb, hml, hown, hts⟩ hM ⟨xw_cb hts hrc hrs hini hl hcode hd hR, hts _ hst⟩ ⟨xPc3_blind, fun U hU hW => ⟨rfl, hU, hE.moved hW, hF.warm hW hS.2.1, hG.warm hW hS.2.1, hMi.moved hW.alike⟩⟩ rfl hn hsize hstack (lv_room hW) hdg hf) hS kk
end C3
theorem cpy_fG (g : Nat → Nat) (n j : Nat) : va_cpy (fG g n) (fun _ => none) 0 0 n j = fG g n j := by
  unfold va_cpy fG
  by_cases h : j < n
  · simp [h]
  · simp [h]
set_option maxHeartbeats 4000000 in
set_option maxRecDepth 100000 in
theorem c_copyOf3 (l : Launch) {D : va_G} {y : Nat → ClassId} {A : Nat → Prop} {e0 : Nat} {ad : xL → Nat} {Hs : Heap} {ct : xL → Option va_E} {lab : xL} {n N a mi : Nat} {f : Nat → Option Nat} (hP : xW D A ad ct Hs) (he : ct lab = some (.inl (y 4, n, xr f))) (ha : ad lab = a) (hne : lab ≠ (19, 0)) (hn : n ≤ N) (hN : N ≤ 40) (hel : ∀ i, i < n → ∃ (labV : xL) (ci : Nat) (cn : String) (T : u_T) (K : Nat) (vs : List Value), f i = some (ad labV) ∧ labV ≠ (19, 0) ∧ ct labV = some (.inr (ci, vs)) ∧ vwCl[ci]? = some (cn, T, K) ∧ Cond.castable cn "java/lang/Object" ∈ XNG) : Met l yJ7_copyOf_6403c (.code yJ7_copyOf_6403c cJ7_copyOf_6403c 4 (some (.array (.object "java/lang/Object"))) :: WG) { frames := 1, cells := 1, slots := 40, locals := 40 } (xPc3 [.ref a, .int (nI N), .ref mi] D y A e0 mi Hs) (xQ (fun v H1 => ∃ q, v = some (.ref q) ∧ xW D A (ad_up ad (19, 0) q) (aw_up ct (19, 0) (.inl (y 4, N, xr (va_cpy f (fun _ => none) 0 0 n)))) H1) A) 1 40 A := by
  refine xM_go3 (by decide) (Nat.le_of_ble_eq_true rfl) (fun p e s m args below meth c ls R Q hx hb hr hlocks hml hown hts hH hE hnm hRf hRl hRc hRs hQ hS hl hF hG hM => ?_)
  have hRf : R.frames = 1 := hRf
  have hRl : R.locals = 40 := hRl
  have hRc : R.cells = 1 := hRc
  have hRs : R.slots = 40 := hRs
  have hl : lv_has ls 4 [(0, .ref a), (1, .int (nI N)), (2, .ref mi)] := hl
  refine lv_aload_n hx hb dJ7_copyOf_6403c_0 rfl (lv_at hl 2 rfl) ?_
  refine va_ldcM hx hb hown (hts _ q_524) hM dJ7_copyOf_6403c_1 ?_
  refine lv_acmp_ne (rx := some mi) (ry := some mi) (tgt := 13) hx hb dJ7_copyOf_6403c_3 (by decide) (fun h => absurd rfl h) (fun _ => ?_)
  refine lv_iload_n hx hb dJ7_copyOf_6403c_6 rfl (lv_at hl 1 rfl) ?_
  refine xw_anewO hx hb hts hown q_526 hG.2.2.2.2.1 hE hP hS (by omega) (by rw [hRc]; decide) (by rw [hRs]; omega) dJ7_copyOf_6403c_7 (19, 0) (fun q H hP hS => ?_)
  refine lv_goto (tgt := 24) hx hb dJ7_copyOf_6403c_10 (by decide) ?_
  refine lv_astore_n (lv' := [(3, .ref q), (0, .ref a), (1, .int (nI N)), (2, .ref mi)]) hx hb dJ7_copyOf_6403c_24 rfl hl (by decide) rfl (fun ls hl => ?_)
  refine lv_aload_n hx hb dJ7_copyOf_6403c_25 rfl (lv_at hl 1 rfl) ?_
  refine lv_iconst (v := nI 0) hx hb dJ7_copyOf_6403c_26 (by decide) ?_
  refine lv_aload_n hx hb dJ7_copyOf_6403c_27 rfl (lv_at hl 0 rfl) ?_
  refine lv_iconst (v := nI 0) hx hb dJ7_copyOf_6403c_28 (by decide) ?_
  refine lv_aload_n hx hb dJ7_copyOf_6403c_29 rfl (lv_at hl 1 rfl) ?_
  refine xw_qalena hx hb hE hP lab ((aw_up_ne hne).trans he) ((ad_up_ne hne).trans ha) dJ7_copyOf_6403c_30 ?_
  refine lv_iload_n hx hb dJ7_copyOf_6403c_31 rfl (lv_at hl 2 rfl) ?_
  refine xw_callS (n := 2) [.int (nI n), .int (nI N)] (c_J9_min_7cf53 l (a := n) (b := N) (by omega) (by omega)) hx hb hml hown hts hE hS rfl rfl q_33 q_527 q_529 q_528 (by decide) rfl ⟨by rw [hRf]; decide, by rw [hRl]; decide⟩ hl.1 rfl (Nat.le_of_ble_eq_true rfl) dJ7_copyOf_6403c_32 ⟨by rw [hRc]; decide, by rw [hRs]; omega⟩ (fun v H1 locs hp hS => ?_)
  obtain ⟨hv, hh⟩ := hp; subst hv; subst hh
  refine xt_i (w := nI n) (by rw [if_neg (by omega)]) ?_
  refine xw_copyO hx hb (by rw [hml]; exact hl.1.symm) hown hts q_530 q_532 q_531 q_35 hE hP hS lab (19, 0) (n := n) (N := N) ((aw_up_ne hne).trans he) aw_up_self ((ad_up_ne hne).trans ha) ad_up_self hn (by omega) ?_ (by rw [hRf]; decide) (by rw [hRl]; exact Nat.le_of_ble_eq_true rfl) dJ7_copyOf_6403c_35 (fun H locs hP hS => ?_)
  · intro i hi
    obtain ⟨labV, ci, cn, T, K, vs, h1, h2, h3, h4, h5⟩ := hel i hi
    exact ⟨labV, ci, (cn, T, K), vs, by rw [h1, ad_up_ne h2], (aw_up_ne h2).trans h3, h4, hG.2.2.2.2.2.2 _ h5⟩
  · have hP := hP.ct aw_up_up
    refine lv_aload_n hx hb dJ7_copyOf_6403c_38 rfl (lv_at hl 0 rfl) ?_
    exact xe_aret hQ hx hb hr (Or.inr ⟨_, rfl⟩) hlocks hH hS (by decide) (by omega) ⟨q, rfl, hP⟩ dJ7_copyOf_6403c_39

set_option maxHeartbeats 4000000 in
set_option maxRecDepth 100000 in
theorem c_copyOf2 (l : Launch) {D : va_G} {y : Nat → ClassId} {A : Nat → Prop} {e0 : Nat} {ad : xL → Nat} {Hs : Heap} {ct : xL → Option va_E} {lab : xL} {n N a : Nat} {f : Nat → Option Nat} (hP : xW D A ad ct Hs) (he : ct lab = some (.inl (y 4, n, xr f))) (ha : ad lab = a) (hne : lab ≠ (19, 0)) (hn : n ≤ N) (hN : N ≤ 40) (hel : ∀ i, i < n → ∃ (labV : xL) (ci : Nat) (cn : String) (T : u_T) (K : Nat) (vs : List Value), f i = some (ad labV) ∧ labV ≠ (19, 0) ∧ ct labV = some (.inr (ci, vs)) ∧ vwCl[ci]? = some (cn, T, K) ∧ Cond.castable cn "java/lang/Object" ∈ XNG) : Met l yJ7_copyOf_1904c (.code yJ7_copyOf_1904c cJ7_copyOf_1904c 2 (some (.array (.object "java/lang/Object"))) :: WG) { frames := 2, cells := 1, slots := 40, locals := 80 } (xPc2 [.ref a, .int (nI N)] D y A e0 Hs) (xQ (fun v H1 => ∃ q, v = some (.ref q) ∧ xW D A (ad_up ad (19, 0) q) (aw_up ct (19, 0) (.inl (y 4, N, xr (va_cpy f (fun _ => none) 0 0 n)))) H1) A) 1 40 A := by
  refine xM_go2 (by decide) (Nat.le_of_ble_eq_true rfl) (fun p e s m args below meth c ls R Q hx hb hr hlocks hml hown hts hH hE hnm hRf hRl hRc hRs hQ hS hl hF hG => ?_)
  have hRf : R.frames = 2 := hRf
  have hRl : R.locals = 80 := hRl
  have hRc : R.cells = 1 := hRc
  have hRs : R.slots = 40 := hRs
  have hl : lv_has ls 2 [(0, .ref a), (1, .int (nI N))] := hl
  obtain ⟨mi, hM⟩ := hG.2.2.1
  refine lv_aload_n hx hb dJ7_copyOf_1904c_0 rfl (lv_at hl 0 rfl) ?_
  refine lv_iload_n hx hb dJ7_copyOf_1904c_1 rfl (lv_at hl 1 rfl) ?_
  refine lv_aload_n hx hb dJ7_copyOf_1904c_2 rfl (lv_at hl 0 rfl) ?_
  refine va_getC hx hb (by rw [hml]; exact hl.1.symm) (C := dsOA) hown (hts _ q_508) (va_Dc.use hG.2.2.2.1) (hts _ q_620) (hts _ q_509) (hts _ q_520) hM ⟨vp_cell (y 4) (n, xr f), by rw [← ha]; exact hP.1 _ _ he, rfl, va_nmO (hE.1.2 4 _ rfl).2 (by decide +kernel)⟩ (by rw [hRf]; decide) (by rw [hRl]; exact Nat.le_of_ble_eq_true rfl) dJ7_copyOf_1904c_3 ?_
  refine x3_callS (n := 3) [.ref a, .int (nI N), .ref mi] (c_copyOf3 l hP he ha hne hn hN hel) hM hx hb hml hown hts hE hF hG hS rfl rfl q_34 q_521 q_523 q_522 (by decide) rfl ⟨by rw [hRf]; decide, by rw [hRl]; decide⟩ hl.1 rfl (Nat.le_of_ble_eq_true rfl) dJ7_copyOf_1904c_6 ⟨by rw [hRc]; decide, by rw [hRs]; decide⟩ (fun v H1 locs hp hS => ?_)
  obtain ⟨q, hv, hP⟩ := hp; subst hv; generalize H1 = H at hP hS ⊢
  exact xe_aret hQ hx hb hr (Or.inr ⟨_, rfl⟩) hlocks hH hS (by decide) (by decide) ⟨q, rfl, hP⟩ dJ7_copyOf_1904c_9

set_option maxHeartbeats 4000000 in
set_option maxRecDepth 100000 in
theorem c_growI (l : Launch) {D : va_G} {y : Nat → ClassId} {A : Nat → Prop} {e0 : Nat} {ad : xL → Nat} {Hs : Heap} {ct : xL → Option va_E} {lb dt : xL} {n : Nat} {mo : Int32} {g : Nat → Nat} (hP : xW D A ad ct Hs) (he : ct lb = some (.inr (0, [.int mo, .ref (ad dt), .int (nI n)]))) (hlb : lb ≠ dt) (hlT : lb ≠ (19, 0)) (hdT : dt ≠ (19, 0)) (hT : ct (19, 0) = none) (hn : n ≤ 20) (h00 : n = 0 → ad dt = e0) (hel : elH ad ct g n lb dt) (hpos : 0 < n → ct dt = some (.inl (y 4, n, xr (fG g n)))) : Met l yJx4a65c_grow_92f84 (.code yJx4a65c_grow_92f84 cJx4a65c_grow_92f84 4 (some (.array (.object "java/lang/Object"))) :: WG) { frames := 3, cells := 1, slots := 40, locals := 120 } (xPc2 [.ref (ad lb), .int (nI (n + 1))] D y A e0 Hs) (xQ (fun v H1 => ∃ q cap', v = some (.ref q) ∧ n + 1 ≤ cap' ∧ cap' ≤ 40 ∧ xW D A (ad_up ad dt q) (aw_up (aw_up ct dt (.inl (y 4, cap', xr (fG g n)))) lb (.inr (0, [.int mo, .ref q, .int (nI n)]))) H1) A) 1 40 A := by
  refine xM_go2 (by decide) (Nat.le_of_ble_eq_true rfl) (fun p e s m args below meth c ls R Q hx hb hr hlocks hml hown hts hH hE hnm hRf hRl hRc hRs hQ hS hl hF hG => ?_)
  have hRf : R.frames = 3 := hRf
  have hRl : R.locals = 120 := hRl
  have hRc : R.cells = 1 := hRc
  have hRs : R.slots = 40 := hRs
  have hl : lv_has ls 4 [(0, .ref (ad lb)), (1, .int (nI (n + 1)))] := hl
  refine lv_aload_n hx hb dJx4a65c_grow_92f84_0 rfl (lv_at hl 0 rfl) ?_
  refine xw_geta hx hb hts hown hE hP lb he rfl 1 (by decide) q_64 (fun x h => h) rfl dJx4a65c_grow_92f84_1 ?_
  rcases Nat.eq_zero_or_pos n with h0 | h0
  · skip
    refine xt_v (w := .ref e0) (by rw [h00 h0]) ?_
    refine va_tlen hx hb (by rw [hH]; exact hG.2.1) (by rw [hH]; exact hS) (v := nI 0) rfl dJx4a65c_grow_92f84_4 ?_
    refine lv_istore_n (lv' := [(2, .int (nI 0)), (0, .ref (ad lb)), (1, .int (nI (n + 1)))]) hx hb dJx4a65c_grow_92f84_5 rfl hl (by decide) rfl (fun ls hl => ?_)
    refine lv_iload_n hx hb dJx4a65c_grow_92f84_6 rfl (lv_at hl 0 rfl) ?_
    refine lv_if_gt (tgt := 20) hx hb dJx4a65c_grow_92f84_7 (by decide) (fun h => absurd h (by decide)) (fun _ => ?_)
    refine lv_aload_n hx hb dJx4a65c_grow_92f84_10 rfl (lv_at hl 1 rfl) ?_
    refine xw_geta hx hb hts hown hE hP lb he rfl 1 (by decide) q_64 (fun x h => h) rfl dJx4a65c_grow_92f84_11 ?_
    refine va_gets hx hb (by rw [hH]; exact hG.1) (by rw [hH]; exact hS) hown (hts _ q_62) (fun x h => h) dJx4a65c_grow_92f84_14 ?_
    refine lv_acmp_eq (rx := some (ad dt)) (ry := some e0) (tgt := 45) hx hb dJx4a65c_grow_92f84_17 (by decide) (fun _ => ?_) (fun h => absurd (congrArg some (h00 h0)) h)
    refine lv_aload_n hx hb dJx4a65c_grow_92f84_45 rfl (lv_at hl 1 rfl) ?_
    refine lv_bipush (v := nI 10) hx hb dJx4a65c_grow_92f84_46 (by decide) ?_
    refine lv_iload_n hx hb dJx4a65c_grow_92f84_48 rfl (lv_at hl 2 rfl) ?_
    refine xw_callS (n := 2) [.int (nI 10), .int (nI (n + 1))] (c_J9_max_7cf53 l (a := 10) (b := n + 1) (by omega) (by omega)) hx hb hml hown hts hE hS rfl rfl q_33 q_533 q_500 q_499 (by decide) rfl ⟨by rw [hRf]; decide, by rw [hRl]; decide⟩ hl.1 rfl (Nat.le_of_ble_eq_true rfl) dJx4a65c_grow_92f84_49 ⟨by rw [hRc]; decide, by rw [hRs]; decide⟩ (fun v H1 locs hp hS => ?_)
    obtain ⟨hv, hh⟩ := hp; subst hv; subst hh
    refine xt_i (w := nI 10) (by rw [if_neg (by omega)]) ?_
    refine xw_anewO hx hb hts hown q_534 hG.2.2.2.2.1 hE hP hS (by decide) (by rw [hRc]; decide) (by rw [hRs]; decide) dJx4a65c_grow_92f84_52 dt (fun q H hP hS => ?_)
    have hP := hP.ct (aw_same (show aw_up ct dt _ lb = some (.inr (0, [.int mo, .ref (ad dt), .int (nI n)])) from (aw_up_ne hlb).trans he)).symm
    refine lv_dup_x1 hx hb dJx4a65c_grow_92f84_55 rfl rfl ?_
    refine xw_puta hx hb hts hown hE lb (e0 := .inr (0, [.int mo, .ref q, .int (nI n)])) hP hS (ad_up_ne hlb) iw_Jx4a65c tyJx4a65c tyJx4a65c_ok nmJx4a65c rfl 1 (by decide) q_64 (fun x h => h) rfl (ty := .array (.object "java/lang/Object")) rfl rfl rfl (Nat.le_of_ble_eq_true rfl) rfl dJx4a65c_grow_92f84_56 (fun H locs hP hS => ?_)
    have hP : xW D A (ad_up ad dt q) (aw_up (aw_up ct dt (.inl (y 4, 10, xr (fG g n)))) lb (.inr (0, [.int mo, .ref q, .int (nI n)]))) H := ((hP.ct (aw_comm hlb)).eqv (fun k => xA_q (fun j _ => (if_neg (by omega)).symm) k)).ct (aw_comm (fun e => hlb e.symm))
    exact xe_aret hQ hx hb hr (Or.inr ⟨_, rfl⟩) hlocks hH hS (by decide) (by decide) ⟨q, 10, rfl, by omega, by decide, hP⟩ dJx4a65c_grow_92f84_59
  · skip
    have hcd := hpos h0
    have hm : 0 < (if 1 < n / 2 then n / 2 else 1) ∧ (if 1 < n / 2 then n / 2 else 1) ≤ 10 := by split <;> omega
    refine xw_qalena hx hb hE hP dt hcd rfl dJx4a65c_grow_92f84_4 ?_
    refine lv_istore_n (lv' := [(2, .int (nI n)), (0, .ref (ad lb)), (1, .int (nI (n + 1)))]) hx hb dJx4a65c_grow_92f84_5 rfl hl (by decide) rfl (fun ls hl => ?_)
    refine lv_iload_n hx hb dJx4a65c_grow_92f84_6 rfl (lv_at hl 0 rfl) ?_
    refine lv_if_gt (tgt := 20) hx hb dJx4a65c_grow_92f84_7 (by decide) (fun _ => ?_) (fun h => absurd (ni_nlt (a := 0) (b := n) (by omega) (by omega) h) (by omega))
    refine lv_iload_n hx hb dJx4a65c_grow_92f84_20 rfl (lv_at hl 0 rfl) ?_
    refine lv_iload_n hx hb dJx4a65c_grow_92f84_21 rfl (lv_at hl 2 rfl) ?_
    refine lv_iload_n hx hb dJx4a65c_grow_92f84_22 rfl (lv_at hl 0 rfl) ?_
    refine lv_isub hx hb dJx4a65c_grow_92f84_23 ?_
    refine xt_i (w := nI 1) (by rw [← nI_add]; grind) ?_
    refine lv_iload_n hx hb dJx4a65c_grow_92f84_24 rfl (lv_at hl 0 rfl) ?_
    refine lv_iconst (v := nI 1) hx hb dJx4a65c_grow_92f84_25 (by decide) ?_
    refine lv_ishr hx hb dJx4a65c_grow_92f84_26 ?_
    refine xt_i (w := nI (n / 2)) (sh_half n hn) ?_
    refine xw_callS (n := 3) [.int (nI n), .int (nI 1), .int (nI (n / 2))] (c_J8_newLength_cabcc l (a := n) (b := 1) (k := n / 2) (by omega) (by omega) (by omega) (by omega)) hx hb hml hown hts hE hS rfl rfl q_32 q_495 q_497 q_496 (by decide) rfl ⟨by rw [hRf]; decide, by rw [hRl]; decide⟩ hl.1 rfl (Nat.le_of_ble_eq_true rfl) dJx4a65c_grow_92f84_27 ⟨by rw [hRc]; decide, by rw [hRs]; decide⟩ (fun v H1 locs hp hS => ?_)
    obtain ⟨hv, hh⟩ := hp; subst hv; subst hh
    refine lv_istore_n (lv' := [(3, .int (nI (n + (if 1 < n / 2 then n / 2 else 1)))), (2, .int (nI n)), (0, .ref (ad lb)), (1, .int (nI (n + 1)))]) hx hb dJx4a65c_grow_92f84_30 rfl hl (by decide) rfl (fun ls hl => ?_)
    refine lv_aload_n hx hb dJx4a65c_grow_92f84_31 rfl (lv_at hl 2 rfl) ?_
    refine lv_aload_n hx hb dJx4a65c_grow_92f84_32 rfl (lv_at hl 2 rfl) ?_
    refine xw_geta hx hb hts hown hE hP lb he rfl 1 (by decide) q_64 (fun x h => h) rfl dJx4a65c_grow_92f84_33 ?_
    refine lv_iload_n hx hb dJx4a65c_grow_92f84_36 rfl (lv_at hl 0 rfl) ?_
    refine x2_callS (n := 2) [.ref (ad dt), .int (nI (n + (if 1 < n / 2 then n / 2 else 1)))] (c_copyOf2 l (N := n + (if 1 < n / 2 then n / 2 else 1)) hP hcd rfl hdT (by omega) (by omega) (fun i hi => by
          obtain ⟨labV, ci, cn, T, K, vs, h1, h2, h3, h4, h5, h6, h7⟩ := hel i hi
          exact ⟨labV, ci, cn, T, K, vs, (if_pos hi).trans (congrArg some h1), h4, h5, h6, h7⟩)) hx hb hml hown hts hE hF hG hS rfl rfl q_34 q_505 q_507 q_506 (by decide) rfl ⟨by rw [hRf]; decide, by rw [hRl]; decide⟩ hl.1 rfl (Nat.le_of_ble_eq_true rfl) dJx4a65c_grow_92f84_37 ⟨by rw [hRc]; decide, by rw [hRs]; decide⟩ (fun v H1 locs hp hS => ?_)
    obtain ⟨q, hv, hP⟩ := hp; subst hv; generalize H1 = H at hP hS ⊢
    have hP : xW D A (ad_up ad dt q) (aw_up ct dt (.inl (y 4, n + (if 1 < n / 2 then n / 2 else 1), xr (fG g n)))) H := (hP.mv (k := dt) hT).eqv (fun k => xA_q (fun j _ => cpy_fG g n j) k)
    have hP := hP.ct (aw_same (show aw_up ct dt _ lb = some (.inr (0, [.int mo, .ref (ad dt), .int (nI n)])) from (aw_up_ne hlb).trans he)).symm
    refine lv_dup_x1 hx hb dJx4a65c_grow_92f84_40 rfl rfl ?_
    refine xw_puta hx hb hts hown hE lb (e0 := .inr (0, [.int mo, .ref q, .int (nI n)])) hP hS (ad_up_ne hlb) iw_Jx4a65c tyJx4a65c tyJx4a65c_ok nmJx4a65c rfl 1 (by decide) q_64 (fun x h => h) rfl (ty := .array (.object "java/lang/Object")) rfl rfl rfl (Nat.le_of_ble_eq_true rfl) rfl dJx4a65c_grow_92f84_41 (fun H locs hP hS => ?_)
    exact xe_aret hQ hx hb hr (Or.inr ⟨_, rfl⟩) hlocks hH hS (by decide) (by decide) ⟨q, n + (if 1 < n / 2 then n / 2 else 1), rfl, by omega, by omega, hP⟩ dJx4a65c_grow_92f84_44

set_option maxHeartbeats 4000000 in
set_option maxRecDepth 100000 in
theorem c_grow (l : Launch) {D : va_G} {y : Nat → ClassId} {A : Nat → Prop} {e0 : Nat} {ad : xL → Nat} {Hs : Heap} {ct : xL → Option va_E} {lb dt : xL} {n : Nat} {mo : Int32} {g : Nat → Nat} (hP : xW D A ad ct Hs) (he : ct lb = some (.inr (0, [.int mo, .ref (ad dt), .int (nI n)]))) (hlb : lb ≠ dt) (hlT : lb ≠ (19, 0)) (hdT : dt ≠ (19, 0)) (hT : ct (19, 0) = none) (hn : n ≤ 20) (h00 : n = 0 → ad dt = e0) (hel : elH ad ct g n lb dt) (hpos : 0 < n → ct dt = some (.inl (y 4, n, xr (fG g n)))) : Met l yJx4a65c_grow_d5877 (.code yJx4a65c_grow_d5877 cJx4a65c_grow_d5877 1 (some (.array (.object "java/lang/Object"))) :: WG) { frames := 4, cells := 1, slots := 40, locals := 144 } (xPc2 [.ref (ad lb)] D y A e0 Hs) (xQ (fun v H1 => ∃ q cap', v = some (.ref q) ∧ n + 1 ≤ cap' ∧ cap' ≤ 40 ∧ xW D A (ad_up ad dt q) (aw_up (aw_up ct dt (.inl (y 4, cap', xr (fG g n)))) lb (.inr (0, [.int mo, .ref q, .int (nI n)]))) H1) A) 1 40 A := by
  refine xM_go2 (by decide) (Nat.le_of_ble_eq_true rfl) (fun p e s m args below meth c ls R Q hx hb hr hlocks hml hown hts hH hE hnm hRf hRl hRc hRs hQ hS hl hF hG => ?_)
  have hRf : R.frames = 4 := hRf
  have hRl : R.locals = 144 := hRl
  have hRc : R.cells = 1 := hRc
  have hRs : R.slots = 40 := hRs
  have hl : lv_has ls 1 [(0, .ref (ad lb))] := hl
  refine lv_aload_n hx hb dJx4a65c_grow_d5877_0 rfl (lv_at hl 0 rfl) ?_
  refine lv_aload_n hx hb dJx4a65c_grow_d5877_1 rfl (lv_at hl 0 rfl) ?_
  refine xw_geta hx hb hts hown hE hP lb he rfl 2 (by decide) q_65 (fun x h => h) rfl dJx4a65c_grow_d5877_2 ?_
  refine lv_iconst (v := nI 1) hx hb dJx4a65c_grow_d5877_5 (by decide) ?_
  refine lv_iadd hx hb dJx4a65c_grow_d5877_6 ?_
  refine xt_i (w := nI (n + 1)) (nI_add n 1) ?_
  refine x2_callV (C := "java/util/ArrayList") (n := 1) [.int (nI (n + 1))] (c_growI l hP he hlb hlT hdT hT hn h00 hel hpos) hx hb hml hown hts hE hF hG hS (xw_recv hE hP lb he rfl) rfl rfl q_24 q_491 q_494 q_493 q_19 (by decide) rfl ⟨by rw [hRf]; decide, by rw [hRl]; decide⟩ hl.1 rfl (Nat.le_of_ble_eq_true rfl) dJx4a65c_grow_d5877_7 ⟨by rw [hRc]; decide, by rw [hRs]; decide⟩ (fun v H1 locs hp hS => ?_)
  obtain ⟨q, cap', hv, h1, h2, hP⟩ := hp; subst hv; generalize H1 = H at hP hS ⊢
  exact xe_aret hQ hx hb hr (Or.inr ⟨_, rfl⟩) hlocks hH hS (by decide) (by decide) ⟨q, cap', rfl, h1, h2, hP⟩ dJx4a65c_grow_d5877_10

set_option maxHeartbeats 4000000 in
set_option maxRecDepth 100000 in
theorem c_add3 (l : Launch) {D : va_G} {y : Nat → ClassId} {A : Nat → Prop} {e0 : Nat} {ad : xL → Nat} {Hs : Heap} {ct : xL → Option va_E} {lb dt : xL} {n : Nat} {mo : Int32} {g : Nat → Nat} (hP : xW D A ad ct Hs) (he : ct lb = some (.inr (0, [.int mo, .ref (ad dt), .int (nI n)]))) (hlb : lb ≠ dt) (hlT : lb ≠ (19, 0)) (hdT : dt ≠ (19, 0)) (hT : ct (19, 0) = none) (hn : n ≤ 20) (h00 : n = 0 → ad dt = e0) (hel : elH ad ct g n lb dt) {cap : Nat} (hpos : 0 < n → ct dt = some (.inl (y 4, cap, xr (fG g n)))) (hcap : n ≤ cap ∧ cap ≤ 1000) {el : xL} {ci : Nat} {cn : String} {T : u_T} {K : Nat} {vs : List Value} (hv : ct el = some (.inr (ci, vs))) (hvc : vwCl[ci]? = some (cn, T, K)) (hca : Cond.castable cn "java/lang/Object" ∈ XNG) (hel1 : el ≠ lb) (hel2 : el ≠ dt) : Met l yJx4a65c_add_72be8 (.code yJx4a65c_add_72be8 cJx4a65c_add_72be8 4 none :: WG) { frames := 5, cells := 1, slots := 40, locals := 170 } (xPc2 [.ref (ad lb), .ref (ad el), .ref (ad dt), .int (nI n)] D y A e0 Hs) (xQ (fun v H1 => v = none ∧ ∃ q cap', n + 1 ≤ cap' ∧ cap' ≤ 1000 ∧ xW D A (ad_up ad dt q) (aw_up (aw_up ct dt (.inl (y 4, cap', xr (fG (gX g n (ad el)) (n + 1))))) lb (.inr (0, [.int mo, .ref q, .int (nI (n + 1))]))) H1) A) 1 40 A := by
  refine xM_go2 (by decide) (Nat.le_of_ble_eq_true rfl) (fun p e s m args below meth c ls R Q hx hb hr hlocks hml hown hts hH hE hnm hRf hRl hRc hRs hQ hS hl hF hG => ?_)
  have hRf : R.frames = 5 := hRf
  have hRl : R.locals = 170 := hRl
  have hRc : R.cells = 1 := hRc
  have hRs : R.slots = 40 := hRs
  have hl : lv_has ls 4 [(0, .ref (ad lb)), (1, .ref (ad el)), (2, .ref (ad dt)), (3, .int (nI n))] := hl
  have K11 : ∀ (q cap' cc1 ss1 : Nat) (H : Heap) (locs : List Loc) (ls : Array Slot), n + 1 ≤ cap' → cap' ≤ 1000 → cc1 ≤ 1 → ss1 ≤ 40 → xW D A (ad_up ad dt q) (aw_up (aw_up ct dt (.inl (y 4, cap', xr (fG g n)))) lb (.inr (0, [.int mo, .ref q, .int (nI n)]))) H → va_S A Hs H locs → lv_has ls 4 [(2, .ref q), (0, .ref (ad lb)), (1, .ref (ad el)), (3, .int (nI n))] → W p l e R s m args below meth c H locs cc1 ss1 Q (F0 m 11 ls []) := by
    intro q cap' cc1 ss1 H locs ls h1 h2 h3 h4 hP hS hl
    refine lv_aload_n hx hb dJx4a65c_add_72be8_11 rfl (lv_at hl 0 rfl) ?_
    refine lv_iload_n hx hb dJx4a65c_add_72be8_12 rfl (lv_at hl 3 rfl) ?_
    refine lv_aload_n hx hb dJx4a65c_add_72be8_13 rfl (lv_at hl 2 rfl) ?_
    refine xw_aasta hx hb hE hP hS dt el (n := cap') ((aw_up_ne (fun e => hlb e.symm)).trans aw_up_self) ((aw_up_ne hel1).trans ((aw_up_ne hel2).trans hv)) ad_up_self (ad_up_ne hel2) hvc (hG.2.2.2.2.2.2 _ hca) (by omega) (by omega) dJx4a65c_add_72be8_14 (fun H locs hP hS => ?_)
    have hP : xW D A (ad_up ad dt q) (aw_up (aw_up ct dt (.inl (y 4, cap', xr (fG (gX g n (ad el)) (n + 1))))) lb (.inr (0, [.int mo, .ref q, .int (nI n)]))) H := by
      rw [fG_up] at hP
      exact hP.ct (by rw [aw_comm (fun e => hlb e.symm), aw_up_up])
    refine lv_aload_n hx hb dJx4a65c_add_72be8_15 rfl (lv_at hl 1 rfl) ?_
    refine lv_iload_n hx hb dJx4a65c_add_72be8_16 rfl (lv_at hl 3 rfl) ?_
    refine lv_iconst (v := nI 1) hx hb dJx4a65c_add_72be8_17 (by decide) ?_
    refine lv_iadd hx hb dJx4a65c_add_72be8_18 ?_
    refine xt_i (w := nI (n + 1)) (nI_add n 1) ?_
    refine xw_puta hx hb hts hown hE lb (e0 := .inr (0, [.int mo, .ref q, .int (nI (n + 1))])) hP hS (ad_up_ne hlb) iw_Jx4a65c tyJx4a65c tyJx4a65c_ok nmJx4a65c rfl 2 (by decide) q_65 (fun x h => h) rfl (ty := .int) rfl rfl rfl (Nat.le_of_ble_eq_true rfl) rfl dJx4a65c_add_72be8_19 (fun H locs hP hS => ?_)
    exact xe_vret hQ hx hb hr hlocks hH hS h3 h4 ⟨rfl, q, cap', h1, h2, hP⟩ dJx4a65c_add_72be8_22
  refine lv_iload_n hx hb dJx4a65c_add_72be8_0 rfl (lv_at hl 3 rfl) ?_
  refine lv_aload_n hx hb dJx4a65c_add_72be8_1 rfl (lv_at hl 2 rfl) ?_
  rcases Nat.eq_zero_or_pos n with h0 | h0
  · skip
    refine xt_v (w := .ref e0) (by rw [h00 h0]) ?_
    refine va_tlen hx hb (by rw [hH]; exact hG.2.1) (by rw [hH]; exact hS) (v := nI 0) rfl dJx4a65c_add_72be8_2 ?_
    refine lv_icmp_ne (tgt := 11) hx hb dJx4a65c_add_72be8_3 (by decide) (fun h => absurd (congrArg nI h0) h) (fun _ => ?_)
    refine lv_aload_n hx hb dJx4a65c_add_72be8_6 rfl (lv_at hl 0 rfl) ?_
    refine x2_callV (C := "java/util/ArrayList") (n := 0) [] (c_grow l hP he hlb hlT hdT hT hn h00 hel (fun h => absurd h (by omega))) hx hb hml hown hts hE hF hG hS (xw_recv hE hP lb he rfl) rfl rfl q_24 q_487 q_490 q_489 q_18 (by decide) rfl ⟨by rw [hRf]; decide, by rw [hRl]; decide⟩ hl.1 rfl (Nat.le_of_ble_eq_true rfl) dJx4a65c_add_72be8_7 ⟨by rw [hRc]; decide, by rw [hRs]; decide⟩ (fun v H1 locs hp hS => ?_)
    obtain ⟨q, cap', hv2, h1, h2, hP⟩ := hp; subst hv2; generalize H1 = H at hP hS ⊢
    refine lv_astore_n (lv' := [(2, .ref q), (0, .ref (ad lb)), (1, .ref (ad el)), (3, .int (nI n))]) hx hb dJx4a65c_add_72be8_10 rfl hl (by decide) rfl (fun ls hl => ?_)
    exact K11 q cap' _ _ _ _ _ h1 (by omega) (by decide) (by decide) hP hS hl
  · skip
    have hcd := hpos h0
    refine xw_qalena hx hb hE hP dt hcd rfl dJx4a65c_add_72be8_2 ?_
    refine lv_icmp_ne (tgt := 11) hx hb dJx4a65c_add_72be8_3 (by decide) (fun h => ?_) (fun h => ?_)
    · have h5 := ni_ne (a := n) (b := cap) (by omega) (by omega) h
      exact K11 (ad dt) cap _ _ _ _ _ (by omega) hcap.2 (by decide) (by decide) (by rw [ad_same]; exact hP.ct (by rw [aw_same hcd, aw_same he])) hS (lv_sub hl [2, 0, 1, 3] rfl)
    · have h5 := ni_eq (a := n) (b := cap) (by omega) (by omega) h
      subst h5
      refine lv_aload_n hx hb dJx4a65c_add_72be8_6 rfl (lv_at hl 0 rfl) ?_
      refine x2_callV (C := "java/util/ArrayList") (n := 0) [] (c_grow l hP he hlb hlT hdT hT hn h00 hel (fun _ => hcd)) hx hb hml hown hts hE hF hG hS (xw_recv hE hP lb he rfl) rfl rfl q_24 q_487 q_490 q_489 q_18 (by decide) rfl ⟨by rw [hRf]; decide, by rw [hRl]; decide⟩ hl.1 rfl (Nat.le_of_ble_eq_true rfl) dJx4a65c_add_72be8_7 ⟨by rw [hRc]; decide, by rw [hRs]; decide⟩ (fun v H1 locs hp hS => ?_)
      obtain ⟨q, cap', hv2, h1, h2, hP⟩ := hp; subst hv2; generalize H1 = H at hP hS ⊢
      refine lv_astore_n (lv' := [(2, .ref q), (0, .ref (ad lb)), (1, .ref (ad el)), (3, .int (nI n))]) hx hb dJx4a65c_add_72be8_10 rfl hl (by decide) rfl (fun ls hl => ?_)
      exact K11 q cap' _ _ _ _ _ h1 (by omega) (by decide) (by decide) hP hS hl

set_option maxHeartbeats 4000000 in
set_option maxRecDepth 100000 in
theorem c_add (l : Launch) {D : va_G} {y : Nat → ClassId} {A : Nat → Prop} {e0 : Nat} {ad : xL → Nat} {Hs : Heap} {ct : xL → Option va_E} {lb dt : xL} {n : Nat} {mo : Int32} {g : Nat → Nat} (hP : xW D A ad ct Hs) (he : ct lb = some (.inr (0, [.int mo, .ref (ad dt), .int (nI n)]))) (hlb : lb ≠ dt) (hlT : lb ≠ (19, 0)) (hdT : dt ≠ (19, 0)) (hT : ct (19, 0) = none) (hn : n ≤ 20) (h00 : n = 0 → ad dt = e0) (hel : elH ad ct g n lb dt) {cap : Nat} (hpos : 0 < n → ct dt = some (.inl (y 4, cap, xr (fG g n)))) (hcap : n ≤ cap ∧ cap ≤ 1000) {el : xL} {ci : Nat} {cn : String} {T : u_T} {K : Nat} {vs : List Value} (hv : ct el = some (.inr (ci, vs))) (hvc : vwCl[ci]? = some (cn, T, K)) (hca : Cond.castable cn "java/lang/Object" ∈ XNG) (hel1 : el ≠ lb) (hel2 : el ≠ dt) : Met l yJx4a65c_add_9ea2d (.code yJx4a65c_add_9ea2d cJx4a65c_add_9ea2d 2 (some .boolean) :: WG) { frames := 6, cells := 1, slots := 40, locals := 200 } (xPc2 [.ref (ad lb), .ref (ad el)] D y A e0 Hs) (xQ (fun v H1 => v = some (.int 1) ∧ ∃ q cap', n + 1 ≤ cap' ∧ cap' ≤ 1000 ∧ xW D A (ad_up ad dt q) (aw_up (aw_up ct dt (.inl (y 4, cap', xr (fG (gX g n (ad el)) (n + 1))))) lb (.inr (0, [.int (mo + nI 1), .ref q, .int (nI (n + 1))]))) H1) A) 1 40 A := by
  refine xM_go2 (by decide) (Nat.le_of_ble_eq_true rfl) (fun p e s m args below meth c ls R Q hx hb hr hlocks hml hown hts hH hE hnm hRf hRl hRc hRs hQ hS hl hF hG => ?_)
  have hRf : R.frames = 6 := hRf
  have hRl : R.locals = 200 := hRl
  have hRc : R.cells = 1 := hRc
  have hRs : R.slots = 40 := hRs
  have hl : lv_has ls 2 [(0, .ref (ad lb)), (1, .ref (ad el))] := hl
  refine lv_aload_n hx hb dJx4a65c_add_9ea2d_0 rfl (lv_at hl 0 rfl) ?_
  refine lv_dup hx hb dJx4a65c_add_9ea2d_1 rfl ?_
  refine xw_geta hx hb hts hown hE hP lb he rfl 0 (by decide) q_67 (u_same (hts _ q_68)) rfl dJx4a65c_add_9ea2d_2 ?_
  refine lv_iconst (v := nI 1) hx hb dJx4a65c_add_9ea2d_5 (by decide) ?_
  refine lv_iadd hx hb dJx4a65c_add_9ea2d_6 ?_
  have hP := hP.ct (aw_same he).symm
  refine xw_puta hx hb hts hown hE lb (e0 := .inr (0, [.int (mo + nI 1), .ref (ad dt), .int (nI n)])) hP hS rfl iw_Jx4a65c tyJx4a65c tyJx4a65c_ok nmJx4a65c rfl 0 (by decide) q_67 (u_same (hts _ q_68)) rfl (ty := .int) rfl rfl rfl (Nat.le_of_ble_eq_true rfl) rfl dJx4a65c_add_9ea2d_7 (fun H locs hP hS => ?_)
  refine lv_aload_n hx hb dJx4a65c_add_9ea2d_10 rfl (lv_at hl 0 rfl) ?_
  refine lv_aload_n hx hb dJx4a65c_add_9ea2d_11 rfl (lv_at hl 1 rfl) ?_
  refine lv_aload_n hx hb dJx4a65c_add_9ea2d_12 rfl (lv_at hl 0 rfl) ?_
  refine xw_geta hx hb hts hown hE hP lb aw_up_self rfl 1 (by decide) q_64 (fun x h => h) rfl dJx4a65c_add_9ea2d_13 ?_
  refine lv_aload_n hx hb dJx4a65c_add_9ea2d_16 rfl (lv_at hl 0 rfl) ?_
  refine xw_geta hx hb hts hown hE hP lb aw_up_self rfl 2 (by decide) q_65 (fun x h => h) rfl dJx4a65c_add_9ea2d_17 ?_
  refine x2_callV (C := "java/util/ArrayList") (n := 3) [.ref (ad el), .ref (ad dt), .int (nI n)] (c_add3 l hP aw_up_self hlb hlT hdT ((aw_up_ne (fun e => hlT e.symm)).trans hT) hn h00 (fun i hi => by
      obtain ⟨labV, ci, cn, T, K, vs, h1, h2, h3, h4, h5, h6, h7⟩ := hel i hi
      exact ⟨labV, ci, cn, T, K, vs, h1, h2, h3, h4, (aw_up_ne h2).trans h5, h6, h7⟩) (fun h => (aw_up_ne (fun e => hlb e.symm)).trans (hpos h)) hcap ((aw_up_ne hel1).trans hv) hvc hca hel1 hel2) hx hb hml hown hts hE hF hG hS (xw_recv hE hP lb aw_up_self rfl) rfl rfl q_24 q_483 q_486 q_485 q_17 (by decide) rfl ⟨by rw [hRf]; decide, by rw [hRl]; decide⟩ hl.1 rfl (Nat.le_of_ble_eq_true rfl) dJx4a65c_add_9ea2d_20 ⟨by rw [hRc]; decide, by rw [hRs]; decide⟩ (fun v H1 locs hp hS => ?_)
  obtain ⟨hv2, q, cap', h1, h2, hP⟩ := hp; subst hv2; generalize H1 = H at hP hS ⊢
  have hP := hP.ct (aw_sh (fun e => hlb e.symm))
  refine lv_iconst (v := nI 1) hx hb dJx4a65c_add_9ea2d_23 (by decide) ?_
  exact xe_zret hQ hx hb hr hlocks hH hS (Or.inr rfl) (by decide) (by decide) ⟨rfl, q, cap', h1, h2, hP⟩ dJx4a65c_add_9ea2d_24
