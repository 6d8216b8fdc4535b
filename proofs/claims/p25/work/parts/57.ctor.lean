/-! constructors -/
theorem aw_same {ct : xL → Option va_E} {k : xL} {e : va_E} (h : ct k = some e) : aw_up ct k e = ct := by
  funext j
  by_cases q : j = k
  · rw [q, aw_up_self, h]
  · exact aw_up_ne q
theorem aw_comm {ct : xL → Option va_E} {k j : xL} {e f : va_E} (h : j ≠ k) : aw_up (aw_up ct k e) j f = aw_up (aw_up ct j f) k e := by
  funext i
  unfold aw_up
  by_cases a : i = j
  · have : i ≠ k := fun q => h (by rw [← a, q])
    simp [a, h]
  · by_cases b : i = k
    · have h2 : ¬ k = j := fun q => h q.symm
      simp [b, h2]
    · simp [a, b]
section PA
variable {p : Program} {l : Launch} {e : Env} {R : Room} {s : State} {m : MethodId} {args : Array Value} {below : List Frame} {meth : Method} {c : Code} {H H0 : Heap} {locs : List Loc} {cells slots : Nat} {Q : State → Prop}
variable {cc : ByteArray} {pc : Nat} {ls : Array Slot} {rest : List Value} {D : va_G} {y : Nat → ClassId} {A : Nat → Prop} {ad : xL → Nat} {ct : xL → Option va_E}
theorem xw_puta (hexec : p.tables.exec = Jvm.exec) (hb : c.code = cc) {own ref C : String} {T : u_T} {N ci index a : Nat} (hts : ∀ w ∈ WG, w.before args s = true) (hown : s.vm.findClass own = some m.cls) (hE : xE D y s) (lab : xL) {fs : List Value} {e0 : va_E} (hP : xW D A ad (aw_up ct lab (.inr (ci, fs))) H) (hS0 : va_S A H0 H locs) (ha : ad lab = a) (hin : ∀ w ∈ u_ws C T N, w ∈ WG) (ty0 : Nat → FieldType) (hty : ∀ k, k < N → parseFieldDescriptor (T k).2.2.1 = some (ty0 k)) (hnm : ∀ a, a < N → ∀ b, b < N → a ≠ b → (T a).2.1 ≠ (T b).2.1) (hc : vwCl[ci]? = some (C, T, N)) (k : Nat) (hk : k < N) (hlink : Cond.fieldLink own index ref (T k).2.1 (T k).2.2.1 ∈ WG) (hsame : ∀ x, s.fieldFound? (T k).1 (T k).2.1 (T k).2.2.1 = some x → s.fieldFound? ref (T k).2.1 (T k).2.2.1 = some x) (hfin : (T k).2.2.2 = false) {ty : FieldType} {v : Value} (hd : parseFieldDescriptor (T k).2.2.1 = some ty) (hn : narrow ty v = v) (hfit : fits ty v = true) (hl : k < fs.length) (he0 : (Sum.inr (ci, fs.set k v) : va_E) = e0)
    (hdg : decode cc pc = .ok (.putfield index, 3)) (kk : ∀ (H1 : Heap) (locs1 : List Loc), xW D A ad (aw_up ct lab e0) H1 → va_S A H0 H1 locs1 → W p l e R s m args below meth c H1 locs1 cells slots Q (F0 m (pc + 3) ls rest)) : W p l e R s m args below meth c H locs cells slots Q (F0 m pc ls (v :: .ref a :: rest)) := by
  subst ha; subst he0
  exact xw_put hexec hb hts hown hE hP hS0 hin ty0 hty hnm lab aw_up_self hc k hk hlink hsame hfin hd hn hfit hl hdg (fun H1 locs1 h1 h2 => kk H1 locs1 (h1.ct aw_up_up) h2)
theorem xw_putFa (hexec : p.tables.exec = Jvm.exec) (hb : c.code = cc) {own ref C : String} {T : u_T} {N ci index a : Nat} (hts : ∀ w ∈ WG, w.before args s = true) (hown : s.vm.findClass own = some m.cls) (hE : xE D y s) (lab : xL) {fs : List Value} {e0 : va_E} (hP : xW D A ad (aw_up ct lab (.inr (ci, fs))) H) (hS0 : va_S A H0 H locs) (ha : ad lab = a) (hin : ∀ w ∈ u_ws C T N, w ∈ WG) (ty0 : Nat → FieldType) (hty : ∀ k, k < N → parseFieldDescriptor (T k).2.2.1 = some (ty0 k)) (hnm : ∀ a, a < N → ∀ b, b < N → a ≠ b → (T a).2.1 ≠ (T b).2.1) (hc : vwCl[ci]? = some (C, T, N)) (k : Nat) (hk : k < N) (hlink : Cond.fieldLink own index ref (T k).2.1 (T k).2.2.1 ∈ WG) (hsame : ∀ x, s.fieldFound? (T k).1 (T k).2.1 (T k).2.2.1 = some x → s.fieldFound? ref (T k).2.1 (T k).2.2.1 = some x) (hfin : (T k).2.2.2 = true) (hin2 : meth.name = "<init>") (hdecl : (T k).1 = own) {ty : FieldType} {v : Value} (hd : parseFieldDescriptor (T k).2.2.1 = some ty) (hn : narrow ty v = v) (hfit : fits ty v = true) (hl : k < fs.length) (he0 : (Sum.inr (ci, fs.set k v) : va_E) = e0)
    (hdg : decode cc pc = .ok (.putfield index, 3)) (kk : ∀ (H1 : Heap) (locs1 : List Loc), xW D A ad (aw_up ct lab e0) H1 → va_S A H0 H1 locs1 → W p l e R s m args below meth c H1 locs1 cells slots Q (F0 m (pc + 3) ls rest)) : W p l e R s m args below meth c H locs cells slots Q (F0 m pc ls (v :: .ref a :: rest)) := by
  subst ha; subst he0
  exact xw_putF hexec hb hts hown hE hP hS0 hin ty0 hty hnm lab aw_up_self hc k hk hlink hsame hfin hin2 hdecl hd hn hfit hl hdg (fun H1 locs1 h1 h2 => kk H1 locs1 (h1.ct aw_up_up) h2)
/-- a cell that is made while an object is filled in -/
theorem xw_newB (hexec : p.tables.exec = Jvm.exec) (hb : c.code = cc) {atype : ArrayType} {ty : FieldType} {t N h0 : Nat} {a0 : vp_A} {olab : xL} {oe : va_E} (hts : ∀ w ∈ WG, w.before args s = true) (harr : Cond.arrayClass ty ∈ WG) (hty : newarray.typeOf atype = ty) (hxt : (xT y)[t]? = some (y t, ty)) (ha : ∀ cA : ClassId, vp_cell cA a0 = arrV cA N (fun _ => defaultValue ty))
    (hE : xE D y s) (hP : xW D A ad (aw_up ct olab oe) H) (hS : va_S A H0 H locs) (ho : ad olab = h0) (hN : N < 2 ^ 31) (hbytes : N * componentBytes ty ≤ 536870912) (hcells : cells + 1 ≤ R.cells) (hslots : slots + N ≤ R.slots) (hdg : decode cc pc = .ok (.newarray atype, 2)) (lab : xL) (hne : olab ≠ lab)
    (kk : ∀ (q : Nat) (H1 : Heap), xW D A (ad_up ad lab q) (aw_up (aw_up ct lab (.inl (y t, a0))) olab oe) H1 → va_S A H0 H1 locs → ad_up ad lab q olab = h0 → W p l e R s m args below meth c H1 locs (cells + 1) (slots + N) Q (F0 m (pc + 2) ls (.ref q :: rest))) : W p l e R s m args below meth c H locs cells slots Q (F0 m pc ls (.int (nI N) :: rest)) :=
  xw_newA hexec hb hts harr hty hxt ha hE hP hS hN hbytes hcells hslots hdg lab (fun q H1 h1 h2 => kk q H1 (h1.ct (aw_comm (fun e => hne e.symm))) h2 ((ad_up_ne hne).trans ho))
end PA
set_option maxHeartbeats 4000000 in
set_option maxRecDepth 100000 in
theorem c_ACinit (l : Launch) {D : va_G} {y : Nat → ClassId} {A : Nat → Prop} {e0 : Nat} {ad : xL → Nat} {Hs : Heap} {h0 : Nat} : Met l yJxa1e45_init_da8c8 (.code yJxa1e45_init_da8c8 cJxa1e45_init_da8c8 1 none :: WG) { frames := 1, cells := 0, slots := 0, locals := 12 } (xPc2 [.ref h0] D y A e0 Hs) (xQ (fun v H1 => v = none ∧ Hs = H1) A) 0 0 A := by
  refine xM_go2 (by decide) (Nat.le_of_ble_eq_true rfl) (fun p e s m args below meth c ls R Q hx hb hr hlocks hml hown hts hH hE hnm hRf hRl hRc hRs hQ hS hl hF hG => ?_)
  have hRf : R.frames = 1 := hRf
  have hRl : R.locals = 12 := hRl
  have hRc : R.cells = 0 := hRc
  have hRs : R.slots = 0 := hRs
  have hl : lv_has ls 1 [(0, .ref h0)] := hl
  refine lv_aload_n hx hb dJxa1e45_init_da8c8_0 rfl (lv_at hl 0 rfl) ?_
  refine W.objInit hx hb hown (hts _ q_61) (hts _ q_48) (hts _ q_49) rfl (by rw [hml]; exact hl.1) rfl dJxa1e45_init_da8c8_1 (by rw [hRf]; decide) (by rw [hRl]; exact Nat.le_of_ble_eq_true rfl) ?_
  exact xe_vret hQ hx hb hr hlocks hH hS (by decide) (by decide) (⟨rfl, rfl⟩) dJxa1e45_init_da8c8_4

set_option maxHeartbeats 4000000 in
set_option maxRecDepth 100000 in
theorem c_ALinit0 (l : Launch) {D : va_G} {y : Nat → ClassId} {A : Nat → Prop} {e0 : Nat} {ad : xL → Nat} {Hs : Heap} {ct : xL → Option va_E} {lab : xL} {h0 : Nat} {m0 : Int32} {x1 x2 : Value} (hP : xW D A ad ct Hs) (he : ct lab = some (.inr (0, [.int m0, x1, x2]))) (h0e : ad lab = h0) : Met l yJxc12de_init_da8c8 (.code yJxc12de_init_da8c8 cJxc12de_init_da8c8 1 none :: WG) { frames := 2, cells := 0, slots := 0, locals := 32 } (xPc2 [.ref h0] D y A e0 Hs) (xQ (fun v H1 => v = none ∧ xW D A ad (aw_up ct lab (.inr (0, [.int 0, x1, x2]))) H1) A) 0 0 A := by
  refine xM_go2 (by decide) (Nat.le_of_ble_eq_true rfl) (fun p e s m args below meth c ls R Q hx hb hr hlocks hml hown hts hH hE hnm hRf hRl hRc hRs hQ hS hl hF hG => ?_)
  have hRf : R.frames = 2 := hRf
  have hRl : R.locals = 32 := hRl
  have hRc : R.cells = 0 := hRc
  have hRs : R.slots = 0 := hRs
  have hl : lv_has ls 1 [(0, .ref h0)] := hl
  refine lv_aload_n hx hb dJxc12de_init_da8c8_0 rfl (lv_at hl 0 rfl) ?_
  refine x2_callI (n := 0) [] (c_ACinit l (ad := ad)) hx hb hml hown hts hE hF hG hS rfl rfl q_22 q_58 q_60 q_59 rfl (by decide) rfl ⟨by rw [hRf]; decide, by rw [hRl]; decide⟩ hl.1 rfl (Nat.le_of_ble_eq_true rfl) dJxc12de_init_da8c8_1 ⟨by rw [hRc]; decide, by rw [hRs]; decide⟩ (fun v H1 locs hp hS => ?_)
  obtain ⟨hv, hh⟩ := hp; subst hv; subst hh
  have hP := hP.ct (aw_same he).symm
  refine lv_aload_n hx hb dJxc12de_init_da8c8_4 rfl (lv_at hl 0 rfl) ?_
  refine lv_iconst (v := 0) hx hb dJxc12de_init_da8c8_5 (by decide) ?_
  refine xw_puta hx hb hts hown hE lab (e0 := .inr (0, [.int 0, x1, x2])) hP hS h0e iw_Jx4a65c tyJx4a65c tyJx4a65c_ok nmJx4a65c rfl 0 (by decide) q_66 (fun x h => h) rfl (ty := .int) rfl rfl rfl (Nat.le_of_ble_eq_true rfl) rfl dJxc12de_init_da8c8_6 (fun H locs hP hS => ?_)
  exact xe_vret hQ hx hb hr hlocks hH hS (by decide) (by decide) (⟨rfl, hP⟩) dJxc12de_init_da8c8_9

set_option maxHeartbeats 4000000 in
set_option maxRecDepth 100000 in
theorem c_ALinit (l : Launch) {D : va_G} {y : Nat → ClassId} {A : Nat → Prop} {e0 : Nat} {ad : xL → Nat} {Hs : Heap} {ct : xL → Option va_E} {lab : xL} {h0 : Nat} (hP : xW D A ad ct Hs) (he : ct lab = some (.inr (0, [.int 0, .null, .int 0]))) (h0e : ad lab = h0) : Met l yJx4a65c_init_da8c8 (.code yJx4a65c_init_da8c8 cJx4a65c_init_da8c8 1 none :: WG) { frames := 3, cells := 0, slots := 0, locals := 52 } (xPc2 [.ref h0] D y A e0 Hs) (xQ (fun v H1 => v = none ∧ xW D A ad (aw_up ct lab (.inr (0, [.int 0, .ref e0, .int 0]))) H1) A) 0 0 A := by
  refine xM_go2 (by decide) (Nat.le_of_ble_eq_true rfl) (fun p e s m args below meth c ls R Q hx hb hr hlocks hml hown hts hH hE hnm hRf hRl hRc hRs hQ hS hl hF hG => ?_)
  have hRf : R.frames = 3 := hRf
  have hRl : R.locals = 52 := hRl
  have hRc : R.cells = 0 := hRc
  have hRs : R.slots = 0 := hRs
  have hl : lv_has ls 1 [(0, .ref h0)] := hl
  refine lv_aload_n hx hb dJx4a65c_init_da8c8_0 rfl (lv_at hl 0 rfl) ?_
  refine x2_callI (n := 0) [] (c_ALinit0 l hP he h0e) hx hb hml hown hts hE hF hG hS rfl rfl q_23 q_55 q_57 q_56 rfl (by decide) rfl ⟨by rw [hRf]; decide, by rw [hRl]; decide⟩ hl.1 rfl (Nat.le_of_ble_eq_true rfl) dJx4a65c_init_da8c8_1 ⟨by rw [hRc]; decide, by rw [hRs]; decide⟩ (fun v H1 locs hp hS => ?_)
  obtain ⟨hv, hP⟩ := hp; subst hv; generalize H1 = H at hP hS ⊢
  refine lv_aload_n hx hb dJx4a65c_init_da8c8_4 rfl (lv_at hl 0 rfl) ?_
  refine va_gets hx hb (by rw [hH]; exact hG.1) (by rw [hH]; exact hS) hown (hts _ q_62) (fun x h => h) dJx4a65c_init_da8c8_5 ?_
  refine xw_puta hx hb hts hown hE lab (e0 := .inr (0, [.int 0, .ref e0, .int 0])) hP hS h0e iw_Jx4a65c tyJx4a65c tyJx4a65c_ok nmJx4a65c rfl 1 (by decide) q_64 (fun x h => h) rfl (ty := .array (.object "java/lang/Object")) rfl rfl rfl (Nat.le_of_ble_eq_true rfl) rfl dJx4a65c_init_da8c8_8 (fun H locs hP hS => ?_)
  exact xe_vret hQ hx hb hr hlocks hH hS (by decide) (by decide) (⟨rfl, hP⟩) dJx4a65c_init_da8c8_11

set_option maxHeartbeats 4000000 in
set_option maxRecDepth 100000 in
theorem c_X2_init (l : Launch) {D : va_G} {y : Nat → ClassId} {A : Nat → Prop} {e0 : Nat} {ad : xL → Nat} {Hs : Heap} {ct : xL → Option va_E} {lab : xL} {h0 : Nat} (hP : xW D A ad ct Hs) (he : ct lab = some (.inr (3, [.int 0, .int 0]))) (h0e : ad lab = h0) : Met l yX2_init (.code yX2_init cX2_init 1 none :: WG) { frames := 1, cells := 0, slots := 0, locals := 12 } (xPc2 [.ref h0] D y A e0 Hs) (xQ (fun v H1 => v = none ∧ xW D A ad ct H1) A) 0 0 A := by
  refine xM_go2 (by decide) (Nat.le_of_ble_eq_true rfl) (fun p e s m args below meth c ls R Q hx hb hr hlocks hml hown hts hH hE hnm hRf hRl hRc hRs hQ hS hl hF hG => ?_)
  have hRf : R.frames = 1 := hRf
  have hRl : R.locals = 12 := hRl
  have hRc : R.cells = 0 := hRc
  have hRs : R.slots = 0 := hRs
  have hl : lv_has ls 1 [(0, .ref h0)] := hl
  refine lv_aload_n hx hb dX2_init_0 rfl (lv_at hl 0 rfl) ?_
  refine W.objInit hx hb hown (hts _ q_469) (hts _ q_48) (hts _ q_49) rfl (by rw [hml]; exact hl.1) rfl dX2_init_1 (by rw [hRf]; decide) (by rw [hRl]; exact Nat.le_of_ble_eq_true rfl) ?_
  have hP := hP.ct (aw_same he).symm
  refine lv_aload_n hx hb dX2_init_4 rfl (lv_at hl 0 rfl) ?_
  refine lv_iconst (v := 0) hx hb dX2_init_5 (by decide) ?_
  refine xw_puta hx hb hts hown hE lab (e0 := .inr (3, [.int 0, .int 0])) hP hS h0e iw_X2 tyX2 tyX2_ok nmX2 rfl 0 (by decide) q_470 (fun x h => h) rfl (ty := .boolean) rfl rfl rfl (Nat.le_of_ble_eq_true rfl) rfl dX2_init_6 (fun H locs hP hS => ?_)
  refine lv_aload_n hx hb dX2_init_9 rfl (lv_at hl 0 rfl) ?_
  refine lv_iconst (v := 0) hx hb dX2_init_10 (by decide) ?_
  refine xw_puta hx hb hts hown hE lab (e0 := .inr (3, [.int 0, .int 0])) hP hS h0e iw_X2 tyX2 tyX2_ok nmX2 rfl 1 (by decide) q_472 (fun x h => h) rfl (ty := .int) rfl rfl rfl (Nat.le_of_ble_eq_true rfl) rfl dX2_init_11 (fun H locs hP hS => ?_)
  exact xe_vret hQ hx hb hr hlocks hH hS (by decide) (by decide) (⟨rfl, hP.ct (aw_same he)⟩) dX2_init_14

set_option maxHeartbeats 4000000 in
set_option maxRecDepth 100000 in
theorem c_X0_init (l : Launch) {D : va_G} {y : Nat → ClassId} {A : Nat → Prop} {e0 : Nat} {ad : xL → Nat} {Hs : Heap} {ct : xL → Option va_E} {lab lat : xL} {h0 : Nat} {sr a b x : Int32} (hP : xW D A ad ct Hs) (he : ct lab = some (.inr (1, [.int 0, .int 0, .int 0, .int 0, .int 0, .int 0, .null]))) (h0e : ad lab = h0) (hne : lab ≠ lat) (hsr : sr = 0 ∨ sr = 1) : Met l yX0_init (.code yX0_init cX0_init 5 none :: WG) { frames := 1, cells := 1, slots := 6, locals := 12 } (xPc2 [.ref h0, .int sr, .int a, .int b, .int x] D y A e0 Hs) (xQ (fun v H1 => v = none ∧ ∃ q, xW D A (ad_up ad lat q) (aw_up (aw_up ct lat (.inl (y 0, 6, .inl (fun _ => 0)))) lab (.inr (1, [.int sr, .int a, .int b, .int x, .int 1, .int 0, .ref q]))) H1) A) 1 6 A := by
  refine xM_go2 (by decide) (Nat.le_of_ble_eq_true rfl) (fun p e s m args below meth c ls R Q hx hb hr hlocks hml hown hts hH hE hnm hRf hRl hRc hRs hQ hS hl hF hG => ?_)
  have hRf : R.frames = 1 := hRf
  have hRl : R.locals = 12 := hRl
  have hRc : R.cells = 1 := hRc
  have hRs : R.slots = 6 := hRs
  have hl : lv_has ls 5 [(0, .ref h0), (1, .int sr), (2, .int a), (3, .int b), (4, .int x)] := hl
  refine lv_aload_n hx hb dX0_init_0 rfl (lv_at hl 0 rfl) ?_
  refine W.objInit hx hb hown (hts _ q_552) (hts _ q_48) (hts _ q_49) rfl (by rw [hml]; exact hl.1) rfl dX0_init_1 (by rw [hRf]; decide) (by rw [hRl]; exact Nat.le_of_ble_eq_true rfl) ?_
  have hP := hP.ct (aw_same he).symm
  refine lv_aload_n hx hb dX0_init_4 rfl (lv_at hl 0 rfl) ?_
  refine lv_iconst (v := 1) hx hb dX0_init_5 (by decide) ?_
  refine xw_puta hx hb hts hown hE lab (e0 := .inr (1, [.int 0, .int 0, .int 0, .int 0, .int 1, .int 0, .null])) hP hS h0e iw_X0 tyX0 tyX0_ok nmX0 rfl 4 (by decide) q_561 (fun x h => h) rfl (ty := .boolean) rfl rfl rfl (Nat.le_of_ble_eq_true rfl) rfl dX0_init_6 (fun H locs hP hS => ?_)
  refine lv_aload_n hx hb dX0_init_9 rfl (lv_at hl 0 rfl) ?_
  refine lv_iconst (v := 0) hx hb dX0_init_10 (by decide) ?_
  refine xw_puta hx hb hts hown hE lab (e0 := .inr (1, [.int 0, .int 0, .int 0, .int 0, .int 1, .int 0, .null])) hP hS h0e iw_X0 tyX0 tyX0_ok nmX0 rfl 5 (by decide) q_563 (fun x h => h) rfl (ty := .int) rfl rfl rfl (Nat.le_of_ble_eq_true rfl) rfl dX0_init_11 (fun H locs hP hS => ?_)
  refine lv_aload_n hx hb dX0_init_14 rfl (lv_at hl 0 rfl) ?_
  refine lv_bipush (v := nI 6) hx hb dX0_init_15 (by decide) ?_
  refine xw_newB hx hb (atype := .int) (ty := .int) (t := 0) (a0 := (6, .inl (fun _ => 0))) hts q_100 rfl rfl (fun _ => by rw [vp_cell_i]; rfl) hE hP hS h0e (by decide) (by decide) (by rw [hRc]; decide) (by rw [hRs]; decide) dX0_init_17 lat hne (fun q H hP hS h0e => ?_)
  refine xw_putFa hx hb hts hown hE lab (e0 := .inr (1, [.int 0, .int 0, .int 0, .int 0, .int 1, .int 0, .ref q])) hP hS h0e iw_X0 tyX0 tyX0_ok nmX0 rfl 6 (by decide) q_565 (fun x h => h) rfl hnm rfl (ty := .array .int) rfl rfl rfl (Nat.le_of_ble_eq_true rfl) rfl dX0_init_19 (fun H locs hP hS => ?_)
  refine lv_aload_n hx hb dX0_init_22 rfl (lv_at hl 0 rfl) ?_
  refine lv_iload_n hx hb dX0_init_23 rfl (lv_at hl 1 rfl) ?_
  refine xw_putFa hx hb hts hown hE lab (e0 := .inr (1, [.int sr, .int 0, .int 0, .int 0, .int 1, .int 0, .ref q])) hP hS h0e iw_X0 tyX0 tyX0_ok nmX0 rfl 0 (by decide) q_553 (fun x h => h) rfl hnm rfl (ty := .boolean) rfl (by rcases hsr with h | h <;> subst h <;> rfl) (by rcases hsr with h | h <;> subst h <;> rfl) (Nat.le_of_ble_eq_true rfl) rfl dX0_init_24 (fun H locs hP hS => ?_)
  refine lv_aload_n hx hb dX0_init_27 rfl (lv_at hl 0 rfl) ?_
  refine lv_iload_n hx hb dX0_init_28 rfl (lv_at hl 2 rfl) ?_
  refine xw_putFa hx hb hts hown hE lab (e0 := .inr (1, [.int sr, .int a, .int 0, .int 0, .int 1, .int 0, .ref q])) hP hS h0e iw_X0 tyX0 tyX0_ok nmX0 rfl 1 (by decide) q_555 (fun x h => h) rfl hnm rfl (ty := .int) rfl rfl rfl (Nat.le_of_ble_eq_true rfl) rfl dX0_init_29 (fun H locs hP hS => ?_)
  refine lv_aload_n hx hb dX0_init_32 rfl (lv_at hl 0 rfl) ?_
  refine lv_iload_n hx hb dX0_init_33 rfl (lv_at hl 3 rfl) ?_
  refine xw_putFa hx hb hts hown hE lab (e0 := .inr (1, [.int sr, .int a, .int b, .int 0, .int 1, .int 0, .ref q])) hP hS h0e iw_X0 tyX0 tyX0_ok nmX0 rfl 2 (by decide) q_557 (fun x h => h) rfl hnm rfl (ty := .int) rfl rfl rfl (Nat.le_of_ble_eq_true rfl) rfl dX0_init_34 (fun H locs hP hS => ?_)
  refine lv_aload_n hx hb dX0_init_37 rfl (lv_at hl 0 rfl) ?_
  refine lv_iload hx hb dX0_init_38 (lv_at hl 4 rfl) ?_
  refine xw_puta hx hb hts hown hE lab (e0 := .inr (1, [.int sr, .int a, .int b, .int x, .int 1, .int 0, .ref q])) hP hS h0e iw_X0 tyX0 tyX0_ok nmX0 rfl 3 (by decide) q_559 (fun x h => h) rfl (ty := .int) rfl rfl rfl (Nat.le_of_ble_eq_true rfl) rfl dX0_init_40 (fun H locs hP hS => ?_)
  exact xe_vret hQ hx hb hr hlocks hH hS (by decide) (by decide) (⟨rfl, q, hP⟩) dX0_init_43
