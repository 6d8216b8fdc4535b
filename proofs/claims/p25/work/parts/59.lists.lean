/-! lists that grow -/
/-- a cell under another label -/
theorem xW.mv {D : va_G} {A : Nat → Prop} {ad : xL → Nat} {ct : xL → Option va_E} {H : Heap} {t k : xL} {e : va_E} {q : Nat} (h : xW D A (ad_up ad t q) (aw_up ct t e) H) (ht : ct t = none) : xW D A (ad_up ad k q) (aw_up ct k e) H := by
  have key : ∀ j : xL, aw_up ct k e j ≠ none → ∃ j' : xL, aw_up ct t e j' = aw_up ct k e j ∧ ad_up ad t q j' = ad_up ad k q j ∧ (j' = t ↔ j = k) ∧ (j' ≠ t → j' = j) := fun j hj => by
    by_cases hk : j = k
    · exact ⟨t, by rw [hk, aw_up_self, aw_up_self], by rw [hk, ad_up_self, ad_up_self], ⟨fun _ => hk, fun _ => rfl⟩, fun g => absurd rfl g⟩
    · rw [aw_up_ne hk] at hj
      have hjt : j ≠ t := fun g => hj (by rw [g]; exact ht)
      exact ⟨j, by rw [aw_up_ne hk, aw_up_ne hjt], by rw [ad_up_ne hk, ad_up_ne hjt], ⟨fun g => absurd g hjt, fun g => absurd g hk⟩, fun _ => rfl⟩
  refine ⟨fun j f hj => ?_, ⟨fun i j hi hj e2 => ?_, fun i hi => ?_⟩, h.2.2⟩
  · obtain ⟨j', a1, a2, -, -⟩ := key j (by rw [hj]; exact fun e => by cases e)
    rw [← a2]
    exact h.1 j' f (a1.trans hj)
  · obtain ⟨i', a1, a2, a3, a4⟩ := key i hi
    obtain ⟨j', b1, b2, b3, b4⟩ := key j hj
    have e3 := h.2.1.1 i' j' (by rw [a1]; exact hi) (by rw [b1]; exact hj) (by rw [a2, b2]; exact e2)
    by_cases hik : i = k
    · have : j' = t := e3 ▸ a3.mpr hik
      rw [hik, b3.mp this]
    · have hit : i' ≠ t := fun g => hik (a3.mp g)
      have hjt : j' ≠ t := fun g => hit (e3.trans g)
      rw [← a4 hit, ← b4 hjt, e3]
  · obtain ⟨i', a1, a2, -, -⟩ := key i hi
    rw [← a2]
    exact h.2.1.2 i' (by rw [a1]; exact hi)
section LS
variable {p : Program} {l : Launch} {e : Env} {R : Room} {s : State} {m : MethodId} {args : Array Value} {below : List Frame} {meth : Method} {c : Code} {H H0 : Heap} {locs : List Loc} {cells slots : Nat} {Q : State → Prop}
variable {cc : ByteArray} {pc : Nat} {ls : Array Slot} {rest : List Value} {D : va_G} {y : Nat → ClassId} {A : Nat → Prop} {ad : xL → Nat} {ct : xL → Option va_E}
theorem xw_geta (hexec : p.tables.exec = Jvm.exec) (hb : c.code = cc) {own : String} {index a : Nat} (hts : ∀ w ∈ WG, w.before args s = true) (hown : s.vm.findClass own = some m.cls) (hE : xE D y s) (hP : xW D A ad ct H) (lab : xL) {fs : List Value} (he : ct lab = some (.inr (0, fs))) (ha : ad lab = a) (k : Nat) (hk : k < 3) {ref : String} (hlink : Cond.fieldLink own index ref (TJx4a65c k).2.1 (TJx4a65c k).2.2.1 ∈ WG) (hsame : ∀ x, s.fieldFound? (TJx4a65c k).1 (TJx4a65c k).2.1 (TJx4a65c k).2.2.1 = some x → s.fieldFound? ref (TJx4a65c k).2.1 (TJx4a65c k).2.2.1 = some x) {v : Value} (hv : fs[k]? = some v) (hdg : decode cc pc = .ok (.getfield index, 3))
    (kk : W p l e R s m args below meth c H locs cells slots Q (F0 m (pc + 3) ls (v :: rest))) : W p l e R s m args below meth c H locs cells slots Q (F0 m pc ls (.ref a :: rest)) := by
  subst ha
  exact xw_get hexec hb hts hown hE hP iw_Jx4a65c lab he rfl k hk hlink hsame hv hdg kk
theorem xw_aasta (hexec : p.tables.exec = Jvm.exec) (hb : c.code = cc) (hE : xE D y s) (hP : xW D A ad ct H) (hS : va_S A H0 H locs) (lab labV : xL) {n ci a v : Nat} {r : vw_C} {vs : List Value} {f : Nat → Option Nat} (he : ct lab = some (.inl (y 4, n, xr f))) (hv : ct labV = some (.inr (ci, vs))) (ha : ad lab = a) (hva : ad labV = v) (hc : vwCl[ci]? = some r) (hca : va_Nw (.castable r.1 "java/lang/Object") s) {i : Nat} (hi : i < n) (hn : n < 2 ^ 31) (hdg : decode cc pc = .ok (.aastore, 1))
    (kk : ∀ (H1 : Heap) (locs1 : List Loc), xW D A ad (aw_up ct lab (.inl (y 4, n, xr (va_up f i (some v))))) H1 → va_S A H0 H1 locs1 → W p l e R s m args below meth c H1 locs1 cells slots Q (F0 m (pc + 1) ls rest)) : W p l e R s m args below meth c H locs cells slots Q (F0 m pc ls (.ref v :: .int (nI i) :: .ref a :: rest)) := by
  subst ha; subst hva
  exact xw_aast hexec hb hE hP hS lab labV he hv hc hca hi hn hdg kk
theorem xw_qalena (hexec : p.tables.exec = Jvm.exec) (hb : c.code = cc) (hE : xE D y s) (hP : xW D A ad ct H) (lab : xL) {n a : Nat} {f : Nat → Option Nat} (he : ct lab = some (.inl (y 4, n, xr f))) (ha : ad lab = a) (hdg : decode cc pc = .ok (.arraylength, 1))
    (kk : W p l e R s m args below meth c H locs cells slots Q (F0 m (pc + 1) ls (.int (nI n) :: rest))) : W p l e R s m args below meth c H locs cells slots Q (F0 m pc ls (.ref a :: rest)) := by
  subst ha
  exact xw_qalen hexec hb hE hP lab he hdg kk
/-- System.arraycopy of a whole Object[] of the world to the head of another -/
theorem xw_copyO (hexec : p.tables.exec = Jvm.exec) (hb : c.code = cc) (hml : c.maxLocals = ls.size) {own : String} {index : Nat} (hown : s.vm.findClass own = some m.cls) (hts : ∀ w ∈ WG, w.before args s = true) (hlink : Cond.methodLink own index arraycopyName ∈ WG) (hnat : Cond.native arraycopyName ∈ WG) (hstat : Cond.static arraycopyName ∈ WG) (hini : Cond.initialized "java/lang/System" ∈ WG)
    (hE : xE D y s) (hP : xW D A ad ct H) (hS : va_S A H0 H locs) (lab lab1 : xL) {n N a a1 : Nat} {f g : Nat → Option Nat} (he : ct lab = some (.inl (y 4, n, xr f))) (he1 : ct lab1 = some (.inl (y 4, N, xr g))) (ha : ad lab = a) (ha1 : ad lab1 = a1) (hn : n ≤ N) (hN : N < 2 ^ 31)
    (hel : ∀ i, i < n → ∃ (labV : xL) (ci : Nat) (r : vw_C) (vs : List Value), f i = some (ad labV) ∧ ct labV = some (.inr (ci, vs)) ∧ vwCl[ci]? = some r ∧ va_Nw (.castable r.1 "java/lang/Object") s)
    (hframes : 1 ≤ R.frames) (hlocals : (rest.map fun v => v.category).sum + (nativeFrameWords "java/lang/System" "arraycopy" 5 + 11) ≤ R.locals) (hdg : decode cc pc = .ok (.invokestatic index, 3))
    (kk : ∀ (H1 : Heap) (locs1 : List Loc), xW D A ad (aw_up ct lab1 (.inl (y 4, N, xr (va_cpy f g 0 0 n)))) H1 → va_S A H0 H1 locs1 → W p l e R s m args below meth c H1 locs1 cells slots Q (F0 m (pc + 3) ls rest)) :
    W p l e R s m args below meth c H locs cells slots Q (F0 m pc ls (.int (nI n) :: .int (nI 0) :: .ref a1 :: .int (nI 0) :: .ref a :: rest)) := by
  subst ha; subst ha1
  intro T hT X
  have hc0 : H[ad lab]? = some (vp_cell (y 4) (n, xr f)) := hP.1 _ _ he
  have hc1 : H[ad lab1]? = some (vp_cell (y 4) (N, xr g)) := hP.1 _ _ he1
  obtain ⟨-, k0, hk0, cm0, hkk0⟩ := (hE.1.2 4 _ rfl).1 n (fun j => va_rf (f j))
  obtain ⟨-, k1, hk1, cm1, hkk1⟩ := (hE.1.2 4 _ rfl).1 N (fun j => va_rf (g j))
  have q0 : (nI 0).toInt = (0 : Int) ∧ (nI 0).toNatClampNeg = 0 := by decide
  have qn : (nI n).toInt = (n : Int) ∧ (nI n).toNatClampNeg = n := ⟨nI_toInt (by omega), nI_clamp (by omega)⟩
  obtain ⟨vm', X', step⟩ := X.arraycopy hexec hown (hts _ hlink) (hts _ hnat) (hts _ hstat) (hts _ hini) (src := ad lab) (dst := ad lab1) (cs := vp_cell (y 4) (n, xr f)) (cd := vp_cell (y 4) (N, xr g)) (srcPos := nI 0) (destPos := nI 0) (n := nI n) (by rw [hT]; exact hc0) (by rw [hT]; exact hc1)
    (fun _ h => by cases h) (fun _ h => by cases h) (fun h => by cases h) (fun h => by cases h) hk0 hk1 hkk0 hkk1 rfl (by decide) (by decide) (nI_pos (by omega))
    (by rw [q0.1, qn.1]; show ¬ _ > ((arrV (y 4) n (fun j => va_rf (f j))).slots.size : Int); rw [arrV_size]; omega)
    (by rw [q0.1, qn.1]; show ¬ _ > ((arrV (y 4) N (fun j => va_rf (g j))).slots.size : Int); rw [arrV_size]; omega)
    (fun vm₁ hal i hi => by
      rw [qn.2] at hi
      have e : (vp_cell (y 4) (n, xr f)).slots.getD ((nI 0).toNatClampNeg + i) .null = va_rf (f i) := by
        show (arrV (y 4) n (fun j => va_rf (f j))).slots.getD _ _ = _
        rw [q0.2, Nat.zero_add, Array.getD_eq_getD_getElem?, arrV_read _ _ hi]
        rfl
      rw [e]
      obtain ⟨labV, ci, r, vs, e1, e2, e3, e4⟩ := hel i hi
      rw [e1]
      obtain ⟨r', hr', cellV, g1, g2, g3, -⟩ := hP.1 _ _ e2
      have hcls := (hE.1.1 ci r e3).2
      obtain ⟨kA, comp, r1, r2, r3, -⟩ := (hE.1.2 4 _ rfl).2
      cases hk1.symm.trans r1
      cases hkk1.symm.trans r2
      obtain ⟨kC, hkC, -⟩ := hcls.2
      obtain ⟨kE, hkE, -⟩ := Vm.findClass_spec r3
      obtain ⟨kC', hkC', -⟩ := hal.2.2 _ _ hkC
      obtain ⟨kE', hkE', -⟩ := hal.2.2 _ _ hkE
      obtain ⟨c0, t1, f1, f2, f3⟩ := Cond.castable_spec (va_Nw.use (A := args) rfl e4)
      cases hcls.1.symm.trans f1
      cases r3.symm.trans f2
      refine ⟨rfl, cellV, (show T.heap[ad labV]? = some cellV by rw [hT]; exact g1), (fun q h => by rw [g3] at h; cases h), ⟨kC', by rw [g2]; exact hkC'⟩, ?_, ?_⟩
      · exact ⟨kE', hkE'⟩
      · show vm₁.assignable _ _ = true
        rw [hal.assignable, g2]
        exact f3)
    (g := F0 m pc ls (.int (nI n) :: .int (nI 0) :: .ref (ad lab1) :: .int (nI 0) :: .ref (ad lab) :: rest)) rfl (by rw [hml]) (rest := rest) rfl (by rw [hb]; exact hdg) hframes (by show 2 * 0 + _ + _ ≤ _; omega)
  have e1 : copied (vp_cell (y 4) (n, xr f)) (vp_cell (y 4) (N, xr g)) (nI 0) (nI 0) (nI n) = vp_cell (y 4) (N, xr (va_cpy f g 0 0 n)) := by
    show (arrV (y 4) N (fun j => va_rf (g j))).storeRun (nI 0).toNatClampNeg ((arrV (y 4) n (fun j => va_rf (f j))).stretch (nI 0).toNatClampNeg (nI n).toNatClampNeg) = _
    rw [q0.2, qn.2]
    exact va_copied (fun z => va_rf z) (y 4) (y 4) f g (by omega)
  rw [e1] at X' step
  have hl : ad lab1 < H.size := (Array.getElem?_eq_some_iff.mp hc1).1
  have hheap : ((T.setVm vm').setCell (ad lab1) (vp_cell (y 4) (N, xr (va_cpy f g 0 0 n)))).heap = H.setIfInBounds (ad lab1) (vp_cell (y 4) (N, xr (va_cpy f g 0 0 n))) := by rw [← hT]; rfl
  have oq : ∀ q : Nat, q ≠ ad lab1 → (H.setIfInBounds (ad lab1) (vp_cell (y 4) (N, xr (va_cpy f g 0 0 n))))[q]? = H[q]? := fun q hq => by simp [Array.getElem?_setIfInBounds, Ne.symm hq]
  obtain ⟨t, a1, b1⟩ := kk _ _ (hP.set he1 (show (H.setIfInBounds (ad lab1) _)[ad lab1]? = some _ by simp [Array.getElem?_setIfInBounds, hl]) (by simp) oq) ⟨by simp; exact hS.1, fun q g1 g2 => by
      rw [oq q (fun e => g2 (by rw [e]; exact hP.inA he1))]
      exact hS.2.1 q g1 g2, fun q hq => by
      rcases List.mem_append.mp hq with h | h
      · exact hS.2.2 q h
      · obtain ⟨z, -, hz⟩ := List.mem_map.mp h
        rw [← hz]
        exact hP.inA he1⟩ _ hheap X'
  exact ⟨t, step t a1, b1⟩
end LS
set_option maxHeartbeats 4000000 in
set_option maxRecDepth 100000 in
theorem c_J9_max_7cf53 (l : Launch) {D : va_G} {y : Nat → ClassId} {A : Nat → Prop}  {Hs : Heap} {a b : Nat} (ha : a < 1000) (hb0 : b < 1000) : Met l yJ9_max_7cf53 (.code yJ9_max_7cf53 cJ9_max_7cf53 2 (some .int) :: WG) { frames := 0, cells := 0, slots := 0, locals := 0 } (xPc [.int (nI a), .int (nI b)] D y Hs) (xQ (fun v H1 => v = some (.int (nI (if a < b then b else a))) ∧ Hs = H1) A) 0 0 A := by
  refine xM_goF (by decide +kernel) (Nat.le_of_ble_eq_true rfl) (fun p e s m args below meth c ls R Q hx hb hr hlocks hml hown hts hH hE hnm hRf hRl hRc hRs hQ hS hl => ?_)
  have hRf : R.frames = 0 := hRf
  have hRl : R.locals = 0 := hRl
  have hRc : R.cells = 0 := hRc
  have hRs : R.slots = 0 := hRs
  have hl : lv_has ls 2 [(0, .int (nI a)), (1, .int (nI b))] := hl
  refine lv_iload_n hx hb dJ9_max_7cf53_0 rfl (lv_at hl 0 rfl) ?_
  refine lv_iload_n hx hb dJ9_max_7cf53_1 rfl (lv_at hl 1 rfl) ?_
  refine lv_icmp_lt (tgt := 9) hx hb dJ9_max_7cf53_2 (by decide) (fun c2 => ?_) (fun c2 => ?_)
  · skip
    have c2 := ni_lt (a := a) (b := b) (by omega) (by omega) c2
    refine lv_iload_n hx hb dJ9_max_7cf53_9 rfl (lv_at hl 1 rfl) ?_
    exact xe_iret hQ hx hb hr hlocks hH hS (Nat.le_refl _) (Nat.le_refl _) (⟨by rw [if_pos c2], rfl⟩) dJ9_max_7cf53_10
  · skip
    have c2 := ni_nlt (a := a) (b := b) (by omega) (by omega) c2
    refine lv_iload_n hx hb dJ9_max_7cf53_5 rfl (lv_at hl 0 rfl) ?_
    refine lv_goto (tgt := 10) hx hb dJ9_max_7cf53_6 (by decide) ?_
    exact xe_iret hQ hx hb hr hlocks hH hS (Nat.le_refl _) (Nat.le_refl _) (⟨by rw [if_neg (Nat.not_lt.mpr c2)], rfl⟩) dJ9_max_7cf53_10

set_option maxHeartbeats 4000000 in
set_option maxRecDepth 100000 in
theorem c_J9_min_7cf53 (l : Launch) {D : va_G} {y : Nat → ClassId} {A : Nat → Prop}  {Hs : Heap} {a b : Nat} (ha : a < 1000) (hb0 : b < 1000) : Met l yJ9_min_7cf53 (.code yJ9_min_7cf53 cJ9_min_7cf53 2 (some .int) :: WG) { frames := 0, cells := 0, slots := 0, locals := 0 } (xPc [.int (nI a), .int (nI b)] D y Hs) (xQ (fun v H1 => v = some (.int (nI (if b < a then b else a))) ∧ Hs = H1) A) 0 0 A := by
  refine xM_goF (by decide +kernel) (Nat.le_of_ble_eq_true rfl) (fun p e s m args below meth c ls R Q hx hb hr hlocks hml hown hts hH hE hnm hRf hRl hRc hRs hQ hS hl => ?_)
  have hRf : R.frames = 0 := hRf
  have hRl : R.locals = 0 := hRl
  have hRc : R.cells = 0 := hRc
  have hRs : R.slots = 0 := hRs
  have hl : lv_has ls 2 [(0, .int (nI a)), (1, .int (nI b))] := hl
  refine lv_iload_n hx hb dJ9_min_7cf53_0 rfl (lv_at hl 0 rfl) ?_
  refine lv_iload_n hx hb dJ9_min_7cf53_1 rfl (lv_at hl 1 rfl) ?_
  refine lv_icmp_gt (tgt := 9) hx hb dJ9_min_7cf53_2 (by decide) (fun c2 => ?_) (fun c2 => ?_)
  · skip
    have c2 := ni_lt (a := b) (b := a) (by omega) (by omega) c2
    refine lv_iload_n hx hb dJ9_min_7cf53_9 rfl (lv_at hl 1 rfl) ?_
    exact xe_iret hQ hx hb hr hlocks hH hS (Nat.le_refl _) (Nat.le_refl _) (⟨by rw [if_pos c2], rfl⟩) dJ9_min_7cf53_10
  · skip
    have c2 := ni_nlt (a := b) (b := a) (by omega) (by omega) c2
    refine lv_iload_n hx hb dJ9_min_7cf53_5 rfl (lv_at hl 0 rfl) ?_
    refine lv_goto (tgt := 10) hx hb dJ9_min_7cf53_6 (by decide) ?_
    exact xe_iret hQ hx hb hr hlocks hH hS (Nat.le_refl _) (Nat.le_refl _) (⟨by rw [if_neg (Nat.not_lt.mpr c2)], rfl⟩) dJ9_min_7cf53_10

set_option maxHeartbeats 4000000 in
set_option maxRecDepth 100000 in
theorem c_J8_newLength_cabcc (l : Launch) {D : va_G} {y : Nat → ClassId} {A : Nat → Prop}  {Hs : Heap} {a b k : Nat} (ha : a < 500) (hb0 : b < 400) (hb1 : 0 < b) (hk : k < 400) : Met l yJ8_newLength_cabcc (.code yJ8_newLength_cabcc cJ8_newLength_cabcc 4 (some .int) :: WG) { frames := 1, cells := 0, slots := 0, locals := 21 } (xPc [.int (nI a), .int (nI b), .int (nI k)] D y Hs) (xQ (fun v H1 => v = some (.int (nI (a + (if b < k then k else b)))) ∧ Hs = H1) A) 0 0 A := by
  refine xM_go (by decide) (Nat.le_of_ble_eq_true rfl) (fun p e s m args below meth c ls R Q hx hb hr hlocks hml hown hts hH hE hnm hRf hRl hRc hRs hQ hS hl => ?_)
  have hRf : R.frames = 1 := hRf
  have hRl : R.locals = 21 := hRl
  have hRc : R.cells = 0 := hRc
  have hRs : R.slots = 0 := hRs
  have hl : lv_has ls 4 [(0, .int (nI a)), (1, .int (nI b)), (2, .int (nI k))] := hl
  have hm : 0 < (if b < k then k else b) ∧ (if b < k then k else b) < 400 := by split <;> omega
  refine lv_iload_n hx hb dJ8_newLength_cabcc_0 rfl (lv_at hl 0 rfl) ?_
  refine lv_iload_n hx hb dJ8_newLength_cabcc_1 rfl (lv_at hl 1 rfl) ?_
  refine lv_iload_n hx hb dJ8_newLength_cabcc_2 rfl (lv_at hl 2 rfl) ?_
  refine xw_callS (n := 2) [.int (nI b), .int (nI k)] (c_J9_max_7cf53 l (by omega) (by omega)) hx hb hml hown hts hE hS rfl rfl q_33 q_498 q_500 q_499 (by decide) rfl ⟨by rw [hRf]; decide, by rw [hRl]; decide⟩ hl.1 rfl (Nat.le_of_ble_eq_true rfl) dJ8_newLength_cabcc_3 ⟨by rw [hRc]; decide, by rw [hRs]; decide⟩ (fun v H1 locs hp hS => ?_)
  obtain ⟨hv, hh⟩ := hp; subst hv; subst hh
  refine lv_iadd hx hb dJ8_newLength_cabcc_6 ?_
  refine xt_i (nI_add a (if b < k then k else b)) ?_
  refine lv_istore_n (lv' := [(3, .int (nI (a + (if b < k then k else b)))), (0, .int (nI a)), (1, .int (nI b)), (2, .int (nI k))]) hx hb dJ8_newLength_cabcc_7 rfl hl (by decide) rfl (fun ls hl => ?_)
  refine lv_iconst (v := nI 0) hx hb dJ8_newLength_cabcc_8 (by decide) ?_
  refine lv_iload_n hx hb dJ8_newLength_cabcc_9 rfl (lv_at hl 0 rfl) ?_
  refine lv_icmp_ge (tgt := 21) hx hb dJ8_newLength_cabcc_10 (by decide) (fun c10 => ?_) (fun c10 => ?_)
  · skip
    have c10 := ni_le (a := (a + (if b < k then k else b))) (b := 0) (by omega) (by omega) c10
    exfalso; omega
  · skip
    have c10 := ni_nle (a := (a + (if b < k then k else b))) (b := 0) (by omega) (by omega) c10
    refine lv_iload_n hx hb dJ8_newLength_cabcc_13 rfl (lv_at hl 0 rfl) ?_
    refine lv_ldc hx hb hown (hts _ q_501) dJ8_newLength_cabcc_14 ?_
    refine lv_icmp_gt (tgt := 21) hx hb dJ8_newLength_cabcc_16 (by decide) (fun c16 => ?_) (fun c16 => ?_)
    · skip
      have c16 := ni_lt (a := 2147483639) (b := (a + (if b < k then k else b))) (by omega) (by omega) c16
      exfalso; omega
    · skip
      have c16 := ni_nlt (a := 2147483639) (b := (a + (if b < k then k else b))) (by omega) (by omega) c16
      refine lv_iload_n hx hb dJ8_newLength_cabcc_19 rfl (lv_at hl 0 rfl) ?_
      exact xe_iret hQ hx hb hr hlocks hH hS (Nat.le_refl _) (Nat.le_refl _) (⟨rfl, rfl⟩) dJ8_newLength_cabcc_20
