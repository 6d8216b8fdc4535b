/-! rows of the law's own circuit: rows of ints, rows of such -/
/-- the law's circuit in the world -/
def hdO (y : Nat → ClassId) (ad : xL → Nat) (ct : xL → Option va_E) (nr : Nat) (hr : Nat → Int32) (ne : Nat) (hk : Nat → Nat) (hw : Nat → Nat → Int32) : Prop :=
  ct (20, 0) = some (.inr (5, [.ref (ad (21, 0)), .ref (ad (22, 0))])) ∧ ct (21, 0) = some (.inl (y 0, nr, .inl hr)) ∧ ct (22, 0) = some (.inl (y 3, ne, xr (fun i => if i < ne then some (ad (23, i)) else none))) ∧ ∀ i, i < ne → ct (23, i) = some (.inl (y 0, hk i, .inl (hw i)))
theorem hdO.up {y : Nat → ClassId} {ad : xL → Nat} {ct : xL → Option va_E} {nr : Nat} {hr : Nat → Int32} {ne : Nat} {hk : Nat → Nat} {hw : Nat → Nat → Int32} (h : hdO y ad ct nr hr ne hk hw) {e : va_E} : hdO y ad (aw_up ct (39, 0) e) nr hr ne hk hw :=
  ⟨(aw_up_ne (ne1 (by decide))).trans h.1, (aw_up_ne (ne1 (by decide))).trans h.2.1, (aw_up_ne (ne1 (by decide))).trans h.2.2.1, fun i hi => (aw_up_ne (ne1 (by decide))).trans (h.2.2.2 i hi)⟩
theorem hdO.ad {y : Nat → ClassId} {ad ad' : xL → Nat} {ct : xL → Option va_E} {nr : Nat} {hr : Nat → Int32} {ne : Nat} {hk : Nat → Nat} {hw : Nat → Nat → Int32} (h : hdO y ad ct nr hr ne hk hw) (h2 : ∀ k : xL, 20 ≤ k.1 → k.1 < 24 → ad' k = ad k) : hdO y ad' ct nr hr ne hk hw := by
  refine ⟨?_, h.2.1, ?_, h.2.2.2⟩
  · rw [h2 (21, 0) (by decide) (by decide), h2 (22, 0) (by decide) (by decide)]
    exact h.1
  · rw [show (fun i => if i < ne then some (ad' (23, i)) else none) = (fun i => if i < ne then some (ad (23, i)) else none) from funext fun i => by rw [h2 (23, i) (by show 20 ≤ 23; decide) (by show 23 < 24; decide)]]
    exact h.2.2.1
theorem hd_wH {y : Nat → ClassId} {ad : xL → Nat} {fB fO : Nat → Nat → Option va_E} {nr : Nat} {hr : Nat → Int32} {ne : Nat} {hk : Nat → Nat} {hw : Nat → Nat → Int32} : hdO y ad (wU fB (wH y ad nr hr ne hk hw) fO) nr hr ne hk hw := ⟨rfl, rfl, rfl, fun i hi => if_pos hi⟩
/-- a cell that nobody needs any more -/
theorem xW.drop {D : va_G} {A : Nat → Prop} {ad : xL → Nat} {ct : xL → Option va_E} {H : Heap} {k : xL} {q : Nat} {e : va_E} (h : xW D A (ad_up ad k q) (aw_up ct k e) H) (hk : ct k = none) : xW D A ad ct H := by
  have h1 := h.sub (ct' := ct) (fun j f hj => by
    rw [aw_up_ne (fun g => by rw [g, hk] at hj; cases hj)]
    exact hj)
  have h2 := h1.readd (k := k) (ad k) hk
  have e2 : ad_up (ad_up ad k q) k (ad k) = ad := by
    funext j
    by_cases g : j = k
    · rw [g, ad_up_self]
    · rw [ad_up_ne g, ad_up_ne g]
  rw [e2] at h2
  exact h2
theorem asg_self (vm : Vm) (c : ClassId) : vm.assignable c c = true := by
  unfold Vm.assignable
  rw [show (256 : Nat) = 255 + 1 from rfl]
  unfold Vm.assignableAux
  simp
theorem nm_I1 : (FieldType.array .int).toString = "[" ++ FieldType.int.toString := by decide +kernel
theorem nm_I : (FieldType.array .int).toString = "[I" := by decide +kernel
section HW
variable {p : Program} {l : Launch} {e : Env} {R : Room} {s : State} {m : MethodId} {args : Array Value} {below : List Frame} {meth : Method} {c : Code} {H H0 : Heap} {locs : List Loc} {cells slots mc ms : Nat} {Q : State → Prop}
variable {cc : ByteArray} {pc : Nat} {ls : Array Slot} {rest : List Value} {D : va_G} {y : Nat → ClassId} {A : Nat → Prop} {ad : xL → Nat} {ct : xL → Option va_E}
theorem xw_ialen (hexec : p.tables.exec = Jvm.exec) (hb : c.code = cc) (hE : xE D y s) (hP : xW D A ad ct H) (lab : xL) {n : Nat} {f : Nat → Int32} (he : ct lab = some (.inl (y 0, n, .inl f))) (hdg : decode cc pc = .ok (.arraylength, 1))
    (kk : W p l e R s m args below meth c H locs cells slots Q (F0 m (pc + 1) ls (.int (nI n) :: rest))) : W p l e R s m args below meth c H locs cells slots Q (F0 m pc ls (.ref (ad lab) :: rest)) :=
  va_alen hexec hb hE.1 (hP.one he) 0 0 rfl rfl rfl hdg kk
theorem xw_3alen (hexec : p.tables.exec = Jvm.exec) (hb : c.code = cc) (hE : xE D y s) (hP : xW D A ad ct H) (lab : xL) {n : Nat} {f : Nat → Option Nat} (he : ct lab = some (.inl (y 3, n, xr f))) (hdg : decode cc pc = .ok (.arraylength, 1))
    (kk : W p l e R s m args below meth c H locs cells slots Q (F0 m (pc + 1) ls (.int (nI n) :: rest))) : W p l e R s m args below meth c H locs cells slots Q (F0 m pc ls (.ref (ad lab) :: rest)) :=
  va_alen hexec hb hE.1 (hP.one he) 0 3 rfl rfl rfl hdg kk
theorem xw_anewI (hexec : p.tables.exec = Jvm.exec) (hb : c.code = cc) {own : String} {index N : Nat} (hts : ∀ w ∈ WG, w.before args s = true) (hown : s.vm.findClass own = some m.cls) (hcl : Cond.classLink own index "[I" ∈ WG) (hover : va_AOA .int s)
    (hE : xE D y s) (hP : xW D A ad ct H) (hS : va_S A H0 H locs) (hN : N ≤ 1000) (hcells : cells + 1 ≤ R.cells) (hslots : slots + N ≤ R.slots) (hdg : decode cc pc = .ok (.anewarray index, 3)) (lab : xL)
    (kk : ∀ (q : Nat) (H1 : Heap), xW D A (ad_up ad lab q) (aw_up ct lab (.inl (y 3, N, xr (fun _ => none)))) H1 → va_S A H0 H1 locs → W p l e R s m args below meth c H1 locs (cells + 1) (slots + N) Q (F0 m (pc + 3) ls (.ref q :: rest))) : W p l e R s m args below meth c H locs cells slots Q (F0 m pc ls (.int (nI N) :: rest)) := by
  have hcl2 : (nI N).toNatClampNeg = N := nI_clamp (by omega)
  refine W.anewA (t := .int) hexec hb hown (by rw [nm_I]; exact hts _ hcl) (va_AOA.use hover) rfl hdg rfl (nI_pos (by omega)) (by rw [hcl2]; omega) hcells (by rw [hcl2]; exact hslots) fun cA kA comp h1 h2 h3 h4 => ?_
  have hcA : cA = y 3 := Option.some.inj (h1.symm.trans (hE.1.2 3 _ rfl).2)
  subst hcA
  rw [hcl2]
  have o1 : ∀ a : Nat, a < H.size → (H.push ({ cls := y 3, slots := Array.replicate N .null, vm := .none } : Cell))[a]? = H[a]? := fun a ha => by
    rw [Array.getElem?_push, if_neg (Nat.ne_of_lt ha)]
  refine kk H.size _ (hP.made lab (Nat.le_refl _) ?_ (by simp) o1) (xs_new hS (by simp) o1)
  show (H.push _)[H.size]? = some (vp_cell _ _)
  rw [vp_cell_q, arrV_new]
  simp [va_rf]
theorem xw_aastI (hexec : p.tables.exec = Jvm.exec) (hb : c.code = cc) (hE : xE D y s) (hover : va_AOA .int s) (hP : xW D A ad ct H) (hS : va_S A H0 H locs) (lab labV : xL) {n k : Nat} {g : Nat → Int32} {f : Nat → Option Nat} (he : ct lab = some (.inl (y 3, n, xr f))) (hv : ct labV = some (.inl (y 0, k, .inl g))) {i : Nat} (hi : i < n) (hn : n < 2 ^ 31) (hdg : decode cc pc = .ok (.aastore, 1))
    (kk : ∀ (H1 : Heap) (locs1 : List Loc), xW D A ad (aw_up ct lab (.inl (y 3, n, xr (va_up f i (some (ad labV)))))) H1 → va_S A H0 H1 locs1 → W p l e R s m args below meth c H1 locs1 cells slots Q (F0 m (pc + 1) ls rest)) : W p l e R s m args below meth c H locs cells slots Q (F0 m pc ls (.ref (ad labV) :: .int (nI i) :: .ref (ad lab) :: rest)) := by
  have hcl : (nI i).toNatClampNeg = i := nI_clamp (by omega)
  obtain ⟨comp, cA, kA, h1, h2, h3, h4, h5⟩ := arrayOverA_spec (va_AOA.use (A := args) hover)
  have c3 : cA = y 3 := Option.some.inj (h5.symm.trans (hE.1.2 3 _ rfl).2)
  have c0 : comp = y 0 := Option.some.inj (h1.symm.trans (by rw [nm_I1]; exact (hE.1.2 0 _ rfl).2))
  subst c3
  subst c0
  obtain ⟨kE, hkE, -⟩ := Vm.findClass_spec h1
  have hv1 : H[ad labV]? = some (vp_cell (y 0) (k, .inl g)) := hP.1 _ _ hv
  refine W.aast hexec hb (hP.1 _ _ he) (fun q h => by cases h) (fun h => by cases h) h3 h4 rfl hkE ⟨nI_pos (by omega), by show _ < (arrV _ _ _).slots.size; rw [arrV_size, hcl]; exact hi⟩ hv1 (fun q h => by cases h) hkE (asg_self _ _) rfl rfl hdg fun H1 e z oq => ?_
  refine kk H1 _ (hP.set he ?_ z oq) (hS.put z oq (hP.inA he))
  show H1[ad lab]? = some (vp_cell _ _)
  rw [e]
  rw [vp_cell_q, vp_cell_q, arrV_store, hcl]
  congr 2
  funext q
  by_cases hq : q = i
  · subst hq
    simp [updV, va_up, va_rf]
  · simp [updV, va_up, hq]
end HW
