section CP
variable {p : Program} {l : Launch} {e : Env} {R : Room} {s : State} {m : MethodId} {args : Array Value} {below : List Frame} {meth : Method} {c : Code} {H H0 : Heap} {locs : List Loc} {cells slots : Nat} {Q : State → Prop}
variable {cc : ByteArray} {pc : Nat} {ls : Array Slot} {rest : List Value} {D : va_G} {y : Nat → ClassId} {A : Nat → Prop} {ad : xL → Nat} {ct : xL → Option va_E}
/-- System.arraycopy within one array of ints of the world -/
theorem xw_copyi (hexec : p.tables.exec = Jvm.exec) (hb : c.code = cc) (hml : c.maxLocals = ls.size) {own : String} {index : Nat} (hown : s.vm.findClass own = some m.cls) (hts : ∀ w ∈ WG, w.before args s = true) (hlink : Cond.methodLink own index arraycopyName ∈ WG) (hnat : Cond.native arraycopyName ∈ WG) (hstat : Cond.static arraycopyName ∈ WG) (hini : Cond.initialized "java/lang/System" ∈ WG)
    (hE : xE D y s) (hP : xW D A ad ct H) (hS : va_S A H0 H locs) (lab : xL) {N : Nat} {f : Nat → Int32} (he : ct lab = some (.inl (y 0, N, .inl f))) {sp dp n : Nat} (h4 : sp + n ≤ N) (h5 : dp + n ≤ N) (hN : N < 2 ^ 31)
    (hframes : 1 ≤ R.frames) (hlocals : (rest.map fun v => v.category).sum + (nativeFrameWords "java/lang/System" "arraycopy" 5 + 11) ≤ R.locals) (hdg : decode cc pc = .ok (.invokestatic index, 3))
    (kk : ∀ (H1 : Heap) (locs1 : List Loc), xW D A ad (aw_up ct lab (.inl (y 0, N, .inl (va_cpy f f sp dp n)))) H1 → va_S A H0 H1 locs1 → W p l e R s m args below meth c H1 locs1 cells slots Q (F0 m (pc + 3) ls rest)) :
    W p l e R s m args below meth c H locs cells slots Q (F0 m pc ls (.int (nI n) :: .int (nI dp) :: .ref (ad lab) :: .int (nI sp) :: .ref (ad lab) :: rest)) := by
  intro T hT X
  have hc1 : H[ad lab]? = some (vp_cell (y 0) (N, .inl f)) := hP.1 _ _ he
  obtain ⟨-, k0, hk0, cm0, hkk0⟩ := (hE.1.2 0 _ rfl).1 N (fun j => .int (f j))
  have tn : ∀ k : Nat, k ≤ N → (nI k).toInt = (k : Int) ∧ (nI k).toNatClampNeg = k := fun k hk => ⟨nI_toInt (by omega), nI_clamp (by omega)⟩
  have qs := tn sp (by omega)
  have qd := tn dp (by omega)
  have qn := tn n (by omega)
  obtain ⟨vm', X', step⟩ := X.arraycopy hexec hown (hts _ hlink) (hts _ hnat) (hts _ hstat) (hts _ hini) (src := ad lab) (dst := ad lab) (cs := vp_cell (y 0) (N, .inl f)) (cd := vp_cell (y 0) (N, .inl f)) (srcPos := nI sp) (destPos := nI dp) (n := nI n) (by rw [hT]; exact hc1) (by rw [hT]; exact hc1)
    (fun _ h => by cases h) (fun _ h => by cases h) (fun h => by cases h) (fun h => by cases h) hk0 hk0 hkk0 hkk0 (by simp [refKind]) (nI_pos (by omega)) (nI_pos (by omega)) (nI_pos (by omega))
    (by rw [qs.1, qn.1]; show ¬ _ > ((arrV (y 0) N (fun j => .int (f j))).slots.size : Int); rw [arrV_size]; omega)
    (by rw [qd.1, qn.1]; show ¬ _ > ((arrV (y 0) N (fun j => .int (f j))).slots.size : Int); rw [arrV_size]; omega)
    (fun vm₁ _ i hi => by
      rw [qn.2] at hi
      have e : (vp_cell (y 0) (N, .inl f)).slots.getD ((nI sp).toNatClampNeg + i) .null = .int (f (sp + i)) := by
        show (arrV (y 0) N (fun j => .int (f j))).slots.getD _ _ = _
        rw [qs.2, Array.getD_eq_getD_getElem?, arrV_read _ _ (by omega)]
        rfl
      refine ⟨?_, ?_⟩
      · rw [e]; rfl
      · rw [e]; exact trivial)
    (g := F0 m pc ls (.int (nI n) :: .int (nI dp) :: .ref (ad lab) :: .int (nI sp) :: .ref (ad lab) :: rest)) rfl (by rw [hml]) (rest := rest) rfl (by rw [hb]; exact hdg) hframes (by show 2 * 0 + _ + _ ≤ _; omega)
  have e1 : copied (vp_cell (y 0) (N, .inl f)) (vp_cell (y 0) (N, .inl f)) (nI sp) (nI dp) (nI n) = vp_cell (y 0) (N, .inl (va_cpy f f sp dp n)) := by
    show (arrV (y 0) N (fun j => .int (f j))).storeRun (nI dp).toNatClampNeg ((arrV (y 0) N (fun j => .int (f j))).stretch (nI sp).toNatClampNeg (nI n).toNatClampNeg) = _
    rw [qs.2, qd.2, qn.2]
    exact va_copied (fun z => .int z) (y 0) (y 0) f f h4
  rw [e1] at X' step
  have hl : ad lab < H.size := (Array.getElem?_eq_some_iff.mp hc1).1
  have hheap : ((T.setVm vm').setCell (ad lab) (vp_cell (y 0) (N, .inl (va_cpy f f sp dp n)))).heap = H.setIfInBounds (ad lab) (vp_cell (y 0) (N, .inl (va_cpy f f sp dp n))) := by rw [← hT]; rfl
  have oq : ∀ q : Nat, q ≠ ad lab → (H.setIfInBounds (ad lab) (vp_cell (y 0) (N, .inl (va_cpy f f sp dp n))))[q]? = H[q]? := fun q hq => by simp [Array.getElem?_setIfInBounds, Ne.symm hq]
  obtain ⟨t, a1, b1⟩ := kk _ _ (hP.set he (show (H.setIfInBounds (ad lab) _)[ad lab]? = some _ by simp [Array.getElem?_setIfInBounds, hl]) (by simp) oq) ⟨by simp; exact hS.1, fun q g1 g2 => by
      rw [oq q (fun e => g2 (by rw [e]; exact hP.inA he))]
      exact hS.2.1 q g1 g2, fun q hq => by
      rcases List.mem_append.mp hq with h | h
      · exact hS.2.2 q h
      · obtain ⟨z, -, hz⟩ := List.mem_map.mp h
        rw [← hz]
        exact hP.inA he⟩ _ hheap X'
  exact ⟨t, step t a1, b1⟩
end CP
