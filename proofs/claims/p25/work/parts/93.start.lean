/-! the law's start: what the statement gives -/
theorem ar_of {args : Array Value} {s : State} {ty : FieldType} (h : (Cond.arrayClass ty).before args s = true) : ∃ cA, ArrOfT s cA ty ∧ s.vm.findClass ("[" ++ ty.toString) = some cA := by
  obtain ⟨cA, kA, comp, h1, h2, h3⟩ := Cond.arrayClass_spec h
  exact ⟨cA, fun n z => ⟨fun k h => (by cases h), kA, h2, comp, h3⟩, h1⟩
theorem ar_O {args : Array Value} {s : State} {C : String} (h : (Cond.arrayOver (.object C)).before args s = true) : ∃ cA, ArrOfT s cA (.object C) ∧ va_RA s cA (.object C) := by
  obtain ⟨comp, cA, kA, h1, -, h3, h4, h5⟩ := Cond.arrayOver_spec h
  exact ⟨cA, fun n z => ⟨fun k h => (by cases h), kA, h3, comp, h4⟩, kA, comp, h3, h4, h1, h5⟩
theorem ar_A {args : Array Value} {s : State} {t : FieldType} (h : (Cond.arrayOver (.array t)).before args s = true) : ∃ cA, ArrOfT s cA (.array t) ∧ s.vm.findClass ("[" ++ (FieldType.array t).toString) = some cA := by
  obtain ⟨comp, cA, kA, h1, h3, h4, h5⟩ := Cond.arrayOver_specA h
  exact ⟨cA, fun n z => ⟨fun k h => (by cases h), kA, h3, comp, h4⟩, h5⟩
theorem xr_of {args : Array Value} {s : State} {k : Nat} {tx : String} (h1 : (Cond.stringRef "NetlistBench" k tx).before args s = true) (h2 : (Cond.exactly (.string "NetlistBench" k) "java/lang/String").before args s = true) : ∃ sa, vk_R "NetlistBench" k tx sa s := by
  obtain ⟨a, c, cell, kk, h3, -⟩ := Cond.exactly_spec h2
  exact ⟨a, vk_R.of h1 h3⟩
theorem XNB_tbl : ∀ w ∈ XNB, w ∈ lw_tbl := by decide +kernel
theorem XNG_tbl : ∀ w ∈ XNG, w ∈ lw_tbl := by decide +kernel
theorem XNB_on : ∀ w ∈ XNB, w.onTables = true := by decide +kernel
theorem XNG_on : ∀ w ∈ XNG, w.onTables = true := by decide +kernel
theorem st_E {args : Array Value} {s : State} (hts : ∀ w ∈ lw_tbl, w.before args s = true) : ∃ (D : va_G) (y : Nat → ClassId), xE D y s := by
  have htG : ∀ w ∈ WG, w.before args s = true := fun w hw => hts w (WG_tbl hw)
  obtain ⟨c0, i0, k0⟩ := u_known (n := 3) htG iw_Jx4a65c (htG _ q_51)
  obtain ⟨c1, i1, k1⟩ := u_known (n := 7) htG iw_X0 (htG _ q_253)
  obtain ⟨c2, i2, k2⟩ := u_known (n := 5) htG iw_X1 (htG _ q_77)
  obtain ⟨c3, i3, k3⟩ := u_known (n := 2) htG iw_X2 (htG _ q_465)
  obtain ⟨c4, i4, k4⟩ := u_known (n := 4) htG iw_X3 (htG _ q_43)
  obtain ⟨c5, i5, k5⟩ := u_known (n := 2) htG iw_X4 (htG _ q_444)
  obtain ⟨a0, p0, r0⟩ := ar_of (hts _ (show (Jvm.Cond.arrayClass Jvm.ClassFile.FieldType.int) ∈ lw_tbl from List.mem_of_getElem? (i := 100) (by decide +kernel)))
  obtain ⟨a1, p1, r1⟩ := ar_of (hts _ (show (Jvm.Cond.arrayClass Jvm.ClassFile.FieldType.long) ∈ lw_tbl from List.mem_of_getElem? (i := 101) (by decide +kernel)))
  obtain ⟨a2, p2, r2⟩ := ar_of (hts _ (show (Jvm.Cond.arrayClass Jvm.ClassFile.FieldType.boolean) ∈ lw_tbl from List.mem_of_getElem? (i := 426) (by decide +kernel)))
  obtain ⟨a3, p3, r3⟩ := ar_A (hts _ (show (Jvm.Cond.arrayOver (Jvm.ClassFile.FieldType.array Jvm.ClassFile.FieldType.int)) ∈ lw_tbl from List.mem_of_getElem? (i := 450) (by decide +kernel)))
  obtain ⟨a4, p4, r4⟩ := ar_O (hts _ (show (Jvm.Cond.arrayOver (Jvm.ClassFile.FieldType.object "java/lang/Object")) ∈ lw_tbl from List.mem_of_getElem? (i := 525) (by decide +kernel)))
  obtain ⟨a5, p5, r5⟩ := ar_A (hts _ (show (Jvm.Cond.arrayOver (Jvm.ClassFile.FieldType.array Jvm.ClassFile.FieldType.long)) ∈ lw_tbl from List.mem_of_getElem? (i := 83) (by decide +kernel)))
  refine ⟨(fun k => match k with | 0 => c0 | 1 => c1 | 2 => c2 | 3 => c3 | 4 => c4 | _ => c5, fun k => match k with | 0 => i0 | 1 => i1 | 2 => i2 | 3 => i3 | 4 => i4 | _ => i5), fun k => match k with | 0 => a0 | 1 => a1 | 2 => a2 | 3 => a3 | 4 => a4 | _ => a5, ⟨fun k q hq => ?_, fun k q hq => ?_⟩, va_Nw.of rfl (hts _ (show (Jvm.Cond.methodLinkNest "NetlistBench$Equations" (49 : Nat) ({ cls := "NetlistBench", name := "contains", desc := "(II)Z" } : Jvm.MethodName) "NetlistBench") ∈ lw_tbl from List.mem_of_getElem? (i := 337) (by decide +kernel)))⟩
  · match k, hq with
    | 0, hq => cases hq; exact k0
    | 1, hq => cases hq; exact k1
    | 2, hq => cases hq; exact k2
    | 3, hq => cases hq; exact k3
    | 4, hq => cases hq; exact k4
    | 5, hq => cases hq; exact k5
    | k + 6, hq => cases hq
  · match k, hq with
    | 0, hq => cases hq; exact ⟨p0, r0⟩
    | 1, hq => cases hq; exact ⟨p1, r1⟩
    | 2, hq => cases hq; exact ⟨p2, r2⟩
    | 3, hq => cases hq; exact ⟨p3, r3⟩
    | 4, hq => cases hq; exact ⟨p4, r4⟩
    | 5, hq => cases hq; exact ⟨p5, r5⟩
    | k + 6, hq => cases hq
theorem st_G {args : Array Value} {s : State} (hts : ∀ w ∈ lw_tbl, w.before args s = true) (hgv : (Jvm.Cond.and given_1 narrow_1).before args s = true) : ∃ e0, xG (fun q => s.heap.size ≤ q) e0 s s.heap := by
  have hs := flat_of_before _ hgv
  have hA : ∀ a : Nat, a < s.heap.size → ¬ s.heap.size ≤ a := fun a h => Nat.not_le.mpr h
  obtain ⟨t, h1, h2⟩ := va_Tof (N := 0) (f := fun _ => Value.null) (A := fun q => s.heap.size ≤ q) (by decide) (hs (.arrayOf (.static "java/util/ArrayList" nmDC dsOA) (.object "java/lang/Object")) (by decide +kernel)) (va_eqt (hs (.eq (.length (.static "java/util/ArrayList" nmDC dsOA)) (.int 0)) (by decide +kernel))) (fun j hj => absurd hj (Nat.not_lt_zero _)) hA
  exact ⟨t, va_Zref (hts _ (show (Jvm.Cond.laysStatic "java/util/ArrayList" "DEFAULTCAPACITY_EMPTY_ELEMENTDATA" "[Ljava/lang/Object;") ∈ lw_tbl from List.mem_of_getElem? (i := 63) (by decide +kernel))) (hts _ (WG_tbl q_24)) h1 hA, h2, va_Mi.of (hs (.isRef (.mirror dsOA)) (by decide +kernel)), va_Dc.of (hts _ (show (Jvm.Cond.declares ({ cls := "java/lang/Object", name := "getClass", desc := "()Ljava/lang/Class;" } : Jvm.MethodName)) ∈ lw_tbl from List.mem_of_getElem? (i := 621) (by decide +kernel))), va_AO.of (hts _ (show (Jvm.Cond.arrayOver (Jvm.ClassFile.FieldType.object "java/lang/Object")) ∈ lw_tbl from List.mem_of_getElem? (i := 525) (by decide +kernel))), hts _ (show (Jvm.Cond.arrayOver (Jvm.ClassFile.FieldType.array Jvm.ClassFile.FieldType.long)) ∈ lw_tbl from List.mem_of_getElem? (i := 83) (by decide +kernel)), fun w hw => va_Nw.of (XNG_on w hw) (hts w (XNG_tbl w hw))⟩
theorem st_F {args : Array Value} {s : State} (hts : ∀ w ∈ lw_tbl, w.before args s = true) (hgv : (Jvm.Cond.and given_1 narrow_1).before args s = true) : xF (fun q => s.heap.size ≤ q) s s.heap := by
  have hs := flat_of_before _ hgv
  have hA : ∀ a : Nat, a < s.heap.size → ¬ s.heap.size ≤ a := fun a h => Nat.not_le.mpr h
  refine ⟨fun w hw => va_Nw.of (XNB_on w hw) (hts w (XNB_tbl w hw)), vx_Zqof (hts _ (show (Jvm.Cond.laysStatic "java/lang/Throwable" "UNASSIGNED_STACK" "[Ljava/lang/StackTraceElement;") ∈ lw_tbl from List.mem_of_getElem? (i := 154) (by decide +kernel))) (hts _ (show (Jvm.Cond.initialized "java/lang/Throwable") ∈ lw_tbl from List.mem_of_getElem? (i := 27) (by decide +kernel))) (hs (.isRef (.static "java/lang/Throwable" "UNASSIGNED_STACK" "[Ljava/lang/StackTraceElement;")) (by decide +kernel)) hA, vx_Zqof (hts _ (show (Jvm.Cond.laysStatic "java/lang/Throwable" "SUPPRESSED_SENTINEL" "Ljava/util/List;") ∈ lw_tbl from List.mem_of_getElem? (i := 156) (by decide +kernel))) (hts _ (show (Jvm.Cond.initialized "java/lang/Throwable") ∈ lw_tbl from List.mem_of_getElem? (i := 27) (by decide +kernel))) (hs (.isRef (.static "java/lang/Throwable" "SUPPRESSED_SENTINEL" "Ljava/util/List;")) (by decide +kernel)) hA, ?_⟩
  exact (List.forall_mem_cons.mpr ⟨xr_of (hts _ (show (Jvm.Cond.stringRef "NetlistBench" (36 : Nat) "there are 8 nodes") ∈ lw_tbl from List.mem_of_getElem? (i := 464) (by decide +kernel))) (hs (.exactly (.string "NetlistBench" 36) "java/lang/String") (by decide +kernel)),
    (List.forall_mem_cons.mpr ⟨xr_of (hts _ (show (Jvm.Cond.stringRef "NetlistBench" (209 : Nat) "there is no such node") ∈ lw_tbl from List.mem_of_getElem? (i := 237) (by decide +kernel))) (hs (.exactly (.string "NetlistBench" 209) "java/lang/String") (by decide +kernel)),
    (List.forall_mem_cons.mpr ⟨xr_of (hts _ (show (Jvm.Cond.stringRef "NetlistBench" (54 : Nat) "the potential of a rail is -99 to 99") ∈ lw_tbl from List.mem_of_getElem? (i := 539) (by decide +kernel))) (hs (.exactly (.string "NetlistBench" 54) "java/lang/String") (by decide +kernel)),
    (List.forall_mem_cons.mpr ⟨xr_of (hts _ (show (Jvm.Cond.stringRef "NetlistBench" (69 : Nat) "an element goes to another node") ∈ lw_tbl from List.mem_of_getElem? (i := 547) (by decide +kernel))) (hs (.exactly (.string "NetlistBench" 69) "java/lang/String") (by decide +kernel)),
    (List.forall_mem_cons.mpr ⟨xr_of (hts _ (show (Jvm.Cond.stringRef "NetlistBench" (215 : Nat) "the size is not one of such an element") ∈ lw_tbl from List.mem_of_getElem? (i := 222) (by decide +kernel))) (hs (.exactly (.string "NetlistBench" 215) "java/lang/String") (by decide +kernel)),
    (List.forall_mem_cons.mpr ⟨xr_of (hts _ (show (Jvm.Cond.stringRef "NetlistBench" (75 : Nat) "there are 20 elements") ∈ lw_tbl from List.mem_of_getElem? (i := 548) (by decide +kernel))) (hs (.exactly (.string "NetlistBench" 75) "java/lang/String") (by decide +kernel)),
    (List.forall_mem_cons.mpr ⟨xr_of (hts _ (show (Jvm.Cond.stringRef "NetlistBench" (211 : Nat) "there is no such element") ∈ lw_tbl from List.mem_of_getElem? (i := 168) (by decide +kernel))) (hs (.exactly (.string "NetlistBench" 211) "java/lang/String") (by decide +kernel)),
    (List.forall_mem_cons.mpr ⟨xr_of (hts _ (show (Jvm.Cond.stringRef "NetlistBench" (93 : Nat) "the time of a toggle is 1 to 999") ∈ lw_tbl from List.mem_of_getElem? (i := 589) (by decide +kernel))) (hs (.exactly (.string "NetlistBench" 93) "java/lang/String") (by decide +kernel)),
    (List.forall_mem_cons.mpr ⟨xr_of (hts _ (show (Jvm.Cond.stringRef "NetlistBench" (108 : Nat) "the element has 6 toggles") ∈ lw_tbl from List.mem_of_getElem? (i := 602) (by decide +kernel))) (hs (.exactly (.string "NetlistBench" 108) "java/lang/String") (by decide +kernel)),
    (List.forall_mem_cons.mpr ⟨xr_of (hts _ (show (Jvm.Cond.stringRef "NetlistBench" (213 : Nat) "a time is 0 to 999") ∈ lw_tbl from List.mem_of_getElem? (i := 241) (by decide +kernel))) (hs (.exactly (.string "NetlistBench" 213) "java/lang/String") (by decide +kernel)),
    (List.forall_mem_cons.mpr ⟨xr_of (hts _ (show (Jvm.Cond.stringRef "NetlistBench" (217 : Nat) "the node floats") ∈ lw_tbl from List.mem_of_getElem? (i := 412) (by decide +kernel))) (hs (.exactly (.string "NetlistBench" 217) "java/lang/String") (by decide +kernel)),
    (List.forall_mem_cons.mpr ⟨xr_of (hts _ (show (Jvm.Cond.stringRef "NetlistBench" (166 : Nat) "the node is no rail") ∈ lw_tbl from List.mem_of_getElem? (i := 280) (by decide +kernel))) (hs (.exactly (.string "NetlistBench" 166) "java/lang/String") (by decide +kernel)),
    (List.forall_mem_cons.mpr ⟨xr_of (hts _ (show (Jvm.Cond.stringRef "NetlistBench" (172 : Nat) "the nodes do not hang together") ∈ lw_tbl from List.mem_of_getElem? (i := 364) (by decide +kernel))) (hs (.exactly (.string "NetlistBench" 172) "java/lang/String") (by decide +kernel)),
    (List.forall_mem_cons.mpr ⟨xr_of (hts _ (show (Jvm.Cond.stringRef "NetlistBench" (188 : Nat) "the last time is before the first one") ∈ lw_tbl from List.mem_of_getElem? (i := 381) (by decide +kernel))) (hs (.exactly (.string "NetlistBench" 188) "java/lang/String") (by decide +kernel)),
    (List.forall_mem_cons.mpr ⟨xr_of (hts _ (show (Jvm.Cond.stringRef "NetlistBench" (194 : Nat) "the fraction is -500 to 500 by 1 to 500") ∈ lw_tbl from List.mem_of_getElem? (i := 407) (by decide +kernel))) (hs (.exactly (.string "NetlistBench" 194) "java/lang/String") (by decide +kernel)),
    (List.forall_mem_nil _)⟩)⟩)⟩)⟩)⟩)⟩)⟩)⟩)⟩)⟩)⟩)⟩)⟩)⟩)⟩)
theorem st_H {args : Array Value} {s : State} (hts : ∀ w ∈ lw_tbl, w.before args s = true) : xH s := ⟨hts _ (show (Jvm.Cond.arrayOver (Jvm.ClassFile.FieldType.array Jvm.ClassFile.FieldType.int)) ∈ lw_tbl from List.mem_of_getElem? (i := 450) (by decide +kernel)), va_Nw.of rfl (hts _ (show (Jvm.Cond.methodLinkNest "NetlistBenchLaw" (23 : Nat) ({ cls := "NetlistBenchLaw$Hand", name := "<init>", desc := "()V" } : Jvm.MethodName) "NetlistBenchLaw") ∈ lw_tbl from List.mem_of_getElem? (i := 445) (by decide +kernel)))⟩
