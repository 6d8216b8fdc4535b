section
-- ===== PART A: goes FIRST, ahead of the names: the tables' words, and 'selects' of the private methods out of them =====
/-- a private method of a class that the tables say can be made, by its rows of tables_1 -/
def lw_okq (q : MethodName × Nat) : Prop := (q.1.cls ≠ "java/lang/invoke/MethodHandle" ∧ q.1.cls ≠ "java/lang/invoke/VarHandle") ∧ Cond.instantiable q.1.cls q.2 ∈ tables_1 ∧ Cond.privateMethod q.1 ∈ tables_1 ∧ Cond.instanceMethod q.1 ∈ tables_1
theorem lw_p0 : lw_okq (⟨"NetlistBench", "checkElement", "(I)V"⟩, 4) := ⟨⟨by decide +kernel, by decide +kernel⟩, List.mem_of_getElem? (i := 23) (by decide +kernel), List.mem_of_getElem? (i := 100) (by decide +kernel), List.mem_of_getElem? (i := 101) (by decide +kernel)⟩
theorem lw_p1 : lw_okq (⟨"java/lang/Throwable", "fillInStackTrace", "(I)Ljava/lang/Throwable;"⟩, 6) := ⟨⟨by decide +kernel, by decide +kernel⟩, List.mem_of_getElem? (i := 146) (by decide +kernel), List.mem_of_getElem? (i := 144) (by decide +kernel), List.mem_of_getElem? (i := 145) (by decide +kernel)⟩
theorem lw_p2 : lw_okq (⟨"NetlistBench", "checkNode", "(I)V"⟩, 4) := ⟨⟨by decide +kernel, by decide +kernel⟩, List.mem_of_getElem? (i := 23) (by decide +kernel), List.mem_of_getElem? (i := 214) (by decide +kernel), List.mem_of_getElem? (i := 215) (by decide +kernel)⟩
theorem lw_p3 : lw_okq (⟨"NetlistBench", "group", "(I)V"⟩, 4) := ⟨⟨by decide +kernel, by decide +kernel⟩, List.mem_of_getElem? (i := 23) (by decide +kernel), List.mem_of_getElem? (i := 223) (by decide +kernel), List.mem_of_getElem? (i := 224) (by decide +kernel)⟩
theorem lw_p4 : lw_okq (⟨"NetlistBench$Element", "togglesBefore", "(I)I"⟩, 7) := ⟨⟨by decide +kernel, by decide +kernel⟩, List.mem_of_getElem? (i := 233) (by decide +kernel), List.mem_of_getElem? (i := 231) (by decide +kernel), List.mem_of_getElem? (i := 232) (by decide +kernel)⟩
theorem lw_p5 : lw_okq (⟨"NetlistBench", "join", "(I)V"⟩, 4) := ⟨⟨by decide +kernel, by decide +kernel⟩, List.mem_of_getElem? (i := 23) (by decide +kernel), List.mem_of_getElem? (i := 236) (by decide +kernel), List.mem_of_getElem? (i := 237) (by decide +kernel)⟩
theorem lw_p6 : lw_okq (⟨"NetlistBench", "isAfloat", "(I)Z"⟩, 4) := ⟨⟨by decide +kernel, by decide +kernel⟩, List.mem_of_getElem? (i := 23) (by decide +kernel), List.mem_of_getElem? (i := 243) (by decide +kernel), List.mem_of_getElem? (i := 244) (by decide +kernel)⟩
theorem lw_p7 : lw_okq (⟨"NetlistBench", "settle", "(I)V"⟩, 4) := ⟨⟨by decide +kernel, by decide +kernel⟩, List.mem_of_getElem? (i := 23) (by decide +kernel), List.mem_of_getElem? (i := 268) (by decide +kernel), List.mem_of_getElem? (i := 269) (by decide +kernel)⟩
theorem lw_p8 : lw_okq (⟨"NetlistBench", "conduct", "(I)V"⟩, 4) := ⟨⟨by decide +kernel, by decide +kernel⟩, List.mem_of_getElem? (i := 23) (by decide +kernel), List.mem_of_getElem? (i := 288) (by decide +kernel), List.mem_of_getElem? (i := 289) (by decide +kernel)⟩
theorem lw_p9 : lw_okq (⟨"NetlistBench$Equations", "linkOneWay", "(IIJ)V"⟩, 5) := ⟨⟨by decide +kernel, by decide +kernel⟩, List.mem_of_getElem? (i := 57) (by decide +kernel), List.mem_of_getElem? (i := 296) (by decide +kernel), List.mem_of_getElem? (i := 297) (by decide +kernel)⟩
theorem lw_p10 : lw_okq (⟨"NetlistBench$Equations", "allColumns", "()I"⟩, 5) := ⟨⟨by decide +kernel, by decide +kernel⟩, List.mem_of_getElem? (i := 57) (by decide +kernel), List.mem_of_getElem? (i := 304) (by decide +kernel), List.mem_of_getElem? (i := 305) (by decide +kernel)⟩
theorem lw_p11 : lw_okq (⟨"NetlistBench$Equations", "expand", "(I)J"⟩, 5) := ⟨⟨by decide +kernel, by decide +kernel⟩, List.mem_of_getElem? (i := 57) (by decide +kernel), List.mem_of_getElem? (i := 308) (by decide +kernel), List.mem_of_getElem? (i := 309) (by decide +kernel)⟩
theorem lw_p12 : lw_okq (⟨"NetlistBench", "flowOut", "(LNetlistBench$Element;I)J"⟩, 4) := ⟨⟨by decide +kernel, by decide +kernel⟩, List.mem_of_getElem? (i := 23) (by decide +kernel), List.mem_of_getElem? (i := 319) (by decide +kernel), List.mem_of_getElem? (i := 320) (by decide +kernel)⟩
theorem lw_p13 : lw_okq (⟨"NetlistBench", "drive", "(III)V"⟩, 4) := ⟨⟨by decide +kernel, by decide +kernel⟩, List.mem_of_getElem? (i := 23) (by decide +kernel), List.mem_of_getElem? (i := 346) (by decide +kernel), List.mem_of_getElem? (i := 347) (by decide +kernel)⟩
theorem lw_p14 : lw_okq (⟨"NetlistBench", "quotientAt", "(I)D"⟩, 4) := ⟨⟨by decide +kernel, by decide +kernel⟩, List.mem_of_getElem? (i := 23) (by decide +kernel), List.mem_of_getElem? (i := 354) (by decide +kernel), List.mem_of_getElem? (i := 355) (by decide +kernel)⟩
theorem lw_p15 : lw_okq (⟨"NetlistBench", "firstToggleBehind", "(I)I"⟩, 4) := ⟨⟨by decide +kernel, by decide +kernel⟩, List.mem_of_getElem? (i := 23) (by decide +kernel), List.mem_of_getElem? (i := 372) (by decide +kernel), List.mem_of_getElem? (i := 373) (by decide +kernel)⟩
def lw_privs_1 : List (MethodName × Nat) := [(⟨"NetlistBench", "checkElement", "(I)V"⟩, 4), (⟨"java/lang/Throwable", "fillInStackTrace", "(I)Ljava/lang/Throwable;"⟩, 6), (⟨"NetlistBench", "checkNode", "(I)V"⟩, 4), (⟨"NetlistBench", "group", "(I)V"⟩, 4), (⟨"NetlistBench$Element", "togglesBefore", "(I)I"⟩, 7), (⟨"NetlistBench", "join", "(I)V"⟩, 4), (⟨"NetlistBench", "isAfloat", "(I)Z"⟩, 4), (⟨"NetlistBench", "settle", "(I)V"⟩, 4), (⟨"NetlistBench", "conduct", "(I)V"⟩, 4), (⟨"NetlistBench$Equations", "linkOneWay", "(IIJ)V"⟩, 5), (⟨"NetlistBench$Equations", "allColumns", "()I"⟩, 5), (⟨"NetlistBench$Equations", "expand", "(I)J"⟩, 5), (⟨"NetlistBench", "flowOut", "(LNetlistBench$Element;I)J"⟩, 4), (⟨"NetlistBench", "drive", "(III)V"⟩, 4), (⟨"NetlistBench", "quotientAt", "(I)D"⟩, 4), (⟨"NetlistBench", "firstToggleBehind", "(I)I"⟩, 4)]
theorem lw_r1 : ∀ q ∈ lw_privs_1, lw_okq q := List.forall_mem_cons.mpr ⟨lw_p0, List.forall_mem_cons.mpr ⟨lw_p1, List.forall_mem_cons.mpr ⟨lw_p2, List.forall_mem_cons.mpr ⟨lw_p3, List.forall_mem_cons.mpr ⟨lw_p4, List.forall_mem_cons.mpr ⟨lw_p5, List.forall_mem_cons.mpr ⟨lw_p6, List.forall_mem_cons.mpr ⟨lw_p7, List.forall_mem_cons.mpr ⟨lw_p8, List.forall_mem_cons.mpr ⟨lw_p9, List.forall_mem_cons.mpr ⟨lw_p10, List.forall_mem_cons.mpr ⟨lw_p11, List.forall_mem_cons.mpr ⟨lw_p12, List.forall_mem_cons.mpr ⟨lw_p13, List.forall_mem_cons.mpr ⟨lw_p14, List.forall_mem_cons.mpr ⟨lw_p15, fun _ h => absurd h List.not_mem_nil⟩⟩⟩⟩⟩⟩⟩⟩⟩⟩⟩⟩⟩⟩⟩⟩
theorem lw_p16 : lw_okq (⟨"NetlistBench", "checkGrounded", "(I)V"⟩, 4) := ⟨⟨by decide +kernel, by decide +kernel⟩, List.mem_of_getElem? (i := 23) (by decide +kernel), List.mem_of_getElem? (i := 389) (by decide +kernel), List.mem_of_getElem? (i := 390) (by decide +kernel)⟩
theorem lw_p17 : lw_okq (⟨"java/util/ArrayList", "add", "(Ljava/lang/Object;[Ljava/lang/Object;I)V"⟩, 3) := ⟨⟨by decide +kernel, by decide +kernel⟩, List.mem_of_getElem? (i := 31) (by decide +kernel), List.mem_of_getElem? (i := 464) (by decide +kernel), List.mem_of_getElem? (i := 465) (by decide +kernel)⟩
theorem lw_p18 : lw_okq (⟨"java/util/ArrayList", "grow", "()[Ljava/lang/Object;"⟩, 3) := ⟨⟨by decide +kernel, by decide +kernel⟩, List.mem_of_getElem? (i := 31) (by decide +kernel), List.mem_of_getElem? (i := 468) (by decide +kernel), List.mem_of_getElem? (i := 469) (by decide +kernel)⟩
theorem lw_p19 : lw_okq (⟨"java/util/ArrayList", "grow", "(I)[Ljava/lang/Object;"⟩, 3) := ⟨⟨by decide +kernel, by decide +kernel⟩, List.mem_of_getElem? (i := 31) (by decide +kernel), List.mem_of_getElem? (i := 472) (by decide +kernel), List.mem_of_getElem? (i := 473) (by decide +kernel)⟩
def lw_privs_2 : List (MethodName × Nat) := [(⟨"NetlistBench", "checkGrounded", "(I)V"⟩, 4), (⟨"java/util/ArrayList", "add", "(Ljava/lang/Object;[Ljava/lang/Object;I)V"⟩, 3), (⟨"java/util/ArrayList", "grow", "()[Ljava/lang/Object;"⟩, 3), (⟨"java/util/ArrayList", "grow", "(I)[Ljava/lang/Object;"⟩, 3)]
theorem lw_r2 : ∀ q ∈ lw_privs_2, lw_okq q := List.forall_mem_cons.mpr ⟨lw_p16, List.forall_mem_cons.mpr ⟨lw_p17, List.forall_mem_cons.mpr ⟨lw_p18, List.forall_mem_cons.mpr ⟨lw_p19, fun _ h => absurd h List.not_mem_nil⟩⟩⟩⟩
def lw_privs : List (MethodName × Nat) := lw_privs_1 ++ (lw_privs_2)
def lw_tbl : List Cond := k2_sels lw_privs ++ tables_1
theorem lw_privs_ok : ∀ q ∈ lw_privs, lw_okq q := by
  show ∀ q ∈ lw_privs_1 ++ (lw_privs_2), lw_okq q
  exact List.forall_mem_append.mpr ⟨lw_r1, lw_r2⟩
/-- the streams that the claim lets the run draw from -/
abbrev lw_cs : List Choice := [Jvm.Choice.named "NaN.bits"]
theorem lw_bits : nanBits ∈ lw_cs := by first | decide | exact List.mem_cons_self | simp [lw_cs, nanBits]
/-- an array of arrays: what the printed names ask for (their sheet is not in this kit) -/
def va_AOA (t : FieldType) (U : State) : Prop := (Cond.arrayOver (.array t)).before #[] U = true
theorem va_AOA.use {t : FieldType} {A : Array Value} {U : State} (h : va_AOA t U) : (Cond.arrayOver (.array t)).before A U = true := h
/-! ===== BEGIN words of one list among another's, by their places ===== -/
theorem goodIn_r {big : List Cond} (ws : List Cond) (ps : List Nat) (hp : ws = ps.filterMap (fun i => big[i]?)) (h : ws.all goodWord = true) : GoodIn big ws := by
  intro w hw
  have h1 := List.all_eq_true.mp h w hw
  rw [hp] at hw
  obtain ⟨i, -, hi⟩ := List.mem_filterMap.mp hw
  have hm : w ∈ big := by first | exact List.mem_of_getElem? hi | exact List.getElem?_mem hi
  exact ⟨hm, good_of_word h1⟩
theorem goodIn_app {big a b : List Cond} (ha : GoodIn big a) (hb : GoodIn big b) : GoodIn big (a ++ b) := fun w h => (List.mem_append.mp h).elim (ha w) (hb w)
theorem goodIn_ca {big a b : List Cond} {c : Cond} (ha : GoodIn big (c :: a)) (hb : GoodIn big b) : GoodIn big (c :: (a ++ b)) := fun w h => (List.mem_cons.mp h).elim (fun e => ha w (List.mem_cons.mpr (Or.inl e))) (fun h => (List.mem_append.mp h).elim (fun h => ha w (List.mem_cons.mpr (Or.inr h))) (hb w))
theorem goodIn_sub {big ws : List Cond} (hm : ∀ w ∈ ws, w ∈ big) (h : ws.all goodWord = true) : GoodIn big ws := fun w hw => ⟨hm w hw, good_of_word (List.all_eq_true.mp h w hw)⟩
/-! ===== END ===== -/

/-! ===== BEGIN new T[n][m]: the outer array a place, the inner ones among the pooled ===== -/
/-- f, but v at every address of l -/
def vr_up {α : Type} (f : Nat → α) (l : List Nat) (v : α) : Nat → α := fun a => if a ∈ l then v else f a
theorem vr_up_in {α : Type} {f : Nat → α} {l : List Nat} {v : α} {a : Nat} (h : a ∈ l) : vr_up f l v a = v := if_pos h
theorem vr_up_ne {α : Type} {f : Nat → α} {l : List Nat} {v : α} {a : Nat} (h : a ∉ l) : vr_up f l v a = f a := if_neg h
theorem vr_rows {L l : List Nat} {f : Nat → va_E} {e : va_E} (h : ∀ a, a ∈ l → a ∉ L) : va_pl L f ++ l.map (fun a => (a, e)) = va_pl (L ++ l) (vr_up f l e) := by
  unfold va_pl
  rw [List.map_append]
  congr 1
  · apply List.map_congr_left
    intro a ha
    rw [vr_up_ne (fun q => h a q ha)]
  · apply List.map_congr_left
    intro a ha
    rw [vr_up_in ha]
theorem vr_lay {X rows : va_W} {x : Nat × va_E} {pl : va_W} {D : va_G} {cl : List vw_C} {H : Heap} (hP : va_P D cl (((X ++ pl) ++ [x]) ++ rows) H) : va_P D cl ((X ++ [x]) ++ (pl ++ rows)) H := by
  rw [List.append_assoc (X ++ pl)] at hP
  have h := va_P.swap hP
  rw [← List.append_assoc X] at h
  have h2 := va_P.swap h
  rw [List.append_assoc (X ++ [x])] at h2
  exact h2
theorem vr_layD {X rows : va_W} {x : Nat × va_E} {pl : va_W} {A : Nat → Prop} (hD : va_D A (((X ++ pl) ++ [x]) ++ rows)) : va_D A ((X ++ [x]) ++ (pl ++ rows)) := by
  rw [List.append_assoc (X ++ pl)] at hD
  have h := va_D.swap hD
  rw [← List.append_assoc X] at h
  have h2 := va_D.swap h
  rw [List.append_assoc (X ++ [x])] at h2
  exact h2
theorem vr_outer (c : ClassId) (N h0 : Nat) : ∀ i : Nat, Jvm.Free.Multi.outerC c N h0 i = arrV c N (fun j => va_rf (if j < i then some (h0 + 1 + j) else none))
  | 0 => by
    show ({ cls := c, slots := Array.replicate N .null, vm := .none } : Cell) = _
    rw [arrV_new]
    refine congrArg (arrV c N) (funext fun j => ?_)
    simp [va_rf]
  | i + 1 => by
    show (Jvm.Free.Multi.outerC c N h0 i).setSlot i (.ref (h0 + 1 + i)) = _
    rw [vr_outer c N h0 i, arrV_store]
    refine congrArg (arrV c N) (funext fun j => ?_)
    by_cases e : j = i
    · subst e
      simp [updV, va_rf]
    · by_cases h : j < i
      · simp [updV, e, h, Nat.lt_succ_of_lt h]
      · simp [updV, e, h, show ¬ j < i + 1 by omega]
section VGM
variable {p : Program} {l : Launch} {e : Env} {R : Room} {s : State} {m : MethodId} {args : Array Value} {below : List Frame} {meth : Method} {c : Code} {H : Heap} {locs : List Loc} {cells slots : Nat} {Q : State → Prop}
variable {cc : ByteArray} {pc : Nat} {ls : Array Slot} {rest : List Value} {D : va_G} {cl : List vw_C} {A : Nat → Prop} {a : Nat} {tys : List (ClassId × FieldType)} {ws : va_W} {H0 : Heap}
theorem va_mna {X : va_W} {L : List Nat} {f : Nat → va_E} {cc : ByteArray} (hexec : p.tables.exec = Jvm.exec) (hb : c.code = cc) {own : String} {index : Nat} {ty : FieldType} {cy : ClassId} (hown : s.vm.findClass own = some m.cls) (hclink : (Cond.classLink own index ("[" ++ (FieldType.array ty).toString)).before args s = true) (hover : va_AOA ty s) (harr : (Cond.arrayClass ty).before args s = true) (hcy : s.vm.findClass (FieldType.array ty).toString = some cy)
    (hK : va_K D cl tys s) (hP : va_P D cl (X ++ va_pl L f) H) (hD : va_D A (X ++ va_pl L f)) (hS : va_S A H0 H locs) (hA : ∀ q, H0.size ≤ q → A q) {n k : Int32} {N' K' : Nat} {z : vp_A} (hn : ¬ n < 0) (hk : ¬ k < 0) (hN : n.toNatClampNeg = N') (hM : k.toNatClampNeg = K')
    (hb1 : N' * 4 ≤ 536870912) (hb2 : K' * componentBytes ty ≤ 536870912) (hb3 : K' ≤ 536870912) (hdf : fits ty (defaultValue ty) = true) (hdd : (defaultValue ty).isDefault = true) (hcells : cells + (1 + N') ≤ R.cells) (hslots : slots + (N' + N' * K') ≤ R.slots) (hz : ∀ c : ClassId, Jvm.Free.Multi.innerC c K' (defaultValue ty) = vp_cell c z) (hdg : decode cc pc = .ok (.multianewarray index 2, 4))
    (kk : ∀ (q : Nat) (r : Nat → Nat) (cA : ClassId) (H1 : Heap), (∀ i j : Nat, i < N' → j < N' → r i = r j → i = j) → (∀ i : Nat, i < N' → r i ∉ L) → va_K D cl (tys ++ [(cA, .array ty)]) s →
      va_P D cl ((X ++ [(q, .inl (cA, N', .inr (.inr (.inr (.inr (fun i => if i < N' then some (r i) else none))))))]) ++ va_pl (L ++ (List.range N').map r) (vr_up f ((List.range N').map r) (.inl (cy, z)))) H1 → va_D A ((X ++ [(q, .inl (cA, N', .inr (.inr (.inr (.inr (fun i => if i < N' then some (r i) else none))))))]) ++ va_pl (L ++ (List.range N').map r) (vr_up f ((List.range N').map r) (.inl (cy, z)))) → va_S A H0 H1 locs →
      W p l e R s m args below meth c H1 locs (cells + 1 + N') (slots + N' + N' * K') Q (F0 m (pc + 4) ls (.ref q :: rest))) : W p l e R s m args below meth c H locs cells slots Q (F0 m pc ls (.int k :: .int n :: rest)) := by
  subst hN
  subst hM
  intro T hT Xs
  obtain ⟨vm₁, cA, comp, -, fA, fC, hO, -, X', step⟩ := Xs.multianewarray2F hexec hown hclink (va_AOA.use hover) harr (g := F0 m pc ls (.int k :: .int n :: rest)) rfl (by rw [hb]; exact hdg) rfl hn hk hb1 hb2 hb3 hdf hdd hcells hslots
  have ec : some cy = some comp := hcy.symm.trans fC
  cases ec
  generalize hF : Jvm.Free.Multi.fill (T.setVm vm₁) cA cy n.toNatClampNeg k.toNatClampNeg (defaultValue ty) n.toNatClampNeg = F at X' step
  have hTh : (T.setVm vm₁).heap = H := hT
  obtain ⟨f1, f2, -, -⟩ := Jvm.Free.Multi.fill_facts (T.setVm vm₁) cA cy n.toNatClampNeg k.toNatClampNeg (defaultValue ty) n.toNatClampNeg
  rw [hF, hTh] at f1 f2
  have hold : ∀ x : Nat, x < H.size → F.heap[x]? = H[x]? := fun x hx => by
    have := Jvm.Free.Multi.fill_old (T.setVm vm₁) cA cy n.toNatClampNeg k.toNatClampNeg (defaultValue ty) (a := x) (by rw [hTh]; exact hx) n.toNatClampNeg
    rw [hF, hTh] at this
    exact this
  have hrow : ∀ j : Nat, j < n.toNatClampNeg → F.heap[H.size + 1 + j]? = some (vp_cell cy z) := fun j hj => by
    have := Jvm.Free.Multi.fill_inner (T.setVm vm₁) cA cy n.toNatClampNeg k.toNatClampNeg (defaultValue ty) n.toNatClampNeg j hj
    rw [hF, hTh, hz] at this
    exact this
  have hout : Jvm.Free.Multi.outerC cA n.toNatClampNeg H.size n.toNatClampNeg = vp_cell cA (n.toNatClampNeg, .inr (.inr (.inr (.inr (fun i => if i < n.toNatClampNeg then some (H.size + 1 + i) else none))))) := by
    rw [vp_cell_q]
    exact vr_outer cA n.toNatClampNeg H.size n.toNatClampNeg
  rw [hout] at f2
  have hlt : ∀ a, a ∈ L → a < H.size := fun a ha => by
    obtain ⟨k9, hk9⟩ := va_pl_get (X := X) (f := f) ha
    exact (hP k9 _ hk9).lt
  have hnl : ∀ i : Nat, i < n.toNatClampNeg → H.size + 1 + i ∉ L := fun i _ h => by
    have := hlt _ h
    omega
  have hnm : ∀ a, a ∈ (List.range n.toNatClampNeg).map (fun i => H.size + 1 + i) → a ∉ L := fun a ha h => by
    obtain ⟨i, -, rfl⟩ := List.mem_map.mp ha
    have := hlt _ h
    omega
  have hP0 : va_P D cl (X ++ va_pl L f) F.heap := hP.kept (fun k9 x hx => hold x.1 ((hP k9 x hx).lt))
  have hP1 : va_P D cl ((X ++ va_pl L f) ++ [(H.size, .inl (cA, n.toNatClampNeg, .inr (.inr (.inr (.inr (fun i => if i < n.toNatClampNeg then some (H.size + 1 + i) else none))))))]) F.heap := hP0.app (fun k9 x hx => by
    have h0 : k9 < 1 := (List.getElem?_eq_some_iff.mp hx).1
    rw [show k9 = 0 by omega] at hx
    cases hx
    exact f2)
  have hP2 : va_P D cl (((X ++ va_pl L f) ++ [(H.size, .inl (cA, n.toNatClampNeg, .inr (.inr (.inr (.inr (fun i => if i < n.toNatClampNeg then some (H.size + 1 + i) else none))))))]) ++ ((List.range n.toNatClampNeg).map (fun i => H.size + 1 + i)).map (fun a => (a, .inl (cy, z)))) F.heap := hP1.app (fun k9 x hx => by
    obtain ⟨a, ha, rfl⟩ := List.mem_map.mp (List.mem_of_getElem? hx)
    obtain ⟨i, hi, rfl⟩ := List.mem_map.mp ha
    exact hrow i (List.mem_range.mp hi))
  have hD2 : va_D A (((X ++ va_pl L f) ++ [(H.size, .inl (cA, n.toNatClampNeg, .inr (.inr (.inr (.inr (fun i => if i < n.toNatClampNeg then some (H.size + 1 + i) else none))))))]) ++ ((List.range n.toNatClampNeg).map (fun i => H.size + 1 + i)).map (fun a => (a, .inl (cy, z)))) := by
    have hD1 := hD.push (e := .inl (cA, n.toNatClampNeg, .inr (.inr (.inr (.inr (fun i => if i < n.toNatClampNeg then some (H.size + 1 + i) else none)))))) hP rfl (hA _ hS.1)
    generalize hW1 : (X ++ va_pl L f) ++ [(H.size, .inl (cA, n.toNatClampNeg, .inr (.inr (.inr (.inr (fun i => if i < n.toNatClampNeg then some (H.size + 1 + i) else none))))))] = W1 at hD1 hP1 ⊢
    have hle : ∀ (k9 : Nat) (x : Nat × va_E), W1[k9]? = some x → x.1 ≤ H.size := fun k9 x hx => by
      rw [← hW1] at hx
      by_cases hl : k9 < (X ++ va_pl L f).length
      · rw [List.getElem?_append_left hl] at hx
        exact Nat.le_of_lt ((hP k9 x hx).lt)
      · rw [List.getElem?_append_right (by omega)] at hx
        have h0 : k9 - (X ++ va_pl L f).length < 1 := (List.getElem?_eq_some_iff.mp hx).1
        rw [show k9 - (X ++ va_pl L f).length = 0 by omega] at hx
        cases hx
        exact Nat.le_refl _
    have hr : ∀ (k9 : Nat) (x : Nat × va_E), (((List.range n.toNatClampNeg).map (fun i => H.size + 1 + i)).map (fun a => ((a, .inl (cy, z)) : Nat × va_E)))[k9]? = some x → x.1 = H.size + 1 + k9 := fun k9 x hx => by
      rw [List.getElem?_map, List.getElem?_map] at hx
      by_cases h9 : k9 < n.toNatClampNeg
      · rw [List.getElem?_range h9] at hx
        cases hx
        rfl
      · have hn0 : (List.range n.toNatClampNeg)[k9]? = none := List.getElem?_eq_none (by rw [List.length_range]; omega)
        rw [hn0] at hx
        cases hx
    refine ⟨fun i j x y hi hj hxy => ?_, fun k9 x hx => ?_⟩
    · by_cases h1 : i < W1.length <;> by_cases h2 : j < W1.length
      · rw [List.getElem?_append_left h1] at hi
        rw [List.getElem?_append_left h2] at hj
        exact hD1.1 i j x y hi hj hxy
      · rw [List.getElem?_append_left h1] at hi
        rw [List.getElem?_append_right (by omega)] at hj
        have := hle _ _ hi
        have := hr _ _ hj
        omega
      · rw [List.getElem?_append_right (by omega)] at hi
        rw [List.getElem?_append_left h2] at hj
        have := hle _ _ hj
        have := hr _ _ hi
        omega
      · rw [List.getElem?_append_right (by omega)] at hi hj
        have := hr _ _ hi
        have := hr _ _ hj
        omega
    · by_cases h1 : k9 < W1.length
      · rw [List.getElem?_append_left h1] at hx
        exact hD1.2 k9 x hx
      · rw [List.getElem?_append_right (by omega)] at hx
        have := hr _ _ hx
        exact hA _ (by have := hS.1; omega)
  have hAr : ArrOfT s cA (.array ty) := fun N9 z9 => by
    obtain ⟨-, k9, hk9, cm9, hkk9⟩ := (hO 0 0 0).1
    exact ⟨(fun q hq => by cases hq), k9, hk9, cm9, hkk9⟩
  have hK2 : va_K D cl (tys ++ [(cA, .array ty)]) s := ⟨hK.1, fun k9 x hx => by
    by_cases hl : k9 < tys.length
    · rw [List.getElem?_append_left hl] at hx
      exact hK.2 k9 x hx
    · rw [List.getElem?_append_right (by omega)] at hx
      have h0 : k9 - tys.length < 1 := (List.getElem?_eq_some_iff.mp hx).1
      rw [show k9 - tys.length = 0 by omega] at hx
      cases hx
      exact ⟨hAr, fA⟩⟩
  obtain ⟨t, a1, b1⟩ := kk H.size (fun i => H.size + 1 + i) cA F.heap (fun i j _ _ h => by have h9 : H.size + 1 + i = H.size + 1 + j := h; omega) hnl hK2 (by rw [← vr_rows hnm]; exact vr_lay hP2) (by rw [← vr_rows hnm]; exact vr_layD hD2) ⟨by rw [f1]; have := hS.1; omega, fun x h1 h2 => (hold x (Nat.lt_of_lt_of_le h1 hS.1)).trans (hS.2.1 x h1 h2), hS.2.2⟩ F rfl X'
  refine ⟨t, step t ?_, b1⟩
  have e : T.heap.size = H.size := by rw [hT]
  rw [e]
  exact a1
end VGM
/-! ===== END ===== -/

/-! ===== BEGIN exceptions that leave a method, and their catching by the caller (launches without stack traces) ===== -/
section VXA
/-! The laws vx_back, vx_callV, vx_callS, vx_callSW, vx_throw0, vx_throwS follow proofs of the library, with one case more: JvmDerived/Free/Laws.lean (Back.of_free), Shelf42/LK1.lean (callV, callS), Shelf/KitTraced.lean (throwNew0V, throwNewS). -/
/-- where a method has thrown q: the class by its name, the cell, what was written, the world -/
def vx_T (XC : String → State → State → Prop) (st : State) (q : Addr) (t : State) (mc ms : Nat) (free : Addr → Prop) : Prop :=
  ∃ (E : String) (ce : Cell) (L : List Loc), XC E st t ∧ t.heap[q]? = some ce ∧ ce.vm = .none ∧ st.vm.findClass E = some ce.cls ∧ st.WarmedH t.vm ∧ st.sameButNew ({ t with vm := st.vm } : State) L mc ms ∧ ∀ z ∈ L, free z.base
def vx_Q (Qc : Array Value → State → Outcome → State → Prop) (XC : String → State → State → Prop) (mc ms : Nat) (free : Addr → Prop) : Array Value → State → Outcome → State → Prop := fun a st o t =>
  (Qc a st o t ∧ ∃ L, FrameEnd st o t L mc ms ∧ ∀ q ∈ L, free q.base) ∨ ∃ q, o = .threw q ∧ vx_T XC st q t mc ms free
/-- a callee that returns or throws -/
def vx_Met (l : Launch) (y : MethodName) (ws : List Cond) (rm : Room) (Pc : Array Value → State → Prop) (Qc : Array Value → State → Outcome → State → Prop) (XC : String → State → State → Prop) (mc ms : Nat) (free : Addr → Prop) : Prop :=
  MetFree l y (headSpec ws rm) Pc (fun _ _ _ _ _ => True) (vx_Q Qc XC mc ms free)
def vx_Post (XC : String → State → State → Prop) (mc ms : Nat) (free : Addr → Prop) : Pt → Array Value → Addr → Pt → Prop := fun A a q B =>
  ∃ (g : JFrame) (mk : MethodId) (t : State) (L : List Loc) (E : String) (ce : Cell), B.U.heap = t.heap ∧ B.U.vm = t.vm ∧ XC E (A.U.calling g mk a) t ∧ t.heap[q]? = some ce ∧ ce.vm = .none ∧ A.U.vm.findClass E = some ce.cls ∧ B.locs = A.locs ++ L ∧ (∀ z ∈ L, free z.base) ∧ B.cells = A.cells + mc ∧ B.slots = A.slots + ms
def vx_Back (l : Launch) (R : Room) (p : Program) (e : Env) (below : List Frame) (s : State) (sargs : Array Value) (y : MethodName) (len W9 : Nat)
    (Pre : Pt → Array Value → Prop) (Post : Pt → Array Value → Option Value → Pt → Prop) (PostX : Pt → Array Value → Addr → Pt → Prop) : Prop :=
  ∀ (m : MethodId) (meth : Method) (c : Code) (A : Pt) (g : JFrame) (ig : Instr) (mk : MethodId) (a : Array Value),
    Stand p l e R s m sargs below meth c A.U A.locs A.cells A.slots → g.method = m → g.locals.size = c.maxLocals → decode c.code g.pc = .ok (ig, len) →
    2 * g.monitorRoom + (g.stack.map fun v => v.category).sum ≤ W9 → A.U.methodNamed? y = some mk → Pre A a →
    (∃ (v : Option Value) (B : Pt), Stand p l e R s m sargs below meth c B.U B.locs B.cells B.slots ∧ Post A a v B ∧
      Steps p.tables e below (doInvoke e (A.U.setTop g) [] mk a).1 (B.U.setTop { g with pc := g.pc + len, stack := v.toList ++ g.stack })) ∨
    (∃ (q : Addr) (B : Pt), Stand p l e R s m sargs below meth c B.U B.locs B.cells B.slots ∧ PostX A a q B ∧
      Steps p.tables e below (doInvoke e (A.U.setTop g) [] mk a).1 ((B.U.setTop g).pushFrame (.throwing q)))
section Payer
variable {l : Launch} {R : Room} {p : Program} {e : Env} {below : List Frame} {s : State} {sargs : Array Value} {y : MethodName} {len W9 : Nat}
theorem vx_back {ws : List Cond} {rm : Room} {Pc : Array Value → State → Prop} {Qc : Array Value → State → Outcome → State → Prop} {XC : String → State → State → Prop} {mc ms : Nat} {free : Addr → Prop} {bytes : ByteArray} {maxL : Nat} {ret : Option FieldType}
    (hM : vx_Met l y ws rm Pc Qc XC mc ms free) (hblind : FrameBlind Pc) (hrc : rm.cells = mc) (hrs : rm.slots = ms)
    (hframes : rm.frames + 1 ≤ R.frames) (hlocals : W9 + (maxL + 11) + rm.locals ≤ R.locals)
    (hws : ∀ w ∈ ws, ∀ a' U, s.WarmedH U.vm → w.before a' U = true) (hcode : Cond.code y bytes maxL ret ∈ ws) (hinit : ∀ a' U, s.WarmedH U.vm → (Cond.initialized y.cls).before a' U = true) :
    vx_Back l R p e below s sargs y len W9 (PreOf R mc ms Pc) (PostOf Qc mc ms free) (vx_Post XC mc ms free) := by
  intro m meth c A g ig mk a X hg hsize hdg hW hn hp
  have h1 : (headSpec ws rm).pre.before a A.U = true := atoms_intro fun w hw => hws w hw _ _ X.warmed
  have h2 : (Cond.code y bytes maxL ret).before a A.U = true := hws _ hcode _ _ X.warmed
  have h3 : (Cond.initialized y.cls).before a A.U = true := hinit _ _ X.warmed
  have h4 : A.cells + (headSpec ws rm).room.cells ≤ R.cells := by rw [show (headSpec ws rm).room.cells = mc from hrc]; exact hp.1
  have h5 : A.slots + (headSpec ws rm).room.slots ≤ R.slots := by rw [show (headSpec ws rm).room.slots = ms from hrs]; exact hp.2.1
  have hPc : Pc a (A.U.calling g mk a) := hblind _ _ _ _ hp.2.2
  obtain ⟨U, Ls, c0, s0⟩ := A
  dsimp only [Pt.U, Pt.locs, Pt.cells, Pt.slots] at h1 h2 h3 h4 h5 X hn hPc ⊢
  obtain ⟨methY, cY, hmY, hcY, -, hlY, -, -, -, -⟩ := Cond.code_spec hn h2
  obtain ⟨kY, hkY, -⟩ := className_of_methodNamed hn
  have hinitY : kY.init = .initialized := Cond.initialized_spec (findClass_of_methodNamed hn) hkY h3
  have h : At U g.method c below := by rw [hg]; exact X.here
  have hlocals9 : W9 + (maxL + 11) + (headSpec ws rm).room.locals ≤ R.locals := hlocals
  have happ : (headSpec ws rm).appliesLoose y e.platform (U.calling g mk a) = true :=
    Spec.appliesLoose_calling (g := g) h hdg hn hkY hinitY
      (X.room_calling (g := g) (R' := (headSpec ws rm).room) hsize hmY hcY hframes (by rw [hlY]; omega) h4 h5) h1
  obtain ⟨mid, hmid⟩ := h.above
  have hfr : (U.setTop g).frames = (.java g :: mid) ++ below := by rw [State.frames_setTop' g h.top, hmid]; rfl
  obtain ⟨o, s₂, hsteps, -, hend, hq⟩ := Steps.callFree hM p X.admits X.cas X.clock (acts := []) hfr happ hPc trivial
  have hq' : vx_Q Qc XC mc ms free a (U.calling g mk a) o s₂ := hq
  rw [State.frames_setTop' g h.top] at hend
  obtain ⟨g₀, hg0⟩ := Option.isSome_iff_exists.mp h.top
  obtain ⟨r, hr⟩ := State.topJava?_eq_some.mp hg0
  have hr' : (({ U with heap := s₂.heap, slotsUsed := s₂.slotsUsed } : State).setVm s₂.vm).frames = .java g₀ :: r := hr
  rcases hq' with ⟨hqc, L, hfe, hL⟩ | ⟨q, rfl, E, ce, L, hx, hce, hcv, hcl, hW₂, hsm, hL⟩
  · obtain ⟨⟨v, rfl⟩, hW₂, e2, q2, q3, q4, q5, q6⟩ := id hfe
    have e3 : s₂ = ({ (U.calling g mk a).setFrames s₂.frames with heap := s₂.heap, slotsUsed := s₂.slotsUsed } : State).setVm s₂.vm := by
      have : s₂ = ({ s₂ with vm := (U.calling g mk a).vm } : State).setVm s₂.vm := rfl
      rw [e2] at this
      exact this
    obtain ⟨c₂, i₂, len₂, hc₂, hd₂, hf₂⟩ := hend
    have hW' : U.WarmedH s₂.vm := hW₂
    have hcc : c₂ = c := by
      have h1 : s₂.code? g.method = U.code? g.method := by
        rw [State.code?_eq, State.code?_eq, hW'.alike.method?]
      exact Option.some.inj (hc₂.symm.trans (h1.trans h.code))
    subst hcc
    have hlen : len₂ = len := by rw [hdg] at hd₂; cases hd₂; rfl
    subst hlen
    have hs₂ : s₂ = (({ U with heap := s₂.heap, slotsUsed := s₂.slotsUsed } : State).setVm s₂.vm).setTop { g with pc := g.pc + len₂, stack := v.toList ++ g.stack } := by
      refine e3.trans ?_
      rw [hf₂, State.calling_eq h.top, State.setFrames_setFrames, State.setTop_of_frames _ hr', hr]
      rfl
    have hsame : U.sameButNew ({ U with heap := s₂.heap, slotsUsed := s₂.slotsUsed } : State) L mc ms := by
      refine ⟨?_, q2, q3, q4, q5, q6⟩
      obtain ⟨t, ht, -⟩ := State.frames_cons hr
      show ({ U with heap := s₂.heap, slotsUsed := s₂.slotsUsed } : State) = { U.setFrames U.frames with heap := s₂.heap, slotsUsed := s₂.slotsUsed }
      rw [State.setFrames_self ht]
    subst hg
    refine Or.inl ⟨v, ⟨(({ U with heap := s₂.heap, slotsUsed := s₂.slotsUsed } : State).setVm s₂.vm), Ls ++ L, c0 + mc, s0 + ms⟩,
      ⟨X.admits, X.cas, X.clock, X.frames, X.room, X.hears, X.method, X.code, (X.here.setHeapUsed s₂.heap s₂.slotsUsed).setVm hW'.alike, X.tail, State.WarmedH.trans X.warmed hW', X.limits, X.bytes, X.same.trans (hsame.setVm s.vm)⟩,
      ⟨g, mk, s₂, L, rfl, rfl, hqc, rfl, hL, rfl, rfl⟩, ?_⟩
    show Steps p.tables e below _ ((({ U with heap := s₂.heap, slotsUsed := s₂.slotsUsed } : State).setVm s₂.vm).setTop { g with pc := g.pc + len₂, stack := v.toList ++ g.stack })
    rw [← hs₂]
    exact hsteps
  · obtain ⟨e2, q2, q3, q4, q5, q6⟩ := id hsm
    have e3 : s₂ = ({ (U.calling g mk a).setFrames s₂.frames with heap := s₂.heap, slotsUsed := s₂.slotsUsed } : State).setVm s₂.vm := by
      have : s₂ = ({ s₂ with vm := (U.calling g mk a).vm } : State).setVm s₂.vm := rfl
      rw [e2] at this
      exact this
    have hf₂ : s₂.frames = .throwing q :: .java g :: U.frames.tail := hend
    have hW' : U.WarmedH s₂.vm := hW₂
    have hs₂ : s₂ = ((({ U with heap := s₂.heap, slotsUsed := s₂.slotsUsed } : State).setVm s₂.vm).setTop g).pushFrame (.throwing q) := by
      refine e3.trans ?_
      rw [hf₂, State.calling_eq h.top, State.setFrames_setFrames, State.pushFrame, State.frames_setTop _ hr', State.setTop_of_frames _ hr', State.setFrames_setFrames, hr]
      rfl
    have hsame : U.sameButNew ({ U with heap := s₂.heap, slotsUsed := s₂.slotsUsed } : State) L mc ms := by
      refine ⟨?_, q2, q3, q4, q5, q6⟩
      obtain ⟨t, ht, -⟩ := State.frames_cons hr
      show ({ U with heap := s₂.heap, slotsUsed := s₂.slotsUsed } : State) = { U.setFrames U.frames with heap := s₂.heap, slotsUsed := s₂.slotsUsed }
      rw [State.setFrames_self ht]
    subst hg
    refine Or.inr ⟨q, ⟨(({ U with heap := s₂.heap, slotsUsed := s₂.slotsUsed } : State).setVm s₂.vm), Ls ++ L, c0 + mc, s0 + ms⟩,
      ⟨X.admits, X.cas, X.clock, X.frames, X.room, X.hears, X.method, X.code, (X.here.setHeapUsed s₂.heap s₂.slotsUsed).setVm hW'.alike, X.tail, State.WarmedH.trans X.warmed hW', X.limits, X.bytes, X.same.trans (hsame.setVm s.vm)⟩,
      ⟨g, mk, s₂, L, E, ce, rfl, rfl, hx, hce, hcv, hcl, rfl, hL, rfl, rfl⟩, ?_⟩
    show Steps p.tables e below _ (((({ U with heap := s₂.heap, slotsUsed := s₂.slotsUsed } : State).setVm s₂.vm).setTop g).pushFrame (.throwing q))
    rw [← hs₂]
    exact hsteps
end Payer
section Calls
variable {p : Program} {l : Launch} {e : Env} {R : Room} {s : State} {m : MethodId} {args : Array Value} {below : List Frame} {meth : Method} {c : Code} {T : State} {locs : List Loc} {cells slots : Nat}
theorem vx_callV (X : Stand p l e R s m args below meth c T locs cells slots) (hexec : p.tables.exec = Jvm.exec) {own C : String} {index : Nat} {y : MethodName} {bytes : ByteArray} {maxL : Nat} {ret : Option FieldType}
    (hown : s.vm.findClass own = some m.cls) (hlink : (Cond.methodLink own index y).before args s = true) (hinst : (Cond.instanceMethod y).before args s = true) (hsel : (Cond.selects C y y).before args s = true)
    (hcode : (Cond.code y bytes maxL ret).before args s = true) (hy : y.cls ≠ "java/lang/invoke/MethodHandle" ∧ y.cls ≠ "java/lang/invoke/VarHandle")
    {W9 : Nat} {Pre : Pt → Array Value → Prop} {Post : Pt → Array Value → Option Value → Pt → Prop} {PostX : Pt → Array Value → Addr → Pt → Prop} (hK : vx_Back l R p e below s args y 3 W9 Pre Post PostX)
    {b : Addr} {cellB : Cell} (hcell : T.heap[b]? = some cellB) (hobj : cellB.vm.isStatics = false) (hcls : s.vm.findClass C = some cellB.cls)
    {g : JFrame} (hg : g.method = m) (hsize : g.locals.size = c.maxLocals) {argsL rest : List Value} (hlen : ∀ sig, parseMethodDescriptor y.desc = some sig → argsL.length = sig.parameters.length)
    (hstack : g.stack = argsL.reverse ++ .ref b :: rest) (hW : 2 * g.monitorRoom + (rest.map fun v => v.category).sum ≤ W9) (hdg : decode c.code g.pc = .ok (.invokevirtual index, 3))
    (hpre : ∀ vm₁, s.WarmedH vm₁ → Pre ⟨T.setVm vm₁, locs, cells, slots⟩ (Value.ref b :: argsL).toArray) :
    (∃ (v : Option Value) (vm₁ : Vm) (B : Pt), s.WarmedH vm₁ ∧ Stand p l e R s m args below meth c B.U B.locs B.cells B.slots ∧ Post ⟨T.setVm vm₁, locs, cells, slots⟩ (Value.ref b :: argsL).toArray v B ∧
      ∀ target, Steps p.tables e below (B.U.setTop { g with pc := g.pc + 3, stack := v.toList ++ rest }) target → Steps p.tables e below (T.setTop g) target) ∨
    (∃ (q : Addr) (vm₁ : Vm) (B : Pt), s.WarmedH vm₁ ∧ Stand p l e R s m args below meth c B.U B.locs B.cells B.slots ∧ PostX ⟨T.setVm vm₁, locs, cells, slots⟩ (Value.ref b :: argsL).toArray q B ∧
      Steps p.tables e below (T.setTop g) ((B.U.setTop { g with stack := rest }).pushFrame (.throwing q))) := by
  obtain ⟨mk, methM, hnamed, hmethM, hstM, habM⟩ := Cond.instanceMethod_spec hinst
  obtain ⟨methM', cM, hmethM', -, -, -, -, -, -, hsigM⟩ := Cond.code_spec hnamed hcode
  cases hmethM.symm.trans hmethM'
  obtain ⟨c2, r2, m2, q1, q2, q3, q4, kP, hkP, hkPi⟩ := Cond.selects_spec hsel
  cases hcls.symm.trans q1
  cases (State.methodFound?_of_named hnamed hy).symm.trans q2
  cases hnamed.symm.trans q3
  have hselP : selectMethod e.platform s.vm cellB.cls mk = .method mk := by rw [Launch.admits_selectMethod X.admits]; exact q4
  obtain ⟨vm₁, X₁, hstep₁⟩ := X.invokevirtual hexec hown hlink hnamed hmethM hstM hkP hkPi hy (a := b) (cell := cellB) hcell
    (fun z h => by rw [h] at hobj; cases hobj) hselP hmethM habM hkP hkPi (g := g) hg (argsL := argsL) (rest := rest) (hlen _ hsigM) hstack hdg
  rcases hK m meth c ⟨T.setVm vm₁, locs, cells, slots⟩ { g with stack := rest } (.invokevirtual index) mk (Value.ref b :: argsL).toArray X₁ hg hsize hdg hW (X₁.named hnamed) (hpre vm₁ X₁.warmed) with ⟨v, B, X', hpost, hsteps⟩ | ⟨q, B, X', hpost, hsteps⟩
  · exact Or.inl ⟨v, vm₁, B, X₁.warmed, X', hpost, fun target h => hstep₁ _ fun acts => by rw [doInvoke_state]; exact hsteps.trans h⟩
  · exact Or.inr ⟨q, vm₁, B, X₁.warmed, X', hpost, hstep₁ _ fun acts => by rw [doInvoke_state]; exact hsteps⟩
theorem vx_callS (X : Stand p l e R s m args below meth c T locs cells slots) (hexec : p.tables.exec = Jvm.exec) {own : String} {index : Nat} {y : MethodName} {bytes : ByteArray} {maxL : Nat} {ret : Option FieldType}
    (hown : s.vm.findClass own = some m.cls) (hlink : (Cond.methodLink own index y).before args s = true) (hstat : (Cond.static y).before args s = true) (hinit : (Cond.initialized y.cls).before args s = true)
    (hcode : (Cond.code y bytes maxL ret).before args s = true) (hy : y.cls ≠ "java/lang/invoke/MethodHandle" ∧ y.cls ≠ "java/lang/invoke/VarHandle")
    {W9 : Nat} {Pre : Pt → Array Value → Prop} {Post : Pt → Array Value → Option Value → Pt → Prop} {PostX : Pt → Array Value → Addr → Pt → Prop} (hK : vx_Back l R p e below s args y 3 W9 Pre Post PostX)
    {g : JFrame} (hg : g.method = m) (hsize : g.locals.size = c.maxLocals) {argsL rest : List Value} (hlen : ∀ sig, parseMethodDescriptor y.desc = some sig → argsL.length = sig.parameters.length)
    (hstack : g.stack = argsL.reverse ++ rest) (hW : 2 * g.monitorRoom + (rest.map fun v => v.category).sum ≤ W9) (hdg : decode c.code g.pc = .ok (.invokestatic index, 3))
    (hpre : ∀ vm₁, s.WarmedH vm₁ → Pre ⟨T.setVm vm₁, locs, cells, slots⟩ argsL.toArray) :
    (∃ (v : Option Value) (vm₁ : Vm) (B : Pt), s.WarmedH vm₁ ∧ Stand p l e R s m args below meth c B.U B.locs B.cells B.slots ∧ Post ⟨T.setVm vm₁, locs, cells, slots⟩ argsL.toArray v B ∧
      ∀ target, Steps p.tables e below (B.U.setTop { g with pc := g.pc + 3, stack := v.toList ++ rest }) target → Steps p.tables e below (T.setTop g) target) ∨
    (∃ (q : Addr) (vm₁ : Vm) (B : Pt), s.WarmedH vm₁ ∧ Stand p l e R s m args below meth c B.U B.locs B.cells B.slots ∧ PostX ⟨T.setVm vm₁, locs, cells, slots⟩ argsL.toArray q B ∧
      Steps p.tables e below (T.setTop g) ((B.U.setTop { g with stack := rest }).pushFrame (.throwing q))) := by
  obtain ⟨mk, hnamed⟩ := Cond.code_named hcode
  obtain ⟨methM, cM, hmethM, -, -, -, -, -, -, hsigM⟩ := Cond.code_spec hnamed hcode
  have hstatic : methM.isStatic = true := Cond.static_spec hnamed hmethM hstat
  obtain ⟨kP, hkP, -⟩ := className_of_methodNamed hnamed
  have hinitP : kP.init = .initialized := Cond.initialized_spec (findClass_of_methodNamed hnamed) hkP hinit
  obtain ⟨vm₁, X₁, hstep₁⟩ := X.invokestatic hexec hown hlink hnamed hmethM hstatic hkP hinitP hy (g := g) hg (argsL := argsL) (rest := rest) (hlen _ hsigM) hstack hdg
  rcases hK m meth c ⟨T.setVm vm₁, locs, cells, slots⟩ { g with stack := rest } (.invokestatic index) mk argsL.toArray X₁ hg hsize hdg hW (X₁.named hnamed) (hpre vm₁ X₁.warmed) with ⟨v, B, X', hpost, hsteps⟩ | ⟨q, B, X', hpost, hsteps⟩
  · exact Or.inl ⟨v, vm₁, B, X₁.warmed, X', hpost, fun target h => hstep₁ _ fun acts => by rw [doInvoke_state]; exact hsteps.trans h⟩
  · exact Or.inr ⟨q, vm₁, B, X₁.warmed, X', hpost, hstep₁ _ fun acts => by rw [doInvoke_state]; exact hsteps⟩
end Calls
theorem vx_cls {s : State} {T : State} {vm₁ : Vm} {E : String} {k : ClassId} (hW : s.WarmedH vm₁) (h : (T.setVm vm₁).vm.findClass E = some k) : s.vm.findClass E = some k := by
  have h1 : vm₁.findClass E = some k := h
  rw [hW.alike.findClass] at h1
  exact h1
/-- the method's frame g, with q thrown over it -/
def vx_W (p : Program) (l : Launch) (e : Env) (R : Room) (s : State) (m : MethodId) (args : Array Value) (below : List Frame) (meth : Method) (c : Code) (H : Heap) (locs : List Loc) (cells slots : Nat) (Q : State → Prop) (g : JFrame) (q : Addr) : Prop :=
  ∀ T : State, T.heap = H → Stand p l e R s m args below meth c T locs cells slots → ∃ t, Steps p.tables e below ((T.setTop g).pushFrame (.throwing q)) t ∧ Q t
def vx_Run (p : Program) (l : Launch) (e : Env) (R : Room) (s : State) (m : MethodId) (args : Array Value) (below : List Frame) (meth : Method) (c : Code) (H : Heap) (locs : List Loc) (cells slots mc ms : Nat) (g : JFrame) (rest : List Value) (Qa : State → Outcome → State → Prop) (XC : String → State → State → Prop) (free : Addr → Prop) : Prop :=
  ∀ T : State, T.heap = H → Stand p l e R s m args below meth c T locs cells slots →
    (∃ (v : Option Value) (st₀ t T' : State) (L : List Loc), st₀.heap = H ∧ Stand p l e R s m args below meth c T' (locs ++ L) (cells + mc) (slots + ms) ∧ (∀ q ∈ L, free q.base) ∧ T'.heap = t.heap ∧ T'.vm = t.vm ∧ Qa st₀ (.returned v) t ∧
      Goes p e below T g T' { g with pc := g.pc + 3, stack := v.toList ++ rest }) ∨
    (∃ (q : Addr) (st₀ t T' : State) (L : List Loc) (E : String) (ce : Cell), st₀.heap = H ∧ Stand p l e R s m args below meth c T' (locs ++ L) (cells + mc) (slots + ms) ∧ (∀ z ∈ L, free z.base) ∧ T'.heap = t.heap ∧ T'.vm = t.vm ∧ XC E st₀ t ∧ t.heap[q]? = some ce ∧ ce.vm = .none ∧ s.vm.findClass E = some ce.cls ∧
      Steps p.tables e below (T.setTop g) ((T'.setTop { g with stack := rest }).pushFrame (.throwing q)))
def vx_X {S : Type} (px : S → Prop) (B : String → S → State → Prop) (A : Nat → Prop) : String → State → State → Prop := fun E st t => ∃ u : S, px u ∧ B E u t ∧ va_F A st t
section Runs
variable {p : Program} {l : Launch} {e : Env} {R : Room} {s : State} {m : MethodId} {args : Array Value} {below : List Frame} {meth : Method} {c : Code} {H : Heap} {locs : List Loc} {cells slots : Nat}
variable {y : MethodName} {bytes cc : ByteArray} {maxL nL mc ms n index : Nat} {ret : Option FieldType} {ws : List Cond} {rm : Room} {Pc : Array Value → State → Prop} {Qc : Array Value → State → Outcome → State → Prop} {XC : String → State → State → Prop} {free : Addr → Prop} {Ts : List Cond} {own C : String} {b : Addr} {As rest : List Value} {g : JFrame}
theorem vx_callBack (cb : CallB R s args own index y bytes maxL ret ws rm mc ms n) (hM : vx_Met l y ws rm Pc Qc XC mc ms free) (hbl : FrameBlind Pc) : vx_Back l R p e below s args y 3 8 (PreOf R mc ms Pc) (PostOf Qc mc ms free) (vx_Post XC mc ms free) := by
  obtain ⟨hrc, hrs, hfr, hlo, hws, hcw, -, hini, -⟩ := cb
  exact vx_back (bytes := bytes) (maxL := maxL) (ret := ret) hM hbl hrc hrs hfr hlo hws hcw (fun a' U hW => word_at hW (Or.inl (by first | rfl | simp [Cond.onTables, Cond.keeps, Cond.steady])) hini)
theorem vx_runV (S : CallFix p m c cc nL s args Ts own) (hM : vx_Met l y ws rm Pc Qc XC mc ms free) (cw : CallW R s args own C index y bytes maxL ret ws rm mc ms n) (hp : PreV s H C b Pc As)
    (hg : g.method = m) (hn : As.length = n) (hsize : g.locals.size = nL) (hstack : g.stack = As.reverse ++ .ref b :: rest) (hW : 2 * g.monitorRoom + (rest.map fun v => v.category).sum ≤ 8) (hdg : decode cc g.pc = .ok (.invokevirtual index, 3)) (hf : cells + mc ≤ R.cells ∧ slots + ms ≤ R.slots) :
    vx_Run p l e R s m args below meth c H locs cells slots mc ms g rest (Qc (Value.ref b :: As).toArray) XC free := by
  have hK : vx_Back l R p e below s args y 3 8 (PreOf R mc ms Pc) (PostOf Qc mc ms free) (vx_Post XC mc ms free) := vx_callBack cw.1 hM hp.1
  obtain ⟨⟨-, -, -, -, -, -, hcode, -, hy, hlen, hl⟩, hin, hse⟩ := cw
  obtain ⟨hx, hb, hml, ho, -⟩ := S
  obtain ⟨-, ⟨cellB, hcB, hoB, hclB⟩, hPc⟩ := hp
  intro T hT X
  rcases vx_callV X hx (C := C) (bytes := bytes) (maxL := maxL) (ret := ret) ho hl hin hse hcode hy hK (by rw [hT]; exact hcB) hoB hclB hg (hsize.trans hml.symm) (argsL := As) (rest := rest) (fun sig h => hn.trans (hlen sig h)) hstack hW (by rw [hb]; exact hdg)
    (fun vm₁ hW₁ => ⟨hf.1, hf.2, hPc (T.setVm vm₁) hT hW₁⟩) with ⟨v, vm₁, ⟨U', l2, c2, s2⟩, hW₁, X', ⟨g', mk, t, L, e1, e2, hq, h1, hL, h2, h3⟩, st⟩ | ⟨q, vm₁, ⟨U', l2, c2, s2⟩, hW₁, X', ⟨g', mk, t, L, E, ce, e1, e2, hq, hce, hcv, hcl, h1, hL, h2, h3⟩, st⟩
  · dsimp only [Pt.U, Pt.locs, Pt.cells, Pt.slots] at X' e1 e2 h1 h2 h3 st
    subst h1; subst h2; subst h3
    exact Or.inl ⟨v, (T.setVm vm₁).calling g' mk (Value.ref b :: As).toArray, t, U', L, hT, X', hL, e1, e2, hq, st⟩
  · dsimp only [Pt.U, Pt.locs, Pt.cells, Pt.slots] at X' e1 e2 h1 h2 h3 st hcl
    subst h1; subst h2; subst h3
    exact Or.inr ⟨q, (T.setVm vm₁).calling g' mk (Value.ref b :: As).toArray, t, U', L, E, ce, hT, X', hL, e1, e2, hq, hce, hcv, vx_cls hW₁ hcl, st⟩
theorem vx_runS (S : CallFix p m c cc nL s args Ts own) (hM : vx_Met l y ws rm Pc Qc XC mc ms free) (cw : CallB R s args own index y bytes maxL ret ws rm mc ms n ∧ (Cond.static y).before args s = true) (hp : PreS s H Pc As)
    (hg : g.method = m) (hn : As.length = n) (hsize : g.locals.size = nL) (hstack : g.stack = As.reverse ++ rest) (hW : 2 * g.monitorRoom + (rest.map fun v => v.category).sum ≤ 8) (hdg : decode cc g.pc = .ok (.invokestatic index, 3)) (hf : cells + mc ≤ R.cells ∧ slots + ms ≤ R.slots) :
    vx_Run p l e R s m args below meth c H locs cells slots mc ms g rest (Qc As.toArray) XC free := by
  have hK : vx_Back l R p e below s args y 3 8 (PreOf R mc ms Pc) (PostOf Qc mc ms free) (vx_Post XC mc ms free) := vx_callBack cw.1 hM hp.1
  obtain ⟨⟨-, -, -, -, -, -, hcode, hini, hy, hlen, hl⟩, hstt⟩ := cw
  obtain ⟨hx, hb, hml, ho, -⟩ := S
  intro T hT X
  rcases vx_callS X hx (bytes := bytes) (maxL := maxL) (ret := ret) ho hl hstt hini hcode hy hK hg (hsize.trans hml.symm) (argsL := As) (rest := rest) (fun sig h => hn.trans (hlen sig h)) hstack hW (by rw [hb]; exact hdg)
    (fun vm₁ hW₁ => ⟨hf.1, hf.2, hp.2 (T.setVm vm₁) hT hW₁⟩) with ⟨v, vm₁, ⟨U', l2, c2, s2⟩, hW₁, X', ⟨g', mk, t, L, e1, e2, hq, h1, hL, h2, h3⟩, st⟩ | ⟨q, vm₁, ⟨U', l2, c2, s2⟩, hW₁, X', ⟨g', mk, t, L, E, ce, e1, e2, hq, hce, hcv, hcl, h1, hL, h2, h3⟩, st⟩
  · dsimp only [Pt.U, Pt.locs, Pt.cells, Pt.slots] at X' e1 e2 h1 h2 h3 st
    subst h1; subst h2; subst h3
    exact Or.inl ⟨v, (T.setVm vm₁).calling g' mk As.toArray, t, U', L, hT, X', hL, e1, e2, hq, st⟩
  · dsimp only [Pt.U, Pt.locs, Pt.cells, Pt.slots] at X' e1 e2 h1 h2 h3 st hcl
    subst h1; subst h2; subst h3
    exact Or.inr ⟨q, (T.setVm vm₁).calling g' mk As.toArray, t, U', L, E, ce, hT, X', hL, e1, e2, hq, hce, hcv, vx_cls hW₁ hcl, st⟩
end Runs
section Rows
variable {p : Program} {l : Launch} {e : Env} {R : Room} {s : State} {m : MethodId} {args : Array Value} {below : List Frame} {meth : Method} {c : Code} {H : Heap} {locs : List Loc} {cells slots : Nat} {Q : State → Prop}
variable {mc ms : Nat} {free : Addr → Prop} {A0 A1 : Nat → Prop} {H0 : Heap} {a : Array Value} {pc : Nat} {ls : Array Slot} {st0 rest : List Value}
theorem vx_keep {st₀ t T' : State} {L : List Loc} (h0 : st₀.heap = H) (e1 : T'.heap = t.heap) (hS : va_S A0 H0 H locs) (hA : ∀ q, q < H.size → A1 q → A0 q) (hf : ∀ q, free q → A0 q) (hL : ∀ q ∈ L, free q.base) (hF : va_F A1 st₀ t) :
    H.size ≤ T'.heap.size ∧ (∀ q : Nat, q < H.size → ¬ A1 q → T'.heap[q]? = H[q]?) ∧ va_S A0 H0 T'.heap (locs ++ L) := by
  obtain ⟨hz, hk⟩ := hF
  rw [h0] at hz hk
  exact ⟨by rw [e1]; exact hz, fun q h1 h2 => by rw [e1]; exact hk q h1 h2,
    ⟨Nat.le_trans hS.1 (by rw [e1]; exact hz), fun q h1 h2 => by rw [e1, hk q (Nat.lt_of_lt_of_le h1 hS.1) (fun z => h2 (hA q (Nat.lt_of_lt_of_le h1 hS.1) z))]; exact hS.2.1 q h1 h2, fun q hq => by
      rcases List.mem_append.mp hq with h | h
      · exact hS.2.2 q h
      · exact hf _ (hL q h)⟩⟩
theorem vx_calli {S SX : Type} {post : Int32 → S → Prop} {px : SX → Prop} {B : S → State → Prop} {BX : String → SX → State → Prop} {AX : Nat → Prop} (hr : vx_Run p l e R s m args below meth c H locs cells slots mc ms (F0 m pc ls st0) rest (va_Qi post B A1 a) (vx_X px BX AX) free) (hS : va_S A0 H0 H locs) (hA : ∀ q, q < H.size → A1 q → A0 q) (hf : ∀ q, free q → A0 q) (hAX : ∀ q, q < H.size → AX q → A0 q)
    (kx : ∀ (E : String) (ce : Cell) (q9 : Addr) (u : SX) (t : State) (H1 : Heap) (locs1 : List Loc), t.heap = H1 → s.vm.Alike t.vm → px u → BX E u t → H.size ≤ H1.size → (∀ q : Nat, q < H.size → ¬ AX q → H1[q]? = H[q]?) → va_S A0 H0 H1 locs1 → H1[q9]? = some ce → ce.vm = .none → s.vm.findClass E = some ce.cls → vx_W p l e R s m args below meth c H1 locs1 (cells + mc) (slots + ms) Q (F0 m pc ls rest) q9)
    (kk : ∀ (r : Int32) (u : S) (t : State) (H1 : Heap) (locs1 : List Loc), t.heap = H1 → s.vm.Alike t.vm → post r u → B u t → H.size ≤ H1.size → (∀ q : Nat, q < H.size → ¬ A1 q → H1[q]? = H[q]?) → va_S A0 H0 H1 locs1 → W p l e R s m args below meth c H1 locs1 (cells + mc) (slots + ms) Q (F0 m (pc + 3) ls (.int r :: rest))) : W p l e R s m args below meth c H locs cells slots Q (F0 m pc ls st0) := by
  intro T hT X
  rcases hr T hT X with ⟨v, st₀, t, T', L, h0, X', hL, e1, e2, ⟨⟨r, u, hv, hp, hb⟩, hF⟩, st⟩ | ⟨q, st₀, t, T', L, E, ce, h0, X', hL, e1, e2, ⟨u, hp, hb, hF⟩, hce, hcv, hcl, st⟩
  · cases hv
    obtain ⟨k1, k2, k3⟩ := vx_keep h0 e1 hS hA hf hL hF
    obtain ⟨t2, a1, b1⟩ := kk r u t T'.heap (locs ++ L) e1.symm (by rw [← e2]; exact X'.warmed.alike) hp hb k1 k2 k3 T' rfl X'
    exact ⟨t2, st t2 a1, b1⟩
  · obtain ⟨k1, k2, k3⟩ := vx_keep h0 e1 hS hAX hf hL hF
    obtain ⟨t2, a1, b1⟩ := kx E ce q u t T'.heap (locs ++ L) e1.symm (by rw [← e2]; exact X'.warmed.alike) hp hb k1 k2 k3 (by rw [e1]; exact hce) hcv hcl T' rfl X'
    exact ⟨t2, st.trans a1, b1⟩
theorem vx_calll {S SX : Type} {post : Int64 → S → Prop} {px : SX → Prop} {B : S → State → Prop} {BX : String → SX → State → Prop} {AX : Nat → Prop} (hr : vx_Run p l e R s m args below meth c H locs cells slots mc ms (F0 m pc ls st0) rest (va_Ql post B A1 a) (vx_X px BX AX) free) (hS : va_S A0 H0 H locs) (hA : ∀ q, q < H.size → A1 q → A0 q) (hf : ∀ q, free q → A0 q) (hAX : ∀ q, q < H.size → AX q → A0 q)
    (kx : ∀ (E : String) (ce : Cell) (q9 : Addr) (u : SX) (t : State) (H1 : Heap) (locs1 : List Loc), t.heap = H1 → s.vm.Alike t.vm → px u → BX E u t → H.size ≤ H1.size → (∀ q : Nat, q < H.size → ¬ AX q → H1[q]? = H[q]?) → va_S A0 H0 H1 locs1 → H1[q9]? = some ce → ce.vm = .none → s.vm.findClass E = some ce.cls → vx_W p l e R s m args below meth c H1 locs1 (cells + mc) (slots + ms) Q (F0 m pc ls rest) q9)
    (kk : ∀ (r : Int64) (u : S) (t : State) (H1 : Heap) (locs1 : List Loc), t.heap = H1 → s.vm.Alike t.vm → post r u → B u t → H.size ≤ H1.size → (∀ q : Nat, q < H.size → ¬ A1 q → H1[q]? = H[q]?) → va_S A0 H0 H1 locs1 → W p l e R s m args below meth c H1 locs1 (cells + mc) (slots + ms) Q (F0 m (pc + 3) ls (.long r :: rest))) : W p l e R s m args below meth c H locs cells slots Q (F0 m pc ls st0) := by
  intro T hT X
  rcases hr T hT X with ⟨v, st₀, t, T', L, h0, X', hL, e1, e2, ⟨⟨r, u, hv, hp, hb⟩, hF⟩, st⟩ | ⟨q, st₀, t, T', L, E, ce, h0, X', hL, e1, e2, ⟨u, hp, hb, hF⟩, hce, hcv, hcl, st⟩
  · cases hv
    obtain ⟨k1, k2, k3⟩ := vx_keep h0 e1 hS hA hf hL hF
    obtain ⟨t2, a1, b1⟩ := kk r u t T'.heap (locs ++ L) e1.symm (by rw [← e2]; exact X'.warmed.alike) hp hb k1 k2 k3 T' rfl X'
    exact ⟨t2, st t2 a1, b1⟩
  · obtain ⟨k1, k2, k3⟩ := vx_keep h0 e1 hS hAX hf hL hF
    obtain ⟨t2, a1, b1⟩ := kx E ce q u t T'.heap (locs ++ L) e1.symm (by rw [← e2]; exact X'.warmed.alike) hp hb k1 k2 k3 (by rw [e1]; exact hce) hcv hcl T' rfl X'
    exact ⟨t2, st.trans a1, b1⟩
theorem vx_callf {S SX : Type} {post : UInt32 → S → Prop} {px : SX → Prop} {B : S → State → Prop} {BX : String → SX → State → Prop} {AX : Nat → Prop} (hr : vx_Run p l e R s m args below meth c H locs cells slots mc ms (F0 m pc ls st0) rest (va_Qf post B A1 a) (vx_X px BX AX) free) (hS : va_S A0 H0 H locs) (hA : ∀ q, q < H.size → A1 q → A0 q) (hf : ∀ q, free q → A0 q) (hAX : ∀ q, q < H.size → AX q → A0 q)
    (kx : ∀ (E : String) (ce : Cell) (q9 : Addr) (u : SX) (t : State) (H1 : Heap) (locs1 : List Loc), t.heap = H1 → s.vm.Alike t.vm → px u → BX E u t → H.size ≤ H1.size → (∀ q : Nat, q < H.size → ¬ AX q → H1[q]? = H[q]?) → va_S A0 H0 H1 locs1 → H1[q9]? = some ce → ce.vm = .none → s.vm.findClass E = some ce.cls → vx_W p l e R s m args below meth c H1 locs1 (cells + mc) (slots + ms) Q (F0 m pc ls rest) q9)
    (kk : ∀ (r : UInt32) (u : S) (t : State) (H1 : Heap) (locs1 : List Loc), t.heap = H1 → s.vm.Alike t.vm → post r u → B u t → H.size ≤ H1.size → (∀ q : Nat, q < H.size → ¬ A1 q → H1[q]? = H[q]?) → va_S A0 H0 H1 locs1 → W p l e R s m args below meth c H1 locs1 (cells + mc) (slots + ms) Q (F0 m (pc + 3) ls (.float r :: rest))) : W p l e R s m args below meth c H locs cells slots Q (F0 m pc ls st0) := by
  intro T hT X
  rcases hr T hT X with ⟨v, st₀, t, T', L, h0, X', hL, e1, e2, ⟨⟨r, u, hv, hp, hb⟩, hF⟩, st⟩ | ⟨q, st₀, t, T', L, E, ce, h0, X', hL, e1, e2, ⟨u, hp, hb, hF⟩, hce, hcv, hcl, st⟩
  · cases hv
    obtain ⟨k1, k2, k3⟩ := vx_keep h0 e1 hS hA hf hL hF
    obtain ⟨t2, a1, b1⟩ := kk r u t T'.heap (locs ++ L) e1.symm (by rw [← e2]; exact X'.warmed.alike) hp hb k1 k2 k3 T' rfl X'
    exact ⟨t2, st t2 a1, b1⟩
  · obtain ⟨k1, k2, k3⟩ := vx_keep h0 e1 hS hAX hf hL hF
    obtain ⟨t2, a1, b1⟩ := kx E ce q u t T'.heap (locs ++ L) e1.symm (by rw [← e2]; exact X'.warmed.alike) hp hb k1 k2 k3 (by rw [e1]; exact hce) hcv hcl T' rfl X'
    exact ⟨t2, st.trans a1, b1⟩
theorem vx_calld {S SX : Type} {post : UInt64 → S → Prop} {px : SX → Prop} {B : S → State → Prop} {BX : String → SX → State → Prop} {AX : Nat → Prop} (hr : vx_Run p l e R s m args below meth c H locs cells slots mc ms (F0 m pc ls st0) rest (va_Qd post B A1 a) (vx_X px BX AX) free) (hS : va_S A0 H0 H locs) (hA : ∀ q, q < H.size → A1 q → A0 q) (hf : ∀ q, free q → A0 q) (hAX : ∀ q, q < H.size → AX q → A0 q)
    (kx : ∀ (E : String) (ce : Cell) (q9 : Addr) (u : SX) (t : State) (H1 : Heap) (locs1 : List Loc), t.heap = H1 → s.vm.Alike t.vm → px u → BX E u t → H.size ≤ H1.size → (∀ q : Nat, q < H.size → ¬ AX q → H1[q]? = H[q]?) → va_S A0 H0 H1 locs1 → H1[q9]? = some ce → ce.vm = .none → s.vm.findClass E = some ce.cls → vx_W p l e R s m args below meth c H1 locs1 (cells + mc) (slots + ms) Q (F0 m pc ls rest) q9)
    (kk : ∀ (r : UInt64) (u : S) (t : State) (H1 : Heap) (locs1 : List Loc), t.heap = H1 → s.vm.Alike t.vm → post r u → B u t → H.size ≤ H1.size → (∀ q : Nat, q < H.size → ¬ A1 q → H1[q]? = H[q]?) → va_S A0 H0 H1 locs1 → W p l e R s m args below meth c H1 locs1 (cells + mc) (slots + ms) Q (F0 m (pc + 3) ls (.double r :: rest))) : W p l e R s m args below meth c H locs cells slots Q (F0 m pc ls st0) := by
  intro T hT X
  rcases hr T hT X with ⟨v, st₀, t, T', L, h0, X', hL, e1, e2, ⟨⟨r, u, hv, hp, hb⟩, hF⟩, st⟩ | ⟨q, st₀, t, T', L, E, ce, h0, X', hL, e1, e2, ⟨u, hp, hb, hF⟩, hce, hcv, hcl, st⟩
  · cases hv
    obtain ⟨k1, k2, k3⟩ := vx_keep h0 e1 hS hA hf hL hF
    obtain ⟨t2, a1, b1⟩ := kk r u t T'.heap (locs ++ L) e1.symm (by rw [← e2]; exact X'.warmed.alike) hp hb k1 k2 k3 T' rfl X'
    exact ⟨t2, st t2 a1, b1⟩
  · obtain ⟨k1, k2, k3⟩ := vx_keep h0 e1 hS hAX hf hL hF
    obtain ⟨t2, a1, b1⟩ := kx E ce q u t T'.heap (locs ++ L) e1.symm (by rw [← e2]; exact X'.warmed.alike) hp hb k1 k2 k3 (by rw [e1]; exact hce) hcv hcl T' rfl X'
    exact ⟨t2, st.trans a1, b1⟩
theorem vx_callv {S SX : Type} {post : S → Prop} {px : SX → Prop} {B : S → State → Prop} {BX : String → SX → State → Prop} {AX : Nat → Prop} (hr : vx_Run p l e R s m args below meth c H locs cells slots mc ms (F0 m pc ls st0) rest (va_Qv post B A1 a) (vx_X px BX AX) free) (hS : va_S A0 H0 H locs) (hA : ∀ q, q < H.size → A1 q → A0 q) (hf : ∀ q, free q → A0 q) (hAX : ∀ q, q < H.size → AX q → A0 q)
    (kx : ∀ (E : String) (ce : Cell) (q9 : Addr) (u : SX) (t : State) (H1 : Heap) (locs1 : List Loc), t.heap = H1 → s.vm.Alike t.vm → px u → BX E u t → H.size ≤ H1.size → (∀ q : Nat, q < H.size → ¬ AX q → H1[q]? = H[q]?) → va_S A0 H0 H1 locs1 → H1[q9]? = some ce → ce.vm = .none → s.vm.findClass E = some ce.cls → vx_W p l e R s m args below meth c H1 locs1 (cells + mc) (slots + ms) Q (F0 m pc ls rest) q9)
    (kk : ∀ (u : S) (t : State) (H1 : Heap) (locs1 : List Loc), t.heap = H1 → s.vm.Alike t.vm → post u → B u t → H.size ≤ H1.size → (∀ q : Nat, q < H.size → ¬ A1 q → H1[q]? = H[q]?) → va_S A0 H0 H1 locs1 → W p l e R s m args below meth c H1 locs1 (cells + mc) (slots + ms) Q (F0 m (pc + 3) ls (rest))) : W p l e R s m args below meth c H locs cells slots Q (F0 m pc ls st0) := by
  intro T hT X
  rcases hr T hT X with ⟨v, st₀, t, T', L, h0, X', hL, e1, e2, ⟨⟨u, hv, hp, hb⟩, hF⟩, st⟩ | ⟨q, st₀, t, T', L, E, ce, h0, X', hL, e1, e2, ⟨u, hp, hb, hF⟩, hce, hcv, hcl, st⟩
  · cases hv
    obtain ⟨k1, k2, k3⟩ := vx_keep h0 e1 hS hA hf hL hF
    obtain ⟨t2, a1, b1⟩ := kk u t T'.heap (locs ++ L) e1.symm (by rw [← e2]; exact X'.warmed.alike) hp hb k1 k2 k3 T' rfl X'
    exact ⟨t2, st t2 a1, b1⟩
  · obtain ⟨k1, k2, k3⟩ := vx_keep h0 e1 hS hAX hf hL hF
    obtain ⟨t2, a1, b1⟩ := kx E ce q u t T'.heap (locs ++ L) e1.symm (by rw [← e2]; exact X'.warmed.alike) hp hb k1 k2 k3 (by rw [e1]; exact hce) hcv hcl T' rfl X'
    exact ⟨t2, st.trans a1, b1⟩
/-- caught by the row x of this method's table; the rows ahead don't take it -/
theorem vx_catch {own name : String} {E : String} {ce : Cell} {q : Addr} (hown : s.vm.findClass own = some m.cls) (pre : List ExceptionTableEntry) (x : ExceptionTableEntry) (suf : List ExceptionTableEntry) (hsplit : c.exceptionTable.toList = pre ++ x :: suf)
    (hpass : ∀ z ∈ pre, covers z pc = false ∨ (z.catchType ≠ 0 ∧ ∃ nm : String, (Cond.classLink own z.catchType nm).before args s = true ∧ va_Nc E nm s)) (hx : covers x pc = true) (h0 : x.catchType ≠ 0)
    (hlink : (Cond.classLink own x.catchType name).before args s = true) (hcast : (Cond.castable E name).before args s = true) (hcell : H[q]? = some ce) (hv : ce.vm = .none) (hcl : s.vm.findClass E = some ce.cls)
    (kk : W p l e R s m args below meth c H locs cells slots Q (F0 m x.handlerPc ls [.ref q])) : vx_W p l e R s m args below meth c H locs cells slots Q (F0 m pc ls rest) q := by
  intro T hT X
  have hpl : e.platform.magicAccessors = ({} : Platform).magicAccessors := by rw [X.admits.platform]
  obtain ⟨c3, c4, hc3, hc4, hasg⟩ := Cond.castable_spec hcast
  cases Option.some.inj (hc3.symm.trans hcl)
  obtain ⟨c5, hc5, hcl5⟩ := Cond.classLink_spec hown hlink e.platform hpl
  cases Option.some.inj (hc4.symm.trans hc5)
  obtain ⟨vm', X', st⟩ := X.thenCaughtThrough q (g := F0 m pc ls rest) rfl (Steps.refl _) (by rw [hT]; exact hcell) (by rw [hv]; rfl) (by obtain ⟨k9, h9, -⟩ := Vm.findClass_spec hcl; exact ⟨k9, h9⟩) pre x suf hsplit
    (fun z hz => by
      rcases hpass z hz with h | ⟨hz0, nm, hl1, hn1⟩
      · exact Or.inl h
      · obtain ⟨c6, hc6, hcl6⟩ := Cond.classLink_spec hown hl1 e.platform hpl
        obtain ⟨a8, b8, h1, h2, h3⟩ := hn1
        cases Option.some.inj (h1.symm.trans hcl)
        cases Option.some.inj (h2.symm.trans hc6)
        exact Or.inr ⟨hz0, _, hcl6, h3⟩) hx (Or.inr ⟨h0, c4, hcl5, hasg⟩)
  obtain ⟨t, a1, b1⟩ := kk (T.setVm vm') hT X'
  exact ⟨t, st.trans a1, b1⟩
end Rows
section Ends
variable {p : Program} {l : Launch} {e : Env} {R : Room} {s : State} {m : MethodId} {args : Array Value} {below : List Frame} {meth : Method} {c : Code} {H : Heap} {locs : List Loc} {cells slots : Nat} {Q : State → Prop}
variable {mc ms : Nat} {free : Addr → Prop} {A0 A1 : Nat → Prop} {H0 : Heap} {a : Array Value} {ls : Array Slot} {st0 rest : List Value}
variable {Qc : Array Value → State → Outcome → State → Prop} {XC : String → State → State → Prop}
/-- what a body that may throw owes at its end -/
def vx_MQ (below : List Frame) (Qc : Array Value → State → Outcome → State → Prop) (XC : String → State → State → Prop) (a : Array Value) (s : State) (mc ms : Nat) (free : Addr → Prop) : State → Prop := fun t =>
  ∃ o, t.status = .running ∧ Ended t below o ∧ vx_Q Qc XC mc ms free a s o t
theorem vx_ret {g : JFrame} {mc ms : Nat} (k : W p l e R s m args below meth c H locs cells slots (MQ below Qc args s mc ms free) g) : W p l e R s m args below meth c H locs cells slots (vx_MQ below Qc XC args s mc ms free) g := by
  intro T hT X
  obtain ⟨t, a1, o, b1, b2, b3, b4⟩ := k T hT X
  exact ⟨t, a1, o, b1, b2, Or.inl ⟨b3, b4⟩⟩
/-- not caught here: it goes on to the caller -/
theorem vx_widen {g : JFrame} {q : Addr} {k n : Nat} (h1 : cells ≤ k) (h2 : slots ≤ n) (kk : vx_W p l e R s m args below meth c H locs k n Q g q) : vx_W p l e R s m args below meth c H locs cells slots Q g q := fun T hT X => kk T hT (stand_widen X h1 h2)
theorem vx_out {pc : Nat} {E : String} {ce : Cell} {q : Addr} {mc ms : Nat} (hout : ∀ x ∈ c.exceptionTable.toList, covers x pc = false) (hlocks : meth.locks = false) (hcell : H[q]? = some ce) (hv : ce.vm = .none) (hcl : s.vm.findClass E = some ce.cls)
    (hx : ∀ t : State, t.heap = H → s.vm.Alike t.vm → XC E s t) (hf : ∀ z ∈ locs, free z.base) (hc : cells ≤ mc) (hs : slots ≤ ms) :
    vx_W p l e R s m args below meth c H locs cells slots (vx_MQ below Qc XC args s mc ms free) (F0 m pc ls rest) q := by
  intro T hT X
  obtain ⟨st1, hrun, hend, hW, hsm⟩ := X.leaveThrown q (g := F0 m pc ls rest) rfl rfl rfl hout hlocks
  have hcell9 : (T.setFrames (.throwing q :: below)).heap[q]? = some ce := by
    show T.heap[q]? = some ce
    rw [hT]; exact hcell
  exact ⟨_, st1, .threw q, hrun, hend, Or.inr ⟨q, rfl, E, ce, locs, hx _ hT hW.alike, hcell9, hv, hcl, hW, hsm.mono hc hs, hf⟩⟩
theorem vx_frame {U : State} {k n : Nat} (h : s.sameButNew ({ U with vm := s.vm } : State) locs k n) : s.heap.size ≤ U.heap.size ∧ ∀ q : Nat, q < s.heap.size → (∀ z ∈ locs, z.base ≠ q) → U.heap[q]? = s.heap[q]? := by
  obtain ⟨-, h2, -, -, -, h6⟩ := h
  refine ⟨h2, fun q hq hz => ?_⟩
  obtain ⟨c9, e1, e2, e3, e4⟩ := h6 q _ (Array.getElem?_eq_getElem hq)
  have hs : c9.slots = (s.heap[q]).slots := Array.ext_getElem? fun i => e4 i fun hm => hz _ hm rfl
  have h9 : c9 = s.heap[q] := by
    rw [hs] at e2
    exact e2
  have e5 : U.heap[q]? = some c9 := e1
  rw [e5, h9, Array.getElem?_eq_getElem hq]
/-- the words of a throw but the four that speak of the heap -/
def vx_no (w : Cond) : Bool := decide (w ≠ .isRef (.static Bundle.tN "UNASSIGNED_STACK" Bundle.steD)) && decide (w ≠ .isRef (.static Bundle.tN "SUPPRESSED_SENTINEL" Bundle.listD)) && decide (w ≠ .laysStatic Bundle.tN "UNASSIGNED_STACK" Bundle.steD) && decide (w ≠ .laysStatic Bundle.tN "SUPPRESSED_SENTINEL" Bundle.listD)
def vx_at0 (own : String) (ic : Nat) (X : String) (names : List String) : List Cond := (Bundle.ownAtoms0 own ic X names).filter vx_no
def vx_atS (own : String) (ic : Nat) (X : String) (names : List String) : List Cond := (Bundle.ownAtoms own ic X names).filter vx_no
/-- a word that the tables alone decide, or a good one -/
def vx_ot (w : Cond) : Bool := w.onTables || goodWord w
theorem vx_ot_at {args a' : Array Value} {s U : State} {w : Cond} (hW : s.WarmedH U.vm) (hvm : s.vm = U.vm) (hg : vx_ot w = true) (h : w.before args s = true) : w.before a' U = true := by
  simp only [vx_ot, Bool.or_eq_true] at hg
  rcases hg with hg | hg
  · exact va_tabs hg hvm h
  · exact word_at hW (good_of_word hg) h
/-- a list's words: the good ones out of the method's own list, the others by premises of their own -/
theorem vx_hat {args : Array Value} {s : State} {L B : List Cond} (h1 : ∀ w ∈ L.filter goodWord, w.before args s = true) (h2 : ∀ w ∈ L.filter (fun w => !goodWord w), w ∈ B) (h3 : ∀ w ∈ B, w.before args s = true) : ∀ w ∈ L, w.before args s = true := by
  intro w hw
  by_cases g : goodWord w = true
  · exact h1 w (List.mem_filter.mpr ⟨hw, g⟩)
  · refine h3 w (h2 w (List.mem_filter.mpr ⟨hw, ?_⟩))
    show (!goodWord w) = true
    cases hgw : goodWord w
    · rfl
    · exact absurd hgw g
theorem vx_c {args : Array Value} {s : State} {w : Cond} {B : List Cond} (h : w.before args s = true) (t : ∀ w ∈ B, w.before args s = true) : ∀ w' ∈ w :: B, w'.before args s = true := fun w' h' => (List.mem_cons.mp h').elim (fun e => by rw [e]; exact h) (t w')
theorem vx_n {args : Array Value} {s : State} : ∀ w ∈ ([] : List Cond), w.before args s = true := fun _ h => nomatch h
theorem vx_own {args : Array Value} {s : State} {L : List Cond} (h1 : ∀ w ∈ L.filter vx_no, w.before args s = true)
    (hU : (Cond.isRef (.static Bundle.tN "UNASSIGNED_STACK" Bundle.steD)).before args s = true) (hN : (Cond.isRef (.static Bundle.tN "SUPPRESSED_SENTINEL" Bundle.listD)).before args s = true)
    (lU : (Cond.laysStatic Bundle.tN "UNASSIGNED_STACK" Bundle.steD).before args s = true) (lN : (Cond.laysStatic Bundle.tN "SUPPRESSED_SENTINEL" Bundle.listD).before args s = true) : ∀ w ∈ L, w.before args s = true := by
  intro w hw
  by_cases e1 : w = .isRef (.static Bundle.tN "UNASSIGNED_STACK" Bundle.steD)
  · rw [e1]; exact hU
  · by_cases e2 : w = .isRef (.static Bundle.tN "SUPPRESSED_SENTINEL" Bundle.listD)
    · rw [e2]; exact hN
    · by_cases e3 : w = .laysStatic Bundle.tN "UNASSIGNED_STACK" Bundle.steD
      · rw [e3]; exact lU
      · by_cases e4 : w = .laysStatic Bundle.tN "SUPPRESSED_SENTINEL" Bundle.listD
        · rw [e4]; exact lN
        · exact h1 w (List.mem_filter.mpr ⟨hw, by unfold vx_no; rw [decide_eq_true e1, decide_eq_true e2, decide_eq_true e3, decide_eq_true e4]; rfl⟩)
/-- where a static field lies, its class's statics cell in H -/
def vx_L (C n d : String) (A : Nat → Prop) (U : State) (H : Heap) : Prop := ∃ (c : ClassId) (k : Class) (i : Nat) (f : Field) (a : Nat) (cell : Cell), U.vm.findClass C = some c ∧ U.fieldFound? C n d = some (c, k, i, f) ∧ f.isStatic = true ∧ k.statics = some a ∧ H[a]? = some cell ∧ cell.vm.isStatics = true ∧ cell.cls = c ∧ f.slot < cell.slots.size ∧ k.staticTypes[f.slot]? = some f.type ∧ ¬ A a
theorem vx_L.moved {C n d : String} {A : Nat → Prop} {u U : State} {H : Heap} (hvm : u.vm.Alike U.vm) (h : vx_L C n d A u H) : vx_L C n d A U H := by
  obtain ⟨c, k, i, f, a, cell, h1, h2, h3, h4, h5, h6, h7, h8, h9, h10⟩ := h
  obtain ⟨k', hi', he⟩ := State.fieldFound?_setVm hvm h2
  exact ⟨c, k', i, f, a, cell, by rw [hvm.findClass]; exact h1, hi', h3, by rw [he]; exact h4, h5, h6, h7, h8, by rw [he]; exact h9, h10⟩
theorem vx_L.kept {C n d : String} {A : Nat → Prop} {U : State} {H H1 : Heap} (h : vx_L C n d A U H) (hq : ∀ a : Nat, a < H.size → ¬ A a → H1[a]? = H[a]?) : vx_L C n d A U H1 := by
  obtain ⟨c, k, i, f, a, cell, h1, h2, h3, h4, h5, h6, h7, h8, h9, h10⟩ := h
  exact ⟨c, k, i, f, a, cell, h1, h2, h3, h4, by rw [hq a (Array.getElem?_eq_some_iff.mp h5).1 h10]; exact h5, h6, h7, h8, h9, h10⟩
theorem vx_L.narrow {C n d : String} {A B : Nat → Prop} {U : State} {H : Heap} (h : vx_L C n d A U H) (hAB : ∀ q, B q → A q) : vx_L C n d B U H := by
  obtain ⟨c, k, i, f, a, cell, h1, h2, h3, h4, h5, h6, h7, h8, h9, h10⟩ := h
  exact ⟨c, k, i, f, a, cell, h1, h2, h3, h4, h5, h6, h7, h8, h9, fun z => h10 (hAB _ z)⟩
theorem vx_L.word {C n d : String} {A : Nat → Prop} {s : State} {args : Array Value} (h : vx_L C n d A s s.heap) : (Cond.laysStatic C n d).before args s = true := by
  obtain ⟨c, k, i, f, a, cell, h1, h2, h3, h4, h5, h6, h7, h8, h9, -⟩ := h
  show (Cond.laysStatic C n d).holds args s none s [] = true
  exact Cond.laysStatic_of h1 h2 h3 h4 h5 h6 h7 h8 h9
/-- .. and what it holds: null or some reference -/
def vx_Zq (C n d : String) (A : Nat → Prop) (U : State) (H : Heap) : Prop := va_Zq C n d A U H ∧ vx_L C n d A U H
theorem vx_Zq.moved {C n d : String} {A : Nat → Prop} {u U : State} {H : Heap} (hvm : u.vm.Alike U.vm) (h : vx_Zq C n d A u H) : vx_Zq C n d A U H := ⟨va_Zq.moved hvm h.1, vx_L.moved hvm h.2⟩
theorem vx_Zq.kept {C n d : String} {A : Nat → Prop} {U : State} {H H1 : Heap} (h : vx_Zq C n d A U H) (hq : ∀ a : Nat, a < H.size → ¬ A a → H1[a]? = H[a]?) : vx_Zq C n d A U H1 := ⟨va_Zq.kept h.1 hq, vx_L.kept h.2 hq⟩
theorem vx_Zq.narrow {C n d : String} {A B : Nat → Prop} {U : State} {H : Heap} (h : vx_Zq C n d A U H) (hAB : ∀ q, B q → A q) : vx_Zq C n d B U H := ⟨va_Zq.narrow h.1 hAB, vx_L.narrow h.2 hAB⟩
theorem vx_Zqof {args : Array Value} {s : State} {C n d : String} {A : Nat → Prop} (hl : (Cond.laysStatic C n d).before args s = true) (hini : (Cond.initialized C).before args s = true) (h : (Cond.isRef (.static C n d)).before args s = true) (hA : ∀ a : Nat, a < s.heap.size → ¬ A a) : vx_Zq C n d A s s.heap := by
  refine ⟨va_Zqof hl hini h hA, ?_⟩
  obtain ⟨c, k, i, f, a, cell, h1, h2, h3, h4, h5, h6, h7, h8, h9⟩ := Cond.laysStatic_spec hl
  exact ⟨c, k, i, f, a, cell, h1, h2, h3, h4, h5, h6, h7, h8, h9, hA a (Array.getElem?_eq_some_iff.mp h5).1⟩
theorem vx_isRef {C n d : String} {v : Value} {A : Nat → Prop} {s : State} {args : Array Value} (h : va_Z C n d v A s s.heap) (hv : v.isRef = true) : (Cond.isRef (.static C n d)).before args s = true := by
  obtain ⟨cf, kf, fi, f, a, cell, h1, h2, h3, h4, h5, h6, h7, -⟩ := h
  have he : (Term.static C n d).eval args s none [] s = some v := by
    simp [Term.eval, State.fieldNamed?, h1, h2, h4, h5, h6, h7]
  simp only [Cond.before, Cond.holds, Cond.value, he]
  cases v <;> simp_all [Value.isRef]
theorem vx_isRefq {C n d : String} {A : Nat → Prop} {s : State} {args : Array Value} (h : va_Zq C n d A s s.heap) : (Cond.isRef (.static C n d)).before args s = true := by
  rcases h with h | ⟨t, h⟩
  · exact vx_isRef h rfl
  · exact vx_isRef h rfl
/-- the same frame, seen from here: as if the method were called anew in this heap -/
theorem vx_rebase {T : State} (X : Stand p l e R s m args below meth c T locs cells slots) {R' : Room} (hf : R'.frames ≤ R.frames) (hl : R'.locals ≤ R.locals) (hc : cells + R'.cells ≤ R.cells) (hs : slots + R'.slots ≤ R.slots) :
    Stand p l e R' ((T.setVm s.vm).setFrames (.invoking m args :: below)) m args below meth c T [] 0 0 := by
  have htop : (T.setVm s.vm).topJava?.isSome := X.here.top
  have hF : ((T.setVm s.vm).setFrames (.invoking m args :: below)).frames = .invoking m args :: below := State.frames_setFrames _ (State.cur_lt_of_top htop)
  obtain ⟨g₀, hg0⟩ := Option.isSome_iff_exists.mp htop
  obtain ⟨r, hr⟩ := State.topJava?_eq_some.mp hg0
  have hl9 : e.platform.stackLimits (T.setVm s.vm).me = e.platform.stackLimits s.me := X.limits
  have hb9 : (T.setVm s.vm).me.stackBytes = s.me.stackBytes := X.bytes
  refine ⟨X.admits, X.cas, X.clock, hF, ?_, X.hears, X.method, X.code, X.here, X.tail, X.warmed, ?_, ?_, ?_⟩
  · have h := X.room
    have hU : ((T.setVm s.vm).setFrames (.invoking m args :: below)).localsInUse = s.localsInUse := by
      rw [State.localsInUse_invoking hF (meth := meth) (c := c) X.method X.code, State.localsInUse_invoking X.frames X.method X.code]
    simp only [State.hasRoom, Bool.and_eq_true, decide_eq_true_eq] at h ⊢
    obtain ⟨⟨⟨⟨h1, h2, h3, h4, h5, h6⟩, h7⟩, h8⟩, h9⟩ := h
    rw [X.frames, List.length_cons] at h2 h3
    have q1 := X.heapSize
    have q2 := X.used
    simp only [hF, hU, List.length_cons, State.stackLimits_setFrames, State.stackBytes_setFrames, hl9, hb9]
    refine ⟨⟨⟨⟨by omega, by omega, by omega, by omega, by omega, h6⟩, ?_⟩, ?_⟩, X.book⟩
    · show T.heap.size + R'.cells ≤ e.platform.maxCells
      omega
    · show T.slotsUsed + R'.slots ≤ e.platform.maxSlots
      omega
  · rw [State.stackLimits_setFrames]; rfl
  · rw [State.stackBytes_setFrames]; rfl
  · refine ⟨?_, Nat.le_refl _, Nat.le_refl _, ?_, ?_, fun a c9 h9 => ⟨c9, h9, rfl, rfl, fun _ _ => rfl⟩⟩
    · obtain ⟨t, ht, -⟩ := State.frames_cons hr
      show T.setVm s.vm = { ((T.setVm s.vm).setFrames (.invoking m args :: below)).setFrames (T.setVm s.vm).frames with heap := T.heap, slotsUsed := T.slotsUsed }
      rw [State.setFrames_setFrames, State.setFrames_self ht]
      rfl
    · show T.slotsUsed = T.slotsUsed + ((T.heap.toList.drop T.heap.size).map (·.slots.size)).sum
      rw [List.drop_eq_nil_of_le (Nat.le_of_eq Array.length_toList)]
      rfl
    · show ((T.heap.toList.drop T.heap.size).map (·.slots.size)).sum ≤ 0
      rw [List.drop_eq_nil_of_le (Nat.le_of_eq Array.length_toList)]
      exact Nat.le_refl _
/-- 'throw new E()': new; dup; invokespecial; athrow -/
theorem vx_throw0 {cc : ByteArray} {pc : Nat} (hexec : p.tables.exec = Jvm.exec) (hb : c.code = cc) (hl : l.stackTraces = false) {own cls : String} {names : List String} {ik ic mc ms : Nat} {A : Nat → Prop}
    (hown : s.vm.findClass own = some m.cls) (hcls : Bundle.fit cls = true) (hnames : ∀ n ∈ names, Bundle.fit n = true)
    (hk : (Cond.classLink own ik cls).before args s = true) (hini : (Cond.initialized cls).before args s = true) (hat : ∀ w ∈ vx_at0 own ic cls names, w.before args s = true)
    (hgood : ∀ w ∈ Cond.classLink own ik cls :: Cond.initialized cls :: vx_at0 own ic cls names, vx_ot w = true)
    (hU : vx_Zq Bundle.tN "UNASSIGNED_STACK" Bundle.steD A s s.heap) (hN : vx_Zq Bundle.tN "SUPPRESSED_SENTINEL" Bundle.listD A s s.heap) (hS : va_S A s.heap H locs) (hsize : ls.size = c.maxLocals)
    (d0 : decode cc pc = .ok (.new ik, 3)) (d3 : decode cc (pc + 3) = .ok (.dup, 1)) (d4 : decode cc (pc + 4) = .ok (.invokespecial ic, 3)) (d7 : decode cc (pc + 7) = .ok (.athrow, 1))
    (hout : ∀ x ∈ c.exceptionTable.toList, covers x (pc + 7) = false)
    (hRframes : names.length + 3 < R.frames) (hRlocals : (rest.map fun v => v.category).sum + (13 * (names.length + 1) + 42) ≤ R.locals) (hRcells : cells + 1 ≤ R.cells) (hRslots : slots + 6 ≤ R.slots) (hlocks : meth.locks = false)
    (hx : ∀ t : State, s.vm.Alike t.vm → H.size ≤ t.heap.size → (∀ q : Nat, q < H.size → t.heap[q]? = H[q]?) → XC cls s t)
    (hf : ∀ z ∈ locs, free z.base) (hc : cells + 1 ≤ mc) (hs : slots + 6 ≤ ms) :
    W p l e R s m args below meth c H locs cells slots (vx_MQ below Qc XC args s mc ms free) (F0 m pc ls rest) := by
  intro T hT X
  have htr : e.platform.stackTraces = false := (show e.platform.stackTraces = l.stackTraces by rw [X.admits.platform]).trans hl
  have Y := vx_rebase X (R' := { frames := R.frames, locals := R.locals, cells := 1, slots := 6 }) (Nat.le_refl _) (Nat.le_refl _) hRcells hRslots
  obtain ⟨s', hA⟩ : ∃ z, z = (T.setVm s.vm).setFrames (.invoking m args :: below) := ⟨_, rfl⟩
  rw [← hA] at Y
  have hvm : s'.vm = s.vm := by rw [hA]; rfl
  have hhp : s'.heap = H := by rw [hA]; exact hT
  have hW0 : s.WarmedH s'.vm := by rw [hvm]; exact State.WarmedH.refl s
  have hat' : ∀ w ∈ vx_at0 own ic cls names, w.before args s' = true := fun w hw => vx_ot_at hW0 hvm.symm (hgood w (List.mem_cons_of_mem _ (List.mem_cons_of_mem _ hw))) (hat w hw)
  have hk' : (Cond.classLink own ik cls).before args s' = true := vx_ot_at hW0 hvm.symm (hgood _ List.mem_cons_self) hk
  have hini' : (Cond.initialized cls).before args s' = true := vx_ot_at hW0 hvm.symm (hgood _ (List.mem_cons_of_mem _ List.mem_cons_self)) hini
  have hU' : vx_Zq Bundle.tN "UNASSIGNED_STACK" Bundle.steD A s' s'.heap := by rw [hhp]; exact vx_Zq.moved hW0.alike (hU.kept hS.2.1)
  have hN' : vx_Zq Bundle.tN "SUPPRESSED_SENTINEL" Bundle.listD A s' s'.heap := by rw [hhp]; exact vx_Zq.moved hW0.alike (hN.kept hS.2.1)
  have h : ∀ w ∈ Bundle.ownAtoms0 own ic cls names, w.before args s' = true := vx_own hat' (vx_isRefq hU'.1) (vx_isRefq hN'.1) hU'.2.word hN'.2.word
  have hown' : s'.vm.findClass own = some m.cls := by rw [hvm]; exact hown
  have hins : (Cond.instantiable cls 6).before args s' = true := h _ (by simp [Bundle.ownAtoms0])
  obtain ⟨vm₁, cX, kX, hfX, hkX, -, -, X₁, st1⟩ := Y.newCold hexec (own := own) (C := cls) (index := ik) (n := 6) hown' hk' hins hini'
    (g := F0 m pc ls rest) rfl (by rw [hb]; exact d0) (Nat.le_refl _) (Nat.le_refl _)
  generalize hT1 : (T.setVm vm₁).pushCell { cls := cX, slots := kX.instanceTypes.map defaultValue, vm := .none } = T1 at X₁ st1
  have hcat : (Value.ref T.heap.size).category = 1 := rfl
  have hcellA : T1.heap[T.heap.size]? = some (freshCell cX kX) := by rw [← hT1]; exact State.heap_pushCell_size _ _
  have d3' : decode c.code (pc + 3) = .ok (.dup, 1) := by rw [hb]; exact d3
  obtain ⟨U, hsteps, hrun, hend, hW, hsame, ce, hce, hO⟩ := X₁.ctorThrow0 hexec htr (own := own) (cls := cls) (names := names) (ic := ic) hown' hcls hnames h (fun x hx => nomatch hx) hfX hkX hcellA (by rw [hhp, hT]; exact Nat.le_refl _)
    (g := { method := m, pc := pc + 4, locals := ls, stack := .ref T.heap.size :: .ref T.heap.size :: rest, locked := none }) rfl hsize rfl rfl (rest := rest) rfl
    (by rw [hb]; exact d4) (by rw [hb]; exact d7) hout hRframes (by simp only [List.map_cons, List.sum_cons, hcat]; omega) hlocks
  obtain ⟨f1, f2⟩ := vx_frame hsame
  rw [hhp] at f1 f2
  have hWs : s.WarmedH U.vm := State.WarmedH.trans hW0 hW
  have hcl : s.vm.findClass cls = some ce.cls := by
    have h9 := hO.cls
    rw [hvm] at h9
    exact h9
  have hall : s.sameButNew ({ U with vm := s.vm } : State) locs mc ms := by
    subst hA
    obtain ⟨e1, e2⟩ := hsame
    rw [State.setFrames_setFrames] at e1
    have h2 : (T.setVm s.vm).sameButNew ({ U with vm := s.vm } : State) [] (0 + 1) (0 + 6) := ⟨e1, e2⟩
    have h3 := X.same.trans h2
    rw [List.append_nil] at h3
    exact h3.mono hc hs
  refine ⟨U, ?_, .threw T.heap.size, hrun, hend, Or.inr ⟨T.heap.size, rfl, cls, ce, locs, hx U hWs.alike f1 (fun q hq => f2 q hq (fun z hz => nomatch hz)), hce, hO.vm, hcl, hWs, hall, hf⟩⟩
  refine st1 _ ?_
  show Steps p.tables e below (T1.setTop { method := m, pc := pc + 3, locals := ls, stack := .ref T.heap.size :: rest, locked := none }) _
  jvm_step X₁.here [X₁.here.top, hexec, d3', Value.category]
  exact hsteps
/-- 'throw new E("text")': new; dup; ldc; invokespecial; athrow -/
theorem vx_throwS {cc : ByteArray} {pc : Nat} (hexec : p.tables.exec = Jvm.exec) (hb : c.code = cc) (hl : l.stackTraces = false) {own cls text : String} {names : List String} {ik is ic mc ms sa : Nat} {A : Nat → Prop}
    (hown : s.vm.findClass own = some m.cls) (hcls : Bundle.fit cls = true) (hnames : ∀ n ∈ names, Bundle.fit n = true)
    (hk : (Cond.classLink own ik cls).before args s = true) (hini : (Cond.initialized cls).before args s = true) (hstr : vk_R own is text sa s) (hat : ∀ w ∈ vx_atS own ic cls names, w.before args s = true)
    (hgood : ∀ w ∈ Cond.classLink own ik cls :: Cond.initialized cls :: vx_atS own ic cls names, vx_ot w = true)
    (hU : vx_Zq Bundle.tN "UNASSIGNED_STACK" Bundle.steD A s s.heap) (hN : vx_Zq Bundle.tN "SUPPRESSED_SENTINEL" Bundle.listD A s s.heap) (hS : va_S A s.heap H locs) (hsize : ls.size = c.maxLocals)
    (d0 : decode cc pc = .ok (.new ik, 3)) (d3 : decode cc (pc + 3) = .ok (.dup, 1)) (d4 : decode cc (pc + 4) = .ok (.ldc is, 2)) (d6 : decode cc (pc + 6) = .ok (.invokespecial ic, 3)) (d9 : decode cc (pc + 9) = .ok (.athrow, 1))
    (hout : ∀ x ∈ c.exceptionTable.toList, covers x (pc + 9) = false)
    (hRframes : names.length + 3 < R.frames) (hRlocals : (rest.map fun v => v.category).sum + (13 * (names.length + 1) + 43) ≤ R.locals) (hRcells : cells + 1 ≤ R.cells) (hRslots : slots + 6 ≤ R.slots) (hlocks : meth.locks = false)
    (hx : ∀ t : State, s.vm.Alike t.vm → H.size ≤ t.heap.size → (∀ q : Nat, q < H.size → t.heap[q]? = H[q]?) → XC cls s t)
    (hf : ∀ z ∈ locs, free z.base) (hc : cells + 1 ≤ mc) (hs : slots + 6 ≤ ms) :
    W p l e R s m args below meth c H locs cells slots (vx_MQ below Qc XC args s mc ms free) (F0 m pc ls rest) := by
  intro T hT X
  have htr : e.platform.stackTraces = false := (show e.platform.stackTraces = l.stackTraces by rw [X.admits.platform]).trans hl
  have Y := vx_rebase X (R' := { frames := R.frames, locals := R.locals, cells := 1, slots := 6 }) (Nat.le_refl _) (Nat.le_refl _) hRcells hRslots
  obtain ⟨s', hA⟩ : ∃ z, z = (T.setVm s.vm).setFrames (.invoking m args :: below) := ⟨_, rfl⟩
  rw [← hA] at Y
  have hvm : s'.vm = s.vm := by rw [hA]; rfl
  have hhp : s'.heap = H := by rw [hA]; exact hT
  have hW0 : s.WarmedH s'.vm := by rw [hvm]; exact State.WarmedH.refl s
  have hat' : ∀ w ∈ vx_atS own ic cls names, w.before args s' = true := fun w hw => vx_ot_at hW0 hvm.symm (hgood w (List.mem_cons_of_mem _ (List.mem_cons_of_mem _ hw))) (hat w hw)
  have hk' : (Cond.classLink own ik cls).before args s' = true := vx_ot_at hW0 hvm.symm (hgood _ List.mem_cons_self) hk
  have hini' : (Cond.initialized cls).before args s' = true := vx_ot_at hW0 hvm.symm (hgood _ (List.mem_cons_of_mem _ List.mem_cons_self)) hini
  have hU' : vx_Zq Bundle.tN "UNASSIGNED_STACK" Bundle.steD A s' s'.heap := by rw [hhp]; exact vx_Zq.moved hW0.alike (hU.kept hS.2.1)
  have hN' : vx_Zq Bundle.tN "SUPPRESSED_SENTINEL" Bundle.listD A s' s'.heap := by rw [hhp]; exact vx_Zq.moved hW0.alike (hN.kept hS.2.1)
  have h : ∀ w ∈ Bundle.ownAtoms own ic cls names, w.before args s' = true := vx_own hat' (vx_isRefq hU'.1) (vx_isRefq hN'.1) hU'.2.word hN'.2.word
  have hown' : s'.vm.findClass own = some m.cls := by rw [hvm]; exact hown
  have hins : (Cond.instantiable cls 6).before args s' = true := h _ (by simp [Bundle.ownAtoms])
  obtain ⟨vm₁, cX, kX, hfX, hkX, -, -, X₁, st1⟩ := Y.newCold hexec (own := own) (C := cls) (index := ik) (n := 6) hown' hk' hins hini'
    (g := F0 m pc ls rest) rfl (by rw [hb]; exact d0) (Nat.le_refl _) (Nat.le_refl _)
  generalize hT1 : (T.setVm vm₁).pushCell { cls := cX, slots := kX.instanceTypes.map defaultValue, vm := .none } = T1 at X₁ st1
  have hcat : (Value.ref T.heap.size).category = 1 := rfl
  have hcellA : T1.heap[T.heap.size]? = some (freshCell cX kX) := by rw [← hT1]; exact State.heap_pushCell_size _ _
  have d3' : decode c.code (pc + 3) = .ok (.dup, 1) := by rw [hb]; exact d3
  have d4' : decode c.code (pc + 4) = .ok (.ldc is, 2) := by rw [hb]; exact d4
  have hstr' : vk_R own is text sa s' := vk_R.warm hW0 hstr
  obtain ⟨U, hsteps, hrun, hend, hW, hsame, ce, hce, hO⟩ := X₁.ctorThrowS hexec htr (own := own) (cls := cls) (names := names) (ic := ic) hown' hcls hnames h (fun x hx => nomatch hx) hfX hkX hcellA (by rw [hhp, hT]; exact Nat.le_refl _) (msg := .ref sa) rfl
    (g := { method := m, pc := pc + 6, locals := ls, stack := .ref sa :: .ref T.heap.size :: .ref T.heap.size :: rest, locked := none }) rfl hsize rfl rfl (rest := rest) rfl
    (by rw [hb]; exact d6) (by rw [hb]; exact d9) hout hRframes (by simp only [List.map_cons, List.sum_cons, hcat]; omega) hlocks
  obtain ⟨f1, f2⟩ := vx_frame hsame
  rw [hhp] at f1 f2
  have hWs : s.WarmedH U.vm := State.WarmedH.trans hW0 hW
  have hcl : s.vm.findClass cls = some ce.cls := by
    have h9 := hO.cls
    rw [hvm] at h9
    exact h9
  have hall : s.sameButNew ({ U with vm := s.vm } : State) locs mc ms := by
    subst hA
    obtain ⟨e1, e2⟩ := hsame
    rw [State.setFrames_setFrames] at e1
    have h2 : (T.setVm s.vm).sameButNew ({ U with vm := s.vm } : State) [] (0 + 1) (0 + 6) := ⟨e1, e2⟩
    have h3 := X.same.trans h2
    rw [List.append_nil] at h3
    exact h3.mono hc hs
  refine ⟨U, ?_, .threw T.heap.size, hrun, hend, Or.inr ⟨T.heap.size, rfl, cls, ce, locs, hx U hWs.alike f1 (fun q hq => f2 q hq (fun z hz => nomatch hz)), hce, hO.vm, hcl, hWs, hall, hf⟩⟩
  refine st1 _ ?_
  show Steps p.tables e below (T1.setTop { method := m, pc := pc + 3, locals := ls, stack := .ref T.heap.size :: rest, locked := none }) _
  jvm_step X₁.here [X₁.here.top, hexec, d3', Value.category]
  exact X₁.ldcString hexec (own := own) (text := text) (index := is) (a := sa) hown' hstr'.1 hstr'.2
    (g := { method := m, pc := pc + 4, locals := ls, stack := .ref T.heap.size :: .ref T.heap.size :: rest, locked := none }) rfl d4' _ hsteps
/-- 'throw new E("text")', the text by a wide index -/
theorem vx_throwSW {cc : ByteArray} {pc : Nat} (hexec : p.tables.exec = Jvm.exec) (hb : c.code = cc) (hl : l.stackTraces = false) {own cls text : String} {names : List String} {ik is ic mc ms sa : Nat} {A : Nat → Prop}
    (hown : s.vm.findClass own = some m.cls) (hcls : Bundle.fit cls = true) (hnames : ∀ n ∈ names, Bundle.fit n = true)
    (hk : (Cond.classLink own ik cls).before args s = true) (hini : (Cond.initialized cls).before args s = true) (hstr : vk_R own is text sa s) (hat : ∀ w ∈ vx_atS own ic cls names, w.before args s = true)
    (hgood : ∀ w ∈ Cond.classLink own ik cls :: Cond.initialized cls :: vx_atS own ic cls names, vx_ot w = true)
    (hU : vx_Zq Bundle.tN "UNASSIGNED_STACK" Bundle.steD A s s.heap) (hN : vx_Zq Bundle.tN "SUPPRESSED_SENTINEL" Bundle.listD A s s.heap) (hS : va_S A s.heap H locs) (hsize : ls.size = c.maxLocals)
    (d0 : decode cc pc = .ok (.new ik, 3)) (d3 : decode cc (pc + 3) = .ok (.dup, 1)) (d4 : decode cc (pc + 4) = .ok (.ldc_w is, 3)) (d7 : decode cc (pc + 7) = .ok (.invokespecial ic, 3)) (d10 : decode cc (pc + 10) = .ok (.athrow, 1))
    (hout : ∀ x ∈ c.exceptionTable.toList, covers x (pc + 10) = false)
    (hRframes : names.length + 3 < R.frames) (hRlocals : (rest.map fun v => v.category).sum + (13 * (names.length + 1) + 43) ≤ R.locals) (hRcells : cells + 1 ≤ R.cells) (hRslots : slots + 6 ≤ R.slots) (hlocks : meth.locks = false)
    (hx : ∀ t : State, s.vm.Alike t.vm → H.size ≤ t.heap.size → (∀ q : Nat, q < H.size → t.heap[q]? = H[q]?) → XC cls s t)
    (hf : ∀ z ∈ locs, free z.base) (hc : cells + 1 ≤ mc) (hs : slots + 6 ≤ ms) :
    W p l e R s m args below meth c H locs cells slots (vx_MQ below Qc XC args s mc ms free) (F0 m pc ls rest) := by
  intro T hT X
  have htr : e.platform.stackTraces = false := (show e.platform.stackTraces = l.stackTraces by rw [X.admits.platform]).trans hl
  have Y := vx_rebase X (R' := { frames := R.frames, locals := R.locals, cells := 1, slots := 6 }) (Nat.le_refl _) (Nat.le_refl _) hRcells hRslots
  obtain ⟨s', hA⟩ : ∃ z, z = (T.setVm s.vm).setFrames (.invoking m args :: below) := ⟨_, rfl⟩
  rw [← hA] at Y
  have hvm : s'.vm = s.vm := by rw [hA]; rfl
  have hhp : s'.heap = H := by rw [hA]; exact hT
  have hW0 : s.WarmedH s'.vm := by rw [hvm]; exact State.WarmedH.refl s
  have hat' : ∀ w ∈ vx_atS own ic cls names, w.before args s' = true := fun w hw => vx_ot_at hW0 hvm.symm (hgood w (List.mem_cons_of_mem _ (List.mem_cons_of_mem _ hw))) (hat w hw)
  have hk' : (Cond.classLink own ik cls).before args s' = true := vx_ot_at hW0 hvm.symm (hgood _ List.mem_cons_self) hk
  have hini' : (Cond.initialized cls).before args s' = true := vx_ot_at hW0 hvm.symm (hgood _ (List.mem_cons_of_mem _ List.mem_cons_self)) hini
  have hU' : vx_Zq Bundle.tN "UNASSIGNED_STACK" Bundle.steD A s' s'.heap := by rw [hhp]; exact vx_Zq.moved hW0.alike (hU.kept hS.2.1)
  have hN' : vx_Zq Bundle.tN "SUPPRESSED_SENTINEL" Bundle.listD A s' s'.heap := by rw [hhp]; exact vx_Zq.moved hW0.alike (hN.kept hS.2.1)
  have h : ∀ w ∈ Bundle.ownAtoms own ic cls names, w.before args s' = true := vx_own hat' (vx_isRefq hU'.1) (vx_isRefq hN'.1) hU'.2.word hN'.2.word
  have hown' : s'.vm.findClass own = some m.cls := by rw [hvm]; exact hown
  have hins : (Cond.instantiable cls 6).before args s' = true := h _ (by simp [Bundle.ownAtoms])
  obtain ⟨vm₁, cX, kX, hfX, hkX, -, -, X₁, st1⟩ := Y.newCold hexec (own := own) (C := cls) (index := ik) (n := 6) hown' hk' hins hini'
    (g := F0 m pc ls rest) rfl (by rw [hb]; exact d0) (Nat.le_refl _) (Nat.le_refl _)
  generalize hT1 : (T.setVm vm₁).pushCell { cls := cX, slots := kX.instanceTypes.map defaultValue, vm := .none } = T1 at X₁ st1
  have hcat : (Value.ref T.heap.size).category = 1 := rfl
  have hcellA : T1.heap[T.heap.size]? = some (freshCell cX kX) := by rw [← hT1]; exact State.heap_pushCell_size _ _
  have d3' : decode c.code (pc + 3) = .ok (.dup, 1) := by rw [hb]; exact d3
  have d4' : decode c.code (pc + 4) = .ok (.ldc_w is, 3) := by rw [hb]; exact d4
  have hstr' : vk_R own is text sa s' := vk_R.warm hW0 hstr
  obtain ⟨U, hsteps, hrun, hend, hW, hsame, ce, hce, hO⟩ := X₁.ctorThrowS hexec htr (own := own) (cls := cls) (names := names) (ic := ic) hown' hcls hnames h (fun x hx => nomatch hx) hfX hkX hcellA (by rw [hhp, hT]; exact Nat.le_refl _) (msg := .ref sa) rfl
    (g := { method := m, pc := pc + 7, locals := ls, stack := .ref sa :: .ref T.heap.size :: .ref T.heap.size :: rest, locked := none }) rfl hsize rfl rfl (rest := rest) rfl
    (by rw [hb]; exact d7) (by rw [hb]; exact d10) hout hRframes (by simp only [List.map_cons, List.sum_cons, hcat]; omega) hlocks
  obtain ⟨f1, f2⟩ := vx_frame hsame
  rw [hhp] at f1 f2
  have hWs : s.WarmedH U.vm := State.WarmedH.trans hW0 hW
  have hcl : s.vm.findClass cls = some ce.cls := by
    have h9 := hO.cls
    rw [hvm] at h9
    exact h9
  have hall : s.sameButNew ({ U with vm := s.vm } : State) locs mc ms := by
    subst hA
    obtain ⟨e1, e2⟩ := hsame
    rw [State.setFrames_setFrames] at e1
    have h2 : (T.setVm s.vm).sameButNew ({ U with vm := s.vm } : State) [] (0 + 1) (0 + 6) := ⟨e1, e2⟩
    have h3 := X.same.trans h2
    rw [List.append_nil] at h3
    exact h3.mono hc hs
  refine ⟨U, ?_, .threw T.heap.size, hrun, hend, Or.inr ⟨T.heap.size, rfl, cls, ce, locs, hx U hWs.alike f1 (fun q hq => f2 q hq (fun z hz => nomatch hz)), hce, hO.vm, hcl, hWs, hall, hf⟩⟩
  refine st1 _ ?_
  show Steps p.tables e below (T1.setTop { method := m, pc := pc + 3, locals := ls, stack := .ref T.heap.size :: rest, locked := none }) _
  jvm_step X₁.here [X₁.here.top, hexec, d3', Value.category]
  exact X₁.ldcStringW hexec (own := own) (text := text) (index := is) (a := sa) hown' hstr'.1 hstr'.2
    (g := { method := m, pc := pc + 4, locals := ls, stack := .ref T.heap.size :: .ref T.heap.size :: rest, locked := none }) rfl d4' _ hsteps
end Ends
section Bodies
variable {l : Launch}
theorem vx_ofW {y : MethodName} {ws ws' : List Cond} {rm : Room} {Pc : Array Value → State → Prop} {Qc : Array Value → State → Outcome → State → Prop} {XC : String → State → State → Prop} {mc ms : Nat} {free : Addr → Prop} {cc : ByteArray} {maxL : Nat} {ret : Option FieldType}
    (hy : plainName y.cls = true) (hw : ws = Cond.code y cc maxL ret :: ws')
    (body : ∀ p e s m args below meth c s₁, BodyLoose p l y (headSpec ws rm) cc maxL ret e s m args below meth c s₁ → c.maxLocals = maxL → (∀ x ∈ c.exceptionTable.toList, False) → Pc args s →
      W p l e (headSpec ws rm).room s m args below meth c s.heap [] 0 0 (vx_MQ below Qc XC args s mc ms free) (entryFrame m args maxL)) : vx_Met l y ws rm Pc Qc XC mc ms free := by
  refine MetFree.of_bodyS (code := cc) (maxLocals := maxL) (ret := ret) hy ?_ ?_
  · intro args s m h hn
    obtain ⟨meth, c, h1, h2, h3, h4, h5, h6, -, -⟩ := Cond.code_spec hn (atoms_spec (ws := ws) h _ (by rw [hw]; exact List.mem_cons_self))
    exact ⟨meth, c, h1, h2, h3, h4, h5, h6⟩
  · intro p e s m args below meth c s₁ B hml hP _
    have hh0 : s₁.heap = s.heap := by rw [B.state]; rfl
    have ht : ∀ x ∈ c.exceptionTable.toList, False := by
      obtain ⟨meth9, c9, h1, h2, -, -, -, -, h7, -⟩ := Cond.code_spec B.named (atoms_spec (ws := ws) B.pre _ (by rw [hw]; exact List.mem_cons_self))
      cases Option.some.inj (h1.symm.trans B.method)
      cases Option.some.inj (h2.symm.trans (Stand.of_body B).code)
      intro x hx
      rw [Array.isEmpty_iff.mp h7] at hx
      cases hx
    obtain ⟨t, a1, o, b1, b2, b3⟩ := body p e s m args below meth c s₁ B hml ht hP s₁ hh0 (Stand.of_body B)
    exact ⟨t, o, a1, b1, b2, b3⟩
/-- the table of a body with handlers -/
theorem vx_table {p : Program} {x y : MethodName} {S : Spec} {cc bytes : ByteArray} {maxL maxL' : Nat} {ret ret' : Option FieldType} {e : Env} {s s₁ : State} {m : MethodId} {args : Array Value} {below : List Frame} {meth : Method} {c : Code} {hh : List (Nat × Nat × Nat × Nat)}
    (B : BodyLoose p l y S cc maxL ret e s m args below meth c s₁) (h : (Cond.codeWith y bytes maxL' ret' hh).before args s = true) : c.exceptionTable.toList = tableOf hh := by
  obtain ⟨m9, meth9, c9, hn9, h1, h2, -, -, h6, -⟩ := Cond.codeWith_spec h
  cases Option.some.inj (hn9.symm.trans B.named)
  cases Option.some.inj (h1.symm.trans B.method)
  cases Option.some.inj (h2.symm.trans (Stand.of_body B).code)
  rw [← h6, table_eq]
end Bodies
end VXA
/-! ===== END ===== -/
/-! ===== BEGIN a static call of a method with an exception table ===== -/
section VXS
variable {p : Program} {l : Launch} {e : Env} {R : Room} {s : State} {m : MethodId} {args : Array Value} {below : List Frame} {meth : Method} {c : Code} {T : State} {H : Heap} {locs : List Loc} {cells slots : Nat}
abbrev vx_CSW (R : Room) (s : State) (args : Array Value) (own : String) (index : Nat) (y : MethodName) (bytes : ByteArray) (maxL : Nat) (ret : Option FieldType) (hh : List (Nat × Nat × Nat × Nat)) (ws : List Cond) (rm : Room) (mc ms n : Nat) : Prop :=
  (rm.cells = mc ∧ rm.slots = ms ∧ rm.frames + 1 ≤ R.frames ∧ 8 + (maxL + 11) + rm.locals ≤ R.locals ∧ (∀ w ∈ ws, ∀ (a' : Array Value) (U : State), s.WarmedH U.vm → w.before a' U = true) ∧ Cond.codeWith y bytes maxL ret hh ∈ ws) ∧
  (Cond.codeWith y bytes maxL ret hh).before args s = true ∧ (Cond.initialized y.cls).before args s = true ∧ (y.cls ≠ "java/lang/invoke/MethodHandle" ∧ y.cls ≠ "java/lang/invoke/VarHandle") ∧
  (∀ sig, parseMethodDescriptor y.desc = some sig → n = sig.parameters.length) ∧ (Cond.methodLink own index y).before args s = true ∧ (Cond.static y).before args s = true
theorem vx_cwSW {own : String} {index maxL mc ms : Nat} {y : MethodName} {bytes : ByteArray} {ret : Option FieldType} {hh : List (Nat × Nat × Nat × Nat)} {Ts ws ws' : List Cond} {rm : Room} (n : Nat) (ht : ∀ w ∈ Ts, w.before args s = true) (hT : GoodIn Ts (va_wsS own index y ws)) (hw : ws = Cond.codeWith y bytes maxL ret hh :: ws') (hrc : rm.cells = mc) (hrs : rm.slots = ms)
    (hd : y.cls ≠ "java/lang/invoke/MethodHandle" ∧ y.cls ≠ "java/lang/invoke/VarHandle" ∧ (parseMethodDescriptor y.desc).map (fun d => d.parameters.length) = some n) (hR : rm.frames + 1 ≤ R.frames ∧ 8 + (maxL + 11) + rm.locals ≤ R.locals) :
    vx_CSW R s args own index y bytes maxL ret hh ws rm mc ms n := by
  have ok : ∀ w ∈ va_wsS own index y ws, w.before args s = true := fun w h => ht w (hT w h).1
  have hG : GoodIn Ts ws := fun w h => hT w (by unfold va_wsS; exact List.mem_append_right _ h)
  have hc : Cond.codeWith y bytes maxL ret hh ∈ ws := by rw [hw]; exact List.mem_cons_self
  refine ⟨⟨hrc, hrs, hR.1, hR.2, pay_in ht hG, hc⟩, ht _ (hG _ hc).1, ok _ (by simp [va_wsS]), ⟨hd.1, hd.2.1⟩, fun sig h => ?_, ok _ (by simp [va_wsS]), ok _ (by simp [va_wsS])⟩
  have h2 := hd.2.2
  rw [h] at h2
  exact (Option.some.inj h2).symm
theorem vx_callSW (X : Stand p l e R s m args below meth c T locs cells slots) (hexec : p.tables.exec = Jvm.exec) {own : String} {index : Nat} {y : MethodName} {bytes : ByteArray} {maxL : Nat} {ret : Option FieldType} {hh : List (Nat × Nat × Nat × Nat)}
    (hown : s.vm.findClass own = some m.cls) (hlink : (Cond.methodLink own index y).before args s = true) (hstat : (Cond.static y).before args s = true) (hinit : (Cond.initialized y.cls).before args s = true)
    (hcode : (Cond.codeWith y bytes maxL ret hh).before args s = true) (hy : y.cls ≠ "java/lang/invoke/MethodHandle" ∧ y.cls ≠ "java/lang/invoke/VarHandle")
    {W9 : Nat} {Pre : Pt → Array Value → Prop} {Post : Pt → Array Value → Option Value → Pt → Prop} (hK : Back l R p e below s args y 3 W9 Pre Post)
    {g : JFrame} (hg : g.method = m) (hsize : g.locals.size = c.maxLocals) {argsL rest : List Value} (hlen : ∀ sig, parseMethodDescriptor y.desc = some sig → argsL.length = sig.parameters.length)
    (hstack : g.stack = argsL.reverse ++ rest) (hW : 2 * g.monitorRoom + (rest.map fun v => v.category).sum ≤ W9) (hdg : decode c.code g.pc = .ok (.invokestatic index, 3))
    (hpre : ∀ vm₁, s.WarmedH vm₁ → Pre ⟨T.setVm vm₁, locs, cells, slots⟩ argsL.toArray) :
    ∃ (v : Option Value) (vm₁ : Vm) (B : Pt), s.WarmedH vm₁ ∧ Stand p l e R s m args below meth c B.U B.locs B.cells B.slots ∧ Post ⟨T.setVm vm₁, locs, cells, slots⟩ argsL.toArray v B ∧
      ∀ target, Steps p.tables e below (B.U.setTop { g with pc := g.pc + 3, stack := v.toList ++ rest }) target → Steps p.tables e below (T.setTop g) target := by
  obtain ⟨mk, methM, cM, hnamed, hmethM, -, -, -, -, -, -, hsigM⟩ := Cond.codeWith_spec hcode
  have hstatic : methM.isStatic = true := Cond.static_spec hnamed hmethM hstat
  obtain ⟨kP, hkP, -⟩ := className_of_methodNamed hnamed
  have hinitP : kP.init = .initialized := Cond.initialized_spec (findClass_of_methodNamed hnamed) hkP hinit
  obtain ⟨vm₁, X₁, hstep₁⟩ := X.invokestatic hexec hown hlink hnamed hmethM hstatic hkP hinitP hy (g := g) hg (argsL := argsL) (rest := rest) (hlen _ hsigM) hstack hdg
  obtain ⟨v, B, X', hpost, hsteps⟩ := hK m meth c ⟨T.setVm vm₁, locs, cells, slots⟩ { g with stack := rest } (.invokestatic index) mk argsL.toArray X₁ hg hsize hdg hW (X₁.named hnamed) (hpre vm₁ X₁.warmed)
  exact ⟨v, vm₁, B, X₁.warmed, X', hpost, fun target h => hstep₁ _ fun acts => by rw [doInvoke_state]; exact hsteps.trans h⟩
theorem vx_runSW {y : MethodName} {bytes cc : ByteArray} {maxL nL mc ms n index : Nat} {ret : Option FieldType} {hh : List (Nat × Nat × Nat × Nat)} {ws : List Cond} {rm : Room} {Pc : Array Value → State → Prop} {Qc : Array Value → State → Outcome → State → Prop} {free : Addr → Prop} {Ts : List Cond} {own : String} {As rest : List Value} {g : JFrame}
    (S : CallFix p m c cc nL s args Ts own) (hM : Met l y ws rm Pc Qc mc ms free) (cw : vx_CSW R s args own index y bytes maxL ret hh ws rm mc ms n) (hp : PreS s H Pc As)
    (hg : g.method = m) (hn : As.length = n) (hsize : g.locals.size = nL) (hstack : g.stack = As.reverse ++ rest) (hW : 2 * g.monitorRoom + (rest.map fun v => v.category).sum ≤ 8) (hdg : decode cc g.pc = .ok (.invokestatic index, 3)) (hf : cells + mc ≤ R.cells ∧ slots + ms ≤ R.slots) :
    va_Run p l e R s m args below meth c H locs cells slots mc ms g rest (Qc As.toArray) (free) := by
  obtain ⟨⟨hrc, hrs, hfr, hlo, hws, hcw⟩, hcode, hini, hy, hlen, hl, hstt⟩ := cw
  have hK : Back l R p e below s args y 3 8 (PreOf R mc ms Pc) (PostOf Qc mc ms free) := va_backW (hh := hh) (bytes := bytes) (maxL := maxL) (ret := ret) hM hp.1 hrc hrs hfr hlo hws hcw (fun a' U hW => word_at hW (Or.inl (by first | rfl | simp [Cond.onTables, Cond.keeps, Cond.steady])) hini)
  obtain ⟨hx, hb, hml, ho, -⟩ := S
  intro T hT X
  obtain ⟨v, vm₁, ⟨U', l2, c2, s2⟩, hW₁, X', ⟨g', mk, t, L, e1, e2, hq, h1, hL, h2, h3⟩, st⟩ := vx_callSW X hx (hh := hh) (bytes := bytes) (maxL := maxL) (ret := ret) ho hl hstt hini hcode hy hK hg (hsize.trans hml.symm) (argsL := As) (rest := rest) (fun sig h => hn.trans (hlen sig h)) hstack hW (by rw [hb]; exact hdg)
    (fun vm₁ hW₁ => ⟨hf.1, hf.2, hp.2 (T.setVm vm₁) hT hW₁⟩)
  dsimp only [Pt.U, Pt.locs, Pt.cells, Pt.slots] at X' e1 e2 h1 h2 h3 st
  subst h1; subst h2; subst h3
  exact ⟨v, (T.setVm vm₁).calling g' mk As.toArray, t, U', L, hT, X', hL, e1, e2, hq, st⟩
/-- not caught here, past rows that name other classes: it goes on to the caller -/
theorem vx_outP {p : Program} {l : Launch} {e : Env} {R : Room} {s : State} {m : MethodId} {args : Array Value} {below : List Frame} {meth : Method} {c : Code} {H : Heap} {locs : List Loc} {cells slots : Nat} {free : Addr → Prop} {ls : Array Slot} {rest : List Value} {Qc : Array Value → State → Outcome → State → Prop} {XC : String → State → State → Prop}
    {pc : Nat} {own E : String} {ce : Cell} {q : Addr} {mc ms : Nat} (hown : s.vm.findClass own = some m.cls) (hlocks : meth.locks = false)
    (hpass : ∀ z ∈ c.exceptionTable.toList, covers z pc = false ∨ (z.catchType ≠ 0 ∧ ∃ nm : String, (Cond.classLink own z.catchType nm).before args s = true ∧ va_Nc E nm s)) (hcell : H[q]? = some ce) (hv : ce.vm = .none) (hcl : s.vm.findClass E = some ce.cls)
    (hx : ∀ t : State, t.heap = H → s.vm.Alike t.vm → XC E s t) (hf : ∀ z ∈ locs, free z.base) (hc : cells ≤ mc) (hs : slots ≤ ms) :
    vx_W p l e R s m args below meth c H locs cells slots (vx_MQ below Qc XC args s mc ms free) (F0 m pc ls rest) q := by
  intro T hT X
  have hpl : e.platform.magicAccessors = ({} : Platform).magicAccessors := by rw [X.admits.platform]
  obtain ⟨vm', hW', X', st⟩ := X.outThrough hlocks q (g := F0 m pc ls rest) rfl rfl rfl (cell := ce) (by rw [hT]; exact hcell) (by rw [hv]; rfl)
    (by obtain ⟨k9, h9, -⟩ := Vm.findClass_spec hcl; exact ⟨k9, h9⟩) (fun z hz => by
      rcases hpass z hz with h | ⟨hz0, nm, hl1, hn1⟩
      · exact Or.inl h
      · obtain ⟨c6, hc6, hcl6⟩ := Cond.classLink_spec hown hl1 e.platform hpl
        obtain ⟨a8, b8, h1, h2, h3⟩ := hn1
        cases Option.some.inj (h1.symm.trans hcl)
        cases Option.some.inj (h2.symm.trans hc6)
        exact Or.inr ⟨hz0, _, hcl6, h3⟩)
  obtain ⟨g₀, hfr⟩ := X'.frames_eq
  have hcell9 : ((T.setVm vm').setFrames (.throwing q :: below)).heap[q]? = some ce := by
    show T.heap[q]? = some ce
    rw [hT]; exact hcell
  have hend : Ended ((T.setVm vm').setFrames (.throwing q :: below)) below (.threw q) := State.frames_setFrames _ (State.cur_lt_of_frames hfr)
  refine ⟨(T.setVm vm').setFrames (.throwing q :: below), ?_, .threw q, X'.here.running, hend, Or.inr ⟨q, rfl, E, ce, locs, hx _ hT (X'.ends _).1.alike, hcell9, hv, hcl, (X'.ends _).1, (X'.ends _).2.mono hc hs, hf⟩⟩
  rw [X.pushThrowing_eq]
  exact st
/-- a thing of a world lies in the heap -/
theorem vx_lt {D : va_G} {cl : List vw_C} {ws : va_W} {H1 : Heap} (h : va_P D cl ws H1) {k : Nat} {q : Nat × va_E} (hk : ws[k]? = some q) : q.1 < H1.size := (h k q hk).lt
end VXS
/-! ===== END ===== -/
/-! ===== BEGIN methods with a table of their own: called by a name, returning or throwing ===== -/
section VXH
/-! vx_backW, vx_callVX, vx_callSX, vx_callVW, vx_runVW, vx_runVX, vx_runSX, vx_ofWH follow the same proofs as their sisters above (Free/Laws.lean, Shelf42/LK1.lean); vx_outP calls Shelf42/NT130.lean (outThrough). -/
section
variable {l : Launch} {R : Room} {p : Program} {e : Env} {below : List Frame} {s : State} {sargs : Array Value} {y : MethodName} {len W9 : Nat}
theorem vx_backW {ws : List Cond} {rm : Room} {Pc : Array Value → State → Prop} {Qc : Array Value → State → Outcome → State → Prop} {XC : String → State → State → Prop} {mc ms : Nat} {free : Addr → Prop} {bytes : ByteArray} {maxL : Nat} {ret : Option FieldType} {hh : List (Nat × Nat × Nat × Nat)}
    (hM : vx_Met l y ws rm Pc Qc XC mc ms free) (hblind : FrameBlind Pc) (hrc : rm.cells = mc) (hrs : rm.slots = ms)
    (hframes : rm.frames + 1 ≤ R.frames) (hlocals : W9 + (maxL + 11) + rm.locals ≤ R.locals)
    (hws : ∀ w ∈ ws, ∀ a' U, s.WarmedH U.vm → w.before a' U = true) (hcode : Cond.codeWith y bytes maxL ret hh ∈ ws) (hinit : ∀ a' U, s.WarmedH U.vm → (Cond.initialized y.cls).before a' U = true) :
    vx_Back l R p e below s sargs y len W9 (PreOf R mc ms Pc) (PostOf Qc mc ms free) (vx_Post XC mc ms free) := by
  intro m meth c A g ig mk a X hg hsize hdg hW hn hp
  have h1 : (headSpec ws rm).pre.before a A.U = true := atoms_intro fun w hw => hws w hw _ _ X.warmed
  have h2 : (Cond.codeWith y bytes maxL ret hh).before a A.U = true := hws _ hcode _ _ X.warmed
  have h3 : (Cond.initialized y.cls).before a A.U = true := hinit _ _ X.warmed
  have h4 : A.cells + (headSpec ws rm).room.cells ≤ R.cells := by rw [show (headSpec ws rm).room.cells = mc from hrc]; exact hp.1
  have h5 : A.slots + (headSpec ws rm).room.slots ≤ R.slots := by rw [show (headSpec ws rm).room.slots = ms from hrs]; exact hp.2.1
  have hPc : Pc a (A.U.calling g mk a) := hblind _ _ _ _ hp.2.2
  obtain ⟨U, Ls, c0, s0⟩ := A
  dsimp only [Pt.U, Pt.locs, Pt.cells, Pt.slots] at h1 h2 h3 h4 h5 X hn hPc ⊢
  obtain ⟨m9, methY, cY, hn9, hmY, hcY, -, hlY, -⟩ := Cond.codeWith_spec h2
  cases Option.some.inj (hn9.symm.trans hn)
  obtain ⟨kY, hkY, -⟩ := className_of_methodNamed hn
  have hinitY : kY.init = .initialized := Cond.initialized_spec (findClass_of_methodNamed hn) hkY h3
  have h : At U g.method c below := by rw [hg]; exact X.here
  have hlocals9 : W9 + (maxL + 11) + (headSpec ws rm).room.locals ≤ R.locals := hlocals
  have happ : (headSpec ws rm).appliesLoose y e.platform (U.calling g mk a) = true :=
    Spec.appliesLoose_calling (g := g) h hdg hn hkY hinitY
      (X.room_calling (g := g) (R' := (headSpec ws rm).room) hsize hmY hcY hframes (by rw [hlY]; omega) h4 h5) h1
  obtain ⟨mid, hmid⟩ := h.above
  have hfr : (U.setTop g).frames = (.java g :: mid) ++ below := by rw [State.frames_setTop' g h.top, hmid]; rfl
  obtain ⟨o, s₂, hsteps, -, hend, hq⟩ := Steps.callFree hM p X.admits X.cas X.clock (acts := []) hfr happ hPc trivial
  have hq' : vx_Q Qc XC mc ms free a (U.calling g mk a) o s₂ := hq
  rw [State.frames_setTop' g h.top] at hend
  obtain ⟨g₀, hg0⟩ := Option.isSome_iff_exists.mp h.top
  obtain ⟨r, hr⟩ := State.topJava?_eq_some.mp hg0
  have hr' : (({ U with heap := s₂.heap, slotsUsed := s₂.slotsUsed } : State).setVm s₂.vm).frames = .java g₀ :: r := hr
  rcases hq' with ⟨hqc, L, hfe, hL⟩ | ⟨q, rfl, E, ce, L, hx, hce, hcv, hcl, hW₂, hsm, hL⟩
  · obtain ⟨⟨v, rfl⟩, hW₂, e2, q2, q3, q4, q5, q6⟩ := id hfe
    have e3 : s₂ = ({ (U.calling g mk a).setFrames s₂.frames with heap := s₂.heap, slotsUsed := s₂.slotsUsed } : State).setVm s₂.vm := by
      have : s₂ = ({ s₂ with vm := (U.calling g mk a).vm } : State).setVm s₂.vm := rfl
      rw [e2] at this
      exact this
    obtain ⟨c₂, i₂, len₂, hc₂, hd₂, hf₂⟩ := hend
    have hW' : U.WarmedH s₂.vm := hW₂
    have hcc : c₂ = c := by
      have h1 : s₂.code? g.method = U.code? g.method := by
        rw [State.code?_eq, State.code?_eq, hW'.alike.method?]
      exact Option.some.inj (hc₂.symm.trans (h1.trans h.code))
    subst hcc
    have hlen : len₂ = len := by rw [hdg] at hd₂; cases hd₂; rfl
    subst hlen
    have hs₂ : s₂ = (({ U with heap := s₂.heap, slotsUsed := s₂.slotsUsed } : State).setVm s₂.vm).setTop { g with pc := g.pc + len₂, stack := v.toList ++ g.stack } := by
      refine e3.trans ?_
      rw [hf₂, State.calling_eq h.top, State.setFrames_setFrames, State.setTop_of_frames _ hr', hr]
      rfl
    have hsame : U.sameButNew ({ U with heap := s₂.heap, slotsUsed := s₂.slotsUsed } : State) L mc ms := by
      refine ⟨?_, q2, q3, q4, q5, q6⟩
      obtain ⟨t, ht, -⟩ := State.frames_cons hr
      show ({ U with heap := s₂.heap, slotsUsed := s₂.slotsUsed } : State) = { U.setFrames U.frames with heap := s₂.heap, slotsUsed := s₂.slotsUsed }
      rw [State.setFrames_self ht]
    subst hg
    refine Or.inl ⟨v, ⟨(({ U with heap := s₂.heap, slotsUsed := s₂.slotsUsed } : State).setVm s₂.vm), Ls ++ L, c0 + mc, s0 + ms⟩,
      ⟨X.admits, X.cas, X.clock, X.frames, X.room, X.hears, X.method, X.code, (X.here.setHeapUsed s₂.heap s₂.slotsUsed).setVm hW'.alike, X.tail, State.WarmedH.trans X.warmed hW', X.limits, X.bytes, X.same.trans (hsame.setVm s.vm)⟩,
      ⟨g, mk, s₂, L, rfl, rfl, hqc, rfl, hL, rfl, rfl⟩, ?_⟩
    show Steps p.tables e below _ ((({ U with heap := s₂.heap, slotsUsed := s₂.slotsUsed } : State).setVm s₂.vm).setTop { g with pc := g.pc + len₂, stack := v.toList ++ g.stack })
    rw [← hs₂]
    exact hsteps
  · obtain ⟨e2, q2, q3, q4, q5, q6⟩ := id hsm
    have e3 : s₂ = ({ (U.calling g mk a).setFrames s₂.frames with heap := s₂.heap, slotsUsed := s₂.slotsUsed } : State).setVm s₂.vm := by
      have : s₂ = ({ s₂ with vm := (U.calling g mk a).vm } : State).setVm s₂.vm := rfl
      rw [e2] at this
      exact this
    have hf₂ : s₂.frames = .throwing q :: .java g :: U.frames.tail := hend
    have hW' : U.WarmedH s₂.vm := hW₂
    have hs₂ : s₂ = ((({ U with heap := s₂.heap, slotsUsed := s₂.slotsUsed } : State).setVm s₂.vm).setTop g).pushFrame (.throwing q) := by
      refine e3.trans ?_
      rw [hf₂, State.calling_eq h.top, State.setFrames_setFrames, State.pushFrame, State.frames_setTop _ hr', State.setTop_of_frames _ hr', State.setFrames_setFrames, hr]
      rfl
    have hsame : U.sameButNew ({ U with heap := s₂.heap, slotsUsed := s₂.slotsUsed } : State) L mc ms := by
      refine ⟨?_, q2, q3, q4, q5, q6⟩
      obtain ⟨t, ht, -⟩ := State.frames_cons hr
      show ({ U with heap := s₂.heap, slotsUsed := s₂.slotsUsed } : State) = { U.setFrames U.frames with heap := s₂.heap, slotsUsed := s₂.slotsUsed }
      rw [State.setFrames_self ht]
    subst hg
    refine Or.inr ⟨q, ⟨(({ U with heap := s₂.heap, slotsUsed := s₂.slotsUsed } : State).setVm s₂.vm), Ls ++ L, c0 + mc, s0 + ms⟩,
      ⟨X.admits, X.cas, X.clock, X.frames, X.room, X.hears, X.method, X.code, (X.here.setHeapUsed s₂.heap s₂.slotsUsed).setVm hW'.alike, X.tail, State.WarmedH.trans X.warmed hW', X.limits, X.bytes, X.same.trans (hsame.setVm s.vm)⟩,
      ⟨g, mk, s₂, L, E, ce, rfl, rfl, hx, hce, hcv, hcl, rfl, hL, rfl, rfl⟩, ?_⟩
    show Steps p.tables e below _ (((({ U with heap := s₂.heap, slotsUsed := s₂.slotsUsed } : State).setVm s₂.vm).setTop g).pushFrame (.throwing q))
    rw [← hs₂]
    exact hsteps
end
variable {p : Program} {l : Launch} {e : Env} {R : Room} {s : State} {m : MethodId} {args : Array Value} {below : List Frame} {meth : Method} {c : Code} {T : State} {H : Heap} {locs : List Loc} {cells slots : Nat}
theorem vx_callVX (X : Stand p l e R s m args below meth c T locs cells slots) (hexec : p.tables.exec = Jvm.exec) {own C : String} {index : Nat} {y : MethodName} {bytes : ByteArray} {maxL : Nat} {ret : Option FieldType} {hh : List (Nat × Nat × Nat × Nat)}
    (hown : s.vm.findClass own = some m.cls) (hlink : (Cond.methodLink own index y).before args s = true) (hinst : (Cond.instanceMethod y).before args s = true) (hsel : (Cond.selects C y y).before args s = true)
    (hcode : (Cond.codeWith y bytes maxL ret hh).before args s = true) (hy : y.cls ≠ "java/lang/invoke/MethodHandle" ∧ y.cls ≠ "java/lang/invoke/VarHandle")
    {W9 : Nat} {Pre : Pt → Array Value → Prop} {Post : Pt → Array Value → Option Value → Pt → Prop} {PostX : Pt → Array Value → Addr → Pt → Prop} (hK : vx_Back l R p e below s args y 3 W9 Pre Post PostX)
    {b : Addr} {cellB : Cell} (hcell : T.heap[b]? = some cellB) (hobj : cellB.vm.isStatics = false) (hcls : s.vm.findClass C = some cellB.cls)
    {g : JFrame} (hg : g.method = m) (hsize : g.locals.size = c.maxLocals) {argsL rest : List Value} (hlen : ∀ sig, parseMethodDescriptor y.desc = some sig → argsL.length = sig.parameters.length)
    (hstack : g.stack = argsL.reverse ++ .ref b :: rest) (hW : 2 * g.monitorRoom + (rest.map fun v => v.category).sum ≤ W9) (hdg : decode c.code g.pc = .ok (.invokevirtual index, 3))
    (hpre : ∀ vm₁, s.WarmedH vm₁ → Pre ⟨T.setVm vm₁, locs, cells, slots⟩ (Value.ref b :: argsL).toArray) :
    (∃ (v : Option Value) (vm₁ : Vm) (B : Pt), s.WarmedH vm₁ ∧ Stand p l e R s m args below meth c B.U B.locs B.cells B.slots ∧ Post ⟨T.setVm vm₁, locs, cells, slots⟩ (Value.ref b :: argsL).toArray v B ∧
      ∀ target, Steps p.tables e below (B.U.setTop { g with pc := g.pc + 3, stack := v.toList ++ rest }) target → Steps p.tables e below (T.setTop g) target) ∨
    (∃ (q : Addr) (vm₁ : Vm) (B : Pt), s.WarmedH vm₁ ∧ Stand p l e R s m args below meth c B.U B.locs B.cells B.slots ∧ PostX ⟨T.setVm vm₁, locs, cells, slots⟩ (Value.ref b :: argsL).toArray q B ∧
      Steps p.tables e below (T.setTop g) ((B.U.setTop { g with stack := rest }).pushFrame (.throwing q))) := by
  obtain ⟨mk, methM, hnamed, hmethM, hstM, habM⟩ := Cond.instanceMethod_spec hinst
  obtain ⟨m8, methM', cM, hn8, hmethM', -, -, -, -, -, -, hsigM⟩ := Cond.codeWith_spec hcode
  cases Option.some.inj (hn8.symm.trans hnamed)
  cases hmethM.symm.trans hmethM'
  obtain ⟨c2, r2, m2, q1, q2, q3, q4, kP, hkP, hkPi⟩ := Cond.selects_spec hsel
  cases hcls.symm.trans q1
  cases (State.methodFound?_of_named hnamed hy).symm.trans q2
  cases hnamed.symm.trans q3
  have hselP : selectMethod e.platform s.vm cellB.cls mk = .method mk := by rw [Launch.admits_selectMethod X.admits]; exact q4
  obtain ⟨vm₁, X₁, hstep₁⟩ := X.invokevirtual hexec hown hlink hnamed hmethM hstM hkP hkPi hy (a := b) (cell := cellB) hcell
    (fun z h => by rw [h] at hobj; cases hobj) hselP hmethM habM hkP hkPi (g := g) hg (argsL := argsL) (rest := rest) (hlen _ hsigM) hstack hdg
  rcases hK m meth c ⟨T.setVm vm₁, locs, cells, slots⟩ { g with stack := rest } (.invokevirtual index) mk (Value.ref b :: argsL).toArray X₁ hg hsize hdg hW (X₁.named hnamed) (hpre vm₁ X₁.warmed) with ⟨v, B, X', hpost, hsteps⟩ | ⟨q, B, X', hpost, hsteps⟩
  · exact Or.inl ⟨v, vm₁, B, X₁.warmed, X', hpost, fun target h => hstep₁ _ fun acts => by rw [doInvoke_state]; exact hsteps.trans h⟩
  · exact Or.inr ⟨q, vm₁, B, X₁.warmed, X', hpost, hstep₁ _ fun acts => by rw [doInvoke_state]; exact hsteps⟩
theorem vx_callSX (X : Stand p l e R s m args below meth c T locs cells slots) (hexec : p.tables.exec = Jvm.exec) {own : String} {index : Nat} {y : MethodName} {bytes : ByteArray} {maxL : Nat} {ret : Option FieldType} {hh : List (Nat × Nat × Nat × Nat)}
    (hown : s.vm.findClass own = some m.cls) (hlink : (Cond.methodLink own index y).before args s = true) (hstat : (Cond.static y).before args s = true) (hinit : (Cond.initialized y.cls).before args s = true)
    (hcode : (Cond.codeWith y bytes maxL ret hh).before args s = true) (hy : y.cls ≠ "java/lang/invoke/MethodHandle" ∧ y.cls ≠ "java/lang/invoke/VarHandle")
    {W9 : Nat} {Pre : Pt → Array Value → Prop} {Post : Pt → Array Value → Option Value → Pt → Prop} {PostX : Pt → Array Value → Addr → Pt → Prop} (hK : vx_Back l R p e below s args y 3 W9 Pre Post PostX)
    {g : JFrame} (hg : g.method = m) (hsize : g.locals.size = c.maxLocals) {argsL rest : List Value} (hlen : ∀ sig, parseMethodDescriptor y.desc = some sig → argsL.length = sig.parameters.length)
    (hstack : g.stack = argsL.reverse ++ rest) (hW : 2 * g.monitorRoom + (rest.map fun v => v.category).sum ≤ W9) (hdg : decode c.code g.pc = .ok (.invokestatic index, 3))
    (hpre : ∀ vm₁, s.WarmedH vm₁ → Pre ⟨T.setVm vm₁, locs, cells, slots⟩ argsL.toArray) :
    (∃ (v : Option Value) (vm₁ : Vm) (B : Pt), s.WarmedH vm₁ ∧ Stand p l e R s m args below meth c B.U B.locs B.cells B.slots ∧ Post ⟨T.setVm vm₁, locs, cells, slots⟩ argsL.toArray v B ∧
      ∀ target, Steps p.tables e below (B.U.setTop { g with pc := g.pc + 3, stack := v.toList ++ rest }) target → Steps p.tables e below (T.setTop g) target) ∨
    (∃ (q : Addr) (vm₁ : Vm) (B : Pt), s.WarmedH vm₁ ∧ Stand p l e R s m args below meth c B.U B.locs B.cells B.slots ∧ PostX ⟨T.setVm vm₁, locs, cells, slots⟩ argsL.toArray q B ∧
      Steps p.tables e below (T.setTop g) ((B.U.setTop { g with stack := rest }).pushFrame (.throwing q))) := by
  obtain ⟨mk, methM, cM, hnamed, hmethM, -, -, -, -, -, -, hsigM⟩ := Cond.codeWith_spec hcode
  have hstatic : methM.isStatic = true := Cond.static_spec hnamed hmethM hstat
  obtain ⟨kP, hkP, -⟩ := className_of_methodNamed hnamed
  have hinitP : kP.init = .initialized := Cond.initialized_spec (findClass_of_methodNamed hnamed) hkP hinit
  obtain ⟨vm₁, X₁, hstep₁⟩ := X.invokestatic hexec hown hlink hnamed hmethM hstatic hkP hinitP hy (g := g) hg (argsL := argsL) (rest := rest) (hlen _ hsigM) hstack hdg
  rcases hK m meth c ⟨T.setVm vm₁, locs, cells, slots⟩ { g with stack := rest } (.invokestatic index) mk argsL.toArray X₁ hg hsize hdg hW (X₁.named hnamed) (hpre vm₁ X₁.warmed) with ⟨v, B, X', hpost, hsteps⟩ | ⟨q, B, X', hpost, hsteps⟩
  · exact Or.inl ⟨v, vm₁, B, X₁.warmed, X', hpost, fun target h => hstep₁ _ fun acts => by rw [doInvoke_state]; exact hsteps.trans h⟩
  · exact Or.inr ⟨q, vm₁, B, X₁.warmed, X', hpost, hstep₁ _ fun acts => by rw [doInvoke_state]; exact hsteps⟩
theorem vx_callVW (X : Stand p l e R s m args below meth c T locs cells slots) (hexec : p.tables.exec = Jvm.exec) {own C : String} {index : Nat} {y : MethodName} {bytes : ByteArray} {maxL : Nat} {ret : Option FieldType} {hh : List (Nat × Nat × Nat × Nat)}
    (hown : s.vm.findClass own = some m.cls) (hlink : (Cond.methodLink own index y).before args s = true) (hinst : (Cond.instanceMethod y).before args s = true) (hsel : (Cond.selects C y y).before args s = true)
    (hcode : (Cond.codeWith y bytes maxL ret hh).before args s = true) (hy : y.cls ≠ "java/lang/invoke/MethodHandle" ∧ y.cls ≠ "java/lang/invoke/VarHandle")
    {W9 : Nat} {Pre : Pt → Array Value → Prop} {Post : Pt → Array Value → Option Value → Pt → Prop} (hK : Back l R p e below s args y 3 W9 Pre Post)
    {b : Addr} {cellB : Cell} (hcell : T.heap[b]? = some cellB) (hobj : cellB.vm.isStatics = false) (hcls : s.vm.findClass C = some cellB.cls)
    {g : JFrame} (hg : g.method = m) (hsize : g.locals.size = c.maxLocals) {argsL rest : List Value} (hlen : ∀ sig, parseMethodDescriptor y.desc = some sig → argsL.length = sig.parameters.length)
    (hstack : g.stack = argsL.reverse ++ .ref b :: rest) (hW : 2 * g.monitorRoom + (rest.map fun v => v.category).sum ≤ W9) (hdg : decode c.code g.pc = .ok (.invokevirtual index, 3))
    (hpre : ∀ vm₁, s.WarmedH vm₁ → Pre ⟨T.setVm vm₁, locs, cells, slots⟩ (Value.ref b :: argsL).toArray) :
    ∃ (v : Option Value) (vm₁ : Vm) (B : Pt), s.WarmedH vm₁ ∧ Stand p l e R s m args below meth c B.U B.locs B.cells B.slots ∧ Post ⟨T.setVm vm₁, locs, cells, slots⟩ (Value.ref b :: argsL).toArray v B ∧
      ∀ target, Steps p.tables e below (B.U.setTop { g with pc := g.pc + 3, stack := v.toList ++ rest }) target → Steps p.tables e below (T.setTop g) target := by
  obtain ⟨mk, methM, hnamed, hmethM, hstM, habM⟩ := Cond.instanceMethod_spec hinst
  obtain ⟨m8, methM', cM, hn8, hmethM', -, -, -, -, -, -, hsigM⟩ := Cond.codeWith_spec hcode
  cases Option.some.inj (hn8.symm.trans hnamed)
  cases hmethM.symm.trans hmethM'
  obtain ⟨c2, r2, m2, q1, q2, q3, q4, kP, hkP, hkPi⟩ := Cond.selects_spec hsel
  cases hcls.symm.trans q1
  cases (State.methodFound?_of_named hnamed hy).symm.trans q2
  cases hnamed.symm.trans q3
  have hselP : selectMethod e.platform s.vm cellB.cls mk = .method mk := by rw [Launch.admits_selectMethod X.admits]; exact q4
  obtain ⟨vm₁, X₁, hstep₁⟩ := X.invokevirtual hexec hown hlink hnamed hmethM hstM hkP hkPi hy (a := b) (cell := cellB) hcell
    (fun z h => by rw [h] at hobj; cases hobj) hselP hmethM habM hkP hkPi (g := g) hg (argsL := argsL) (rest := rest) (hlen _ hsigM) hstack hdg
  obtain ⟨v, B, X', hpost, hsteps⟩ := hK m meth c ⟨T.setVm vm₁, locs, cells, slots⟩ { g with stack := rest } (.invokevirtual index) mk (Value.ref b :: argsL).toArray X₁ hg hsize hdg hW (X₁.named hnamed) (hpre vm₁ X₁.warmed)
  exact ⟨v, vm₁, B, X₁.warmed, X', hpost, fun target h => hstep₁ _ fun acts => by rw [doInvoke_state]; exact hsteps.trans h⟩
abbrev vx_CVW (R : Room) (s : State) (args : Array Value) (own C : String) (index : Nat) (y : MethodName) (bytes : ByteArray) (maxL : Nat) (ret : Option FieldType) (hh : List (Nat × Nat × Nat × Nat)) (ws : List Cond) (rm : Room) (mc ms n : Nat) : Prop :=
  (rm.cells = mc ∧ rm.slots = ms ∧ rm.frames + 1 ≤ R.frames ∧ 8 + (maxL + 11) + rm.locals ≤ R.locals ∧ (∀ w ∈ ws, ∀ (a' : Array Value) (U : State), s.WarmedH U.vm → w.before a' U = true) ∧ Cond.codeWith y bytes maxL ret hh ∈ ws) ∧
  (Cond.codeWith y bytes maxL ret hh).before args s = true ∧ (Cond.initialized y.cls).before args s = true ∧ (y.cls ≠ "java/lang/invoke/MethodHandle" ∧ y.cls ≠ "java/lang/invoke/VarHandle") ∧
  (∀ sig, parseMethodDescriptor y.desc = some sig → n = sig.parameters.length) ∧ (Cond.methodLink own index y).before args s = true ∧ (Cond.instanceMethod y).before args s = true ∧ (Cond.selects C y y).before args s = true
theorem vx_cwVW {own C : String} {index maxL mc ms : Nat} {y : MethodName} {bytes : ByteArray} {ret : Option FieldType} {hh : List (Nat × Nat × Nat × Nat)} {Ts ws ws' : List Cond} {rm : Room} (n : Nat) (ht : ∀ w ∈ Ts, w.before args s = true) (hT : GoodIn Ts (wsV own index C y ws)) (hw : ws = Cond.codeWith y bytes maxL ret hh :: ws') (hrc : rm.cells = mc) (hrs : rm.slots = ms)
    (hd : y.cls = C ∧ y.cls ≠ "java/lang/invoke/MethodHandle" ∧ y.cls ≠ "java/lang/invoke/VarHandle" ∧ (parseMethodDescriptor y.desc).map (fun d => d.parameters.length) = some n) (hR : rm.frames + 1 ≤ R.frames ∧ 8 + (maxL + 11) + rm.locals ≤ R.locals) :
    vx_CVW R s args own C index y bytes maxL ret hh ws rm mc ms n := by
  obtain ⟨hC, hd⟩ := hd
  subst hC
  have ok : ∀ w ∈ wsV own index y.cls y ws, w.before args s = true := fun w h => ht w (hT w h).1
  have hG : GoodIn Ts ws := fun w h => hT w (by unfold wsV; exact List.mem_append_right _ h)
  have hc : Cond.codeWith y bytes maxL ret hh ∈ ws := by rw [hw]; exact List.mem_cons_self
  refine ⟨⟨hrc, hrs, hR.1, hR.2, pay_in ht hG, hc⟩, ht _ (hG _ hc).1, ok _ (by simp [wsV]), ⟨hd.1, hd.2.1⟩, fun sig h => ?_, ok _ (by simp [wsV]), ok _ (by simp [wsV]), ok _ (by simp [wsV])⟩
  have h2 := hd.2.2
  rw [h] at h2
  exact (Option.some.inj h2).symm
theorem vx_runVW {y : MethodName} {bytes cc : ByteArray} {maxL nL mc ms n index : Nat} {ret : Option FieldType} {hh : List (Nat × Nat × Nat × Nat)} {ws : List Cond} {rm : Room} {Pc : Array Value → State → Prop} {Qc : Array Value → State → Outcome → State → Prop} {free : Addr → Prop} {Ts : List Cond} {own C : String} {b : Addr} {As rest : List Value} {g : JFrame}
    (S : CallFix p m c cc nL s args Ts own) (hM : Met l y ws rm Pc Qc mc ms free) (cw : vx_CVW R s args own C index y bytes maxL ret hh ws rm mc ms n) (hp : PreV s H C b Pc As)
    (hg : g.method = m) (hn : As.length = n) (hsize : g.locals.size = nL) (hstack : g.stack = As.reverse ++ .ref b :: rest) (hW : 2 * g.monitorRoom + (rest.map fun v => v.category).sum ≤ 8) (hdg : decode cc g.pc = .ok (.invokevirtual index, 3)) (hf : cells + mc ≤ R.cells ∧ slots + ms ≤ R.slots) :
    va_Run p l e R s m args below meth c H locs cells slots mc ms g rest (Qc (Value.ref b :: As).toArray) free := by
  obtain ⟨⟨hrc, hrs, hfr, hlo, hws, hcw⟩, hcode, hini, hy, hlen, hl, hin, hse⟩ := cw
  have hK : Back l R p e below s args y 3 8 (PreOf R mc ms Pc) (PostOf Qc mc ms free) := va_backW (hh := hh) (bytes := bytes) (maxL := maxL) (ret := ret) hM hp.1 hrc hrs hfr hlo hws hcw (fun a' U hW => word_at hW (Or.inl (by first | rfl | simp [Cond.onTables, Cond.keeps, Cond.steady])) hini)
  obtain ⟨hx, hb, hml, ho, -⟩ := S
  obtain ⟨-, ⟨cellB, hcB, hoB, hclB⟩, hPc⟩ := hp
  intro T hT X
  obtain ⟨v, vm₁, ⟨U', l2, c2, s2⟩, hW₁, X', ⟨g', mk, t, L, e1, e2, hq, h1, hL, h2, h3⟩, st⟩ := vx_callVW X hx (C := C) (hh := hh) (bytes := bytes) (maxL := maxL) (ret := ret) ho hl hin hse hcode hy hK (by rw [hT]; exact hcB) hoB hclB hg (hsize.trans hml.symm) (argsL := As) (rest := rest) (fun sig h => hn.trans (hlen sig h)) hstack hW (by rw [hb]; exact hdg)
    (fun vm₁ hW₁ => ⟨hf.1, hf.2, hPc (T.setVm vm₁) hT hW₁⟩)
  dsimp only [Pt.U, Pt.locs, Pt.cells, Pt.slots] at X' e1 e2 h1 h2 h3 st
  subst h1; subst h2; subst h3
  exact ⟨v, (T.setVm vm₁).calling g' mk (Value.ref b :: As).toArray, t, U', L, hT, X', hL, e1, e2, hq, st⟩
section
variable {y : MethodName} {bytes cc : ByteArray} {maxL nL mc ms n index : Nat} {ret : Option FieldType} {ws : List Cond} {rm : Room} {Pc : Array Value → State → Prop} {Qc : Array Value → State → Outcome → State → Prop} {XC : String → State → State → Prop} {free : Addr → Prop} {Ts : List Cond} {own C : String} {b : Addr} {As rest : List Value} {g : JFrame}
theorem vx_runVX {hh : List (Nat × Nat × Nat × Nat)} (S : CallFix p m c cc nL s args Ts own) (hM : vx_Met l y ws rm Pc Qc XC mc ms free) (cw : vx_CVW R s args own C index y bytes maxL ret hh ws rm mc ms n) (hp : PreV s H C b Pc As)
    (hg : g.method = m) (hn : As.length = n) (hsize : g.locals.size = nL) (hstack : g.stack = As.reverse ++ .ref b :: rest) (hW : 2 * g.monitorRoom + (rest.map fun v => v.category).sum ≤ 8) (hdg : decode cc g.pc = .ok (.invokevirtual index, 3)) (hf : cells + mc ≤ R.cells ∧ slots + ms ≤ R.slots) :
    vx_Run p l e R s m args below meth c H locs cells slots mc ms g rest (Qc (Value.ref b :: As).toArray) XC free := by
  obtain ⟨⟨hrc, hrs, hfr, hlo, hws, hcw⟩, hcode, hini, hy, hlen, hl, hin, hse⟩ := cw
  have hK : vx_Back l R p e below s args y 3 8 (PreOf R mc ms Pc) (PostOf Qc mc ms free) (vx_Post XC mc ms free) := vx_backW (hh := hh) (bytes := bytes) (maxL := maxL) (ret := ret) hM hp.1 hrc hrs hfr hlo hws hcw (fun a' U hW => word_at hW (Or.inl (by first | rfl | simp [Cond.onTables, Cond.keeps, Cond.steady])) hini)
  obtain ⟨hx, hb, hml, ho, -⟩ := S
  obtain ⟨-, ⟨cellB, hcB, hoB, hclB⟩, hPc⟩ := hp
  intro T hT X
  rcases vx_callVX X hx (C := C) (hh := hh) (bytes := bytes) (maxL := maxL) (ret := ret) ho hl hin hse hcode hy hK (by rw [hT]; exact hcB) hoB hclB hg (hsize.trans hml.symm) (argsL := As) (rest := rest) (fun sig h => hn.trans (hlen sig h)) hstack hW (by rw [hb]; exact hdg)
    (fun vm₁ hW₁ => ⟨hf.1, hf.2, hPc (T.setVm vm₁) hT hW₁⟩) with ⟨v, vm₁, ⟨U', l2, c2, s2⟩, hW₁, X', ⟨g', mk, t, L, e1, e2, hq, h1, hL, h2, h3⟩, st⟩ | ⟨q, vm₁, ⟨U', l2, c2, s2⟩, hW₁, X', ⟨g', mk, t, L, E, ce, e1, e2, hq, hce, hcv, hcl, h1, hL, h2, h3⟩, st⟩
  · dsimp only [Pt.U, Pt.locs, Pt.cells, Pt.slots] at X' e1 e2 h1 h2 h3 st
    subst h1; subst h2; subst h3
    exact Or.inl ⟨v, (T.setVm vm₁).calling g' mk (Value.ref b :: As).toArray, t, U', L, hT, X', hL, e1, e2, hq, st⟩
  · dsimp only [Pt.U, Pt.locs, Pt.cells, Pt.slots] at X' e1 e2 h1 h2 h3 st hcl
    subst h1; subst h2; subst h3
    exact Or.inr ⟨q, (T.setVm vm₁).calling g' mk (Value.ref b :: As).toArray, t, U', L, E, ce, hT, X', hL, e1, e2, hq, hce, hcv, vx_cls hW₁ hcl, st⟩
theorem vx_runSX {hh : List (Nat × Nat × Nat × Nat)} (S : CallFix p m c cc nL s args Ts own) (hM : vx_Met l y ws rm Pc Qc XC mc ms free) (cw : vx_CSW R s args own index y bytes maxL ret hh ws rm mc ms n) (hp : PreS s H Pc As)
    (hg : g.method = m) (hn : As.length = n) (hsize : g.locals.size = nL) (hstack : g.stack = As.reverse ++ rest) (hW : 2 * g.monitorRoom + (rest.map fun v => v.category).sum ≤ 8) (hdg : decode cc g.pc = .ok (.invokestatic index, 3)) (hf : cells + mc ≤ R.cells ∧ slots + ms ≤ R.slots) :
    vx_Run p l e R s m args below meth c H locs cells slots mc ms g rest (Qc As.toArray) XC free := by
  obtain ⟨⟨hrc, hrs, hfr, hlo, hws, hcw⟩, hcode, hini, hy, hlen, hl, hstt⟩ := cw
  have hK : vx_Back l R p e below s args y 3 8 (PreOf R mc ms Pc) (PostOf Qc mc ms free) (vx_Post XC mc ms free) := vx_backW (hh := hh) (bytes := bytes) (maxL := maxL) (ret := ret) hM hp.1 hrc hrs hfr hlo hws hcw (fun a' U hW => word_at hW (Or.inl (by first | rfl | simp [Cond.onTables, Cond.keeps, Cond.steady])) hini)
  obtain ⟨hx, hb, hml, ho, -⟩ := S
  intro T hT X
  rcases vx_callSX X hx (hh := hh) (bytes := bytes) (maxL := maxL) (ret := ret) ho hl hstt hini hcode hy hK hg (hsize.trans hml.symm) (argsL := As) (rest := rest) (fun sig h => hn.trans (hlen sig h)) hstack hW (by rw [hb]; exact hdg)
    (fun vm₁ hW₁ => ⟨hf.1, hf.2, hp.2 (T.setVm vm₁) hT hW₁⟩) with ⟨v, vm₁, ⟨U', l2, c2, s2⟩, hW₁, X', ⟨g', mk, t, L, e1, e2, hq, h1, hL, h2, h3⟩, st⟩ | ⟨q, vm₁, ⟨U', l2, c2, s2⟩, hW₁, X', ⟨g', mk, t, L, E, ce, e1, e2, hq, hce, hcv, hcl, h1, hL, h2, h3⟩, st⟩
  · dsimp only [Pt.U, Pt.locs, Pt.cells, Pt.slots] at X' e1 e2 h1 h2 h3 st
    subst h1; subst h2; subst h3
    exact Or.inl ⟨v, (T.setVm vm₁).calling g' mk As.toArray, t, U', L, hT, X', hL, e1, e2, hq, st⟩
  · dsimp only [Pt.U, Pt.locs, Pt.cells, Pt.slots] at X' e1 e2 h1 h2 h3 st hcl
    subst h1; subst h2; subst h3
    exact Or.inr ⟨q, (T.setVm vm₁).calling g' mk As.toArray, t, U', L, E, ce, hT, X', hL, e1, e2, hq, hce, hcv, vx_cls hW₁ hcl, st⟩
end
end VXH
theorem vx_ofWH {l : Launch} {y : MethodName} {ws ws' : List Cond} {rm : Room} {Pc : Array Value → State → Prop} {Qc : Array Value → State → Outcome → State → Prop} {XC : String → State → State → Prop} {mc ms : Nat} {free : Addr → Prop} {cc : ByteArray} {maxL : Nat} {ret : Option FieldType} {hh : List (Nat × Nat × Nat × Nat)}
    (hy : plainName y.cls = true) (hw : ws = Cond.codeWith y cc maxL ret hh :: ws')
    (body : ∀ p e s m args below meth c s₁, BodyLoose p l y (headSpec ws rm) cc maxL ret e s m args below meth c s₁ → c.maxLocals = maxL → Pc args s →
      W p l e (headSpec ws rm).room s m args below meth c s.heap [] 0 0 (vx_MQ below Qc XC args s mc ms free) (entryFrame m args maxL)) : vx_Met l y ws rm Pc Qc XC mc ms free := by
  refine MetFree.of_bodyS (code := cc) (maxLocals := maxL) (ret := ret) hy ?_ ?_
  · intro args s m h hn
    obtain ⟨m9, meth, c, hn9, h1, h2, h3, h4, -, h5, h6, -⟩ := Cond.codeWith_spec (atoms_spec (ws := ws) h _ (by rw [hw]; exact List.mem_cons_self))
    cases hn.symm.trans hn9
    exact ⟨meth, c, h1, h2, h3, h4, h5, h6⟩
  · intro p e s m args below meth c s₁ B hml hP _
    have hh0 : s₁.heap = s.heap := by rw [B.state]; rfl
    obtain ⟨t, a1, o, b1, b2, b3⟩ := body p e s m args below meth c s₁ B hml hP s₁ hh0 (Stand.of_body B)
    exact ⟨t, o, a1, b1, b2, b3⟩
/-! ===== END ===== -/
end
section
def RX0 : String := "NetlistBench$Element"
def TX0 : u_T := fun k => match k with
  | 0 => ("NetlistBench$Element", "isSource", "Z", true)
  | 1 => ("NetlistBench$Element", "a", "I", true)
  | 2 => ("NetlistBench$Element", "b", "I", true)
  | 3 => ("NetlistBench$Element", "size", "I", false)
  | 4 => ("NetlistBench$Element", "startsOn", "Z", false)
  | 5 => ("NetlistBench$Element", "toggles", "I", false)
  | _ => ("NetlistBench$Element", "times", "[I", true)
def tyX0 : Nat → FieldType := fun k => match k with
  | 0 => .boolean
  | 1 => .int
  | 2 => .int
  | 3 => .int
  | 4 => .boolean
  | 5 => .int
  | _ => .array .int
abbrev wsX00 : List Cond := u_ws RX0 TX0 7
theorem nmX0 : ∀ a, a < 7 → ∀ b, b < 7 → a ≠ b → (TX0 a).2.1 ≠ (TX0 b).2.1 := by decide +kernel
theorem tyX0_ok : ∀ k, k < 7 → parseFieldDescriptor (TX0 k).2.2.1 = some (tyX0 k) := by decide +kernel
abbrev cX0_init : ByteArray := prog_2_method_1_code
def yX0_init : MethodName := ⟨RX0, "<init>", "(ZIII)V"⟩
abbrev cX0_runsAt : ByteArray := prog_2_method_2_code
def yX0_runsAt : MethodName := ⟨RX0, "runsAt", "(I)Z"⟩
abbrev cX0_hasToggle : ByteArray := prog_2_method_3_code
def yX0_hasToggle : MethodName := ⟨RX0, "hasToggle", "(I)Z"⟩
abbrev cX0_toggleTime : ByteArray := prog_2_method_4_code
def yX0_toggleTime : MethodName := ⟨RX0, "toggleTime", "(I)I"⟩
abbrev cX0_toggleBehind : ByteArray := prog_2_method_5_code
def yX0_toggleBehind : MethodName := ⟨RX0, "toggleBehind", "(I)I"⟩
abbrev cX0_putToggle : ByteArray := prog_2_method_6_code
def yX0_putToggle : MethodName := ⟨RX0, "putToggle", "(I)V"⟩
abbrev cX0_dropToggle : ByteArray := prog_2_method_7_code
def yX0_dropToggle : MethodName := ⟨RX0, "dropToggle", "(I)V"⟩
abbrev cX0_togglesBefore : ByteArray := prog_2_method_9_code
def yX0_togglesBefore : MethodName := ⟨RX0, "togglesBefore", "(I)I"⟩
def RX1 : String := "NetlistBench$Equations"
def TX1 : u_T := fun k => match k with
  | 0 => ("NetlistBench$Equations", "places", "[I", true)
  | 1 => ("NetlistBench$Equations", "known", "[J", true)
  | 2 => ("NetlistBench$Equations", "rows", "[[J", true)
  | 3 => ("NetlistBench$Equations", "minors", "[J", true)
  | _ => ("NetlistBench$Equations", "unknowns", "I", false)
def tyX1 : Nat → FieldType := fun k => match k with
  | 0 => .array .int
  | 1 => .array .long
  | 2 => .array (.array .long)
  | 3 => .array .long
  | _ => .int
abbrev wsX10 : List Cond := u_ws RX1 TX1 5
theorem nmX1 : ∀ a, a < 5 → ∀ b, b < 5 → a ≠ b → (TX1 a).2.1 ≠ (TX1 b).2.1 := by decide +kernel
theorem tyX1_ok : ∀ k, k < 5 → parseFieldDescriptor (TX1 k).2.2.1 = some (tyX1 k) := by decide +kernel
abbrev cX1_init : ByteArray := prog_3_method_1_code
def yX1_init : MethodName := ⟨RX1, "<init>", "()V"⟩
abbrev cX1_clear : ByteArray := prog_3_method_2_code
def yX1_clear : MethodName := ⟨RX1, "clear", "()V"⟩
abbrev cX1_fix : ByteArray := prog_3_method_3_code
def yX1_fix : MethodName := ⟨RX1, "fix", "(IJ)V"⟩
abbrev cX1_seek : ByteArray := prog_3_method_4_code
def yX1_seek : MethodName := ⟨RX1, "seek", "(I)V"⟩
abbrev cX1_bring : ByteArray := prog_3_method_5_code
def yX1_bring : MethodName := ⟨RX1, "bring", "(IJ)V"⟩
abbrev cX1_link : ByteArray := prog_3_method_6_code
def yX1_link : MethodName := ⟨RX1, "link", "(IIJ)V"⟩
abbrev cX1_linkOneWay : ByteArray := prog_3_method_7_code
def yX1_linkOneWay : MethodName := ⟨RX1, "linkOneWay", "(IIJ)V"⟩
abbrev cX1_solve : ByteArray := prog_3_method_8_code
def yX1_solve : MethodName := ⟨RX1, "solve", "()V"⟩
abbrev cX1_expand : ByteArray := prog_3_method_9_code
def yX1_expand : MethodName := ⟨RX1, "expand", "(I)J"⟩
abbrev cX1_lower : ByteArray := prog_3_method_10_code
def yX1_lower : MethodName := ⟨RX1, "lower", "()J"⟩
abbrev cX1_upper : ByteArray := prog_3_method_11_code
def yX1_upper : MethodName := ⟨RX1, "upper", "(I)J"⟩
abbrev cX1_allColumns : ByteArray := prog_3_method_12_code
def yX1_allColumns : MethodName := ⟨RX1, "allColumns", "()I"⟩
def RX2 : String := "NetlistBench$Node"
def TX2 : u_T := fun k => match k with
  | 0 => ("NetlistBench$Node", "isRail", "Z", false)
  | _ => ("NetlistBench$Node", "railPotential", "I", false)
def tyX2 : Nat → FieldType := fun k => match k with
  | 0 => .boolean
  | _ => .int
abbrev wsX20 : List Cond := u_ws RX2 TX2 2
theorem nmX2 : ∀ a, a < 2 → ∀ b, b < 2 → a ≠ b → (TX2 a).2.1 ≠ (TX2 b).2.1 := by decide +kernel
theorem tyX2_ok : ∀ k, k < 2 → parseFieldDescriptor (TX2 k).2.2.1 = some (tyX2 k) := by decide +kernel
abbrev cX2_init : ByteArray := prog_4_method_1_code
def yX2_init : MethodName := ⟨RX2, "<init>", "()V"⟩
def RX3 : String := "NetlistBench"
def TX3 : u_T := fun k => match k with
  | 0 => ("NetlistBench", "nodes", "Ljava/util/ArrayList;", true)
  | 1 => ("NetlistBench", "elements", "Ljava/util/ArrayList;", true)
  | 2 => ("NetlistBench", "groups", "[I", true)
  | _ => ("NetlistBench", "equations", "LNetlistBench$Equations;", true)
def tyX3 : Nat → FieldType := fun k => match k with
  | 0 => .object "java/util/ArrayList"
  | 1 => .object "java/util/ArrayList"
  | 2 => .array .int
  | _ => .object "NetlistBench$Equations"
abbrev wsX30 : List Cond := u_ws RX3 TX3 4
theorem nmX3 : ∀ a, a < 4 → ∀ b, b < 4 → a ≠ b → (TX3 a).2.1 ≠ (TX3 b).2.1 := by decide +kernel
theorem tyX3_ok : ∀ k, k < 4 → parseFieldDescriptor (TX3 k).2.2.1 = some (tyX3 k) := by decide +kernel
abbrev cX3_init : ByteArray := prog_1_method_1_code
def yX3_init : MethodName := ⟨RX3, "<init>", "()V"⟩
abbrev cX3_addNode : ByteArray := prog_1_method_2_code
def yX3_addNode : MethodName := ⟨RX3, "addNode", "()I"⟩
abbrev cX3_rail : ByteArray := prog_1_method_3_code
def yX3_rail : MethodName := ⟨RX3, "rail", "(IZI)Z"⟩
abbrev cX3_addElement : ByteArray := prog_1_method_4_code
def yX3_addElement : MethodName := ⟨RX3, "addElement", "(ZIII)I"⟩
abbrev cX3_resize : ByteArray := prog_1_method_5_code
def yX3_resize : MethodName := ⟨RX3, "resize", "(II)I"⟩
abbrev cX3_begin : ByteArray := prog_1_method_6_code
def yX3_begin : MethodName := ⟨RX3, "begin", "(IZ)Z"⟩
abbrev cX3_toggle : ByteArray := prog_1_method_7_code
def yX3_toggle : MethodName := ⟨RX3, "toggle", "(II)I"⟩
abbrev cX3_floats : ByteArray := prog_1_method_13_code
def yX3_floats : MethodName := ⟨RX3, "floats", "(II)Z"⟩
abbrev cX3_feed : ByteArray := prog_1_method_16_code
def yX3_feed : MethodName := ⟨RX3, "feed", "(IIZ)J"⟩
abbrev cX3_resistance : ByteArray := prog_1_method_17_code
def yX3_resistance : MethodName := ⟨RX3, "resistance", "(IIIZ)J"⟩
abbrev cX3_power : ByteArray := prog_1_method_18_code
def yX3_power : MethodName := ⟨RX3, "power", "(I)D"⟩
abbrev cX3_probe : ByteArray := prog_1_method_20_code
def yX3_probe : MethodName := ⟨RX3, "probe", "(IIIZ)I"⟩
abbrev cX3_compare : ByteArray := prog_1_method_21_code
def yX3_compare : MethodName := ⟨RX3, "compare", "(IIII)I"⟩
abbrev cX3_checkNode : ByteArray := prog_1_method_24_code
def yX3_checkNode : MethodName := ⟨RX3, "checkNode", "(I)V"⟩
abbrev cX3_checkElement : ByteArray := prog_1_method_25_code
def yX3_checkElement : MethodName := ⟨RX3, "checkElement", "(I)V"⟩
abbrev cX3_checkTime : ByteArray := prog_1_method_26_code
def yX3_checkTime : MethodName := ⟨RX3, "checkTime", "(I)V"⟩
abbrev cX3_checkSize : ByteArray := prog_1_method_27_code
def yX3_checkSize : MethodName := ⟨RX3, "checkSize", "(ZI)V"⟩
abbrev cX3_checkGrounded : ByteArray := prog_1_method_28_code
def yX3_checkGrounded : MethodName := ⟨RX3, "checkGrounded", "(I)V"⟩
abbrev cX3_group : ByteArray := prog_1_method_29_code
def yX3_group : MethodName := ⟨RX3, "group", "(I)V"⟩
abbrev cX3_join : ByteArray := prog_1_method_30_code
def yX3_join : MethodName := ⟨RX3, "join", "(I)V"⟩
abbrev cX3_isAfloat : ByteArray := prog_1_method_31_code
def yX3_isAfloat : MethodName := ⟨RX3, "isAfloat", "(I)Z"⟩
abbrev cX3_contains : ByteArray := prog_1_method_32_code
def yX3_contains : MethodName := ⟨RX3, "contains", "(II)Z"⟩
abbrev cX3_settle : ByteArray := prog_1_method_33_code
def yX3_settle : MethodName := ⟨RX3, "settle", "(I)V"⟩
abbrev cX3_drive : ByteArray := prog_1_method_34_code
def yX3_drive : MethodName := ⟨RX3, "drive", "(III)V"⟩
abbrev cX3_conduct : ByteArray := prog_1_method_35_code
def yX3_conduct : MethodName := ⟨RX3, "conduct", "(I)V"⟩
abbrev cX3_flowOut : ByteArray := prog_1_method_36_code
def yX3_flowOut : MethodName := ⟨RX3, "flowOut", "(LNetlistBench$Element;I)J"⟩
abbrev cX3_quotientAt : ByteArray := prog_1_method_37_code
def yX3_quotientAt : MethodName := ⟨RX3, "quotientAt", "(I)D"⟩
abbrev cX3_firstToggleBehind : ByteArray := prog_1_method_39_code
def yX3_firstToggleBehind : MethodName := ⟨RX3, "firstToggleBehind", "(I)I"⟩
abbrev cX3_partOf : ByteArray := prog_1_method_47_code
def yX3_partOf : MethodName := ⟨RX3, "partOf", "(JJZ)J"⟩
abbrev cX3_commonDivisor : ByteArray := prog_1_method_48_code
def yX3_commonDivisor : MethodName := ⟨RX3, "commonDivisor", "(JJ)J"⟩
abbrev cX3_compareFractions : ByteArray := prog_1_method_49_code
def yX3_compareFractions : MethodName := ⟨RX3, "compareFractions", "(JJJJ)I"⟩
def RX4 : String := "NetlistBenchLaw$Hand"
def TX4 : u_T := fun k => match k with
  | 0 => ("NetlistBenchLaw$Hand", "rails", "[I", false)
  | _ => ("NetlistBenchLaw$Hand", "elements", "[[I", false)
def tyX4 : Nat → FieldType := fun k => match k with
  | 0 => .array .int
  | _ => .array (.array .int)
abbrev wsX40 : List Cond := u_ws RX4 TX4 2
theorem nmX4 : ∀ a, a < 2 → ∀ b, b < 2 → a ≠ b → (TX4 a).2.1 ≠ (TX4 b).2.1 := by decide +kernel
theorem tyX4_ok : ∀ k, k < 2 → parseFieldDescriptor (TX4 k).2.2.1 = some (tyX4 k) := by decide +kernel
abbrev cX4_init : ByteArray := prog_6_method_1_code
def yX4_init : MethodName := ⟨RX4, "<init>", "()V"⟩
abbrev cX4_more : ByteArray := prog_6_method_2_code
def yX4_more : MethodName := ⟨RX4, "more", "([II)[I"⟩
abbrev cX4_isOn : ByteArray := prog_6_method_3_code
def yX4_isOn : MethodName := ⟨RX4, "isOn", "(II)Z"⟩
abbrev cX4_conducts : ByteArray := prog_6_method_4_code
def yX4_conducts : MethodName := ⟨RX4, "conducts", "(II)Z"⟩
abbrev cX4_isWay : ByteArray := prog_6_method_5_code
def yX4_isWay : MethodName := ⟨RX4, "isWay", "(III)Z"⟩
abbrev cX4_floats : ByteArray := prog_6_method_6_code
def yX4_floats : MethodName := ⟨RX4, "floats", "(II)Z"⟩
def RX5 : String := "NetlistBenchModel"
def TX5 : u_T := fun k => match k with
  | _ => ("", "", "", false)
def tyX5 : Nat → FieldType := fun k => match k with
  | _ => .int
abbrev wsX50 : List Cond := u_ws RX5 TX5 0
theorem nmX5 : ∀ a, a < 0 → ∀ b, b < 0 → a ≠ b → (TX5 a).2.1 ≠ (TX5 b).2.1 := by decide +kernel
theorem tyX5_ok : ∀ k, k < 0 → parseFieldDescriptor (TX5 k).2.2.1 = some (tyX5 k) := by decide +kernel
def RJx145de : String := "java/io/Serializable"
def TJx145de : u_T := fun k => match k with
  | _ => ("", "", "", false)
def tyJx145de : Nat → FieldType := fun k => match k with
  | _ => .int
abbrev wsJx145de0 : List Cond := u_ws RJx145de TJx145de 0
theorem nmJx145de : ∀ a, a < 0 → ∀ b, b < 0 → a ≠ b → (TJx145de a).2.1 ≠ (TJx145de b).2.1 := by decide +kernel
theorem tyJx145de_ok : ∀ k, k < 0 → parseFieldDescriptor (TJx145de k).2.2.1 = some (tyJx145de k) := by decide +kernel
def RJx8e188 : String := "java/lang/Cloneable"
def TJx8e188 : u_T := fun k => match k with
  | _ => ("", "", "", false)
def tyJx8e188 : Nat → FieldType := fun k => match k with
  | _ => .int
abbrev wsJx8e1880 : List Cond := u_ws RJx8e188 TJx8e188 0
theorem nmJx8e188 : ∀ a, a < 0 → ∀ b, b < 0 → a ≠ b → (TJx8e188 a).2.1 ≠ (TJx8e188 b).2.1 := by decide +kernel
theorem tyJx8e188_ok : ∀ k, k < 0 → parseFieldDescriptor (TJx8e188 k).2.2.1 = some (tyJx8e188 k) := by decide +kernel
def RJ6 : String := "java/lang/Integer"
def TJ6 : u_T := fun k => match k with
  | _ => ("", "", "", false)
def tyJ6 : Nat → FieldType := fun k => match k with
  | _ => .int
abbrev wsJ60 : List Cond := u_ws RJ6 TJ6 0
theorem nmJ6 : ∀ a, a < 0 → ∀ b, b < 0 → a ≠ b → (TJ6 a).2.1 ≠ (TJ6 b).2.1 := by decide +kernel
theorem tyJ6_ok : ∀ k, k < 0 → parseFieldDescriptor (TJ6 k).2.2.1 = some (tyJ6 k) := by decide +kernel
abbrev cJ6_bitCount_0f7a4 : ByteArray := prog_14_method_49_code
def yJ6_bitCount_0f7a4 : MethodName := ⟨RJ6, "bitCount", "(I)I"⟩
def RJxab1ab : String := "java/lang/Iterable"
def TJxab1ab : u_T := fun k => match k with
  | _ => ("", "", "", false)
def tyJxab1ab : Nat → FieldType := fun k => match k with
  | _ => .int
abbrev wsJxab1ab0 : List Cond := u_ws RJxab1ab TJxab1ab 0
theorem nmJxab1ab : ∀ a, a < 0 → ∀ b, b < 0 → a ≠ b → (TJxab1ab a).2.1 ≠ (TJxab1ab b).2.1 := by decide +kernel
theorem tyJxab1ab_ok : ∀ k, k < 0 → parseFieldDescriptor (TJxab1ab k).2.2.1 = some (tyJxab1ab k) := by decide +kernel
def RJ9 : String := "java/lang/Math"
def TJ9 : u_T := fun k => match k with
  | _ => ("", "", "", false)
def tyJ9 : Nat → FieldType := fun k => match k with
  | _ => .int
abbrev wsJ90 : List Cond := u_ws RJ9 TJ9 0
theorem nmJ9 : ∀ a, a < 0 → ∀ b, b < 0 → a ≠ b → (TJ9 a).2.1 ≠ (TJ9 b).2.1 := by decide +kernel
theorem tyJ9_ok : ∀ k, k < 0 → parseFieldDescriptor (TJ9 k).2.2.1 = some (tyJ9 k) := by decide +kernel
abbrev cJ9_floorDiv_f86c9 : ByteArray := prog_16_method_49_code
def yJ9_floorDiv_f86c9 : MethodName := ⟨RJ9, "floorDiv", "(JJ)J"⟩
abbrev cJ9_floorMod_f86c9 : ByteArray := prog_16_method_52_code
def yJ9_floorMod_f86c9 : MethodName := ⟨RJ9, "floorMod", "(JJ)J"⟩
abbrev cJ9_abs_067f4 : ByteArray := prog_16_method_61_code
def yJ9_abs_067f4 : MethodName := ⟨RJ9, "abs", "(J)J"⟩
abbrev cJ9_max_7cf53 : ByteArray := prog_16_method_65_code
def yJ9_max_7cf53 : MethodName := ⟨RJ9, "max", "(II)I"⟩
abbrev cJ9_min_7cf53 : ByteArray := prog_16_method_69_code
def yJ9_min_7cf53 : MethodName := ⟨RJ9, "min", "(II)I"⟩
def RJ0 : String := "java/lang/String"
def TJ0 : u_T := fun k => match k with
  | _ => ("", "", "", false)
def tyJ0 : Nat → FieldType := fun k => match k with
  | _ => .int
abbrev wsJ00 : List Cond := u_ws RJ0 TJ0 0
theorem nmJ0 : ∀ a, a < 0 → ∀ b, b < 0 → a ≠ b → (TJ0 a).2.1 ≠ (TJ0 b).2.1 := by decide +kernel
theorem tyJ0_ok : ∀ k, k < 0 → parseFieldDescriptor (TJ0 k).2.2.1 = some (tyJ0 k) := by decide +kernel
def RJ10 : String := "java/lang/System"
def TJ10 : u_T := fun k => match k with
  | _ => ("", "", "", false)
def tyJ10 : Nat → FieldType := fun k => match k with
  | _ => .int
abbrev wsJ100 : List Cond := u_ws RJ10 TJ10 0
theorem nmJ10 : ∀ a, a < 0 → ∀ b, b < 0 → a ≠ b → (TJ10 a).2.1 ≠ (TJ10 b).2.1 := by decide +kernel
theorem tyJ10_ok : ∀ k, k < 0 → parseFieldDescriptor (TJ10 k).2.2.1 = some (tyJ10 k) := by decide +kernel
def RJxa1e45 : String := "java/util/AbstractCollection"
def TJxa1e45 : u_T := fun k => match k with
  | _ => ("", "", "", false)
def tyJxa1e45 : Nat → FieldType := fun k => match k with
  | _ => .int
abbrev wsJxa1e450 : List Cond := u_ws RJxa1e45 TJxa1e45 0
theorem nmJxa1e45 : ∀ a, a < 0 → ∀ b, b < 0 → a ≠ b → (TJxa1e45 a).2.1 ≠ (TJxa1e45 b).2.1 := by decide +kernel
theorem tyJxa1e45_ok : ∀ k, k < 0 → parseFieldDescriptor (TJxa1e45 k).2.2.1 = some (tyJxa1e45 k) := by decide +kernel
abbrev cJxa1e45_init_da8c8 : ByteArray := prog_21_method_1_code
def yJxa1e45_init_da8c8 : MethodName := ⟨RJxa1e45, "<init>", "()V"⟩
def RJxc12de : String := "java/util/AbstractList"
def TJxc12de : u_T := fun k => match k with
  | _ => ("", "", "", false)
def tyJxc12de : Nat → FieldType := fun k => match k with
  | _ => .int
abbrev wsJxc12de0 : List Cond := u_ws RJxc12de TJxc12de 0
theorem nmJxc12de : ∀ a, a < 0 → ∀ b, b < 0 → a ≠ b → (TJxc12de a).2.1 ≠ (TJxc12de b).2.1 := by decide +kernel
theorem tyJxc12de_ok : ∀ k, k < 0 → parseFieldDescriptor (TJxc12de k).2.2.1 = some (tyJxc12de k) := by decide +kernel
abbrev cJxc12de_init_da8c8 : ByteArray := prog_22_method_1_code
def yJxc12de_init_da8c8 : MethodName := ⟨RJxc12de, "<init>", "()V"⟩
def RJx4a65c : String := "java/util/ArrayList"
def TJx4a65c : u_T := fun k => match k with
  | 0 => ("java/util/AbstractList", "modCount", "I", false)
  | 1 => ("java/util/ArrayList", "elementData", "[Ljava/lang/Object;", false)
  | _ => ("java/util/ArrayList", "size", "I", false)
def tyJx4a65c : Nat → FieldType := fun k => match k with
  | 0 => .int
  | 1 => .array (.object "java/lang/Object")
  | _ => .int
abbrev wsJx4a65c0 : List Cond := u_ws RJx4a65c TJx4a65c 3
theorem nmJx4a65c : ∀ a, a < 3 → ∀ b, b < 3 → a ≠ b → (TJx4a65c a).2.1 ≠ (TJx4a65c b).2.1 := by decide +kernel
theorem tyJx4a65c_ok : ∀ k, k < 3 → parseFieldDescriptor (TJx4a65c k).2.2.1 = some (tyJx4a65c k) := by decide +kernel
abbrev cJx4a65c_init_da8c8 : ByteArray := prog_23_method_2_code
def yJx4a65c_init_da8c8 : MethodName := ⟨RJx4a65c, "<init>", "()V"⟩
abbrev cJx4a65c_grow_92f84 : ByteArray := prog_23_method_6_code
def yJx4a65c_grow_92f84 : MethodName := ⟨RJx4a65c, "grow", "(I)[Ljava/lang/Object;"⟩
abbrev cJx4a65c_grow_d5877 : ByteArray := prog_23_method_7_code
def yJx4a65c_grow_d5877 : MethodName := ⟨RJx4a65c, "grow", "()[Ljava/lang/Object;"⟩
abbrev cJx4a65c_size_8abf5 : ByteArray := prog_23_method_8_code
def yJx4a65c_size_8abf5 : MethodName := ⟨RJx4a65c, "size", "()I"⟩
abbrev cJx4a65c_elementData_915e3 : ByteArray := prog_23_method_18_code
def yJx4a65c_elementData_915e3 : MethodName := ⟨RJx4a65c, "elementData", "(I)Ljava/lang/Object;"⟩
abbrev cJx4a65c_get_915e3 : ByteArray := prog_23_method_20_code
def yJx4a65c_get_915e3 : MethodName := ⟨RJx4a65c, "get", "(I)Ljava/lang/Object;"⟩
abbrev cJx4a65c_add_72be8 : ByteArray := prog_23_method_24_code
def yJx4a65c_add_72be8 : MethodName := ⟨RJx4a65c, "add", "(Ljava/lang/Object;[Ljava/lang/Object;I)V"⟩
abbrev cJx4a65c_add_9ea2d : ByteArray := prog_23_method_25_code
def yJx4a65c_add_9ea2d : MethodName := ⟨RJx4a65c, "add", "(Ljava/lang/Object;)Z"⟩
def RJ7 : String := "java/util/Arrays"
def TJ7 : u_T := fun k => match k with
  | _ => ("", "", "", false)
def tyJ7 : Nat → FieldType := fun k => match k with
  | _ => .int
abbrev wsJ70 : List Cond := u_ws RJ7 TJ7 0
theorem nmJ7 : ∀ a, a < 0 → ∀ b, b < 0 → a ≠ b → (TJ7 a).2.1 ≠ (TJ7 b).2.1 := by decide +kernel
theorem tyJ7_ok : ∀ k, k < 0 → parseFieldDescriptor (TJ7 k).2.2.1 = some (tyJ7 k) := by decide +kernel
abbrev cJ7_copyOf_1904c : ByteArray := prog_24_method_119_code
def yJ7_copyOf_1904c : MethodName := ⟨RJ7, "copyOf", "([Ljava/lang/Object;I)[Ljava/lang/Object;"⟩
abbrev cJ7_copyOf_6403c : ByteArray := prog_24_method_120_code
def yJ7_copyOf_6403c : MethodName := ⟨RJ7, "copyOf", "([Ljava/lang/Object;ILjava/lang/Class;)[Ljava/lang/Object;"⟩
def RJx5ef63 : String := "java/util/Collection"
def TJx5ef63 : u_T := fun k => match k with
  | _ => ("", "", "", false)
def tyJx5ef63 : Nat → FieldType := fun k => match k with
  | _ => .int
abbrev wsJx5ef630 : List Cond := u_ws RJx5ef63 TJx5ef63 0
theorem nmJx5ef63 : ∀ a, a < 0 → ∀ b, b < 0 → a ≠ b → (TJx5ef63 a).2.1 ≠ (TJx5ef63 b).2.1 := by decide +kernel
theorem tyJx5ef63_ok : ∀ k, k < 0 → parseFieldDescriptor (TJx5ef63 k).2.2.1 = some (tyJx5ef63 k) := by decide +kernel
def RJxbd725 : String := "java/util/List"
def TJxbd725 : u_T := fun k => match k with
  | _ => ("", "", "", false)
def tyJxbd725 : Nat → FieldType := fun k => match k with
  | _ => .int
abbrev wsJxbd7250 : List Cond := u_ws RJxbd725 TJxbd725 0
theorem nmJxbd725 : ∀ a, a < 0 → ∀ b, b < 0 → a ≠ b → (TJxbd725 a).2.1 ≠ (TJxbd725 b).2.1 := by decide +kernel
theorem tyJxbd725_ok : ∀ k, k < 0 → parseFieldDescriptor (TJxbd725 k).2.2.1 = some (tyJxbd725 k) := by decide +kernel
def RJ15 : String := "java/util/Objects"
def TJ15 : u_T := fun k => match k with
  | _ => ("", "", "", false)
def tyJ15 : Nat → FieldType := fun k => match k with
  | _ => .int
abbrev wsJ150 : List Cond := u_ws RJ15 TJ15 0
theorem nmJ15 : ∀ a, a < 0 → ∀ b, b < 0 → a ≠ b → (TJ15 a).2.1 ≠ (TJ15 b).2.1 := by decide +kernel
theorem tyJ15_ok : ∀ k, k < 0 → parseFieldDescriptor (TJ15 k).2.2.1 = some (tyJ15 k) := by decide +kernel
abbrev cJ15_checkIndex_7cf53 : ByteArray := prog_27_method_17_code
def yJ15_checkIndex_7cf53 : MethodName := ⟨RJ15, "checkIndex", "(II)I"⟩
def RJxf0a74 : String := "java/util/RandomAccess"
def TJxf0a74 : u_T := fun k => match k with
  | _ => ("", "", "", false)
def tyJxf0a74 : Nat → FieldType := fun k => match k with
  | _ => .int
abbrev wsJxf0a740 : List Cond := u_ws RJxf0a74 TJxf0a74 0
theorem nmJxf0a74 : ∀ a, a < 0 → ∀ b, b < 0 → a ≠ b → (TJxf0a74 a).2.1 ≠ (TJxf0a74 b).2.1 := by decide +kernel
theorem tyJxf0a74_ok : ∀ k, k < 0 → parseFieldDescriptor (TJxf0a74 k).2.2.1 = some (tyJxf0a74 k) := by decide +kernel
def RJxa66e6 : String := "java/util/SequencedCollection"
def TJxa66e6 : u_T := fun k => match k with
  | _ => ("", "", "", false)
def tyJxa66e6 : Nat → FieldType := fun k => match k with
  | _ => .int
abbrev wsJxa66e60 : List Cond := u_ws RJxa66e6 TJxa66e6 0
theorem nmJxa66e6 : ∀ a, a < 0 → ∀ b, b < 0 → a ≠ b → (TJxa66e6 a).2.1 ≠ (TJxa66e6 b).2.1 := by decide +kernel
theorem tyJxa66e6_ok : ∀ k, k < 0 → parseFieldDescriptor (TJxa66e6 k).2.2.1 = some (tyJxa66e6 k) := by decide +kernel
def RJ8 : String := "jdk/internal/util/ArraysSupport"
def TJ8 : u_T := fun k => match k with
  | _ => ("", "", "", false)
def tyJ8 : Nat → FieldType := fun k => match k with
  | _ => .int
abbrev wsJ80 : List Cond := u_ws RJ8 TJ8 0
theorem nmJ8 : ∀ a, a < 0 → ∀ b, b < 0 → a ≠ b → (TJ8 a).2.1 ≠ (TJ8 b).2.1 := by decide +kernel
theorem tyJ8_ok : ∀ k, k < 0 → parseFieldDescriptor (TJ8 k).2.2.1 = some (tyJ8 k) := by decide +kernel
abbrev cJ8_newLength_cabcc : ByteArray := prog_30_method_27_code
def yJ8_newLength_cabcc : MethodName := ⟨RJ8, "newLength", "(III)I"⟩
abbrev cJ8_hugeLength_7cf53 : ByteArray := prog_30_method_28_code
def yJ8_hugeLength_7cf53 : MethodName := ⟨RJ8, "hugeLength", "(II)I"⟩
def RJ3 : String := "jdk/internal/util/Preconditions"
def TJ3 : u_T := fun k => match k with
  | _ => ("", "", "", false)
def tyJ3 : Nat → FieldType := fun k => match k with
  | _ => .int
abbrev wsJ30 : List Cond := u_ws RJ3 TJ3 0
theorem nmJ3 : ∀ a, a < 0 → ∀ b, b < 0 → a ≠ b → (TJ3 a).2.1 ≠ (TJ3 b).2.1 := by decide +kernel
theorem tyJ3_ok : ∀ k, k < 0 → parseFieldDescriptor (TJ3 k).2.2.1 = some (tyJ3 k) := by decide +kernel
abbrev cJ3_checkIndex_8e157 : ByteArray := prog_31_method_11_code
def yJ3_checkIndex_8e157 : MethodName := ⟨RJ3, "checkIndex", "(IILjava/util/function/BiFunction;)I"⟩
def RL : String := "NetlistBenchLaw"
abbrev cL_below : ByteArray := method_2_code
def yL_below : MethodName := ⟨RL, "below", "(II)I"⟩
abbrev cL_cell : ByteArray := method_3_code
def yL_cell : MethodName := ⟨RL, "cell", "([II)I"⟩
abbrev cL_build : ByteArray := method_5_code
def yL_build : MethodName := ⟨RL, "build", "(LNetlistBench;[III)LNetlistBenchLaw$Hand;"⟩
abbrev cL_law : ByteArray := code
def yL_law : MethodName := ⟨RL, "law", "([I)Z"⟩
abbrev vwCl : List vw_C := [(RJx4a65c, TJx4a65c, 3), (RX0, TX0, 7), (RX1, TX1, 5), (RX2, TX2, 2), (RX3, TX3, 4), (RX4, TX4, 2)]
end
section
/-- the words that stay, of all that the tables say: every contract has them behind its own code -/
def WG : List Cond := lw_tbl.filter goodWord
theorem WG_at (i : Nat) {w : Cond} (h : lw_tbl[i]? = some w) (g : goodWord w = true) : w ∈ WG := List.mem_filter.mpr ⟨List.mem_of_getElem? h, g⟩
theorem WG_good {w : Cond} (h : w ∈ WG) : goodWord w = true := (List.mem_filter.mp h).2
theorem WG_tbl {w : Cond} (h : w ∈ WG) : w ∈ lw_tbl := (List.mem_filter.mp h).1
/-- a callee's words among the caller's: only its own code is asked for -/
theorem WG_in {big : List Cond} {k : Cond} (hb : ∀ w ∈ WG, w ∈ big) (hk : k ∈ WG) : GoodIn big (k :: WG) := by
  intro w hw
  rcases List.mem_cons.mp hw with h | h
  · subst h; exact ⟨hb _ hk, good_of_word (WG_good hk)⟩
  · exact ⟨hb _ h, good_of_word (WG_good h)⟩
theorem lw_bad (i : Nat) {w : Cond} (h : lw_tbl[i]? = some w) : w ∈ lw_tbl := List.mem_of_getElem? h
theorem q_0 : (Jvm.Cond.selects "NetlistBench" ({ cls := "NetlistBench", name := "checkElement", desc := "(I)V" } : Jvm.MethodName) ({ cls := "NetlistBench", name := "checkElement", desc := "(I)V" } : Jvm.MethodName)) ∈ WG := WG_at 0 (by decide +kernel) (by decide +kernel)
theorem q_1 : (Jvm.Cond.selects "java/lang/Throwable" ({ cls := "java/lang/Throwable", name := "fillInStackTrace", desc := "(I)Ljava/lang/Throwable;" } : Jvm.MethodName) ({ cls := "java/lang/Throwable", name := "fillInStackTrace", desc := "(I)Ljava/lang/Throwable;" } : Jvm.MethodName)) ∈ WG := WG_at 1 (by decide +kernel) (by decide +kernel)
theorem q_2 : (Jvm.Cond.selects "NetlistBench" ({ cls := "NetlistBench", name := "checkNode", desc := "(I)V" } : Jvm.MethodName) ({ cls := "NetlistBench", name := "checkNode", desc := "(I)V" } : Jvm.MethodName)) ∈ WG := WG_at 2 (by decide +kernel) (by decide +kernel)
theorem q_3 : (Jvm.Cond.selects "NetlistBench" ({ cls := "NetlistBench", name := "group", desc := "(I)V" } : Jvm.MethodName) ({ cls := "NetlistBench", name := "group", desc := "(I)V" } : Jvm.MethodName)) ∈ WG := WG_at 3 (by decide +kernel) (by decide +kernel)
theorem q_4 : (Jvm.Cond.selects "NetlistBench$Element" ({ cls := "NetlistBench$Element", name := "togglesBefore", desc := "(I)I" } : Jvm.MethodName) ({ cls := "NetlistBench$Element", name := "togglesBefore", desc := "(I)I" } : Jvm.MethodName)) ∈ WG := WG_at 4 (by decide +kernel) (by decide +kernel)
theorem q_5 : (Jvm.Cond.selects "NetlistBench" ({ cls := "NetlistBench", name := "join", desc := "(I)V" } : Jvm.MethodName) ({ cls := "NetlistBench", name := "join", desc := "(I)V" } : Jvm.MethodName)) ∈ WG := WG_at 5 (by decide +kernel) (by decide +kernel)
theorem q_6 : (Jvm.Cond.selects "NetlistBench" ({ cls := "NetlistBench", name := "isAfloat", desc := "(I)Z" } : Jvm.MethodName) ({ cls := "NetlistBench", name := "isAfloat", desc := "(I)Z" } : Jvm.MethodName)) ∈ WG := WG_at 6 (by decide +kernel) (by decide +kernel)
theorem q_7 : (Jvm.Cond.selects "NetlistBench" ({ cls := "NetlistBench", name := "settle", desc := "(I)V" } : Jvm.MethodName) ({ cls := "NetlistBench", name := "settle", desc := "(I)V" } : Jvm.MethodName)) ∈ WG := WG_at 7 (by decide +kernel) (by decide +kernel)
theorem q_8 : (Jvm.Cond.selects "NetlistBench" ({ cls := "NetlistBench", name := "conduct", desc := "(I)V" } : Jvm.MethodName) ({ cls := "NetlistBench", name := "conduct", desc := "(I)V" } : Jvm.MethodName)) ∈ WG := WG_at 8 (by decide +kernel) (by decide +kernel)
theorem q_9 : (Jvm.Cond.selects "NetlistBench$Equations" ({ cls := "NetlistBench$Equations", name := "linkOneWay", desc := "(IIJ)V" } : Jvm.MethodName) ({ cls := "NetlistBench$Equations", name := "linkOneWay", desc := "(IIJ)V" } : Jvm.MethodName)) ∈ WG := WG_at 9 (by decide +kernel) (by decide +kernel)
theorem q_10 : (Jvm.Cond.selects "NetlistBench$Equations" ({ cls := "NetlistBench$Equations", name := "allColumns", desc := "()I" } : Jvm.MethodName) ({ cls := "NetlistBench$Equations", name := "allColumns", desc := "()I" } : Jvm.MethodName)) ∈ WG := WG_at 10 (by decide +kernel) (by decide +kernel)
theorem q_11 : (Jvm.Cond.selects "NetlistBench$Equations" ({ cls := "NetlistBench$Equations", name := "expand", desc := "(I)J" } : Jvm.MethodName) ({ cls := "NetlistBench$Equations", name := "expand", desc := "(I)J" } : Jvm.MethodName)) ∈ WG := WG_at 11 (by decide +kernel) (by decide +kernel)
theorem q_12 : (Jvm.Cond.selects "NetlistBench" ({ cls := "NetlistBench", name := "flowOut", desc := "(LNetlistBench$Element;I)J" } : Jvm.MethodName) ({ cls := "NetlistBench", name := "flowOut", desc := "(LNetlistBench$Element;I)J" } : Jvm.MethodName)) ∈ WG := WG_at 12 (by decide +kernel) (by decide +kernel)
theorem q_13 : (Jvm.Cond.selects "NetlistBench" ({ cls := "NetlistBench", name := "drive", desc := "(III)V" } : Jvm.MethodName) ({ cls := "NetlistBench", name := "drive", desc := "(III)V" } : Jvm.MethodName)) ∈ WG := WG_at 13 (by decide +kernel) (by decide +kernel)
theorem q_14 : (Jvm.Cond.selects "NetlistBench" ({ cls := "NetlistBench", name := "quotientAt", desc := "(I)D" } : Jvm.MethodName) ({ cls := "NetlistBench", name := "quotientAt", desc := "(I)D" } : Jvm.MethodName)) ∈ WG := WG_at 14 (by decide +kernel) (by decide +kernel)
theorem q_15 : (Jvm.Cond.selects "NetlistBench" ({ cls := "NetlistBench", name := "firstToggleBehind", desc := "(I)I" } : Jvm.MethodName) ({ cls := "NetlistBench", name := "firstToggleBehind", desc := "(I)I" } : Jvm.MethodName)) ∈ WG := WG_at 15 (by decide +kernel) (by decide +kernel)
theorem q_16 : (Jvm.Cond.selects "NetlistBench" ({ cls := "NetlistBench", name := "checkGrounded", desc := "(I)V" } : Jvm.MethodName) ({ cls := "NetlistBench", name := "checkGrounded", desc := "(I)V" } : Jvm.MethodName)) ∈ WG := WG_at 16 (by decide +kernel) (by decide +kernel)
theorem q_17 : (Jvm.Cond.selects "java/util/ArrayList" ({ cls := "java/util/ArrayList", name := "add", desc := "(Ljava/lang/Object;[Ljava/lang/Object;I)V" } : Jvm.MethodName) ({ cls := "java/util/ArrayList", name := "add", desc := "(Ljava/lang/Object;[Ljava/lang/Object;I)V" } : Jvm.MethodName)) ∈ WG := WG_at 17 (by decide +kernel) (by decide +kernel)
theorem q_18 : (Jvm.Cond.selects "java/util/ArrayList" ({ cls := "java/util/ArrayList", name := "grow", desc := "()[Ljava/lang/Object;" } : Jvm.MethodName) ({ cls := "java/util/ArrayList", name := "grow", desc := "()[Ljava/lang/Object;" } : Jvm.MethodName)) ∈ WG := WG_at 18 (by decide +kernel) (by decide +kernel)
theorem q_19 : (Jvm.Cond.selects "java/util/ArrayList" ({ cls := "java/util/ArrayList", name := "grow", desc := "(I)[Ljava/lang/Object;" } : Jvm.MethodName) ({ cls := "java/util/ArrayList", name := "grow", desc := "(I)[Ljava/lang/Object;" } : Jvm.MethodName)) ∈ WG := WG_at 19 (by decide +kernel) (by decide +kernel)
theorem q_20 : (Jvm.Cond.initialized "NetlistBenchLaw") ∈ WG := WG_at 20 (by decide +kernel) (by decide +kernel)
theorem q_21 : (Jvm.Cond.initialized "NetlistBench") ∈ WG := WG_at 21 (by decide +kernel) (by decide +kernel)
theorem q_22 : (Jvm.Cond.initialized "java/util/AbstractCollection") ∈ WG := WG_at 22 (by decide +kernel) (by decide +kernel)
theorem q_23 : (Jvm.Cond.initialized "java/util/AbstractList") ∈ WG := WG_at 23 (by decide +kernel) (by decide +kernel)
theorem q_24 : (Jvm.Cond.initialized "java/util/ArrayList") ∈ WG := WG_at 24 (by decide +kernel) (by decide +kernel)
theorem q_25 : (Jvm.Cond.initialized "NetlistBench$Equations") ∈ WG := WG_at 25 (by decide +kernel) (by decide +kernel)
theorem q_26 : (Jvm.Cond.initialized "NetlistBenchLaw$Hand") ∈ WG := WG_at 26 (by decide +kernel) (by decide +kernel)
theorem q_27 : (Jvm.Cond.initialized "java/lang/Throwable") ∈ WG := WG_at 27 (by decide +kernel) (by decide +kernel)
theorem q_28 : (Jvm.Cond.initialized "java/lang/Exception") ∈ WG := WG_at 28 (by decide +kernel) (by decide +kernel)
theorem q_29 : (Jvm.Cond.initialized "java/lang/RuntimeException") ∈ WG := WG_at 29 (by decide +kernel) (by decide +kernel)
theorem q_30 : (Jvm.Cond.initialized "java/lang/IllegalStateException") ∈ WG := WG_at 30 (by decide +kernel) (by decide +kernel)
theorem q_31 : (Jvm.Cond.initialized "NetlistBench$Node") ∈ WG := WG_at 31 (by decide +kernel) (by decide +kernel)
theorem q_32 : (Jvm.Cond.initialized "jdk/internal/util/ArraysSupport") ∈ WG := WG_at 32 (by decide +kernel) (by decide +kernel)
theorem q_33 : (Jvm.Cond.initialized "java/lang/Math") ∈ WG := WG_at 33 (by decide +kernel) (by decide +kernel)
theorem q_34 : (Jvm.Cond.initialized "java/util/Arrays") ∈ WG := WG_at 34 (by decide +kernel) (by decide +kernel)
theorem q_35 : (Jvm.Cond.initialized "java/lang/System") ∈ WG := WG_at 35 (by decide +kernel) (by decide +kernel)
theorem q_36 : (Jvm.Cond.initialized "java/lang/IndexOutOfBoundsException") ∈ WG := WG_at 36 (by decide +kernel) (by decide +kernel)
theorem q_37 : (Jvm.Cond.initialized "java/lang/IllegalArgumentException") ∈ WG := WG_at 37 (by decide +kernel) (by decide +kernel)
theorem q_38 : (Jvm.Cond.initialized "java/util/Objects") ∈ WG := WG_at 38 (by decide +kernel) (by decide +kernel)
theorem q_39 : (Jvm.Cond.initialized "jdk/internal/util/Preconditions") ∈ WG := WG_at 39 (by decide +kernel) (by decide +kernel)
theorem q_40 : (Jvm.Cond.initialized "NetlistBench$Element") ∈ WG := WG_at 40 (by decide +kernel) (by decide +kernel)
theorem q_41 : (Jvm.Cond.initialized "java/lang/Integer") ∈ WG := WG_at 41 (by decide +kernel) (by decide +kernel)
theorem q_42 : (Jvm.Cond.classLink "NetlistBenchLaw" (25 : Nat) "NetlistBench") ∈ WG := WG_at 42 (by decide +kernel) (by decide +kernel)
theorem q_43 : (Jvm.Cond.instantiable "NetlistBench" (4 : Nat)) ∈ WG := WG_at 43 (by decide +kernel) (by decide +kernel)
theorem q_44 : (Jvm.Cond.methodLink "NetlistBenchLaw" (66 : Nat) ({ cls := "NetlistBench", name := "<init>", desc := "()V" } : Jvm.MethodName)) ∈ WG := WG_at 44 (by decide +kernel) (by decide +kernel)
theorem q_45 : (Jvm.Cond.instanceMethod ({ cls := "NetlistBench", name := "<init>", desc := "()V" } : Jvm.MethodName)) ∈ WG := WG_at 45 (by decide +kernel) (by decide +kernel)
theorem q_46 : (Jvm.Cond.code ({ cls := "NetlistBench", name := "<init>", desc := "()V" } : Jvm.MethodName) prog_1_method_1_code (1 : Nat) (Option.none : Option Jvm.ClassFile.FieldType)) ∈ WG := WG_at 46 (by decide +kernel) (by decide +kernel)
theorem q_47 : (Jvm.Cond.methodLink "NetlistBench" (3 : Nat) ({ cls := "java/lang/Object", name := "<init>", desc := "()V" } : Jvm.MethodName)) ∈ WG := WG_at 47 (by decide +kernel) (by decide +kernel)
theorem q_48 : (Jvm.Cond.instanceMethod ({ cls := "java/lang/Object", name := "<init>", desc := "()V" } : Jvm.MethodName)) ∈ WG := WG_at 48 (by decide +kernel) (by decide +kernel)
theorem q_49 : (Jvm.Cond.code ({ cls := "java/lang/Object", name := "<init>", desc := "()V" } : Jvm.MethodName) object_method_1_code (1 : Nat) (Option.none : Option Jvm.ClassFile.FieldType)) ∈ WG := WG_at 49 (by decide +kernel) (by decide +kernel)
theorem q_50 : (Jvm.Cond.classLink "NetlistBench" (9 : Nat) "java/util/ArrayList") ∈ WG := WG_at 50 (by decide +kernel) (by decide +kernel)
theorem q_51 : (Jvm.Cond.instantiable "java/util/ArrayList" (3 : Nat)) ∈ WG := WG_at 51 (by decide +kernel) (by decide +kernel)
theorem q_52 : (Jvm.Cond.methodLink "NetlistBench" (11 : Nat) ({ cls := "java/util/ArrayList", name := "<init>", desc := "()V" } : Jvm.MethodName)) ∈ WG := WG_at 52 (by decide +kernel) (by decide +kernel)
theorem q_53 : (Jvm.Cond.instanceMethod ({ cls := "java/util/ArrayList", name := "<init>", desc := "()V" } : Jvm.MethodName)) ∈ WG := WG_at 53 (by decide +kernel) (by decide +kernel)
theorem q_54 : (Jvm.Cond.code ({ cls := "java/util/ArrayList", name := "<init>", desc := "()V" } : Jvm.MethodName) prog_23_method_2_code (1 : Nat) (Option.none : Option Jvm.ClassFile.FieldType)) ∈ WG := WG_at 54 (by decide +kernel) (by decide +kernel)
theorem q_55 : (Jvm.Cond.methodLink "java/util/ArrayList" (1 : Nat) ({ cls := "java/util/AbstractList", name := "<init>", desc := "()V" } : Jvm.MethodName)) ∈ WG := WG_at 55 (by decide +kernel) (by decide +kernel)
theorem q_56 : (Jvm.Cond.instanceMethod ({ cls := "java/util/AbstractList", name := "<init>", desc := "()V" } : Jvm.MethodName)) ∈ WG := WG_at 56 (by decide +kernel) (by decide +kernel)
theorem q_57 : (Jvm.Cond.code ({ cls := "java/util/AbstractList", name := "<init>", desc := "()V" } : Jvm.MethodName) prog_22_method_1_code (1 : Nat) (Option.none : Option Jvm.ClassFile.FieldType)) ∈ WG := WG_at 57 (by decide +kernel) (by decide +kernel)
theorem q_58 : (Jvm.Cond.methodLink "java/util/AbstractList" (1 : Nat) ({ cls := "java/util/AbstractCollection", name := "<init>", desc := "()V" } : Jvm.MethodName)) ∈ WG := WG_at 58 (by decide +kernel) (by decide +kernel)
theorem q_59 : (Jvm.Cond.instanceMethod ({ cls := "java/util/AbstractCollection", name := "<init>", desc := "()V" } : Jvm.MethodName)) ∈ WG := WG_at 59 (by decide +kernel) (by decide +kernel)
theorem q_60 : (Jvm.Cond.code ({ cls := "java/util/AbstractCollection", name := "<init>", desc := "()V" } : Jvm.MethodName) prog_21_method_1_code (1 : Nat) (Option.none : Option Jvm.ClassFile.FieldType)) ∈ WG := WG_at 60 (by decide +kernel) (by decide +kernel)
theorem q_61 : (Jvm.Cond.methodLink "java/util/AbstractCollection" (1 : Nat) ({ cls := "java/lang/Object", name := "<init>", desc := "()V" } : Jvm.MethodName)) ∈ WG := WG_at 61 (by decide +kernel) (by decide +kernel)
theorem q_62 : (Jvm.Cond.fieldLink "java/util/ArrayList" (39 : Nat) "java/util/ArrayList" "DEFAULTCAPACITY_EMPTY_ELEMENTDATA" "[Ljava/lang/Object;") ∈ WG := WG_at 62 (by decide +kernel) (by decide +kernel)
theorem q_63 : (Jvm.Cond.laysStatic "java/util/ArrayList" "DEFAULTCAPACITY_EMPTY_ELEMENTDATA" "[Ljava/lang/Object;") ∈ lw_tbl := lw_bad 63 (by decide +kernel)
theorem q_64 : (Jvm.Cond.fieldLink "java/util/ArrayList" (9 : Nat) "java/util/ArrayList" "elementData" "[Ljava/lang/Object;") ∈ WG := WG_at 64 (by decide +kernel) (by decide +kernel)
theorem q_65 : (Jvm.Cond.fieldLink "java/util/ArrayList" (48 : Nat) "java/util/ArrayList" "size" "I") ∈ WG := WG_at 65 (by decide +kernel) (by decide +kernel)
theorem q_66 : (Jvm.Cond.fieldLink "java/util/AbstractList" (7 : Nat) "java/util/AbstractList" "modCount" "I") ∈ WG := WG_at 66 (by decide +kernel) (by decide +kernel)
theorem q_67 : (Jvm.Cond.fieldLink "java/util/ArrayList" (63 : Nat) "java/util/ArrayList" "modCount" "I") ∈ WG := WG_at 67 (by decide +kernel) (by decide +kernel)
theorem q_68 : (Jvm.Cond.sameField "java/util/ArrayList" "java/util/AbstractList" "modCount" "I") ∈ WG := WG_at 68 (by decide +kernel) (by decide +kernel)
theorem q_69 : (Jvm.Cond.lays "java/util/ArrayList" "java/util/ArrayList" "elementData" "[Ljava/lang/Object;") ∈ WG := WG_at 69 (by decide +kernel) (by decide +kernel)
theorem q_70 : (Jvm.Cond.soleField "java/util/ArrayList" "elementData") ∈ WG := WG_at 70 (by decide +kernel) (by decide +kernel)
theorem q_71 : (Jvm.Cond.lays "java/util/ArrayList" "java/util/ArrayList" "size" "I") ∈ WG := WG_at 71 (by decide +kernel) (by decide +kernel)
theorem q_72 : (Jvm.Cond.soleField "java/util/ArrayList" "size") ∈ WG := WG_at 72 (by decide +kernel) (by decide +kernel)
theorem q_73 : (Jvm.Cond.lays "java/util/ArrayList" "java/util/AbstractList" "modCount" "I") ∈ WG := WG_at 73 (by decide +kernel) (by decide +kernel)
theorem q_74 : (Jvm.Cond.soleField "java/util/AbstractList" "modCount") ∈ WG := WG_at 74 (by decide +kernel) (by decide +kernel)
theorem q_75 : (Jvm.Cond.superclass "java/util/ArrayList" "java/util/AbstractList") ∈ WG := WG_at 75 (by decide +kernel) (by decide +kernel)
theorem q_76 : (Jvm.Cond.classLink "NetlistBench" (23 : Nat) "NetlistBench$Equations") ∈ WG := WG_at 76 (by decide +kernel) (by decide +kernel)
theorem q_77 : (Jvm.Cond.instantiable "NetlistBench$Equations" (5 : Nat)) ∈ WG := WG_at 77 (by decide +kernel) (by decide +kernel)
theorem q_78 : (Jvm.Cond.methodLinkNest "NetlistBench" (25 : Nat) ({ cls := "NetlistBench$Equations", name := "<init>", desc := "()V" } : Jvm.MethodName) "NetlistBench") ∈ lw_tbl := lw_bad 78 (by decide +kernel)
theorem q_79 : (Jvm.Cond.instanceMethod ({ cls := "NetlistBench$Equations", name := "<init>", desc := "()V" } : Jvm.MethodName)) ∈ WG := WG_at 79 (by decide +kernel) (by decide +kernel)
theorem q_80 : (Jvm.Cond.code ({ cls := "NetlistBench$Equations", name := "<init>", desc := "()V" } : Jvm.MethodName) prog_3_method_1_code (1 : Nat) (Option.none : Option Jvm.ClassFile.FieldType)) ∈ WG := WG_at 80 (by decide +kernel) (by decide +kernel)
theorem q_81 : (Jvm.Cond.methodLink "NetlistBench$Equations" (3 : Nat) ({ cls := "java/lang/Object", name := "<init>", desc := "()V" } : Jvm.MethodName)) ∈ WG := WG_at 81 (by decide +kernel) (by decide +kernel)
theorem q_82 : (Jvm.Cond.classLink "NetlistBench$Equations" (19 : Nat) "[[J") ∈ WG := WG_at 82 (by decide +kernel) (by decide +kernel)
theorem q_83 : (Jvm.Cond.arrayOver (Jvm.ClassFile.FieldType.array Jvm.ClassFile.FieldType.long)) ∈ lw_tbl := lw_bad 83 (by decide +kernel)
theorem q_84 : (Jvm.Cond.fieldLink "NetlistBench$Equations" (9 : Nat) "NetlistBench$Equations" "places" "[I") ∈ WG := WG_at 84 (by decide +kernel) (by decide +kernel)
theorem q_85 : (Jvm.Cond.fieldLink "NetlistBench$Equations" (15 : Nat) "NetlistBench$Equations" "known" "[J") ∈ WG := WG_at 85 (by decide +kernel) (by decide +kernel)
theorem q_86 : (Jvm.Cond.fieldLink "NetlistBench$Equations" (21 : Nat) "NetlistBench$Equations" "rows" "[[J") ∈ WG := WG_at 86 (by decide +kernel) (by decide +kernel)
theorem q_87 : (Jvm.Cond.fieldLink "NetlistBench$Equations" (24 : Nat) "NetlistBench$Equations" "minors" "[J") ∈ WG := WG_at 87 (by decide +kernel) (by decide +kernel)
theorem q_88 : (Jvm.Cond.fieldLink "NetlistBench$Equations" (27 : Nat) "NetlistBench$Equations" "unknowns" "I") ∈ WG := WG_at 88 (by decide +kernel) (by decide +kernel)
theorem q_89 : (Jvm.Cond.laysFinal "NetlistBench$Equations" "NetlistBench$Equations" "places" "[I") ∈ WG := WG_at 89 (by decide +kernel) (by decide +kernel)
theorem q_90 : (Jvm.Cond.soleField "NetlistBench$Equations" "places") ∈ WG := WG_at 90 (by decide +kernel) (by decide +kernel)
theorem q_91 : (Jvm.Cond.laysFinal "NetlistBench$Equations" "NetlistBench$Equations" "known" "[J") ∈ WG := WG_at 91 (by decide +kernel) (by decide +kernel)
theorem q_92 : (Jvm.Cond.soleField "NetlistBench$Equations" "known") ∈ WG := WG_at 92 (by decide +kernel) (by decide +kernel)
theorem q_93 : (Jvm.Cond.laysFinal "NetlistBench$Equations" "NetlistBench$Equations" "rows" "[[J") ∈ WG := WG_at 93 (by decide +kernel) (by decide +kernel)
theorem q_94 : (Jvm.Cond.soleField "NetlistBench$Equations" "rows") ∈ WG := WG_at 94 (by decide +kernel) (by decide +kernel)
theorem q_95 : (Jvm.Cond.laysFinal "NetlistBench$Equations" "NetlistBench$Equations" "minors" "[J") ∈ WG := WG_at 95 (by decide +kernel) (by decide +kernel)
theorem q_96 : (Jvm.Cond.soleField "NetlistBench$Equations" "minors") ∈ WG := WG_at 96 (by decide +kernel) (by decide +kernel)
theorem q_97 : (Jvm.Cond.lays "NetlistBench$Equations" "NetlistBench$Equations" "unknowns" "I") ∈ WG := WG_at 97 (by decide +kernel) (by decide +kernel)
theorem q_98 : (Jvm.Cond.soleField "NetlistBench$Equations" "unknowns") ∈ WG := WG_at 98 (by decide +kernel) (by decide +kernel)
theorem q_99 : (Jvm.Cond.superclass "NetlistBench$Equations" "java/lang/Object") ∈ WG := WG_at 99 (by decide +kernel) (by decide +kernel)
theorem q_100 : (Jvm.Cond.arrayClass Jvm.ClassFile.FieldType.int) ∈ WG := WG_at 100 (by decide +kernel) (by decide +kernel)
theorem q_101 : (Jvm.Cond.arrayClass Jvm.ClassFile.FieldType.long) ∈ WG := WG_at 101 (by decide +kernel) (by decide +kernel)
theorem q_102 : (Jvm.Cond.fieldLink "NetlistBench" (12 : Nat) "NetlistBench" "nodes" "Ljava/util/ArrayList;") ∈ WG := WG_at 102 (by decide +kernel) (by decide +kernel)
theorem q_103 : (Jvm.Cond.fieldLink "NetlistBench" (16 : Nat) "NetlistBench" "elements" "Ljava/util/ArrayList;") ∈ WG := WG_at 103 (by decide +kernel) (by decide +kernel)
theorem q_104 : (Jvm.Cond.fieldLink "NetlistBench" (19 : Nat) "NetlistBench" "groups" "[I") ∈ WG := WG_at 104 (by decide +kernel) (by decide +kernel)
theorem q_105 : (Jvm.Cond.fieldLink "NetlistBench" (26 : Nat) "NetlistBench" "equations" "LNetlistBench$Equations;") ∈ WG := WG_at 105 (by decide +kernel) (by decide +kernel)
theorem q_106 : (Jvm.Cond.laysFinal "NetlistBench" "NetlistBench" "nodes" "Ljava/util/ArrayList;") ∈ WG := WG_at 106 (by decide +kernel) (by decide +kernel)
theorem q_107 : (Jvm.Cond.soleField "NetlistBench" "nodes") ∈ WG := WG_at 107 (by decide +kernel) (by decide +kernel)
theorem q_108 : (Jvm.Cond.laysFinal "NetlistBench" "NetlistBench" "elements" "Ljava/util/ArrayList;") ∈ WG := WG_at 108 (by decide +kernel) (by decide +kernel)
theorem q_109 : (Jvm.Cond.soleField "NetlistBench" "elements") ∈ WG := WG_at 109 (by decide +kernel) (by decide +kernel)
theorem q_110 : (Jvm.Cond.laysFinal "NetlistBench" "NetlistBench" "groups" "[I") ∈ WG := WG_at 110 (by decide +kernel) (by decide +kernel)
theorem q_111 : (Jvm.Cond.soleField "NetlistBench" "groups") ∈ WG := WG_at 111 (by decide +kernel) (by decide +kernel)
theorem q_112 : (Jvm.Cond.laysFinal "NetlistBench" "NetlistBench" "equations" "LNetlistBench$Equations;") ∈ WG := WG_at 112 (by decide +kernel) (by decide +kernel)
theorem q_113 : (Jvm.Cond.soleField "NetlistBench" "equations") ∈ WG := WG_at 113 (by decide +kernel) (by decide +kernel)
theorem q_114 : (Jvm.Cond.superclass "NetlistBench" "java/lang/Object") ∈ WG := WG_at 114 (by decide +kernel) (by decide +kernel)
theorem q_115 : (Jvm.Cond.methodLink "NetlistBenchLaw" (87 : Nat) ({ cls := "NetlistBench", name := "resize", desc := "(II)I" } : Jvm.MethodName)) ∈ WG := WG_at 115 (by decide +kernel) (by decide +kernel)
theorem q_116 : (Jvm.Cond.instanceMethod ({ cls := "NetlistBench", name := "resize", desc := "(II)I" } : Jvm.MethodName)) ∈ WG := WG_at 116 (by decide +kernel) (by decide +kernel)
theorem q_117 : (Jvm.Cond.selects "NetlistBench" ({ cls := "NetlistBench", name := "resize", desc := "(II)I" } : Jvm.MethodName) ({ cls := "NetlistBench", name := "resize", desc := "(II)I" } : Jvm.MethodName)) ∈ WG := WG_at 117 (by decide +kernel) (by decide +kernel)
theorem q_118 : (Jvm.Cond.code ({ cls := "NetlistBench", name := "resize", desc := "(II)I" } : Jvm.MethodName) prog_1_method_5_code (5 : Nat) (Option.some Jvm.ClassFile.FieldType.int)) ∈ WG := WG_at 118 (by decide +kernel) (by decide +kernel)
theorem q_119 : (Jvm.Cond.methodLink "NetlistBench" (82 : Nat) ({ cls := "NetlistBench", name := "checkElement", desc := "(I)V" } : Jvm.MethodName)) ∈ WG := WG_at 119 (by decide +kernel) (by decide +kernel)
theorem q_120 : (Jvm.Cond.privateMethod ({ cls := "NetlistBench", name := "checkElement", desc := "(I)V" } : Jvm.MethodName)) ∈ lw_tbl := lw_bad 120 (by decide +kernel)
theorem q_121 : (Jvm.Cond.instanceMethod ({ cls := "NetlistBench", name := "checkElement", desc := "(I)V" } : Jvm.MethodName)) ∈ WG := WG_at 121 (by decide +kernel) (by decide +kernel)
theorem q_122 : (Jvm.Cond.code ({ cls := "NetlistBench", name := "checkElement", desc := "(I)V" } : Jvm.MethodName) prog_1_method_25_code (2 : Nat) (Option.none : Option Jvm.ClassFile.FieldType)) ∈ WG := WG_at 122 (by decide +kernel) (by decide +kernel)
theorem q_123 : (Jvm.Cond.methodLink "NetlistBench" (30 : Nat) ({ cls := "java/util/ArrayList", name := "size", desc := "()I" } : Jvm.MethodName)) ∈ WG := WG_at 123 (by decide +kernel) (by decide +kernel)
theorem q_124 : (Jvm.Cond.instanceMethod ({ cls := "java/util/ArrayList", name := "size", desc := "()I" } : Jvm.MethodName)) ∈ WG := WG_at 124 (by decide +kernel) (by decide +kernel)
theorem q_125 : (Jvm.Cond.selects "java/util/ArrayList" ({ cls := "java/util/ArrayList", name := "size", desc := "()I" } : Jvm.MethodName) ({ cls := "java/util/ArrayList", name := "size", desc := "()I" } : Jvm.MethodName)) ∈ WG := WG_at 125 (by decide +kernel) (by decide +kernel)
theorem q_126 : (Jvm.Cond.code ({ cls := "java/util/ArrayList", name := "size", desc := "()I" } : Jvm.MethodName) prog_23_method_8_code (1 : Nat) (Option.some Jvm.ClassFile.FieldType.int)) ∈ WG := WG_at 126 (by decide +kernel) (by decide +kernel)
theorem q_127 : (Jvm.Cond.classLink "NetlistBench" (110 : Nat) "java/lang/IndexOutOfBoundsException") ∈ WG := WG_at 127 (by decide +kernel) (by decide +kernel)
theorem q_128 : (Jvm.Cond.instantiable "java/lang/IndexOutOfBoundsException" (6 : Nat)) ∈ WG := WG_at 128 (by decide +kernel) (by decide +kernel)
theorem q_129 : (Jvm.Cond.castable "java/lang/IndexOutOfBoundsException" "java/lang/IndexOutOfBoundsException") ∈ lw_tbl := lw_bad 129 (by decide +kernel)
theorem q_130 : (Jvm.Cond.declares ({ cls := "java/lang/RuntimeException", name := "<init>", desc := "()V" } : Jvm.MethodName)) ∈ lw_tbl := lw_bad 130 (by decide +kernel)
theorem q_131 : (Jvm.Cond.declares ({ cls := "java/lang/RuntimeException", name := "<init>", desc := "(Ljava/lang/String;)V" } : Jvm.MethodName)) ∈ lw_tbl := lw_bad 131 (by decide +kernel)
theorem q_132 : (Jvm.Cond.declares ({ cls := "java/lang/Exception", name := "<init>", desc := "()V" } : Jvm.MethodName)) ∈ lw_tbl := lw_bad 132 (by decide +kernel)
theorem q_133 : (Jvm.Cond.declares ({ cls := "java/lang/Exception", name := "<init>", desc := "(Ljava/lang/String;)V" } : Jvm.MethodName)) ∈ lw_tbl := lw_bad 133 (by decide +kernel)
theorem q_134 : (Jvm.Cond.declares ({ cls := "java/lang/Throwable", name := "<init>", desc := "()V" } : Jvm.MethodName)) ∈ lw_tbl := lw_bad 134 (by decide +kernel)
theorem q_135 : (Jvm.Cond.declares ({ cls := "java/lang/Throwable", name := "<init>", desc := "(Ljava/lang/String;)V" } : Jvm.MethodName)) ∈ lw_tbl := lw_bad 135 (by decide +kernel)
theorem q_136 : (Jvm.Cond.selects "java/lang/IndexOutOfBoundsException" ({ cls := "java/lang/Throwable", name := "fillInStackTrace", desc := "(I)Ljava/lang/Throwable;" } : Jvm.MethodName) ({ cls := "java/lang/Throwable", name := "fillInStackTrace", desc := "(I)Ljava/lang/Throwable;" } : Jvm.MethodName)) ∈ WG := WG_at 136 (by decide +kernel) (by decide +kernel)
theorem q_137 : (Jvm.Cond.selects "java/lang/IndexOutOfBoundsException" ({ cls := "java/lang/Throwable", name := "fillInStackTrace", desc := "()Ljava/lang/Throwable;" } : Jvm.MethodName) ({ cls := "java/lang/Throwable", name := "fillInStackTrace", desc := "()Ljava/lang/Throwable;" } : Jvm.MethodName)) ∈ WG := WG_at 137 (by decide +kernel) (by decide +kernel)
theorem q_138 : (Jvm.Cond.lays "java/lang/IndexOutOfBoundsException" "java/lang/Throwable" "cause" "Ljava/lang/Throwable;") ∈ WG := WG_at 138 (by decide +kernel) (by decide +kernel)
theorem q_139 : (Jvm.Cond.lays "java/lang/Throwable" "java/lang/Throwable" "cause" "Ljava/lang/Throwable;") ∈ WG := WG_at 139 (by decide +kernel) (by decide +kernel)
theorem q_140 : (Jvm.Cond.lays "java/lang/IndexOutOfBoundsException" "java/lang/Throwable" "stackTrace" "[Ljava/lang/StackTraceElement;") ∈ WG := WG_at 140 (by decide +kernel) (by decide +kernel)
theorem q_141 : (Jvm.Cond.lays "java/lang/Throwable" "java/lang/Throwable" "stackTrace" "[Ljava/lang/StackTraceElement;") ∈ WG := WG_at 141 (by decide +kernel) (by decide +kernel)
theorem q_142 : (Jvm.Cond.lays "java/lang/IndexOutOfBoundsException" "java/lang/Throwable" "suppressedExceptions" "Ljava/util/List;") ∈ WG := WG_at 142 (by decide +kernel) (by decide +kernel)
theorem q_143 : (Jvm.Cond.lays "java/lang/Throwable" "java/lang/Throwable" "suppressedExceptions" "Ljava/util/List;") ∈ WG := WG_at 143 (by decide +kernel) (by decide +kernel)
theorem q_144 : (Jvm.Cond.lays "java/lang/IndexOutOfBoundsException" "java/lang/Throwable" "detailMessage" "Ljava/lang/String;") ∈ WG := WG_at 144 (by decide +kernel) (by decide +kernel)
theorem q_145 : (Jvm.Cond.lays "java/lang/Throwable" "java/lang/Throwable" "detailMessage" "Ljava/lang/String;") ∈ WG := WG_at 145 (by decide +kernel) (by decide +kernel)
theorem q_146 : (Jvm.Cond.lays "java/lang/IndexOutOfBoundsException" "java/lang/Throwable" "backtrace" "Ljava/lang/Object;") ∈ WG := WG_at 146 (by decide +kernel) (by decide +kernel)
theorem q_147 : (Jvm.Cond.lays "java/lang/Throwable" "java/lang/Throwable" "backtrace" "Ljava/lang/Object;") ∈ WG := WG_at 147 (by decide +kernel) (by decide +kernel)
theorem q_148 : (Jvm.Cond.fieldLink "java/lang/Throwable" (198 : Nat) "java/lang/Throwable" "backtrace" "Ljava/lang/Object;") ∈ WG := WG_at 148 (by decide +kernel) (by decide +kernel)
theorem q_149 : (Jvm.Cond.superclass "java/lang/Throwable" "java/lang/Object") ∈ WG := WG_at 149 (by decide +kernel) (by decide +kernel)
theorem q_150 : (Jvm.Cond.instanceMethod ({ cls := "java/lang/Throwable", name := "<init>", desc := "()V" } : Jvm.MethodName)) ∈ WG := WG_at 150 (by decide +kernel) (by decide +kernel)
theorem q_151 : (Jvm.Cond.code ({ cls := "java/lang/Throwable", name := "<init>", desc := "()V" } : Jvm.MethodName) prog_20_method_1_code (1 : Nat) (Option.none : Option Jvm.ClassFile.FieldType)) ∈ WG := WG_at 151 (by decide +kernel) (by decide +kernel)
theorem q_152 : (Jvm.Cond.methodLink "java/lang/Throwable" (1 : Nat) ({ cls := "java/lang/Object", name := "<init>", desc := "()V" } : Jvm.MethodName)) ∈ WG := WG_at 152 (by decide +kernel) (by decide +kernel)
theorem q_153 : (Jvm.Cond.fieldLink "java/lang/Throwable" (13 : Nat) "java/lang/Throwable" "UNASSIGNED_STACK" "[Ljava/lang/StackTraceElement;") ∈ WG := WG_at 153 (by decide +kernel) (by decide +kernel)
theorem q_154 : (Jvm.Cond.laysStatic "java/lang/Throwable" "UNASSIGNED_STACK" "[Ljava/lang/StackTraceElement;") ∈ lw_tbl := lw_bad 154 (by decide +kernel)
theorem q_155 : (Jvm.Cond.fieldLink "java/lang/Throwable" (20 : Nat) "java/lang/Throwable" "SUPPRESSED_SENTINEL" "Ljava/util/List;") ∈ WG := WG_at 155 (by decide +kernel) (by decide +kernel)
theorem q_156 : (Jvm.Cond.laysStatic "java/lang/Throwable" "SUPPRESSED_SENTINEL" "Ljava/util/List;") ∈ lw_tbl := lw_bad 156 (by decide +kernel)
theorem q_157 : (Jvm.Cond.methodLink "java/lang/Throwable" (27 : Nat) ({ cls := "java/lang/Throwable", name := "fillInStackTrace", desc := "()Ljava/lang/Throwable;" } : Jvm.MethodName)) ∈ WG := WG_at 157 (by decide +kernel) (by decide +kernel)
theorem q_158 : (Jvm.Cond.instanceMethod ({ cls := "java/lang/Throwable", name := "fillInStackTrace", desc := "()Ljava/lang/Throwable;" } : Jvm.MethodName)) ∈ WG := WG_at 158 (by decide +kernel) (by decide +kernel)
theorem q_159 : (Jvm.Cond.sameMethod "java/lang/Throwable" "java/lang/Throwable" "fillInStackTrace" "()Ljava/lang/Throwable;") ∈ WG := WG_at 159 (by decide +kernel) (by decide +kernel)
theorem q_160 : (Jvm.Cond.selects "java/lang/IllegalArgumentException" ({ cls := "java/lang/Throwable", name := "fillInStackTrace", desc := "()Ljava/lang/Throwable;" } : Jvm.MethodName) ({ cls := "java/lang/Throwable", name := "fillInStackTrace", desc := "()Ljava/lang/Throwable;" } : Jvm.MethodName)) ∈ WG := WG_at 160 (by decide +kernel) (by decide +kernel)
theorem q_161 : (Jvm.Cond.selects "java/lang/IllegalStateException" ({ cls := "java/lang/Throwable", name := "fillInStackTrace", desc := "()Ljava/lang/Throwable;" } : Jvm.MethodName) ({ cls := "java/lang/Throwable", name := "fillInStackTrace", desc := "()Ljava/lang/Throwable;" } : Jvm.MethodName)) ∈ WG := WG_at 161 (by decide +kernel) (by decide +kernel)
theorem q_162 : (Jvm.Cond.codeSync ({ cls := "java/lang/Throwable", name := "fillInStackTrace", desc := "()Ljava/lang/Throwable;" } : Jvm.MethodName) prog_20_method_18_code (1 : Nat) (Option.some (Jvm.ClassFile.FieldType.object "java/lang/Throwable"))) ∈ WG := WG_at 162 (by decide +kernel) (by decide +kernel)
theorem q_163 : (Jvm.Cond.methodLink "java/lang/Throwable" (202 : Nat) ({ cls := "java/lang/Throwable", name := "fillInStackTrace", desc := "(I)Ljava/lang/Throwable;" } : Jvm.MethodName)) ∈ WG := WG_at 163 (by decide +kernel) (by decide +kernel)
theorem q_164 : (Jvm.Cond.privateMethod ({ cls := "java/lang/Throwable", name := "fillInStackTrace", desc := "(I)Ljava/lang/Throwable;" } : Jvm.MethodName)) ∈ lw_tbl := lw_bad 164 (by decide +kernel)
theorem q_165 : (Jvm.Cond.instanceMethod ({ cls := "java/lang/Throwable", name := "fillInStackTrace", desc := "(I)Ljava/lang/Throwable;" } : Jvm.MethodName)) ∈ WG := WG_at 165 (by decide +kernel) (by decide +kernel)
theorem q_166 : (Jvm.Cond.instantiable "java/lang/Throwable" (6 : Nat)) ∈ WG := WG_at 166 (by decide +kernel) (by decide +kernel)
theorem q_167 : (Jvm.Cond.native ({ cls := "java/lang/Throwable", name := "fillInStackTrace", desc := "(I)Ljava/lang/Throwable;" } : Jvm.MethodName)) ∈ WG := WG_at 167 (by decide +kernel) (by decide +kernel)
theorem q_168 : (Jvm.Cond.stringRef "NetlistBench" (211 : Nat) "there is no such element") ∈ lw_tbl := lw_bad 168 (by decide +kernel)
theorem q_169 : (Jvm.Cond.methodLink "NetlistBench" (114 : Nat) ({ cls := "java/lang/IndexOutOfBoundsException", name := "<init>", desc := "(Ljava/lang/String;)V" } : Jvm.MethodName)) ∈ WG := WG_at 169 (by decide +kernel) (by decide +kernel)
theorem q_170 : (Jvm.Cond.instanceMethod ({ cls := "java/lang/IndexOutOfBoundsException", name := "<init>", desc := "(Ljava/lang/String;)V" } : Jvm.MethodName)) ∈ WG := WG_at 170 (by decide +kernel) (by decide +kernel)
theorem q_171 : (Jvm.Cond.code ({ cls := "java/lang/IndexOutOfBoundsException", name := "<init>", desc := "(Ljava/lang/String;)V" } : Jvm.MethodName) prog_13_method_2_code (2 : Nat) (Option.none : Option Jvm.ClassFile.FieldType)) ∈ WG := WG_at 171 (by decide +kernel) (by decide +kernel)
theorem q_172 : (Jvm.Cond.methodLink "java/lang/IndexOutOfBoundsException" (7 : Nat) ({ cls := "java/lang/RuntimeException", name := "<init>", desc := "(Ljava/lang/String;)V" } : Jvm.MethodName)) ∈ WG := WG_at 172 (by decide +kernel) (by decide +kernel)
theorem q_173 : (Jvm.Cond.instanceMethod ({ cls := "java/lang/RuntimeException", name := "<init>", desc := "(Ljava/lang/String;)V" } : Jvm.MethodName)) ∈ WG := WG_at 173 (by decide +kernel) (by decide +kernel)
theorem q_174 : (Jvm.Cond.code ({ cls := "java/lang/RuntimeException", name := "<init>", desc := "(Ljava/lang/String;)V" } : Jvm.MethodName) prog_17_method_2_code (2 : Nat) (Option.none : Option Jvm.ClassFile.FieldType)) ∈ WG := WG_at 174 (by decide +kernel) (by decide +kernel)
theorem q_175 : (Jvm.Cond.methodLink "java/lang/RuntimeException" (7 : Nat) ({ cls := "java/lang/Exception", name := "<init>", desc := "(Ljava/lang/String;)V" } : Jvm.MethodName)) ∈ WG := WG_at 175 (by decide +kernel) (by decide +kernel)
theorem q_176 : (Jvm.Cond.instanceMethod ({ cls := "java/lang/Exception", name := "<init>", desc := "(Ljava/lang/String;)V" } : Jvm.MethodName)) ∈ WG := WG_at 176 (by decide +kernel) (by decide +kernel)
theorem q_177 : (Jvm.Cond.code ({ cls := "java/lang/Exception", name := "<init>", desc := "(Ljava/lang/String;)V" } : Jvm.MethodName) prog_10_method_2_code (2 : Nat) (Option.none : Option Jvm.ClassFile.FieldType)) ∈ WG := WG_at 177 (by decide +kernel) (by decide +kernel)
theorem q_178 : (Jvm.Cond.methodLink "java/lang/Exception" (7 : Nat) ({ cls := "java/lang/Throwable", name := "<init>", desc := "(Ljava/lang/String;)V" } : Jvm.MethodName)) ∈ WG := WG_at 178 (by decide +kernel) (by decide +kernel)
theorem q_179 : (Jvm.Cond.instanceMethod ({ cls := "java/lang/Throwable", name := "<init>", desc := "(Ljava/lang/String;)V" } : Jvm.MethodName)) ∈ WG := WG_at 179 (by decide +kernel) (by decide +kernel)
theorem q_180 : (Jvm.Cond.code ({ cls := "java/lang/Throwable", name := "<init>", desc := "(Ljava/lang/String;)V" } : Jvm.MethodName) prog_20_method_2_code (2 : Nat) (Option.none : Option Jvm.ClassFile.FieldType)) ∈ WG := WG_at 180 (by decide +kernel) (by decide +kernel)
theorem q_182 : (Jvm.Cond.fieldLink "java/lang/Throwable" (31 : Nat) "java/lang/Throwable" "detailMessage" "Ljava/lang/String;") ∈ WG := WG_at 182 (by decide +kernel) (by decide +kernel)
theorem q_183 : (Jvm.Cond.fieldLink "java/lang/Throwable" (7 : Nat) "java/lang/Throwable" "cause" "Ljava/lang/Throwable;") ∈ WG := WG_at 183 (by decide +kernel) (by decide +kernel)
theorem q_184 : (Jvm.Cond.fieldLink "java/lang/Throwable" (17 : Nat) "java/lang/Throwable" "stackTrace" "[Ljava/lang/StackTraceElement;") ∈ WG := WG_at 184 (by decide +kernel) (by decide +kernel)
theorem q_185 : (Jvm.Cond.fieldLink "java/lang/Throwable" (24 : Nat) "java/lang/Throwable" "suppressedExceptions" "Ljava/util/List;") ∈ WG := WG_at 185 (by decide +kernel) (by decide +kernel)
theorem q_186 : (Jvm.Cond.soleField "java/lang/Throwable" "backtrace") ∈ WG := WG_at 186 (by decide +kernel) (by decide +kernel)
theorem q_187 : (Jvm.Cond.soleField "java/lang/Throwable" "detailMessage") ∈ WG := WG_at 187 (by decide +kernel) (by decide +kernel)
theorem q_188 : (Jvm.Cond.soleField "java/lang/Throwable" "cause") ∈ WG := WG_at 188 (by decide +kernel) (by decide +kernel)
theorem q_189 : (Jvm.Cond.soleField "java/lang/Throwable" "stackTrace") ∈ WG := WG_at 189 (by decide +kernel) (by decide +kernel)
theorem q_190 : (Jvm.Cond.lays "java/lang/IndexOutOfBoundsException" "java/lang/Throwable" "depth" "I") ∈ WG := WG_at 190 (by decide +kernel) (by decide +kernel)
theorem q_191 : (Jvm.Cond.soleField "java/lang/Throwable" "depth") ∈ WG := WG_at 191 (by decide +kernel) (by decide +kernel)
theorem q_192 : (Jvm.Cond.soleField "java/lang/Throwable" "suppressedExceptions") ∈ WG := WG_at 192 (by decide +kernel) (by decide +kernel)
theorem q_193 : (Jvm.Cond.superclass "java/lang/IndexOutOfBoundsException" "java/lang/RuntimeException") ∈ WG := WG_at 193 (by decide +kernel) (by decide +kernel)
theorem q_194 : (Jvm.Cond.arrayClass Jvm.ClassFile.FieldType.byte) ∈ WG := WG_at 194 (by decide +kernel) (by decide +kernel)
theorem q_195 : (Jvm.Cond.methodLink "NetlistBench" (57 : Nat) ({ cls := "java/util/ArrayList", name := "get", desc := "(I)Ljava/lang/Object;" } : Jvm.MethodName)) ∈ WG := WG_at 195 (by decide +kernel) (by decide +kernel)
theorem q_196 : (Jvm.Cond.instanceMethod ({ cls := "java/util/ArrayList", name := "get", desc := "(I)Ljava/lang/Object;" } : Jvm.MethodName)) ∈ WG := WG_at 196 (by decide +kernel) (by decide +kernel)
theorem q_197 : (Jvm.Cond.selects "java/util/ArrayList" ({ cls := "java/util/ArrayList", name := "get", desc := "(I)Ljava/lang/Object;" } : Jvm.MethodName) ({ cls := "java/util/ArrayList", name := "get", desc := "(I)Ljava/lang/Object;" } : Jvm.MethodName)) ∈ WG := WG_at 197 (by decide +kernel) (by decide +kernel)
theorem q_198 : (Jvm.Cond.code ({ cls := "java/util/ArrayList", name := "get", desc := "(I)Ljava/lang/Object;" } : Jvm.MethodName) prog_23_method_20_code (2 : Nat) (Option.some (Jvm.ClassFile.FieldType.object "java/lang/Object"))) ∈ WG := WG_at 198 (by decide +kernel) (by decide +kernel)
theorem q_199 : (Jvm.Cond.methodLink "java/util/ArrayList" (118 : Nat) ({ cls := "java/util/Objects", name := "checkIndex", desc := "(II)I" } : Jvm.MethodName)) ∈ WG := WG_at 199 (by decide +kernel) (by decide +kernel)
theorem q_200 : (Jvm.Cond.static ({ cls := "java/util/Objects", name := "checkIndex", desc := "(II)I" } : Jvm.MethodName)) ∈ WG := WG_at 200 (by decide +kernel) (by decide +kernel)
theorem q_201 : (Jvm.Cond.code ({ cls := "java/util/Objects", name := "checkIndex", desc := "(II)I" } : Jvm.MethodName) prog_27_method_17_code (2 : Nat) (Option.some Jvm.ClassFile.FieldType.int)) ∈ WG := WG_at 201 (by decide +kernel) (by decide +kernel)
theorem q_202 : (Jvm.Cond.methodLink "java/util/Objects" (105 : Nat) ({ cls := "jdk/internal/util/Preconditions", name := "checkIndex", desc := "(IILjava/util/function/BiFunction;)I" } : Jvm.MethodName)) ∈ WG := WG_at 202 (by decide +kernel) (by decide +kernel)
theorem q_203 : (Jvm.Cond.static ({ cls := "jdk/internal/util/Preconditions", name := "checkIndex", desc := "(IILjava/util/function/BiFunction;)I" } : Jvm.MethodName)) ∈ WG := WG_at 203 (by decide +kernel) (by decide +kernel)
theorem q_204 : (Jvm.Cond.code ({ cls := "jdk/internal/util/Preconditions", name := "checkIndex", desc := "(IILjava/util/function/BiFunction;)I" } : Jvm.MethodName) prog_31_method_11_code (3 : Nat) (Option.some Jvm.ClassFile.FieldType.int)) ∈ WG := WG_at 204 (by decide +kernel) (by decide +kernel)
theorem q_205 : (Jvm.Cond.methodLink "java/util/ArrayList" (123 : Nat) ({ cls := "java/util/ArrayList", name := "elementData", desc := "(I)Ljava/lang/Object;" } : Jvm.MethodName)) ∈ WG := WG_at 205 (by decide +kernel) (by decide +kernel)
theorem q_206 : (Jvm.Cond.instanceMethod ({ cls := "java/util/ArrayList", name := "elementData", desc := "(I)Ljava/lang/Object;" } : Jvm.MethodName)) ∈ WG := WG_at 206 (by decide +kernel) (by decide +kernel)
theorem q_207 : (Jvm.Cond.selects "java/util/ArrayList" ({ cls := "java/util/ArrayList", name := "elementData", desc := "(I)Ljava/lang/Object;" } : Jvm.MethodName) ({ cls := "java/util/ArrayList", name := "elementData", desc := "(I)Ljava/lang/Object;" } : Jvm.MethodName)) ∈ WG := WG_at 207 (by decide +kernel) (by decide +kernel)
theorem q_208 : (Jvm.Cond.code ({ cls := "java/util/ArrayList", name := "elementData", desc := "(I)Ljava/lang/Object;" } : Jvm.MethodName) prog_23_method_18_code (2 : Nat) (Option.some (Jvm.ClassFile.FieldType.object "java/lang/Object"))) ∈ WG := WG_at 208 (by decide +kernel) (by decide +kernel)
theorem q_209 : (Jvm.Cond.classLink "NetlistBench" (77 : Nat) "NetlistBench$Element") ∈ WG := WG_at 209 (by decide +kernel) (by decide +kernel)
theorem q_210 : (Jvm.Cond.methodLink "NetlistBench" (71 : Nat) ({ cls := "NetlistBench", name := "checkSize", desc := "(ZI)V" } : Jvm.MethodName)) ∈ WG := WG_at 210 (by decide +kernel) (by decide +kernel)
theorem q_211 : (Jvm.Cond.static ({ cls := "NetlistBench", name := "checkSize", desc := "(ZI)V" } : Jvm.MethodName)) ∈ WG := WG_at 211 (by decide +kernel) (by decide +kernel)
theorem q_212 : (Jvm.Cond.code ({ cls := "NetlistBench", name := "checkSize", desc := "(ZI)V" } : Jvm.MethodName) prog_1_method_27_code (4 : Nat) (Option.none : Option Jvm.ClassFile.FieldType)) ∈ WG := WG_at 212 (by decide +kernel) (by decide +kernel)
theorem q_213 : (Jvm.Cond.classLink "NetlistBench" (52 : Nat) "java/lang/IllegalArgumentException") ∈ WG := WG_at 213 (by decide +kernel) (by decide +kernel)
theorem q_214 : (Jvm.Cond.instantiable "java/lang/IllegalArgumentException" (6 : Nat)) ∈ WG := WG_at 214 (by decide +kernel) (by decide +kernel)
theorem q_215 : (Jvm.Cond.castable "java/lang/IllegalArgumentException" "java/lang/IllegalArgumentException") ∈ lw_tbl := lw_bad 215 (by decide +kernel)
theorem q_216 : (Jvm.Cond.selects "java/lang/IllegalArgumentException" ({ cls := "java/lang/Throwable", name := "fillInStackTrace", desc := "(I)Ljava/lang/Throwable;" } : Jvm.MethodName) ({ cls := "java/lang/Throwable", name := "fillInStackTrace", desc := "(I)Ljava/lang/Throwable;" } : Jvm.MethodName)) ∈ WG := WG_at 216 (by decide +kernel) (by decide +kernel)
theorem q_217 : (Jvm.Cond.lays "java/lang/IllegalArgumentException" "java/lang/Throwable" "cause" "Ljava/lang/Throwable;") ∈ WG := WG_at 217 (by decide +kernel) (by decide +kernel)
theorem q_218 : (Jvm.Cond.lays "java/lang/IllegalArgumentException" "java/lang/Throwable" "stackTrace" "[Ljava/lang/StackTraceElement;") ∈ WG := WG_at 218 (by decide +kernel) (by decide +kernel)
theorem q_219 : (Jvm.Cond.lays "java/lang/IllegalArgumentException" "java/lang/Throwable" "suppressedExceptions" "Ljava/util/List;") ∈ WG := WG_at 219 (by decide +kernel) (by decide +kernel)
theorem q_220 : (Jvm.Cond.lays "java/lang/IllegalArgumentException" "java/lang/Throwable" "detailMessage" "Ljava/lang/String;") ∈ WG := WG_at 220 (by decide +kernel) (by decide +kernel)
theorem q_221 : (Jvm.Cond.lays "java/lang/IllegalArgumentException" "java/lang/Throwable" "backtrace" "Ljava/lang/Object;") ∈ WG := WG_at 221 (by decide +kernel) (by decide +kernel)
theorem q_222 : (Jvm.Cond.stringRef "NetlistBench" (215 : Nat) "the size is not one of such an element") ∈ lw_tbl := lw_bad 222 (by decide +kernel)
theorem q_223 : (Jvm.Cond.methodLink "NetlistBench" (56 : Nat) ({ cls := "java/lang/IllegalArgumentException", name := "<init>", desc := "(Ljava/lang/String;)V" } : Jvm.MethodName)) ∈ WG := WG_at 223 (by decide +kernel) (by decide +kernel)
theorem q_224 : (Jvm.Cond.instanceMethod ({ cls := "java/lang/IllegalArgumentException", name := "<init>", desc := "(Ljava/lang/String;)V" } : Jvm.MethodName)) ∈ WG := WG_at 224 (by decide +kernel) (by decide +kernel)
theorem q_225 : (Jvm.Cond.code ({ cls := "java/lang/IllegalArgumentException", name := "<init>", desc := "(Ljava/lang/String;)V" } : Jvm.MethodName) prog_11_method_2_code (2 : Nat) (Option.none : Option Jvm.ClassFile.FieldType)) ∈ WG := WG_at 225 (by decide +kernel) (by decide +kernel)
theorem q_226 : (Jvm.Cond.methodLink "java/lang/IllegalArgumentException" (7 : Nat) ({ cls := "java/lang/RuntimeException", name := "<init>", desc := "(Ljava/lang/String;)V" } : Jvm.MethodName)) ∈ WG := WG_at 226 (by decide +kernel) (by decide +kernel)
theorem q_227 : (Jvm.Cond.lays "java/lang/IllegalArgumentException" "java/lang/Throwable" "depth" "I") ∈ WG := WG_at 227 (by decide +kernel) (by decide +kernel)
theorem q_228 : (Jvm.Cond.superclass "java/lang/IllegalArgumentException" "java/lang/RuntimeException") ∈ WG := WG_at 228 (by decide +kernel) (by decide +kernel)
theorem q_229 : (Jvm.Cond.methodLink "NetlistBenchLaw" (82 : Nat) ({ cls := "NetlistBench", name := "floats", desc := "(II)Z" } : Jvm.MethodName)) ∈ WG := WG_at 229 (by decide +kernel) (by decide +kernel)
theorem q_230 : (Jvm.Cond.instanceMethod ({ cls := "NetlistBench", name := "floats", desc := "(II)Z" } : Jvm.MethodName)) ∈ WG := WG_at 230 (by decide +kernel) (by decide +kernel)
theorem q_231 : (Jvm.Cond.selects "NetlistBench" ({ cls := "NetlistBench", name := "floats", desc := "(II)Z" } : Jvm.MethodName) ({ cls := "NetlistBench", name := "floats", desc := "(II)Z" } : Jvm.MethodName)) ∈ WG := WG_at 231 (by decide +kernel) (by decide +kernel)
theorem q_232 : (Jvm.Cond.code ({ cls := "NetlistBench", name := "floats", desc := "(II)Z" } : Jvm.MethodName) prog_1_method_13_code (3 : Nat) (Option.some Jvm.ClassFile.FieldType.boolean)) ∈ WG := WG_at 232 (by decide +kernel) (by decide +kernel)
theorem q_233 : (Jvm.Cond.methodLink "NetlistBench" (48 : Nat) ({ cls := "NetlistBench", name := "checkNode", desc := "(I)V" } : Jvm.MethodName)) ∈ WG := WG_at 233 (by decide +kernel) (by decide +kernel)
theorem q_234 : (Jvm.Cond.privateMethod ({ cls := "NetlistBench", name := "checkNode", desc := "(I)V" } : Jvm.MethodName)) ∈ lw_tbl := lw_bad 234 (by decide +kernel)
theorem q_235 : (Jvm.Cond.instanceMethod ({ cls := "NetlistBench", name := "checkNode", desc := "(I)V" } : Jvm.MethodName)) ∈ WG := WG_at 235 (by decide +kernel) (by decide +kernel)
theorem q_236 : (Jvm.Cond.code ({ cls := "NetlistBench", name := "checkNode", desc := "(I)V" } : Jvm.MethodName) prog_1_method_24_code (2 : Nat) (Option.none : Option Jvm.ClassFile.FieldType)) ∈ WG := WG_at 236 (by decide +kernel) (by decide +kernel)
theorem q_237 : (Jvm.Cond.stringRef "NetlistBench" (209 : Nat) "there is no such node") ∈ lw_tbl := lw_bad 237 (by decide +kernel)
theorem q_238 : (Jvm.Cond.methodLink "NetlistBench" (129 : Nat) ({ cls := "NetlistBench", name := "checkTime", desc := "(I)V" } : Jvm.MethodName)) ∈ WG := WG_at 238 (by decide +kernel) (by decide +kernel)
theorem q_239 : (Jvm.Cond.static ({ cls := "NetlistBench", name := "checkTime", desc := "(I)V" } : Jvm.MethodName)) ∈ WG := WG_at 239 (by decide +kernel) (by decide +kernel)
theorem q_240 : (Jvm.Cond.code ({ cls := "NetlistBench", name := "checkTime", desc := "(I)V" } : Jvm.MethodName) prog_1_method_26_code (1 : Nat) (Option.none : Option Jvm.ClassFile.FieldType)) ∈ WG := WG_at 240 (by decide +kernel) (by decide +kernel)
theorem q_241 : (Jvm.Cond.stringRef "NetlistBench" (213 : Nat) "a time is 0 to 999") ∈ lw_tbl := lw_bad 241 (by decide +kernel)
theorem q_242 : (Jvm.Cond.methodLink "NetlistBench" (135 : Nat) ({ cls := "NetlistBench", name := "group", desc := "(I)V" } : Jvm.MethodName)) ∈ WG := WG_at 242 (by decide +kernel) (by decide +kernel)
theorem q_243 : (Jvm.Cond.privateMethod ({ cls := "NetlistBench", name := "group", desc := "(I)V" } : Jvm.MethodName)) ∈ lw_tbl := lw_bad 243 (by decide +kernel)
theorem q_244 : (Jvm.Cond.instanceMethod ({ cls := "NetlistBench", name := "group", desc := "(I)V" } : Jvm.MethodName)) ∈ WG := WG_at 244 (by decide +kernel) (by decide +kernel)
theorem q_245 : (Jvm.Cond.code ({ cls := "NetlistBench", name := "group", desc := "(I)V" } : Jvm.MethodName) prog_1_method_29_code (4 : Nat) (Option.none : Option Jvm.ClassFile.FieldType)) ∈ WG := WG_at 245 (by decide +kernel) (by decide +kernel)
theorem q_246 : (Jvm.Cond.methodLink "NetlistBench" (132 : Nat) ({ cls := "NetlistBench$Element", name := "runsAt", desc := "(I)Z" } : Jvm.MethodName)) ∈ WG := WG_at 246 (by decide +kernel) (by decide +kernel)
theorem q_247 : (Jvm.Cond.instanceMethod ({ cls := "NetlistBench$Element", name := "runsAt", desc := "(I)Z" } : Jvm.MethodName)) ∈ WG := WG_at 247 (by decide +kernel) (by decide +kernel)
theorem q_248 : (Jvm.Cond.selects "NetlistBench$Element" ({ cls := "NetlistBench$Element", name := "runsAt", desc := "(I)Z" } : Jvm.MethodName) ({ cls := "NetlistBench$Element", name := "runsAt", desc := "(I)Z" } : Jvm.MethodName)) ∈ WG := WG_at 248 (by decide +kernel) (by decide +kernel)
theorem q_249 : (Jvm.Cond.code ({ cls := "NetlistBench$Element", name := "runsAt", desc := "(I)Z" } : Jvm.MethodName) prog_2_method_2_code (2 : Nat) (Option.some Jvm.ClassFile.FieldType.boolean)) ∈ WG := WG_at 249 (by decide +kernel) (by decide +kernel)
theorem q_250 : (Jvm.Cond.methodLink "NetlistBench$Element" (35 : Nat) ({ cls := "NetlistBench$Element", name := "togglesBefore", desc := "(I)I" } : Jvm.MethodName)) ∈ WG := WG_at 250 (by decide +kernel) (by decide +kernel)
theorem q_251 : (Jvm.Cond.privateMethod ({ cls := "NetlistBench$Element", name := "togglesBefore", desc := "(I)I" } : Jvm.MethodName)) ∈ lw_tbl := lw_bad 251 (by decide +kernel)
theorem q_252 : (Jvm.Cond.instanceMethod ({ cls := "NetlistBench$Element", name := "togglesBefore", desc := "(I)I" } : Jvm.MethodName)) ∈ WG := WG_at 252 (by decide +kernel) (by decide +kernel)
theorem q_253 : (Jvm.Cond.instantiable "NetlistBench$Element" (7 : Nat)) ∈ WG := WG_at 253 (by decide +kernel) (by decide +kernel)
theorem q_254 : (Jvm.Cond.code ({ cls := "NetlistBench$Element", name := "togglesBefore", desc := "(I)I" } : Jvm.MethodName) prog_2_method_9_code (4 : Nat) (Option.some Jvm.ClassFile.FieldType.int)) ∈ WG := WG_at 254 (by decide +kernel) (by decide +kernel)
theorem q_255 : (Jvm.Cond.methodLink "NetlistBench" (219 : Nat) ({ cls := "NetlistBench", name := "join", desc := "(I)V" } : Jvm.MethodName)) ∈ WG := WG_at 255 (by decide +kernel) (by decide +kernel)
theorem q_256 : (Jvm.Cond.privateMethod ({ cls := "NetlistBench", name := "join", desc := "(I)V" } : Jvm.MethodName)) ∈ lw_tbl := lw_bad 256 (by decide +kernel)
theorem q_257 : (Jvm.Cond.instanceMethod ({ cls := "NetlistBench", name := "join", desc := "(I)V" } : Jvm.MethodName)) ∈ WG := WG_at 257 (by decide +kernel) (by decide +kernel)
theorem q_258 : (Jvm.Cond.code ({ cls := "NetlistBench", name := "join", desc := "(I)V" } : Jvm.MethodName) prog_1_method_30_code (3 : Nat) (Option.none : Option Jvm.ClassFile.FieldType)) ∈ WG := WG_at 258 (by decide +kernel) (by decide +kernel)
theorem q_259 : (Jvm.Cond.methodLink "NetlistBench" (168 : Nat) ({ cls := "NetlistBench", name := "contains", desc := "(II)Z" } : Jvm.MethodName)) ∈ WG := WG_at 259 (by decide +kernel) (by decide +kernel)
theorem q_260 : (Jvm.Cond.static ({ cls := "NetlistBench", name := "contains", desc := "(II)Z" } : Jvm.MethodName)) ∈ WG := WG_at 260 (by decide +kernel) (by decide +kernel)
theorem q_261 : (Jvm.Cond.code ({ cls := "NetlistBench", name := "contains", desc := "(II)Z" } : Jvm.MethodName) prog_1_method_32_code (2 : Nat) (Option.some Jvm.ClassFile.FieldType.boolean)) ∈ WG := WG_at 261 (by decide +kernel) (by decide +kernel)
theorem q_262 : (Jvm.Cond.methodLink "NetlistBench" (138 : Nat) ({ cls := "NetlistBench", name := "isAfloat", desc := "(I)Z" } : Jvm.MethodName)) ∈ WG := WG_at 262 (by decide +kernel) (by decide +kernel)
theorem q_263 : (Jvm.Cond.privateMethod ({ cls := "NetlistBench", name := "isAfloat", desc := "(I)Z" } : Jvm.MethodName)) ∈ lw_tbl := lw_bad 263 (by decide +kernel)
theorem q_264 : (Jvm.Cond.instanceMethod ({ cls := "NetlistBench", name := "isAfloat", desc := "(I)Z" } : Jvm.MethodName)) ∈ WG := WG_at 264 (by decide +kernel) (by decide +kernel)
theorem q_265 : (Jvm.Cond.code ({ cls := "NetlistBench", name := "isAfloat", desc := "(I)Z" } : Jvm.MethodName) prog_1_method_31_code (3 : Nat) (Option.some Jvm.ClassFile.FieldType.boolean)) ∈ WG := WG_at 265 (by decide +kernel) (by decide +kernel)
theorem q_266 : (Jvm.Cond.classLink "NetlistBench" (41 : Nat) "NetlistBench$Node") ∈ WG := WG_at 266 (by decide +kernel) (by decide +kernel)
theorem q_267 : (Jvm.Cond.methodLink "NetlistBenchLaw" (71 : Nat) ({ cls := "NetlistBench", name := "feed", desc := "(IIZ)J" } : Jvm.MethodName)) ∈ WG := WG_at 267 (by decide +kernel) (by decide +kernel)
theorem q_268 : (Jvm.Cond.instanceMethod ({ cls := "NetlistBench", name := "feed", desc := "(IIZ)J" } : Jvm.MethodName)) ∈ WG := WG_at 268 (by decide +kernel) (by decide +kernel)
theorem q_269 : (Jvm.Cond.selects "NetlistBench" ({ cls := "NetlistBench", name := "feed", desc := "(IIZ)J" } : Jvm.MethodName) ({ cls := "NetlistBench", name := "feed", desc := "(IIZ)J" } : Jvm.MethodName)) ∈ WG := WG_at 269 (by decide +kernel) (by decide +kernel)
theorem q_270 : (Jvm.Cond.code ({ cls := "NetlistBench", name := "feed", desc := "(IIZ)J" } : Jvm.MethodName) prog_1_method_16_code (8 : Nat) (Option.some Jvm.ClassFile.FieldType.long)) ∈ WG := WG_at 270 (by decide +kernel) (by decide +kernel)
theorem q_271 : (Jvm.Cond.classLink "NetlistBench" (34 : Nat) "java/lang/IllegalStateException") ∈ WG := WG_at 271 (by decide +kernel) (by decide +kernel)
theorem q_272 : (Jvm.Cond.instantiable "java/lang/IllegalStateException" (6 : Nat)) ∈ WG := WG_at 272 (by decide +kernel) (by decide +kernel)
theorem q_273 : (Jvm.Cond.castable "java/lang/IllegalStateException" "java/lang/IllegalStateException") ∈ lw_tbl := lw_bad 273 (by decide +kernel)
theorem q_274 : (Jvm.Cond.selects "java/lang/IllegalStateException" ({ cls := "java/lang/Throwable", name := "fillInStackTrace", desc := "(I)Ljava/lang/Throwable;" } : Jvm.MethodName) ({ cls := "java/lang/Throwable", name := "fillInStackTrace", desc := "(I)Ljava/lang/Throwable;" } : Jvm.MethodName)) ∈ WG := WG_at 274 (by decide +kernel) (by decide +kernel)
theorem q_275 : (Jvm.Cond.lays "java/lang/IllegalStateException" "java/lang/Throwable" "cause" "Ljava/lang/Throwable;") ∈ WG := WG_at 275 (by decide +kernel) (by decide +kernel)
theorem q_276 : (Jvm.Cond.lays "java/lang/IllegalStateException" "java/lang/Throwable" "stackTrace" "[Ljava/lang/StackTraceElement;") ∈ WG := WG_at 276 (by decide +kernel) (by decide +kernel)
theorem q_277 : (Jvm.Cond.lays "java/lang/IllegalStateException" "java/lang/Throwable" "suppressedExceptions" "Ljava/util/List;") ∈ WG := WG_at 277 (by decide +kernel) (by decide +kernel)
theorem q_278 : (Jvm.Cond.lays "java/lang/IllegalStateException" "java/lang/Throwable" "detailMessage" "Ljava/lang/String;") ∈ WG := WG_at 278 (by decide +kernel) (by decide +kernel)
theorem q_279 : (Jvm.Cond.lays "java/lang/IllegalStateException" "java/lang/Throwable" "backtrace" "Ljava/lang/Object;") ∈ WG := WG_at 279 (by decide +kernel) (by decide +kernel)
theorem q_280 : (Jvm.Cond.stringRef "NetlistBench" (166 : Nat) "the node is no rail") ∈ lw_tbl := lw_bad 280 (by decide +kernel)
theorem q_281 : (Jvm.Cond.methodLink "NetlistBench" (38 : Nat) ({ cls := "java/lang/IllegalStateException", name := "<init>", desc := "(Ljava/lang/String;)V" } : Jvm.MethodName)) ∈ WG := WG_at 281 (by decide +kernel) (by decide +kernel)
theorem q_282 : (Jvm.Cond.instanceMethod ({ cls := "java/lang/IllegalStateException", name := "<init>", desc := "(Ljava/lang/String;)V" } : Jvm.MethodName)) ∈ WG := WG_at 282 (by decide +kernel) (by decide +kernel)
theorem q_283 : (Jvm.Cond.code ({ cls := "java/lang/IllegalStateException", name := "<init>", desc := "(Ljava/lang/String;)V" } : Jvm.MethodName) prog_12_method_2_code (2 : Nat) (Option.none : Option Jvm.ClassFile.FieldType)) ∈ WG := WG_at 283 (by decide +kernel) (by decide +kernel)
theorem q_284 : (Jvm.Cond.methodLink "java/lang/IllegalStateException" (7 : Nat) ({ cls := "java/lang/RuntimeException", name := "<init>", desc := "(Ljava/lang/String;)V" } : Jvm.MethodName)) ∈ WG := WG_at 284 (by decide +kernel) (by decide +kernel)
theorem q_285 : (Jvm.Cond.lays "java/lang/IllegalStateException" "java/lang/Throwable" "depth" "I") ∈ WG := WG_at 285 (by decide +kernel) (by decide +kernel)
theorem q_286 : (Jvm.Cond.superclass "java/lang/IllegalStateException" "java/lang/RuntimeException") ∈ WG := WG_at 286 (by decide +kernel) (by decide +kernel)
theorem q_287 : (Jvm.Cond.methodLink "NetlistBench" (141 : Nat) ({ cls := "NetlistBench", name := "settle", desc := "(I)V" } : Jvm.MethodName)) ∈ WG := WG_at 287 (by decide +kernel) (by decide +kernel)
theorem q_288 : (Jvm.Cond.privateMethod ({ cls := "NetlistBench", name := "settle", desc := "(I)V" } : Jvm.MethodName)) ∈ lw_tbl := lw_bad 288 (by decide +kernel)
theorem q_289 : (Jvm.Cond.instanceMethod ({ cls := "NetlistBench", name := "settle", desc := "(I)V" } : Jvm.MethodName)) ∈ WG := WG_at 289 (by decide +kernel) (by decide +kernel)
theorem q_290 : (Jvm.Cond.code ({ cls := "NetlistBench", name := "settle", desc := "(I)V" } : Jvm.MethodName) prog_1_method_33_code (4 : Nat) (Option.none : Option Jvm.ClassFile.FieldType)) ∈ WG := WG_at 290 (by decide +kernel) (by decide +kernel)
theorem q_291 : (Jvm.Cond.methodLink "NetlistBench" (222 : Nat) ({ cls := "NetlistBench$Equations", name := "clear", desc := "()V" } : Jvm.MethodName)) ∈ WG := WG_at 291 (by decide +kernel) (by decide +kernel)
theorem q_292 : (Jvm.Cond.instanceMethod ({ cls := "NetlistBench$Equations", name := "clear", desc := "()V" } : Jvm.MethodName)) ∈ WG := WG_at 292 (by decide +kernel) (by decide +kernel)
theorem q_293 : (Jvm.Cond.selects "NetlistBench$Equations" ({ cls := "NetlistBench$Equations", name := "clear", desc := "()V" } : Jvm.MethodName) ({ cls := "NetlistBench$Equations", name := "clear", desc := "()V" } : Jvm.MethodName)) ∈ WG := WG_at 293 (by decide +kernel) (by decide +kernel)
theorem q_294 : (Jvm.Cond.code ({ cls := "NetlistBench$Equations", name := "clear", desc := "()V" } : Jvm.MethodName) prog_3_method_2_code (3 : Nat) (Option.none : Option Jvm.ClassFile.FieldType)) ∈ WG := WG_at 294 (by decide +kernel) (by decide +kernel)
theorem q_295 : (Jvm.Cond.methodLink "NetlistBench" (225 : Nat) ({ cls := "NetlistBench$Equations", name := "fix", desc := "(IJ)V" } : Jvm.MethodName)) ∈ WG := WG_at 295 (by decide +kernel) (by decide +kernel)
theorem q_296 : (Jvm.Cond.instanceMethod ({ cls := "NetlistBench$Equations", name := "fix", desc := "(IJ)V" } : Jvm.MethodName)) ∈ WG := WG_at 296 (by decide +kernel) (by decide +kernel)
theorem q_297 : (Jvm.Cond.selects "NetlistBench$Equations" ({ cls := "NetlistBench$Equations", name := "fix", desc := "(IJ)V" } : Jvm.MethodName) ({ cls := "NetlistBench$Equations", name := "fix", desc := "(IJ)V" } : Jvm.MethodName)) ∈ WG := WG_at 297 (by decide +kernel) (by decide +kernel)
theorem q_298 : (Jvm.Cond.code ({ cls := "NetlistBench$Equations", name := "fix", desc := "(IJ)V" } : Jvm.MethodName) prog_3_method_3_code (4 : Nat) (Option.none : Option Jvm.ClassFile.FieldType)) ∈ WG := WG_at 298 (by decide +kernel) (by decide +kernel)
theorem q_299 : (Jvm.Cond.methodLink "NetlistBench" (229 : Nat) ({ cls := "NetlistBench$Equations", name := "seek", desc := "(I)V" } : Jvm.MethodName)) ∈ WG := WG_at 299 (by decide +kernel) (by decide +kernel)
theorem q_300 : (Jvm.Cond.instanceMethod ({ cls := "NetlistBench$Equations", name := "seek", desc := "(I)V" } : Jvm.MethodName)) ∈ WG := WG_at 300 (by decide +kernel) (by decide +kernel)
theorem q_301 : (Jvm.Cond.selects "NetlistBench$Equations" ({ cls := "NetlistBench$Equations", name := "seek", desc := "(I)V" } : Jvm.MethodName) ({ cls := "NetlistBench$Equations", name := "seek", desc := "(I)V" } : Jvm.MethodName)) ∈ WG := WG_at 301 (by decide +kernel) (by decide +kernel)
theorem q_302 : (Jvm.Cond.code ({ cls := "NetlistBench$Equations", name := "seek", desc := "(I)V" } : Jvm.MethodName) prog_3_method_4_code (2 : Nat) (Option.none : Option Jvm.ClassFile.FieldType)) ∈ WG := WG_at 302 (by decide +kernel) (by decide +kernel)
theorem q_303 : (Jvm.Cond.methodLink "NetlistBench" (232 : Nat) ({ cls := "NetlistBench$Equations", name := "bring", desc := "(IJ)V" } : Jvm.MethodName)) ∈ WG := WG_at 303 (by decide +kernel) (by decide +kernel)
theorem q_304 : (Jvm.Cond.instanceMethod ({ cls := "NetlistBench$Equations", name := "bring", desc := "(IJ)V" } : Jvm.MethodName)) ∈ WG := WG_at 304 (by decide +kernel) (by decide +kernel)
theorem q_305 : (Jvm.Cond.selects "NetlistBench$Equations" ({ cls := "NetlistBench$Equations", name := "bring", desc := "(IJ)V" } : Jvm.MethodName) ({ cls := "NetlistBench$Equations", name := "bring", desc := "(IJ)V" } : Jvm.MethodName)) ∈ WG := WG_at 305 (by decide +kernel) (by decide +kernel)
theorem q_306 : (Jvm.Cond.code ({ cls := "NetlistBench$Equations", name := "bring", desc := "(IJ)V" } : Jvm.MethodName) prog_3_method_5_code (5 : Nat) (Option.none : Option Jvm.ClassFile.FieldType)) ∈ WG := WG_at 306 (by decide +kernel) (by decide +kernel)
theorem q_307 : (Jvm.Cond.methodLink "NetlistBench" (235 : Nat) ({ cls := "NetlistBench", name := "conduct", desc := "(I)V" } : Jvm.MethodName)) ∈ WG := WG_at 307 (by decide +kernel) (by decide +kernel)
theorem q_308 : (Jvm.Cond.privateMethod ({ cls := "NetlistBench", name := "conduct", desc := "(I)V" } : Jvm.MethodName)) ∈ lw_tbl := lw_bad 308 (by decide +kernel)
end
section
theorem q_309 : (Jvm.Cond.instanceMethod ({ cls := "NetlistBench", name := "conduct", desc := "(I)V" } : Jvm.MethodName)) ∈ WG := WG_at 309 (by decide +kernel) (by decide +kernel)
theorem q_310 : (Jvm.Cond.code ({ cls := "NetlistBench", name := "conduct", desc := "(I)V" } : Jvm.MethodName) prog_1_method_35_code (4 : Nat) (Option.none : Option Jvm.ClassFile.FieldType)) ∈ WG := WG_at 310 (by decide +kernel) (by decide +kernel)
theorem q_311 : (Jvm.Cond.methodLink "NetlistBench" (241 : Nat) ({ cls := "NetlistBench$Equations", name := "link", desc := "(IIJ)V" } : Jvm.MethodName)) ∈ WG := WG_at 311 (by decide +kernel) (by decide +kernel)
theorem q_312 : (Jvm.Cond.instanceMethod ({ cls := "NetlistBench$Equations", name := "link", desc := "(IIJ)V" } : Jvm.MethodName)) ∈ WG := WG_at 312 (by decide +kernel) (by decide +kernel)
theorem q_313 : (Jvm.Cond.selects "NetlistBench$Equations" ({ cls := "NetlistBench$Equations", name := "link", desc := "(IIJ)V" } : Jvm.MethodName) ({ cls := "NetlistBench$Equations", name := "link", desc := "(IIJ)V" } : Jvm.MethodName)) ∈ WG := WG_at 313 (by decide +kernel) (by decide +kernel)
theorem q_314 : (Jvm.Cond.code ({ cls := "NetlistBench$Equations", name := "link", desc := "(IIJ)V" } : Jvm.MethodName) prog_3_method_6_code (5 : Nat) (Option.none : Option Jvm.ClassFile.FieldType)) ∈ WG := WG_at 314 (by decide +kernel) (by decide +kernel)
theorem q_315 : (Jvm.Cond.methodLink "NetlistBench$Equations" (31 : Nat) ({ cls := "NetlistBench$Equations", name := "linkOneWay", desc := "(IIJ)V" } : Jvm.MethodName)) ∈ WG := WG_at 315 (by decide +kernel) (by decide +kernel)
theorem q_316 : (Jvm.Cond.privateMethod ({ cls := "NetlistBench$Equations", name := "linkOneWay", desc := "(IIJ)V" } : Jvm.MethodName)) ∈ lw_tbl := lw_bad 316 (by decide +kernel)
theorem q_317 : (Jvm.Cond.instanceMethod ({ cls := "NetlistBench$Equations", name := "linkOneWay", desc := "(IIJ)V" } : Jvm.MethodName)) ∈ WG := WG_at 317 (by decide +kernel) (by decide +kernel)
theorem q_318 : (Jvm.Cond.code ({ cls := "NetlistBench$Equations", name := "linkOneWay", desc := "(IIJ)V" } : Jvm.MethodName) prog_3_method_7_code (7 : Nat) (Option.none : Option Jvm.ClassFile.FieldType)) ∈ WG := WG_at 318 (by decide +kernel) (by decide +kernel)
theorem q_319 : (Jvm.Cond.methodLink "NetlistBench" (238 : Nat) ({ cls := "NetlistBench$Equations", name := "solve", desc := "()V" } : Jvm.MethodName)) ∈ WG := WG_at 319 (by decide +kernel) (by decide +kernel)
theorem q_320 : (Jvm.Cond.instanceMethod ({ cls := "NetlistBench$Equations", name := "solve", desc := "()V" } : Jvm.MethodName)) ∈ WG := WG_at 320 (by decide +kernel) (by decide +kernel)
theorem q_321 : (Jvm.Cond.selects "NetlistBench$Equations" ({ cls := "NetlistBench$Equations", name := "solve", desc := "()V" } : Jvm.MethodName) ({ cls := "NetlistBench$Equations", name := "solve", desc := "()V" } : Jvm.MethodName)) ∈ WG := WG_at 321 (by decide +kernel) (by decide +kernel)
theorem q_322 : (Jvm.Cond.code ({ cls := "NetlistBench$Equations", name := "solve", desc := "()V" } : Jvm.MethodName) prog_3_method_8_code (3 : Nat) (Option.none : Option Jvm.ClassFile.FieldType)) ∈ WG := WG_at 322 (by decide +kernel) (by decide +kernel)
theorem q_323 : (Jvm.Cond.methodLink "NetlistBench$Equations" (35 : Nat) ({ cls := "NetlistBench$Equations", name := "allColumns", desc := "()I" } : Jvm.MethodName)) ∈ WG := WG_at 323 (by decide +kernel) (by decide +kernel)
theorem q_324 : (Jvm.Cond.privateMethod ({ cls := "NetlistBench$Equations", name := "allColumns", desc := "()I" } : Jvm.MethodName)) ∈ lw_tbl := lw_bad 324 (by decide +kernel)
theorem q_325 : (Jvm.Cond.instanceMethod ({ cls := "NetlistBench$Equations", name := "allColumns", desc := "()I" } : Jvm.MethodName)) ∈ WG := WG_at 325 (by decide +kernel) (by decide +kernel)
theorem q_326 : (Jvm.Cond.code ({ cls := "NetlistBench$Equations", name := "allColumns", desc := "()I" } : Jvm.MethodName) prog_3_method_12_code (1 : Nat) (Option.some Jvm.ClassFile.FieldType.int)) ∈ WG := WG_at 326 (by decide +kernel) (by decide +kernel)
theorem q_327 : (Jvm.Cond.methodLink "NetlistBench$Equations" (39 : Nat) ({ cls := "NetlistBench$Equations", name := "expand", desc := "(I)J" } : Jvm.MethodName)) ∈ WG := WG_at 327 (by decide +kernel) (by decide +kernel)
theorem q_328 : (Jvm.Cond.privateMethod ({ cls := "NetlistBench$Equations", name := "expand", desc := "(I)J" } : Jvm.MethodName)) ∈ lw_tbl := lw_bad 328 (by decide +kernel)
theorem q_329 : (Jvm.Cond.instanceMethod ({ cls := "NetlistBench$Equations", name := "expand", desc := "(I)J" } : Jvm.MethodName)) ∈ WG := WG_at 329 (by decide +kernel) (by decide +kernel)
theorem q_330 : (Jvm.Cond.code ({ cls := "NetlistBench$Equations", name := "expand", desc := "(I)J" } : Jvm.MethodName) prog_3_method_9_code (7 : Nat) (Option.some Jvm.ClassFile.FieldType.long)) ∈ WG := WG_at 330 (by decide +kernel) (by decide +kernel)
theorem q_331 : (Jvm.Cond.methodLink "NetlistBench$Equations" (43 : Nat) ({ cls := "java/lang/Integer", name := "bitCount", desc := "(I)I" } : Jvm.MethodName)) ∈ WG := WG_at 331 (by decide +kernel) (by decide +kernel)
theorem q_332 : (Jvm.Cond.static ({ cls := "java/lang/Integer", name := "bitCount", desc := "(I)I" } : Jvm.MethodName)) ∈ WG := WG_at 332 (by decide +kernel) (by decide +kernel)
theorem q_333 : (Jvm.Cond.code ({ cls := "java/lang/Integer", name := "bitCount", desc := "(I)I" } : Jvm.MethodName) prog_14_method_49_code (1 : Nat) (Option.some Jvm.ClassFile.FieldType.int)) ∈ WG := WG_at 333 (by decide +kernel) (by decide +kernel)
theorem q_334 : (Jvm.Cond.constant "java/lang/Integer" (265 : Nat) (1431655765 : Int32)) ∈ WG := WG_at 334 (by decide +kernel) (by decide +kernel)
theorem q_335 : (Jvm.Cond.constant "java/lang/Integer" (266 : Nat) (858993459 : Int32)) ∈ WG := WG_at 335 (by decide +kernel) (by decide +kernel)
theorem q_336 : (Jvm.Cond.constant "java/lang/Integer" (267 : Nat) (252645135 : Int32)) ∈ WG := WG_at 336 (by decide +kernel) (by decide +kernel)
theorem q_337 : (Jvm.Cond.methodLinkNest "NetlistBench$Equations" (49 : Nat) ({ cls := "NetlistBench", name := "contains", desc := "(II)Z" } : Jvm.MethodName) "NetlistBench") ∈ lw_tbl := lw_bad 337 (by decide +kernel)
theorem q_338 : (Jvm.Cond.methodLink "NetlistBench" (162 : Nat) ({ cls := "NetlistBench", name := "flowOut", desc := "(LNetlistBench$Element;I)J" } : Jvm.MethodName)) ∈ WG := WG_at 338 (by decide +kernel) (by decide +kernel)
theorem q_339 : (Jvm.Cond.privateMethod ({ cls := "NetlistBench", name := "flowOut", desc := "(LNetlistBench$Element;I)J" } : Jvm.MethodName)) ∈ lw_tbl := lw_bad 339 (by decide +kernel)
theorem q_340 : (Jvm.Cond.instanceMethod ({ cls := "NetlistBench", name := "flowOut", desc := "(LNetlistBench$Element;I)J" } : Jvm.MethodName)) ∈ WG := WG_at 340 (by decide +kernel) (by decide +kernel)
theorem q_341 : (Jvm.Cond.code ({ cls := "NetlistBench", name := "flowOut", desc := "(LNetlistBench$Element;I)J" } : Jvm.MethodName) prog_1_method_36_code (5 : Nat) (Option.some Jvm.ClassFile.FieldType.long)) ∈ WG := WG_at 341 (by decide +kernel) (by decide +kernel)
theorem q_342 : (Jvm.Cond.methodLink "NetlistBench" (151 : Nat) ({ cls := "NetlistBench$Equations", name := "lower", desc := "()J" } : Jvm.MethodName)) ∈ WG := WG_at 342 (by decide +kernel) (by decide +kernel)
theorem q_343 : (Jvm.Cond.instanceMethod ({ cls := "NetlistBench$Equations", name := "lower", desc := "()J" } : Jvm.MethodName)) ∈ WG := WG_at 343 (by decide +kernel) (by decide +kernel)
theorem q_344 : (Jvm.Cond.selects "NetlistBench$Equations" ({ cls := "NetlistBench$Equations", name := "lower", desc := "()J" } : Jvm.MethodName) ({ cls := "NetlistBench$Equations", name := "lower", desc := "()J" } : Jvm.MethodName)) ∈ WG := WG_at 344 (by decide +kernel) (by decide +kernel)
theorem q_345 : (Jvm.Cond.code ({ cls := "NetlistBench$Equations", name := "lower", desc := "()J" } : Jvm.MethodName) prog_3_method_10_code (1 : Nat) (Option.some Jvm.ClassFile.FieldType.long)) ∈ WG := WG_at 345 (by decide +kernel) (by decide +kernel)
theorem q_346 : (Jvm.Cond.methodLink "NetlistBench" (147 : Nat) ({ cls := "NetlistBench$Equations", name := "upper", desc := "(I)J" } : Jvm.MethodName)) ∈ WG := WG_at 346 (by decide +kernel) (by decide +kernel)
theorem q_347 : (Jvm.Cond.instanceMethod ({ cls := "NetlistBench$Equations", name := "upper", desc := "(I)J" } : Jvm.MethodName)) ∈ WG := WG_at 347 (by decide +kernel) (by decide +kernel)
theorem q_348 : (Jvm.Cond.selects "NetlistBench$Equations" ({ cls := "NetlistBench$Equations", name := "upper", desc := "(I)J" } : Jvm.MethodName) ({ cls := "NetlistBench$Equations", name := "upper", desc := "(I)J" } : Jvm.MethodName)) ∈ WG := WG_at 348 (by decide +kernel) (by decide +kernel)
theorem q_349 : (Jvm.Cond.code ({ cls := "NetlistBench$Equations", name := "upper", desc := "(I)J" } : Jvm.MethodName) prog_3_method_11_code (5 : Nat) (Option.some Jvm.ClassFile.FieldType.long)) ∈ WG := WG_at 349 (by decide +kernel) (by decide +kernel)
theorem q_350 : (Jvm.Cond.methodLink "NetlistBench$Equations" (53 : Nat) ({ cls := "NetlistBench$Equations", name := "lower", desc := "()J" } : Jvm.MethodName)) ∈ WG := WG_at 350 (by decide +kernel) (by decide +kernel)
theorem q_351 : (Jvm.Cond.methodLink "NetlistBench" (155 : Nat) ({ cls := "NetlistBench", name := "partOf", desc := "(JJZ)J" } : Jvm.MethodName)) ∈ WG := WG_at 351 (by decide +kernel) (by decide +kernel)
theorem q_352 : (Jvm.Cond.static ({ cls := "NetlistBench", name := "partOf", desc := "(JJZ)J" } : Jvm.MethodName)) ∈ WG := WG_at 352 (by decide +kernel) (by decide +kernel)
theorem q_353 : (Jvm.Cond.code ({ cls := "NetlistBench", name := "partOf", desc := "(JJZ)J" } : Jvm.MethodName) prog_1_method_47_code (9 : Nat) (Option.some Jvm.ClassFile.FieldType.long)) ∈ WG := WG_at 353 (by decide +kernel) (by decide +kernel)
theorem q_354 : (Jvm.Cond.methodLink "NetlistBench" (266 : Nat) ({ cls := "java/lang/Math", name := "abs", desc := "(J)J" } : Jvm.MethodName)) ∈ WG := WG_at 354 (by decide +kernel) (by decide +kernel)
theorem q_355 : (Jvm.Cond.static ({ cls := "java/lang/Math", name := "abs", desc := "(J)J" } : Jvm.MethodName)) ∈ WG := WG_at 355 (by decide +kernel) (by decide +kernel)
theorem q_356 : (Jvm.Cond.code ({ cls := "java/lang/Math", name := "abs", desc := "(J)J" } : Jvm.MethodName) prog_16_method_61_code (2 : Nat) (Option.some Jvm.ClassFile.FieldType.long)) ∈ WG := WG_at 356 (by decide +kernel) (by decide +kernel)
theorem q_357 : (Jvm.Cond.methodLink "NetlistBench" (271 : Nat) ({ cls := "NetlistBench", name := "commonDivisor", desc := "(JJ)J" } : Jvm.MethodName)) ∈ WG := WG_at 357 (by decide +kernel) (by decide +kernel)
theorem q_358 : (Jvm.Cond.static ({ cls := "NetlistBench", name := "commonDivisor", desc := "(JJ)J" } : Jvm.MethodName)) ∈ WG := WG_at 358 (by decide +kernel) (by decide +kernel)
theorem q_359 : (Jvm.Cond.code ({ cls := "NetlistBench", name := "commonDivisor", desc := "(JJ)J" } : Jvm.MethodName) prog_1_method_48_code (11 : Nat) (Option.some Jvm.ClassFile.FieldType.long)) ∈ WG := WG_at 359 (by decide +kernel) (by decide +kernel)
theorem q_360 : (Jvm.Cond.methodLink "NetlistBenchLaw" (104 : Nat) ({ cls := "NetlistBench", name := "resistance", desc := "(IIIZ)J" } : Jvm.MethodName)) ∈ WG := WG_at 360 (by decide +kernel) (by decide +kernel)
theorem q_361 : (Jvm.Cond.instanceMethod ({ cls := "NetlistBench", name := "resistance", desc := "(IIIZ)J" } : Jvm.MethodName)) ∈ WG := WG_at 361 (by decide +kernel) (by decide +kernel)
theorem q_362 : (Jvm.Cond.selects "NetlistBench" ({ cls := "NetlistBench", name := "resistance", desc := "(IIIZ)J" } : Jvm.MethodName) ({ cls := "NetlistBench", name := "resistance", desc := "(IIIZ)J" } : Jvm.MethodName)) ∈ WG := WG_at 362 (by decide +kernel) (by decide +kernel)
theorem q_363 : (Jvm.Cond.code ({ cls := "NetlistBench", name := "resistance", desc := "(IIIZ)J" } : Jvm.MethodName) prog_1_method_17_code (5 : Nat) (Option.some Jvm.ClassFile.FieldType.long)) ∈ WG := WG_at 363 (by decide +kernel) (by decide +kernel)
theorem q_364 : (Jvm.Cond.stringRef "NetlistBench" (172 : Nat) "the nodes do not hang together") ∈ lw_tbl := lw_bad 364 (by decide +kernel)
theorem q_365 : (Jvm.Cond.methodLink "NetlistBench" (174 : Nat) ({ cls := "NetlistBench", name := "drive", desc := "(III)V" } : Jvm.MethodName)) ∈ WG := WG_at 365 (by decide +kernel) (by decide +kernel)
theorem q_366 : (Jvm.Cond.privateMethod ({ cls := "NetlistBench", name := "drive", desc := "(III)V" } : Jvm.MethodName)) ∈ lw_tbl := lw_bad 366 (by decide +kernel)
theorem q_367 : (Jvm.Cond.instanceMethod ({ cls := "NetlistBench", name := "drive", desc := "(III)V" } : Jvm.MethodName)) ∈ WG := WG_at 367 (by decide +kernel) (by decide +kernel)
theorem q_368 : (Jvm.Cond.code ({ cls := "NetlistBench", name := "drive", desc := "(III)V" } : Jvm.MethodName) prog_1_method_34_code (5 : Nat) (Option.none : Option Jvm.ClassFile.FieldType)) ∈ WG := WG_at 368 (by decide +kernel) (by decide +kernel)
theorem q_369 : (Jvm.Cond.methodLink "NetlistBenchLaw" (110 : Nat) ({ cls := "NetlistBench", name := "power", desc := "(I)D" } : Jvm.MethodName)) ∈ WG := WG_at 369 (by decide +kernel) (by decide +kernel)
theorem q_370 : (Jvm.Cond.instanceMethod ({ cls := "NetlistBench", name := "power", desc := "(I)D" } : Jvm.MethodName)) ∈ WG := WG_at 370 (by decide +kernel) (by decide +kernel)
theorem q_371 : (Jvm.Cond.selects "NetlistBench" ({ cls := "NetlistBench", name := "power", desc := "(I)D" } : Jvm.MethodName) ({ cls := "NetlistBench", name := "power", desc := "(I)D" } : Jvm.MethodName)) ∈ WG := WG_at 371 (by decide +kernel) (by decide +kernel)
theorem q_372 : (Jvm.Cond.code ({ cls := "NetlistBench", name := "power", desc := "(I)D" } : Jvm.MethodName) prog_1_method_18_code (8 : Nat) (Option.some Jvm.ClassFile.FieldType.double)) ∈ WG := WG_at 372 (by decide +kernel) (by decide +kernel)
theorem q_373 : (Jvm.Cond.methodLink "NetlistBench" (178 : Nat) ({ cls := "NetlistBench", name := "quotientAt", desc := "(I)D" } : Jvm.MethodName)) ∈ WG := WG_at 373 (by decide +kernel) (by decide +kernel)
theorem q_374 : (Jvm.Cond.privateMethod ({ cls := "NetlistBench", name := "quotientAt", desc := "(I)D" } : Jvm.MethodName)) ∈ lw_tbl := lw_bad 374 (by decide +kernel)
theorem q_375 : (Jvm.Cond.instanceMethod ({ cls := "NetlistBench", name := "quotientAt", desc := "(I)D" } : Jvm.MethodName)) ∈ WG := WG_at 375 (by decide +kernel) (by decide +kernel)
theorem q_376 : (Jvm.Cond.code ({ cls := "NetlistBench", name := "quotientAt", desc := "(I)D" } : Jvm.MethodName) prog_1_method_37_code (6 : Nat) (Option.some Jvm.ClassFile.FieldType.double)) ∈ WG := WG_at 376 (by decide +kernel) (by decide +kernel)
theorem q_377 : (Jvm.Cond.methodLink "NetlistBenchLaw" (83 : Nat) ({ cls := "NetlistBench", name := "probe", desc := "(IIIZ)I" } : Jvm.MethodName)) ∈ WG := WG_at 377 (by decide +kernel) (by decide +kernel)
theorem q_378 : (Jvm.Cond.instanceMethod ({ cls := "NetlistBench", name := "probe", desc := "(IIIZ)I" } : Jvm.MethodName)) ∈ WG := WG_at 378 (by decide +kernel) (by decide +kernel)
theorem q_379 : (Jvm.Cond.selects "NetlistBench" ({ cls := "NetlistBench", name := "probe", desc := "(IIIZ)I" } : Jvm.MethodName) ({ cls := "NetlistBench", name := "probe", desc := "(IIIZ)I" } : Jvm.MethodName)) ∈ WG := WG_at 379 (by decide +kernel) (by decide +kernel)
theorem q_380 : (Jvm.Cond.code ({ cls := "NetlistBench", name := "probe", desc := "(IIIZ)I" } : Jvm.MethodName) prog_1_method_20_code (17 : Nat) (Option.some Jvm.ClassFile.FieldType.int)) ∈ WG := WG_at 380 (by decide +kernel) (by decide +kernel)
theorem q_381 : (Jvm.Cond.stringRef "NetlistBench" (188 : Nat) "the last time is before the first one") ∈ lw_tbl := lw_bad 381 (by decide +kernel)
theorem q_382 : (Jvm.Cond.methodLink "NetlistBench" (190 : Nat) ({ cls := "NetlistBench", name := "compareFractions", desc := "(JJJJ)I" } : Jvm.MethodName)) ∈ WG := WG_at 382 (by decide +kernel) (by decide +kernel)
theorem q_383 : (Jvm.Cond.static ({ cls := "NetlistBench", name := "compareFractions", desc := "(JJJJ)I" } : Jvm.MethodName)) ∈ WG := WG_at 383 (by decide +kernel) (by decide +kernel)
theorem q_384 : (Jvm.Cond.code ({ cls := "NetlistBench", name := "compareFractions", desc := "(JJJJ)I" } : Jvm.MethodName) prog_1_method_49_code (26 : Nat) (Option.some Jvm.ClassFile.FieldType.int)) ∈ WG := WG_at 384 (by decide +kernel) (by decide +kernel)
theorem q_385 : (Jvm.Cond.methodLink "NetlistBench" (274 : Nat) ({ cls := "java/lang/Math", name := "floorDiv", desc := "(JJ)J" } : Jvm.MethodName)) ∈ WG := WG_at 385 (by decide +kernel) (by decide +kernel)
theorem q_386 : (Jvm.Cond.static ({ cls := "java/lang/Math", name := "floorDiv", desc := "(JJ)J" } : Jvm.MethodName)) ∈ WG := WG_at 386 (by decide +kernel) (by decide +kernel)
theorem q_387 : (Jvm.Cond.code ({ cls := "java/lang/Math", name := "floorDiv", desc := "(JJ)J" } : Jvm.MethodName) prog_16_method_49_code (6 : Nat) (Option.some Jvm.ClassFile.FieldType.long)) ∈ WG := WG_at 387 (by decide +kernel) (by decide +kernel)
theorem q_388 : (Jvm.Cond.methodLink "NetlistBench" (277 : Nat) ({ cls := "java/lang/Math", name := "floorMod", desc := "(JJ)J" } : Jvm.MethodName)) ∈ WG := WG_at 388 (by decide +kernel) (by decide +kernel)
theorem q_389 : (Jvm.Cond.static ({ cls := "java/lang/Math", name := "floorMod", desc := "(JJ)J" } : Jvm.MethodName)) ∈ WG := WG_at 389 (by decide +kernel) (by decide +kernel)
theorem q_390 : (Jvm.Cond.code ({ cls := "java/lang/Math", name := "floorMod", desc := "(JJ)J" } : Jvm.MethodName) prog_16_method_52_code (6 : Nat) (Option.some Jvm.ClassFile.FieldType.long)) ∈ WG := WG_at 390 (by decide +kernel) (by decide +kernel)
theorem q_391 : (Jvm.Cond.methodLink "NetlistBench" (185 : Nat) ({ cls := "NetlistBench", name := "firstToggleBehind", desc := "(I)I" } : Jvm.MethodName)) ∈ WG := WG_at 391 (by decide +kernel) (by decide +kernel)
theorem q_392 : (Jvm.Cond.privateMethod ({ cls := "NetlistBench", name := "firstToggleBehind", desc := "(I)I" } : Jvm.MethodName)) ∈ lw_tbl := lw_bad 392 (by decide +kernel)
theorem q_393 : (Jvm.Cond.instanceMethod ({ cls := "NetlistBench", name := "firstToggleBehind", desc := "(I)I" } : Jvm.MethodName)) ∈ WG := WG_at 393 (by decide +kernel) (by decide +kernel)
theorem q_394 : (Jvm.Cond.code ({ cls := "NetlistBench", name := "firstToggleBehind", desc := "(I)I" } : Jvm.MethodName) prog_1_method_39_code (5 : Nat) (Option.some Jvm.ClassFile.FieldType.int)) ∈ WG := WG_at 394 (by decide +kernel) (by decide +kernel)
theorem q_395 : (Jvm.Cond.methodLink "NetlistBench" (245 : Nat) ({ cls := "NetlistBench$Element", name := "toggleBehind", desc := "(I)I" } : Jvm.MethodName)) ∈ WG := WG_at 395 (by decide +kernel) (by decide +kernel)
theorem q_396 : (Jvm.Cond.instanceMethod ({ cls := "NetlistBench$Element", name := "toggleBehind", desc := "(I)I" } : Jvm.MethodName)) ∈ WG := WG_at 396 (by decide +kernel) (by decide +kernel)
theorem q_397 : (Jvm.Cond.selects "NetlistBench$Element" ({ cls := "NetlistBench$Element", name := "toggleBehind", desc := "(I)I" } : Jvm.MethodName) ({ cls := "NetlistBench$Element", name := "toggleBehind", desc := "(I)I" } : Jvm.MethodName)) ∈ WG := WG_at 397 (by decide +kernel) (by decide +kernel)
theorem q_398 : (Jvm.Cond.code ({ cls := "NetlistBench$Element", name := "toggleBehind", desc := "(I)I" } : Jvm.MethodName) prog_2_method_5_code (2 : Nat) (Option.some Jvm.ClassFile.FieldType.int)) ∈ WG := WG_at 398 (by decide +kernel) (by decide +kernel)
theorem q_399 : (Jvm.Cond.methodLink "NetlistBench$Element" (39 : Nat) ({ cls := "NetlistBench$Element", name := "toggleTime", desc := "(I)I" } : Jvm.MethodName)) ∈ WG := WG_at 399 (by decide +kernel) (by decide +kernel)
theorem q_400 : (Jvm.Cond.instanceMethod ({ cls := "NetlistBench$Element", name := "toggleTime", desc := "(I)I" } : Jvm.MethodName)) ∈ WG := WG_at 400 (by decide +kernel) (by decide +kernel)
theorem q_401 : (Jvm.Cond.selects "NetlistBench$Element" ({ cls := "NetlistBench$Element", name := "toggleTime", desc := "(I)I" } : Jvm.MethodName) ({ cls := "NetlistBench$Element", name := "toggleTime", desc := "(I)I" } : Jvm.MethodName)) ∈ WG := WG_at 401 (by decide +kernel) (by decide +kernel)
theorem q_402 : (Jvm.Cond.code ({ cls := "NetlistBench$Element", name := "toggleTime", desc := "(I)I" } : Jvm.MethodName) prog_2_method_4_code (2 : Nat) (Option.some Jvm.ClassFile.FieldType.int)) ∈ WG := WG_at 402 (by decide +kernel) (by decide +kernel)
theorem q_403 : (Jvm.Cond.methodLink "NetlistBenchLaw" (96 : Nat) ({ cls := "NetlistBench", name := "compare", desc := "(IIII)I" } : Jvm.MethodName)) ∈ WG := WG_at 403 (by decide +kernel) (by decide +kernel)
theorem q_404 : (Jvm.Cond.instanceMethod ({ cls := "NetlistBench", name := "compare", desc := "(IIII)I" } : Jvm.MethodName)) ∈ WG := WG_at 404 (by decide +kernel) (by decide +kernel)
theorem q_405 : (Jvm.Cond.selects "NetlistBench" ({ cls := "NetlistBench", name := "compare", desc := "(IIII)I" } : Jvm.MethodName) ({ cls := "NetlistBench", name := "compare", desc := "(IIII)I" } : Jvm.MethodName)) ∈ WG := WG_at 405 (by decide +kernel) (by decide +kernel)
theorem q_406 : (Jvm.Cond.code ({ cls := "NetlistBench", name := "compare", desc := "(IIII)I" } : Jvm.MethodName) prog_1_method_21_code (5 : Nat) (Option.some Jvm.ClassFile.FieldType.int)) ∈ WG := WG_at 406 (by decide +kernel) (by decide +kernel)
theorem q_407 : (Jvm.Cond.stringRef "NetlistBench" (194 : Nat) "the fraction is -500 to 500 by 1 to 500") ∈ lw_tbl := lw_bad 407 (by decide +kernel)
theorem q_408 : (Jvm.Cond.methodLink "NetlistBench" (144 : Nat) ({ cls := "NetlistBench", name := "checkGrounded", desc := "(I)V" } : Jvm.MethodName)) ∈ WG := WG_at 408 (by decide +kernel) (by decide +kernel)
theorem q_409 : (Jvm.Cond.privateMethod ({ cls := "NetlistBench", name := "checkGrounded", desc := "(I)V" } : Jvm.MethodName)) ∈ lw_tbl := lw_bad 409 (by decide +kernel)
theorem q_410 : (Jvm.Cond.instanceMethod ({ cls := "NetlistBench", name := "checkGrounded", desc := "(I)V" } : Jvm.MethodName)) ∈ WG := WG_at 410 (by decide +kernel) (by decide +kernel)
theorem q_411 : (Jvm.Cond.code ({ cls := "NetlistBench", name := "checkGrounded", desc := "(I)V" } : Jvm.MethodName) prog_1_method_28_code (2 : Nat) (Option.none : Option Jvm.ClassFile.FieldType)) ∈ WG := WG_at 411 (by decide +kernel) (by decide +kernel)
theorem q_412 : (Jvm.Cond.stringRef "NetlistBench" (217 : Nat) "the node floats") ∈ lw_tbl := lw_bad 412 (by decide +kernel)
theorem q_413 : (Jvm.Cond.methodLink "NetlistBenchLaw" (75 : Nat) ({ cls := "NetlistBenchLaw$Hand", name := "isOn", desc := "(II)Z" } : Jvm.MethodName)) ∈ WG := WG_at 413 (by decide +kernel) (by decide +kernel)
theorem q_414 : (Jvm.Cond.instanceMethod ({ cls := "NetlistBenchLaw$Hand", name := "isOn", desc := "(II)Z" } : Jvm.MethodName)) ∈ WG := WG_at 414 (by decide +kernel) (by decide +kernel)
theorem q_415 : (Jvm.Cond.selects "NetlistBenchLaw$Hand" ({ cls := "NetlistBenchLaw$Hand", name := "isOn", desc := "(II)Z" } : Jvm.MethodName) ({ cls := "NetlistBenchLaw$Hand", name := "isOn", desc := "(II)Z" } : Jvm.MethodName)) ∈ WG := WG_at 415 (by decide +kernel) (by decide +kernel)
theorem q_416 : (Jvm.Cond.code ({ cls := "NetlistBenchLaw$Hand", name := "isOn", desc := "(II)Z" } : Jvm.MethodName) prog_6_method_3_code (5 : Nat) (Option.some Jvm.ClassFile.FieldType.boolean)) ∈ WG := WG_at 416 (by decide +kernel) (by decide +kernel)
theorem q_417 : (Jvm.Cond.methodLink "NetlistBenchLaw" (100 : Nat) ({ cls := "NetlistBenchLaw$Hand", name := "isWay", desc := "(III)Z" } : Jvm.MethodName)) ∈ WG := WG_at 417 (by decide +kernel) (by decide +kernel)
theorem q_418 : (Jvm.Cond.instanceMethod ({ cls := "NetlistBenchLaw$Hand", name := "isWay", desc := "(III)Z" } : Jvm.MethodName)) ∈ WG := WG_at 418 (by decide +kernel) (by decide +kernel)
theorem q_419 : (Jvm.Cond.selects "NetlistBenchLaw$Hand" ({ cls := "NetlistBenchLaw$Hand", name := "isWay", desc := "(III)Z" } : Jvm.MethodName) ({ cls := "NetlistBenchLaw$Hand", name := "isWay", desc := "(III)Z" } : Jvm.MethodName)) ∈ WG := WG_at 419 (by decide +kernel) (by decide +kernel)
theorem q_420 : (Jvm.Cond.code ({ cls := "NetlistBenchLaw$Hand", name := "isWay", desc := "(III)Z" } : Jvm.MethodName) prog_6_method_5_code (7 : Nat) (Option.some Jvm.ClassFile.FieldType.boolean)) ∈ WG := WG_at 420 (by decide +kernel) (by decide +kernel)
theorem q_421 : (Jvm.Cond.methodLink "NetlistBenchLaw$Hand" (22 : Nat) ({ cls := "NetlistBenchLaw$Hand", name := "conducts", desc := "(II)Z" } : Jvm.MethodName)) ∈ WG := WG_at 421 (by decide +kernel) (by decide +kernel)
theorem q_422 : (Jvm.Cond.instanceMethod ({ cls := "NetlistBenchLaw$Hand", name := "conducts", desc := "(II)Z" } : Jvm.MethodName)) ∈ WG := WG_at 422 (by decide +kernel) (by decide +kernel)
theorem q_423 : (Jvm.Cond.selects "NetlistBenchLaw$Hand" ({ cls := "NetlistBenchLaw$Hand", name := "conducts", desc := "(II)Z" } : Jvm.MethodName) ({ cls := "NetlistBenchLaw$Hand", name := "conducts", desc := "(II)Z" } : Jvm.MethodName)) ∈ WG := WG_at 423 (by decide +kernel) (by decide +kernel)
theorem q_424 : (Jvm.Cond.code ({ cls := "NetlistBenchLaw$Hand", name := "conducts", desc := "(II)Z" } : Jvm.MethodName) prog_6_method_4_code (3 : Nat) (Option.some Jvm.ClassFile.FieldType.boolean)) ∈ WG := WG_at 424 (by decide +kernel) (by decide +kernel)
theorem q_425 : (Jvm.Cond.methodLink "NetlistBenchLaw$Hand" (18 : Nat) ({ cls := "NetlistBenchLaw$Hand", name := "isOn", desc := "(II)Z" } : Jvm.MethodName)) ∈ WG := WG_at 425 (by decide +kernel) (by decide +kernel)
theorem q_426 : (Jvm.Cond.arrayClass Jvm.ClassFile.FieldType.boolean) ∈ WG := WG_at 426 (by decide +kernel) (by decide +kernel)
theorem q_427 : (Jvm.Cond.methodLink "NetlistBenchLaw" (79 : Nat) ({ cls := "NetlistBenchLaw$Hand", name := "floats", desc := "(II)Z" } : Jvm.MethodName)) ∈ WG := WG_at 427 (by decide +kernel) (by decide +kernel)
theorem q_428 : (Jvm.Cond.instanceMethod ({ cls := "NetlistBenchLaw$Hand", name := "floats", desc := "(II)Z" } : Jvm.MethodName)) ∈ WG := WG_at 428 (by decide +kernel) (by decide +kernel)
theorem q_429 : (Jvm.Cond.selects "NetlistBenchLaw$Hand" ({ cls := "NetlistBenchLaw$Hand", name := "floats", desc := "(II)Z" } : Jvm.MethodName) ({ cls := "NetlistBenchLaw$Hand", name := "floats", desc := "(II)Z" } : Jvm.MethodName)) ∈ WG := WG_at 429 (by decide +kernel) (by decide +kernel)
theorem q_430 : (Jvm.Cond.code ({ cls := "NetlistBenchLaw$Hand", name := "floats", desc := "(II)Z" } : Jvm.MethodName) prog_6_method_6_code (4 : Nat) (Option.some Jvm.ClassFile.FieldType.boolean)) ∈ WG := WG_at 430 (by decide +kernel) (by decide +kernel)
theorem q_431 : (Jvm.Cond.methodLink "NetlistBenchLaw$Hand" (25 : Nat) ({ cls := "NetlistBenchLaw$Hand", name := "isWay", desc := "(III)Z" } : Jvm.MethodName)) ∈ WG := WG_at 431 (by decide +kernel) (by decide +kernel)
theorem q_432 : (Jvm.Cond.methodLink "NetlistBenchLaw" (34 : Nat) ({ cls := "NetlistBenchLaw", name := "below", desc := "(II)I" } : Jvm.MethodName)) ∈ WG := WG_at 432 (by decide +kernel) (by decide +kernel)
theorem q_433 : (Jvm.Cond.static ({ cls := "NetlistBenchLaw", name := "below", desc := "(II)I" } : Jvm.MethodName)) ∈ WG := WG_at 433 (by decide +kernel) (by decide +kernel)
theorem q_434 : (Jvm.Cond.code ({ cls := "NetlistBenchLaw", name := "below", desc := "(II)I" } : Jvm.MethodName) method_2_code (2 : Nat) (Option.some Jvm.ClassFile.FieldType.int)) ∈ WG := WG_at 434 (by decide +kernel) (by decide +kernel)
theorem q_435 : (Jvm.Cond.constant "NetlistBenchLaw" (7 : Nat) (2147483647 : Int32)) ∈ WG := WG_at 435 (by decide +kernel) (by decide +kernel)
theorem q_436 : (Jvm.Cond.methodLink "NetlistBenchLaw" (30 : Nat) ({ cls := "NetlistBenchLaw", name := "cell", desc := "([II)I" } : Jvm.MethodName)) ∈ WG := WG_at 436 (by decide +kernel) (by decide +kernel)
theorem q_437 : (Jvm.Cond.static ({ cls := "NetlistBenchLaw", name := "cell", desc := "([II)I" } : Jvm.MethodName)) ∈ WG := WG_at 437 (by decide +kernel) (by decide +kernel)
theorem q_438 : (Jvm.Cond.code ({ cls := "NetlistBenchLaw", name := "cell", desc := "([II)I" } : Jvm.MethodName) method_3_code (2 : Nat) (Option.some Jvm.ClassFile.FieldType.int)) ∈ WG := WG_at 438 (by decide +kernel) (by decide +kernel)
theorem q_439 : (Jvm.Cond.constant "NetlistBenchLaw" (8 : Nat) (790386105 : Int32)) ∈ WG := WG_at 439 (by decide +kernel) (by decide +kernel)
theorem q_440 : (Jvm.Cond.methodLink "NetlistBenchLaw" (67 : Nat) ({ cls := "NetlistBenchLaw", name := "build", desc := "(LNetlistBench;[III)LNetlistBenchLaw$Hand;" } : Jvm.MethodName)) ∈ WG := WG_at 440 (by decide +kernel) (by decide +kernel)
theorem q_441 : (Jvm.Cond.static ({ cls := "NetlistBenchLaw", name := "build", desc := "(LNetlistBench;[III)LNetlistBenchLaw$Hand;" } : Jvm.MethodName)) ∈ WG := WG_at 441 (by decide +kernel) (by decide +kernel)
theorem q_442 : (Jvm.Cond.code ({ cls := "NetlistBenchLaw", name := "build", desc := "(LNetlistBench;[III)LNetlistBenchLaw$Hand;" } : Jvm.MethodName) method_5_code (18 : Nat) (Option.some (Jvm.ClassFile.FieldType.object "NetlistBenchLaw$Hand"))) ∈ WG := WG_at 442 (by decide +kernel) (by decide +kernel)
theorem q_443 : (Jvm.Cond.classLink "NetlistBenchLaw" (21 : Nat) "NetlistBenchLaw$Hand") ∈ WG := WG_at 443 (by decide +kernel) (by decide +kernel)
theorem q_444 : (Jvm.Cond.instantiable "NetlistBenchLaw$Hand" (2 : Nat)) ∈ WG := WG_at 444 (by decide +kernel) (by decide +kernel)
theorem q_445 : (Jvm.Cond.methodLinkNest "NetlistBenchLaw" (23 : Nat) ({ cls := "NetlistBenchLaw$Hand", name := "<init>", desc := "()V" } : Jvm.MethodName) "NetlistBenchLaw") ∈ lw_tbl := lw_bad 445 (by decide +kernel)
theorem q_446 : (Jvm.Cond.instanceMethod ({ cls := "NetlistBenchLaw$Hand", name := "<init>", desc := "()V" } : Jvm.MethodName)) ∈ WG := WG_at 446 (by decide +kernel) (by decide +kernel)
theorem q_447 : (Jvm.Cond.code ({ cls := "NetlistBenchLaw$Hand", name := "<init>", desc := "()V" } : Jvm.MethodName) prog_6_method_1_code (1 : Nat) (Option.none : Option Jvm.ClassFile.FieldType)) ∈ WG := WG_at 447 (by decide +kernel) (by decide +kernel)
theorem q_448 : (Jvm.Cond.methodLink "NetlistBenchLaw$Hand" (1 : Nat) ({ cls := "java/lang/Object", name := "<init>", desc := "()V" } : Jvm.MethodName)) ∈ WG := WG_at 448 (by decide +kernel) (by decide +kernel)
theorem q_449 : (Jvm.Cond.classLink "NetlistBenchLaw$Hand" (13 : Nat) "[I") ∈ WG := WG_at 449 (by decide +kernel) (by decide +kernel)
theorem q_450 : (Jvm.Cond.arrayOver (Jvm.ClassFile.FieldType.array Jvm.ClassFile.FieldType.int)) ∈ lw_tbl := lw_bad 450 (by decide +kernel)
theorem q_451 : (Jvm.Cond.fieldLink "NetlistBenchLaw$Hand" (7 : Nat) "NetlistBenchLaw$Hand" "rails" "[I") ∈ WG := WG_at 451 (by decide +kernel) (by decide +kernel)
theorem q_452 : (Jvm.Cond.fieldLink "NetlistBenchLaw" (42 : Nat) "NetlistBenchLaw$Hand" "rails" "[I") ∈ WG := WG_at 452 (by decide +kernel) (by decide +kernel)
theorem q_453 : (Jvm.Cond.fieldLink "NetlistBenchLaw$Hand" (14 : Nat) "NetlistBenchLaw$Hand" "elements" "[[I") ∈ WG := WG_at 453 (by decide +kernel) (by decide +kernel)
theorem q_454 : (Jvm.Cond.fieldLink "NetlistBenchLaw" (62 : Nat) "NetlistBenchLaw$Hand" "elements" "[[I") ∈ WG := WG_at 454 (by decide +kernel) (by decide +kernel)
theorem q_455 : (Jvm.Cond.lays "NetlistBenchLaw$Hand" "NetlistBenchLaw$Hand" "rails" "[I") ∈ WG := WG_at 455 (by decide +kernel) (by decide +kernel)
theorem q_456 : (Jvm.Cond.soleField "NetlistBenchLaw$Hand" "rails") ∈ WG := WG_at 456 (by decide +kernel) (by decide +kernel)
theorem q_457 : (Jvm.Cond.lays "NetlistBenchLaw$Hand" "NetlistBenchLaw$Hand" "elements" "[[I") ∈ WG := WG_at 457 (by decide +kernel) (by decide +kernel)
theorem q_458 : (Jvm.Cond.soleField "NetlistBenchLaw$Hand" "elements") ∈ WG := WG_at 458 (by decide +kernel) (by decide +kernel)
theorem q_459 : (Jvm.Cond.superclass "NetlistBenchLaw$Hand" "java/lang/Object") ∈ WG := WG_at 459 (by decide +kernel) (by decide +kernel)
theorem q_460 : (Jvm.Cond.methodLink "NetlistBenchLaw" (24 : Nat) ({ cls := "NetlistBench", name := "addNode", desc := "()I" } : Jvm.MethodName)) ∈ WG := WG_at 460 (by decide +kernel) (by decide +kernel)
theorem q_461 : (Jvm.Cond.instanceMethod ({ cls := "NetlistBench", name := "addNode", desc := "()I" } : Jvm.MethodName)) ∈ WG := WG_at 461 (by decide +kernel) (by decide +kernel)
theorem q_462 : (Jvm.Cond.selects "NetlistBench" ({ cls := "NetlistBench", name := "addNode", desc := "()I" } : Jvm.MethodName) ({ cls := "NetlistBench", name := "addNode", desc := "()I" } : Jvm.MethodName)) ∈ WG := WG_at 462 (by decide +kernel) (by decide +kernel)
theorem q_463 : (Jvm.Cond.code ({ cls := "NetlistBench", name := "addNode", desc := "()I" } : Jvm.MethodName) prog_1_method_2_code (2 : Nat) (Option.some Jvm.ClassFile.FieldType.int)) ∈ WG := WG_at 463 (by decide +kernel) (by decide +kernel)
theorem q_464 : (Jvm.Cond.stringRef "NetlistBench" (36 : Nat) "there are 8 nodes") ∈ lw_tbl := lw_bad 464 (by decide +kernel)
theorem q_465 : (Jvm.Cond.instantiable "NetlistBench$Node" (2 : Nat)) ∈ WG := WG_at 465 (by decide +kernel) (by decide +kernel)
theorem q_466 : (Jvm.Cond.methodLinkNest "NetlistBench" (43 : Nat) ({ cls := "NetlistBench$Node", name := "<init>", desc := "()V" } : Jvm.MethodName) "NetlistBench") ∈ lw_tbl := lw_bad 466 (by decide +kernel)
theorem q_467 : (Jvm.Cond.instanceMethod ({ cls := "NetlistBench$Node", name := "<init>", desc := "()V" } : Jvm.MethodName)) ∈ WG := WG_at 467 (by decide +kernel) (by decide +kernel)
theorem q_468 : (Jvm.Cond.code ({ cls := "NetlistBench$Node", name := "<init>", desc := "()V" } : Jvm.MethodName) prog_4_method_1_code (1 : Nat) (Option.none : Option Jvm.ClassFile.FieldType)) ∈ WG := WG_at 468 (by decide +kernel) (by decide +kernel)
theorem q_469 : (Jvm.Cond.methodLink "NetlistBench$Node" (1 : Nat) ({ cls := "java/lang/Object", name := "<init>", desc := "()V" } : Jvm.MethodName)) ∈ WG := WG_at 469 (by decide +kernel) (by decide +kernel)
theorem q_470 : (Jvm.Cond.fieldLink "NetlistBench$Node" (7 : Nat) "NetlistBench$Node" "isRail" "Z") ∈ WG := WG_at 470 (by decide +kernel) (by decide +kernel)
theorem q_471 : (Jvm.Cond.fieldLink "NetlistBench" (61 : Nat) "NetlistBench$Node" "isRail" "Z") ∈ WG := WG_at 471 (by decide +kernel) (by decide +kernel)
theorem q_472 : (Jvm.Cond.fieldLink "NetlistBench$Node" (13 : Nat) "NetlistBench$Node" "railPotential" "I") ∈ WG := WG_at 472 (by decide +kernel) (by decide +kernel)
theorem q_473 : (Jvm.Cond.fieldLink "NetlistBench" (65 : Nat) "NetlistBench$Node" "railPotential" "I") ∈ WG := WG_at 473 (by decide +kernel) (by decide +kernel)
theorem q_474 : (Jvm.Cond.lays "NetlistBench$Node" "NetlistBench$Node" "isRail" "Z") ∈ WG := WG_at 474 (by decide +kernel) (by decide +kernel)
theorem q_475 : (Jvm.Cond.soleField "NetlistBench$Node" "isRail") ∈ WG := WG_at 475 (by decide +kernel) (by decide +kernel)
theorem q_476 : (Jvm.Cond.lays "NetlistBench$Node" "NetlistBench$Node" "railPotential" "I") ∈ WG := WG_at 476 (by decide +kernel) (by decide +kernel)
theorem q_477 : (Jvm.Cond.soleField "NetlistBench$Node" "railPotential") ∈ WG := WG_at 477 (by decide +kernel) (by decide +kernel)
theorem q_478 : (Jvm.Cond.superclass "NetlistBench$Node" "java/lang/Object") ∈ WG := WG_at 478 (by decide +kernel) (by decide +kernel)
theorem q_479 : (Jvm.Cond.methodLink "NetlistBench" (44 : Nat) ({ cls := "java/util/ArrayList", name := "add", desc := "(Ljava/lang/Object;)Z" } : Jvm.MethodName)) ∈ WG := WG_at 479 (by decide +kernel) (by decide +kernel)
theorem q_480 : (Jvm.Cond.instanceMethod ({ cls := "java/util/ArrayList", name := "add", desc := "(Ljava/lang/Object;)Z" } : Jvm.MethodName)) ∈ WG := WG_at 480 (by decide +kernel) (by decide +kernel)
theorem q_481 : (Jvm.Cond.selects "java/util/ArrayList" ({ cls := "java/util/ArrayList", name := "add", desc := "(Ljava/lang/Object;)Z" } : Jvm.MethodName) ({ cls := "java/util/ArrayList", name := "add", desc := "(Ljava/lang/Object;)Z" } : Jvm.MethodName)) ∈ WG := WG_at 481 (by decide +kernel) (by decide +kernel)
theorem q_482 : (Jvm.Cond.code ({ cls := "java/util/ArrayList", name := "add", desc := "(Ljava/lang/Object;)Z" } : Jvm.MethodName) prog_23_method_25_code (2 : Nat) (Option.some Jvm.ClassFile.FieldType.boolean)) ∈ WG := WG_at 482 (by decide +kernel) (by decide +kernel)
theorem q_483 : (Jvm.Cond.methodLink "java/util/ArrayList" (131 : Nat) ({ cls := "java/util/ArrayList", name := "add", desc := "(Ljava/lang/Object;[Ljava/lang/Object;I)V" } : Jvm.MethodName)) ∈ WG := WG_at 483 (by decide +kernel) (by decide +kernel)
theorem q_484 : (Jvm.Cond.privateMethod ({ cls := "java/util/ArrayList", name := "add", desc := "(Ljava/lang/Object;[Ljava/lang/Object;I)V" } : Jvm.MethodName)) ∈ lw_tbl := lw_bad 484 (by decide +kernel)
theorem q_485 : (Jvm.Cond.instanceMethod ({ cls := "java/util/ArrayList", name := "add", desc := "(Ljava/lang/Object;[Ljava/lang/Object;I)V" } : Jvm.MethodName)) ∈ WG := WG_at 485 (by decide +kernel) (by decide +kernel)
theorem q_486 : (Jvm.Cond.code ({ cls := "java/util/ArrayList", name := "add", desc := "(Ljava/lang/Object;[Ljava/lang/Object;I)V" } : Jvm.MethodName) prog_23_method_24_code (4 : Nat) (Option.none : Option Jvm.ClassFile.FieldType)) ∈ WG := WG_at 486 (by decide +kernel) (by decide +kernel)
theorem q_487 : (Jvm.Cond.methodLink "java/util/ArrayList" (129 : Nat) ({ cls := "java/util/ArrayList", name := "grow", desc := "()[Ljava/lang/Object;" } : Jvm.MethodName)) ∈ WG := WG_at 487 (by decide +kernel) (by decide +kernel)
theorem q_488 : (Jvm.Cond.privateMethod ({ cls := "java/util/ArrayList", name := "grow", desc := "()[Ljava/lang/Object;" } : Jvm.MethodName)) ∈ lw_tbl := lw_bad 488 (by decide +kernel)
theorem q_489 : (Jvm.Cond.instanceMethod ({ cls := "java/util/ArrayList", name := "grow", desc := "()[Ljava/lang/Object;" } : Jvm.MethodName)) ∈ WG := WG_at 489 (by decide +kernel) (by decide +kernel)
theorem q_490 : (Jvm.Cond.code ({ cls := "java/util/ArrayList", name := "grow", desc := "()[Ljava/lang/Object;" } : Jvm.MethodName) prog_23_method_7_code (1 : Nat) (Option.some (Jvm.ClassFile.FieldType.array (Jvm.ClassFile.FieldType.object "java/lang/Object")))) ∈ WG := WG_at 490 (by decide +kernel) (by decide +kernel)
theorem q_491 : (Jvm.Cond.methodLink "java/util/ArrayList" (69 : Nat) ({ cls := "java/util/ArrayList", name := "grow", desc := "(I)[Ljava/lang/Object;" } : Jvm.MethodName)) ∈ WG := WG_at 491 (by decide +kernel) (by decide +kernel)
theorem q_492 : (Jvm.Cond.privateMethod ({ cls := "java/util/ArrayList", name := "grow", desc := "(I)[Ljava/lang/Object;" } : Jvm.MethodName)) ∈ lw_tbl := lw_bad 492 (by decide +kernel)
theorem q_493 : (Jvm.Cond.instanceMethod ({ cls := "java/util/ArrayList", name := "grow", desc := "(I)[Ljava/lang/Object;" } : Jvm.MethodName)) ∈ WG := WG_at 493 (by decide +kernel) (by decide +kernel)
theorem q_494 : (Jvm.Cond.code ({ cls := "java/util/ArrayList", name := "grow", desc := "(I)[Ljava/lang/Object;" } : Jvm.MethodName) prog_23_method_6_code (4 : Nat) (Option.some (Jvm.ClassFile.FieldType.array (Jvm.ClassFile.FieldType.object "java/lang/Object")))) ∈ WG := WG_at 494 (by decide +kernel) (by decide +kernel)
theorem q_495 : (Jvm.Cond.methodLink "java/util/ArrayList" (73 : Nat) ({ cls := "jdk/internal/util/ArraysSupport", name := "newLength", desc := "(III)I" } : Jvm.MethodName)) ∈ WG := WG_at 495 (by decide +kernel) (by decide +kernel)
theorem q_496 : (Jvm.Cond.static ({ cls := "jdk/internal/util/ArraysSupport", name := "newLength", desc := "(III)I" } : Jvm.MethodName)) ∈ WG := WG_at 496 (by decide +kernel) (by decide +kernel)
theorem q_497 : (Jvm.Cond.code ({ cls := "jdk/internal/util/ArraysSupport", name := "newLength", desc := "(III)I" } : Jvm.MethodName) prog_30_method_27_code (4 : Nat) (Option.some Jvm.ClassFile.FieldType.int)) ∈ WG := WG_at 497 (by decide +kernel) (by decide +kernel)
theorem q_498 : (Jvm.Cond.methodLink "jdk/internal/util/ArraysSupport" (194 : Nat) ({ cls := "java/lang/Math", name := "max", desc := "(II)I" } : Jvm.MethodName)) ∈ WG := WG_at 498 (by decide +kernel) (by decide +kernel)
theorem q_499 : (Jvm.Cond.static ({ cls := "java/lang/Math", name := "max", desc := "(II)I" } : Jvm.MethodName)) ∈ WG := WG_at 499 (by decide +kernel) (by decide +kernel)
theorem q_500 : (Jvm.Cond.code ({ cls := "java/lang/Math", name := "max", desc := "(II)I" } : Jvm.MethodName) prog_16_method_65_code (2 : Nat) (Option.some Jvm.ClassFile.FieldType.int)) ∈ WG := WG_at 500 (by decide +kernel) (by decide +kernel)
theorem q_501 : (Jvm.Cond.constant "jdk/internal/util/ArraysSupport" (200 : Nat) (2147483639 : Int32)) ∈ WG := WG_at 501 (by decide +kernel) (by decide +kernel)
theorem q_502 : (Jvm.Cond.methodLink "jdk/internal/util/ArraysSupport" (201 : Nat) ({ cls := "jdk/internal/util/ArraysSupport", name := "hugeLength", desc := "(II)I" } : Jvm.MethodName)) ∈ WG := WG_at 502 (by decide +kernel) (by decide +kernel)
theorem q_503 : (Jvm.Cond.static ({ cls := "jdk/internal/util/ArraysSupport", name := "hugeLength", desc := "(II)I" } : Jvm.MethodName)) ∈ WG := WG_at 503 (by decide +kernel) (by decide +kernel)
theorem q_504 : (Jvm.Cond.code ({ cls := "jdk/internal/util/ArraysSupport", name := "hugeLength", desc := "(II)I" } : Jvm.MethodName) prog_30_method_28_code (3 : Nat) (Option.some Jvm.ClassFile.FieldType.int)) ∈ WG := WG_at 504 (by decide +kernel) (by decide +kernel)
theorem q_505 : (Jvm.Cond.methodLink "java/util/ArrayList" (66 : Nat) ({ cls := "java/util/Arrays", name := "copyOf", desc := "([Ljava/lang/Object;I)[Ljava/lang/Object;" } : Jvm.MethodName)) ∈ WG := WG_at 505 (by decide +kernel) (by decide +kernel)
theorem q_506 : (Jvm.Cond.static ({ cls := "java/util/Arrays", name := "copyOf", desc := "([Ljava/lang/Object;I)[Ljava/lang/Object;" } : Jvm.MethodName)) ∈ WG := WG_at 506 (by decide +kernel) (by decide +kernel)
theorem q_507 : (Jvm.Cond.code ({ cls := "java/util/Arrays", name := "copyOf", desc := "([Ljava/lang/Object;I)[Ljava/lang/Object;" } : Jvm.MethodName) prog_24_method_119_code (2 : Nat) (Option.some (Jvm.ClassFile.FieldType.array (Jvm.ClassFile.FieldType.object "java/lang/Object")))) ∈ WG := WG_at 507 (by decide +kernel) (by decide +kernel)
theorem q_508 : (Jvm.Cond.methodLink "java/util/Arrays" (86 : Nat) ({ cls := "java/lang/Object", name := "getClass", desc := "()Ljava/lang/Class;" } : Jvm.MethodName)) ∈ WG := WG_at 508 (by decide +kernel) (by decide +kernel)
theorem q_509 : (Jvm.Cond.instanceMethod ({ cls := "java/lang/Object", name := "getClass", desc := "()Ljava/lang/Class;" } : Jvm.MethodName)) ∈ WG := WG_at 509 (by decide +kernel) (by decide +kernel)
theorem q_510 : (Jvm.Cond.sameMethod "java/lang/Object" "java/lang/Object" "getClass" "()Ljava/lang/Class;") ∈ WG := WG_at 510 (by decide +kernel) (by decide +kernel)
theorem q_511 : (Jvm.Cond.selects "NetlistBench" ({ cls := "java/lang/Object", name := "getClass", desc := "()Ljava/lang/Class;" } : Jvm.MethodName) ({ cls := "java/lang/Object", name := "getClass", desc := "()Ljava/lang/Class;" } : Jvm.MethodName)) ∈ WG := WG_at 511 (by decide +kernel) (by decide +kernel)
theorem q_512 : (Jvm.Cond.selects "NetlistBench$Element" ({ cls := "java/lang/Object", name := "getClass", desc := "()Ljava/lang/Class;" } : Jvm.MethodName) ({ cls := "java/lang/Object", name := "getClass", desc := "()Ljava/lang/Class;" } : Jvm.MethodName)) ∈ WG := WG_at 512 (by decide +kernel) (by decide +kernel)
theorem q_513 : (Jvm.Cond.selects "NetlistBench$Equations" ({ cls := "java/lang/Object", name := "getClass", desc := "()Ljava/lang/Class;" } : Jvm.MethodName) ({ cls := "java/lang/Object", name := "getClass", desc := "()Ljava/lang/Class;" } : Jvm.MethodName)) ∈ WG := WG_at 513 (by decide +kernel) (by decide +kernel)
theorem q_514 : (Jvm.Cond.selects "NetlistBench$Node" ({ cls := "java/lang/Object", name := "getClass", desc := "()Ljava/lang/Class;" } : Jvm.MethodName) ({ cls := "java/lang/Object", name := "getClass", desc := "()Ljava/lang/Class;" } : Jvm.MethodName)) ∈ WG := WG_at 514 (by decide +kernel) (by decide +kernel)
theorem q_515 : (Jvm.Cond.selects "NetlistBenchLaw$Hand" ({ cls := "java/lang/Object", name := "getClass", desc := "()Ljava/lang/Class;" } : Jvm.MethodName) ({ cls := "java/lang/Object", name := "getClass", desc := "()Ljava/lang/Class;" } : Jvm.MethodName)) ∈ WG := WG_at 515 (by decide +kernel) (by decide +kernel)
theorem q_516 : (Jvm.Cond.selects "java/lang/IllegalArgumentException" ({ cls := "java/lang/Object", name := "getClass", desc := "()Ljava/lang/Class;" } : Jvm.MethodName) ({ cls := "java/lang/Object", name := "getClass", desc := "()Ljava/lang/Class;" } : Jvm.MethodName)) ∈ WG := WG_at 516 (by decide +kernel) (by decide +kernel)
theorem q_517 : (Jvm.Cond.selects "java/lang/IllegalStateException" ({ cls := "java/lang/Object", name := "getClass", desc := "()Ljava/lang/Class;" } : Jvm.MethodName) ({ cls := "java/lang/Object", name := "getClass", desc := "()Ljava/lang/Class;" } : Jvm.MethodName)) ∈ WG := WG_at 517 (by decide +kernel) (by decide +kernel)
theorem q_518 : (Jvm.Cond.selects "java/lang/IndexOutOfBoundsException" ({ cls := "java/lang/Object", name := "getClass", desc := "()Ljava/lang/Class;" } : Jvm.MethodName) ({ cls := "java/lang/Object", name := "getClass", desc := "()Ljava/lang/Class;" } : Jvm.MethodName)) ∈ WG := WG_at 518 (by decide +kernel) (by decide +kernel)
theorem q_519 : (Jvm.Cond.selects "java/util/ArrayList" ({ cls := "java/lang/Object", name := "getClass", desc := "()Ljava/lang/Class;" } : Jvm.MethodName) ({ cls := "java/lang/Object", name := "getClass", desc := "()Ljava/lang/Class;" } : Jvm.MethodName)) ∈ WG := WG_at 519 (by decide +kernel) (by decide +kernel)
theorem q_520 : (Jvm.Cond.native ({ cls := "java/lang/Object", name := "getClass", desc := "()Ljava/lang/Class;" } : Jvm.MethodName)) ∈ WG := WG_at 520 (by decide +kernel) (by decide +kernel)
theorem q_521 : (Jvm.Cond.methodLink "java/util/Arrays" (300 : Nat) ({ cls := "java/util/Arrays", name := "copyOf", desc := "([Ljava/lang/Object;ILjava/lang/Class;)[Ljava/lang/Object;" } : Jvm.MethodName)) ∈ WG := WG_at 521 (by decide +kernel) (by decide +kernel)
theorem q_522 : (Jvm.Cond.static ({ cls := "java/util/Arrays", name := "copyOf", desc := "([Ljava/lang/Object;ILjava/lang/Class;)[Ljava/lang/Object;" } : Jvm.MethodName)) ∈ WG := WG_at 522 (by decide +kernel) (by decide +kernel)
theorem q_523 : (Jvm.Cond.code ({ cls := "java/util/Arrays", name := "copyOf", desc := "([Ljava/lang/Object;ILjava/lang/Class;)[Ljava/lang/Object;" } : Jvm.MethodName) prog_24_method_120_code (4 : Nat) (Option.some (Jvm.ClassFile.FieldType.array (Jvm.ClassFile.FieldType.object "java/lang/Object")))) ∈ WG := WG_at 523 (by decide +kernel) (by decide +kernel)
theorem q_524 : (Jvm.Cond.classLink "java/util/Arrays" (110 : Nat) "[Ljava/lang/Object;") ∈ WG := WG_at 524 (by decide +kernel) (by decide +kernel)
theorem q_525 : (Jvm.Cond.arrayOver (Jvm.ClassFile.FieldType.object "java/lang/Object")) ∈ lw_tbl := lw_bad 525 (by decide +kernel)
theorem q_526 : (Jvm.Cond.classLink "java/util/Arrays" (2 : Nat) "java/lang/Object") ∈ WG := WG_at 526 (by decide +kernel) (by decide +kernel)
theorem q_527 : (Jvm.Cond.methodLink "java/util/Arrays" (304 : Nat) ({ cls := "java/lang/Math", name := "min", desc := "(II)I" } : Jvm.MethodName)) ∈ WG := WG_at 527 (by decide +kernel) (by decide +kernel)
theorem q_528 : (Jvm.Cond.static ({ cls := "java/lang/Math", name := "min", desc := "(II)I" } : Jvm.MethodName)) ∈ WG := WG_at 528 (by decide +kernel) (by decide +kernel)
theorem q_529 : (Jvm.Cond.code ({ cls := "java/lang/Math", name := "min", desc := "(II)I" } : Jvm.MethodName) prog_16_method_69_code (2 : Nat) (Option.some Jvm.ClassFile.FieldType.int)) ∈ WG := WG_at 529 (by decide +kernel) (by decide +kernel)
theorem q_530 : (Jvm.Cond.methodLink "java/util/Arrays" (150 : Nat) ({ cls := "java/lang/System", name := "arraycopy", desc := "(Ljava/lang/Object;ILjava/lang/Object;II)V" } : Jvm.MethodName)) ∈ WG := WG_at 530 (by decide +kernel) (by decide +kernel)
theorem q_531 : (Jvm.Cond.static ({ cls := "java/lang/System", name := "arraycopy", desc := "(Ljava/lang/Object;ILjava/lang/Object;II)V" } : Jvm.MethodName)) ∈ WG := WG_at 531 (by decide +kernel) (by decide +kernel)
theorem q_532 : (Jvm.Cond.native ({ cls := "java/lang/System", name := "arraycopy", desc := "(Ljava/lang/Object;ILjava/lang/Object;II)V" } : Jvm.MethodName)) ∈ WG := WG_at 532 (by decide +kernel) (by decide +kernel)
theorem q_533 : (Jvm.Cond.methodLink "java/util/ArrayList" (79 : Nat) ({ cls := "java/lang/Math", name := "max", desc := "(II)I" } : Jvm.MethodName)) ∈ WG := WG_at 533 (by decide +kernel) (by decide +kernel)
theorem q_534 : (Jvm.Cond.classLink "java/util/ArrayList" (7 : Nat) "java/lang/Object") ∈ WG := WG_at 534 (by decide +kernel) (by decide +kernel)
theorem q_535 : (Jvm.Cond.methodLink "NetlistBenchLaw" (38 : Nat) ({ cls := "NetlistBench", name := "rail", desc := "(IZI)Z" } : Jvm.MethodName)) ∈ WG := WG_at 535 (by decide +kernel) (by decide +kernel)
theorem q_536 : (Jvm.Cond.instanceMethod ({ cls := "NetlistBench", name := "rail", desc := "(IZI)Z" } : Jvm.MethodName)) ∈ WG := WG_at 536 (by decide +kernel) (by decide +kernel)
theorem q_537 : (Jvm.Cond.selects "NetlistBench" ({ cls := "NetlistBench", name := "rail", desc := "(IZI)Z" } : Jvm.MethodName) ({ cls := "NetlistBench", name := "rail", desc := "(IZI)Z" } : Jvm.MethodName)) ∈ WG := WG_at 537 (by decide +kernel) (by decide +kernel)
theorem q_538 : (Jvm.Cond.code ({ cls := "NetlistBench", name := "rail", desc := "(IZI)Z" } : Jvm.MethodName) prog_1_method_3_code (6 : Nat) (Option.some Jvm.ClassFile.FieldType.boolean)) ∈ WG := WG_at 538 (by decide +kernel) (by decide +kernel)
theorem q_539 : (Jvm.Cond.stringRef "NetlistBench" (54 : Nat) "the potential of a rail is -99 to 99") ∈ lw_tbl := lw_bad 539 (by decide +kernel)
theorem q_540 : (Jvm.Cond.methodLink "NetlistBenchLaw" (46 : Nat) ({ cls := "NetlistBenchLaw$Hand", name := "more", desc := "([II)[I" } : Jvm.MethodName)) ∈ WG := WG_at 540 (by decide +kernel) (by decide +kernel)
theorem q_541 : (Jvm.Cond.static ({ cls := "NetlistBenchLaw$Hand", name := "more", desc := "([II)[I" } : Jvm.MethodName)) ∈ WG := WG_at 541 (by decide +kernel) (by decide +kernel)
theorem q_542 : (Jvm.Cond.code ({ cls := "NetlistBenchLaw$Hand", name := "more", desc := "([II)[I" } : Jvm.MethodName) prog_6_method_2_code (4 : Nat) (Option.some (Jvm.ClassFile.FieldType.array Jvm.ClassFile.FieldType.int))) ∈ WG := WG_at 542 (by decide +kernel) (by decide +kernel)
theorem q_543 : (Jvm.Cond.methodLink "NetlistBenchLaw" (50 : Nat) ({ cls := "NetlistBench", name := "addElement", desc := "(ZIII)I" } : Jvm.MethodName)) ∈ WG := WG_at 543 (by decide +kernel) (by decide +kernel)
theorem q_544 : (Jvm.Cond.instanceMethod ({ cls := "NetlistBench", name := "addElement", desc := "(ZIII)I" } : Jvm.MethodName)) ∈ WG := WG_at 544 (by decide +kernel) (by decide +kernel)
theorem q_545 : (Jvm.Cond.selects "NetlistBench" ({ cls := "NetlistBench", name := "addElement", desc := "(ZIII)I" } : Jvm.MethodName) ({ cls := "NetlistBench", name := "addElement", desc := "(ZIII)I" } : Jvm.MethodName)) ∈ WG := WG_at 545 (by decide +kernel) (by decide +kernel)
theorem q_546 : (Jvm.Cond.code ({ cls := "NetlistBench", name := "addElement", desc := "(ZIII)I" } : Jvm.MethodName) prog_1_method_4_code (6 : Nat) (Option.some Jvm.ClassFile.FieldType.int)) ∈ WG := WG_at 546 (by decide +kernel) (by decide +kernel)
theorem q_547 : (Jvm.Cond.stringRef "NetlistBench" (69 : Nat) "an element goes to another node") ∈ lw_tbl := lw_bad 547 (by decide +kernel)
theorem q_548 : (Jvm.Cond.stringRef "NetlistBench" (75 : Nat) "there are 20 elements") ∈ lw_tbl := lw_bad 548 (by decide +kernel)
theorem q_549 : (Jvm.Cond.methodLink "NetlistBench" (79 : Nat) ({ cls := "NetlistBench$Element", name := "<init>", desc := "(ZIII)V" } : Jvm.MethodName)) ∈ WG := WG_at 549 (by decide +kernel) (by decide +kernel)
theorem q_550 : (Jvm.Cond.instanceMethod ({ cls := "NetlistBench$Element", name := "<init>", desc := "(ZIII)V" } : Jvm.MethodName)) ∈ WG := WG_at 550 (by decide +kernel) (by decide +kernel)
theorem q_551 : (Jvm.Cond.code ({ cls := "NetlistBench$Element", name := "<init>", desc := "(ZIII)V" } : Jvm.MethodName) prog_2_method_1_code (5 : Nat) (Option.none : Option Jvm.ClassFile.FieldType)) ∈ WG := WG_at 551 (by decide +kernel) (by decide +kernel)
theorem q_552 : (Jvm.Cond.methodLink "NetlistBench$Element" (3 : Nat) ({ cls := "java/lang/Object", name := "<init>", desc := "()V" } : Jvm.MethodName)) ∈ WG := WG_at 552 (by decide +kernel) (by decide +kernel)
theorem q_553 : (Jvm.Cond.fieldLink "NetlistBench$Element" (23 : Nat) "NetlistBench$Element" "isSource" "Z") ∈ WG := WG_at 553 (by decide +kernel) (by decide +kernel)
theorem q_554 : (Jvm.Cond.fieldLink "NetlistBench" (85 : Nat) "NetlistBench$Element" "isSource" "Z") ∈ WG := WG_at 554 (by decide +kernel) (by decide +kernel)
theorem q_555 : (Jvm.Cond.fieldLink "NetlistBench$Element" (26 : Nat) "NetlistBench$Element" "a" "I") ∈ WG := WG_at 555 (by decide +kernel) (by decide +kernel)
theorem q_556 : (Jvm.Cond.fieldLink "NetlistBench" (159 : Nat) "NetlistBench$Element" "a" "I") ∈ WG := WG_at 556 (by decide +kernel) (by decide +kernel)
theorem q_557 : (Jvm.Cond.fieldLink "NetlistBench$Element" (29 : Nat) "NetlistBench$Element" "b" "I") ∈ WG := WG_at 557 (by decide +kernel) (by decide +kernel)
theorem q_558 : (Jvm.Cond.fieldLink "NetlistBench" (182 : Nat) "NetlistBench$Element" "b" "I") ∈ WG := WG_at 558 (by decide +kernel) (by decide +kernel)
theorem q_559 : (Jvm.Cond.fieldLink "NetlistBench$Element" (32 : Nat) "NetlistBench$Element" "size" "I") ∈ WG := WG_at 559 (by decide +kernel) (by decide +kernel)
theorem q_560 : (Jvm.Cond.fieldLink "NetlistBench" (88 : Nat) "NetlistBench$Element" "size" "I") ∈ WG := WG_at 560 (by decide +kernel) (by decide +kernel)
theorem q_561 : (Jvm.Cond.fieldLink "NetlistBench$Element" (9 : Nat) "NetlistBench$Element" "startsOn" "Z") ∈ WG := WG_at 561 (by decide +kernel) (by decide +kernel)
theorem q_562 : (Jvm.Cond.fieldLink "NetlistBench" (90 : Nat) "NetlistBench$Element" "startsOn" "Z") ∈ WG := WG_at 562 (by decide +kernel) (by decide +kernel)
theorem q_563 : (Jvm.Cond.fieldLink "NetlistBench$Element" (15 : Nat) "NetlistBench$Element" "toggles" "I") ∈ WG := WG_at 563 (by decide +kernel) (by decide +kernel)
theorem q_564 : (Jvm.Cond.fieldLink "NetlistBench" (102 : Nat) "NetlistBench$Element" "toggles" "I") ∈ WG := WG_at 564 (by decide +kernel) (by decide +kernel)
theorem q_565 : (Jvm.Cond.fieldLink "NetlistBench$Element" (19 : Nat) "NetlistBench$Element" "times" "[I") ∈ WG := WG_at 565 (by decide +kernel) (by decide +kernel)
theorem q_566 : (Jvm.Cond.laysFinal "NetlistBench$Element" "NetlistBench$Element" "isSource" "Z") ∈ WG := WG_at 566 (by decide +kernel) (by decide +kernel)
theorem q_567 : (Jvm.Cond.soleField "NetlistBench$Element" "isSource") ∈ WG := WG_at 567 (by decide +kernel) (by decide +kernel)
theorem q_568 : (Jvm.Cond.laysFinal "NetlistBench$Element" "NetlistBench$Element" "a" "I") ∈ WG := WG_at 568 (by decide +kernel) (by decide +kernel)
theorem q_569 : (Jvm.Cond.soleField "NetlistBench$Element" "a") ∈ WG := WG_at 569 (by decide +kernel) (by decide +kernel)
theorem q_570 : (Jvm.Cond.laysFinal "NetlistBench$Element" "NetlistBench$Element" "b" "I") ∈ WG := WG_at 570 (by decide +kernel) (by decide +kernel)
theorem q_571 : (Jvm.Cond.soleField "NetlistBench$Element" "b") ∈ WG := WG_at 571 (by decide +kernel) (by decide +kernel)
theorem q_572 : (Jvm.Cond.lays "NetlistBench$Element" "NetlistBench$Element" "size" "I") ∈ WG := WG_at 572 (by decide +kernel) (by decide +kernel)
theorem q_573 : (Jvm.Cond.soleField "NetlistBench$Element" "size") ∈ WG := WG_at 573 (by decide +kernel) (by decide +kernel)
theorem q_574 : (Jvm.Cond.lays "NetlistBench$Element" "NetlistBench$Element" "startsOn" "Z") ∈ WG := WG_at 574 (by decide +kernel) (by decide +kernel)
theorem q_575 : (Jvm.Cond.soleField "NetlistBench$Element" "startsOn") ∈ WG := WG_at 575 (by decide +kernel) (by decide +kernel)
theorem q_576 : (Jvm.Cond.lays "NetlistBench$Element" "NetlistBench$Element" "toggles" "I") ∈ WG := WG_at 576 (by decide +kernel) (by decide +kernel)
theorem q_577 : (Jvm.Cond.soleField "NetlistBench$Element" "toggles") ∈ WG := WG_at 577 (by decide +kernel) (by decide +kernel)
theorem q_578 : (Jvm.Cond.laysFinal "NetlistBench$Element" "NetlistBench$Element" "times" "[I") ∈ WG := WG_at 578 (by decide +kernel) (by decide +kernel)
theorem q_579 : (Jvm.Cond.soleField "NetlistBench$Element" "times") ∈ WG := WG_at 579 (by decide +kernel) (by decide +kernel)
theorem q_580 : (Jvm.Cond.superclass "NetlistBench$Element" "java/lang/Object") ∈ WG := WG_at 580 (by decide +kernel) (by decide +kernel)
theorem q_581 : (Jvm.Cond.methodLink "NetlistBenchLaw" (54 : Nat) ({ cls := "NetlistBench", name := "begin", desc := "(IZ)Z" } : Jvm.MethodName)) ∈ WG := WG_at 581 (by decide +kernel) (by decide +kernel)
theorem q_582 : (Jvm.Cond.instanceMethod ({ cls := "NetlistBench", name := "begin", desc := "(IZ)Z" } : Jvm.MethodName)) ∈ WG := WG_at 582 (by decide +kernel) (by decide +kernel)
theorem q_583 : (Jvm.Cond.selects "NetlistBench" ({ cls := "NetlistBench", name := "begin", desc := "(IZ)Z" } : Jvm.MethodName) ({ cls := "NetlistBench", name := "begin", desc := "(IZ)Z" } : Jvm.MethodName)) ∈ WG := WG_at 583 (by decide +kernel) (by decide +kernel)
theorem q_584 : (Jvm.Cond.code ({ cls := "NetlistBench", name := "begin", desc := "(IZ)Z" } : Jvm.MethodName) prog_1_method_6_code (5 : Nat) (Option.some Jvm.ClassFile.FieldType.boolean)) ∈ WG := WG_at 584 (by decide +kernel) (by decide +kernel)
theorem q_585 : (Jvm.Cond.methodLink "NetlistBenchLaw" (58 : Nat) ({ cls := "NetlistBench", name := "toggle", desc := "(II)I" } : Jvm.MethodName)) ∈ WG := WG_at 585 (by decide +kernel) (by decide +kernel)
theorem q_586 : (Jvm.Cond.instanceMethod ({ cls := "NetlistBench", name := "toggle", desc := "(II)I" } : Jvm.MethodName)) ∈ WG := WG_at 586 (by decide +kernel) (by decide +kernel)
theorem q_587 : (Jvm.Cond.selects "NetlistBench" ({ cls := "NetlistBench", name := "toggle", desc := "(II)I" } : Jvm.MethodName) ({ cls := "NetlistBench", name := "toggle", desc := "(II)I" } : Jvm.MethodName)) ∈ WG := WG_at 587 (by decide +kernel) (by decide +kernel)
theorem q_588 : (Jvm.Cond.code ({ cls := "NetlistBench", name := "toggle", desc := "(II)I" } : Jvm.MethodName) prog_1_method_7_code (4 : Nat) (Option.some Jvm.ClassFile.FieldType.int)) ∈ WG := WG_at 588 (by decide +kernel) (by decide +kernel)
theorem q_589 : (Jvm.Cond.stringRef "NetlistBench" (93 : Nat) "the time of a toggle is 1 to 999") ∈ lw_tbl := lw_bad 589 (by decide +kernel)
theorem q_590 : (Jvm.Cond.methodLink "NetlistBench" (95 : Nat) ({ cls := "NetlistBench$Element", name := "hasToggle", desc := "(I)Z" } : Jvm.MethodName)) ∈ WG := WG_at 590 (by decide +kernel) (by decide +kernel)
theorem q_591 : (Jvm.Cond.instanceMethod ({ cls := "NetlistBench$Element", name := "hasToggle", desc := "(I)Z" } : Jvm.MethodName)) ∈ WG := WG_at 591 (by decide +kernel) (by decide +kernel)
theorem q_592 : (Jvm.Cond.selects "NetlistBench$Element" ({ cls := "NetlistBench$Element", name := "hasToggle", desc := "(I)Z" } : Jvm.MethodName) ({ cls := "NetlistBench$Element", name := "hasToggle", desc := "(I)Z" } : Jvm.MethodName)) ∈ WG := WG_at 592 (by decide +kernel) (by decide +kernel)
theorem q_593 : (Jvm.Cond.code ({ cls := "NetlistBench$Element", name := "hasToggle", desc := "(I)Z" } : Jvm.MethodName) prog_2_method_3_code (2 : Nat) (Option.some Jvm.ClassFile.FieldType.boolean)) ∈ WG := WG_at 593 (by decide +kernel) (by decide +kernel)
theorem q_594 : (Jvm.Cond.methodLink "NetlistBench" (99 : Nat) ({ cls := "NetlistBench$Element", name := "dropToggle", desc := "(I)V" } : Jvm.MethodName)) ∈ WG := WG_at 594 (by decide +kernel) (by decide +kernel)
theorem q_595 : (Jvm.Cond.instanceMethod ({ cls := "NetlistBench$Element", name := "dropToggle", desc := "(I)V" } : Jvm.MethodName)) ∈ WG := WG_at 595 (by decide +kernel) (by decide +kernel)
theorem q_596 : (Jvm.Cond.selects "NetlistBench$Element" ({ cls := "NetlistBench$Element", name := "dropToggle", desc := "(I)V" } : Jvm.MethodName) ({ cls := "NetlistBench$Element", name := "dropToggle", desc := "(I)V" } : Jvm.MethodName)) ∈ WG := WG_at 596 (by decide +kernel) (by decide +kernel)
theorem q_597 : (Jvm.Cond.code ({ cls := "NetlistBench$Element", name := "dropToggle", desc := "(I)V" } : Jvm.MethodName) prog_2_method_7_code (3 : Nat) (Option.none : Option Jvm.ClassFile.FieldType)) ∈ WG := WG_at 597 (by decide +kernel) (by decide +kernel)
theorem q_598 : (Jvm.Cond.methodLink "NetlistBench" (105 : Nat) ({ cls := "NetlistBench$Element", name := "putToggle", desc := "(I)V" } : Jvm.MethodName)) ∈ WG := WG_at 598 (by decide +kernel) (by decide +kernel)
theorem q_599 : (Jvm.Cond.instanceMethod ({ cls := "NetlistBench$Element", name := "putToggle", desc := "(I)V" } : Jvm.MethodName)) ∈ WG := WG_at 599 (by decide +kernel) (by decide +kernel)
theorem q_600 : (Jvm.Cond.selects "NetlistBench$Element" ({ cls := "NetlistBench$Element", name := "putToggle", desc := "(I)V" } : Jvm.MethodName) ({ cls := "NetlistBench$Element", name := "putToggle", desc := "(I)V" } : Jvm.MethodName)) ∈ WG := WG_at 600 (by decide +kernel) (by decide +kernel)
theorem q_601 : (Jvm.Cond.code ({ cls := "NetlistBench$Element", name := "putToggle", desc := "(I)V" } : Jvm.MethodName) prog_2_method_6_code (4 : Nat) (Option.none : Option Jvm.ClassFile.FieldType)) ∈ WG := WG_at 601 (by decide +kernel) (by decide +kernel)
theorem q_602 : (Jvm.Cond.stringRef "NetlistBench" (108 : Nat) "the element has 6 toggles") ∈ lw_tbl := lw_bad 602 (by decide +kernel)
theorem q_603 : (Jvm.Cond.classLink "NetlistBenchLaw" (61 : Nat) "[I") ∈ WG := WG_at 603 (by decide +kernel) (by decide +kernel)
theorem q_604 : (Jvm.Cond.methodLink "NetlistBenchLaw" (93 : Nat) ({ cls := "java/lang/Math", name := "max", desc := "(II)I" } : Jvm.MethodName)) ∈ WG := WG_at 604 (by decide +kernel) (by decide +kernel)
theorem q_605 : (Jvm.Cond.methodLink "NetlistBenchLaw" (90 : Nat) ({ cls := "java/lang/Math", name := "min", desc := "(II)I" } : Jvm.MethodName)) ∈ WG := WG_at 605 (by decide +kernel) (by decide +kernel)
theorem q_606 : (Jvm.Cond.constantDouble "NetlistBenchLaw" (108 : Nat) (4472406533629990549 : UInt64)) ∈ WG := WG_at 606 (by decide +kernel) (by decide +kernel)
theorem q_607 : (Jvm.Cond.sameMethod "java/lang/Throwable" "java/lang/Throwable" "fillInStackTrace" "(I)Ljava/lang/Throwable;") ∈ WG := WG_at 607 (by decide +kernel) (by decide +kernel)
theorem q_608 : (Jvm.Cond.castable "NetlistBench" "java/lang/Object") ∈ lw_tbl := lw_bad 608 (by decide +kernel)
theorem q_609 : (Jvm.Cond.castable "java/util/ArrayList" "java/lang/Object") ∈ lw_tbl := lw_bad 609 (by decide +kernel)
theorem q_610 : (Jvm.Cond.castable "NetlistBench$Equations" "java/lang/Object") ∈ lw_tbl := lw_bad 610 (by decide +kernel)
theorem q_611 : (Jvm.Cond.castable "NetlistBenchLaw$Hand" "java/lang/Object") ∈ lw_tbl := lw_bad 611 (by decide +kernel)
theorem q_612 : (Jvm.Cond.castable "java/lang/IllegalStateException" "java/lang/Object") ∈ lw_tbl := lw_bad 612 (by decide +kernel)
theorem q_613 : (Jvm.Cond.castable "NetlistBench$Node" "java/lang/Object") ∈ lw_tbl := lw_bad 613 (by decide +kernel)
theorem q_614 : (Jvm.Cond.castable "java/lang/IndexOutOfBoundsException" "java/lang/Object") ∈ lw_tbl := lw_bad 614 (by decide +kernel)
theorem q_615 : (Jvm.Cond.castable "java/lang/IllegalArgumentException" "java/lang/Object") ∈ lw_tbl := lw_bad 615 (by decide +kernel)
theorem q_616 : (Jvm.Cond.castable "NetlistBench$Element" "java/lang/Object") ∈ lw_tbl := lw_bad 616 (by decide +kernel)
theorem q_617 : (Jvm.Cond.castable "java/lang/Throwable" "java/lang/Object") ∈ lw_tbl := lw_bad 617 (by decide +kernel)
theorem q_618 : (Jvm.Cond.castable "java/lang/String" "java/lang/Object") ∈ lw_tbl := lw_bad 618 (by decide +kernel)
theorem q_619 : (Jvm.Cond.sameMethod "[Ljava/lang/Object;" "java/lang/Object" "getClass" "()Ljava/lang/Class;") ∈ WG := WG_at 619 (by decide +kernel) (by decide +kernel)
theorem q_620 : (Jvm.Cond.selects "[Ljava/lang/Object;" ({ cls := "java/lang/Object", name := "getClass", desc := "()Ljava/lang/Class;" } : Jvm.MethodName) ({ cls := "java/lang/Object", name := "getClass", desc := "()Ljava/lang/Class;" } : Jvm.MethodName)) ∈ WG := WG_at 620 (by decide +kernel) (by decide +kernel)
theorem q_621 : (Jvm.Cond.declares ({ cls := "java/lang/Object", name := "getClass", desc := "()Ljava/lang/Class;" } : Jvm.MethodName)) ∈ lw_tbl := lw_bad 621 (by decide +kernel)
theorem q_622 : (Jvm.Cond.castable "[[J" "java/lang/Object") ∈ lw_tbl := lw_bad 622 (by decide +kernel)
theorem q_623 : (Jvm.Cond.castable "[I" "java/lang/Object") ∈ lw_tbl := lw_bad 623 (by decide +kernel)
theorem q_624 : (Jvm.Cond.castable "[J" "java/lang/Object") ∈ lw_tbl := lw_bad 624 (by decide +kernel)
theorem q_625 : (Jvm.Cond.castable "[B" "java/lang/Object") ∈ lw_tbl := lw_bad 625 (by decide +kernel)
theorem q_626 : (Jvm.Cond.castable "[Z" "java/lang/Object") ∈ lw_tbl := lw_bad 626 (by decide +kernel)
theorem q_627 : (Jvm.Cond.castable "[[I" "java/lang/Object") ∈ lw_tbl := lw_bad 627 (by decide +kernel)
theorem q_628 : (Jvm.Cond.castable "[Ljava/lang/Object;" "java/lang/Object") ∈ lw_tbl := lw_bad 628 (by decide +kernel)
end
section
theorem dX0_init_0 : decode cX0_init 0 = .ok (.aload_n 0, 1) := by decide +kernel
theorem dX0_init_1 : decode cX0_init 1 = .ok (.invokespecial 3, 3) := by decide +kernel
theorem dX0_init_4 : decode cX0_init 4 = .ok (.aload_n 0, 1) := by decide +kernel
theorem dX0_init_5 : decode cX0_init 5 = .ok (.iconst 1, 1) := by decide +kernel
theorem dX0_init_6 : decode cX0_init 6 = .ok (.putfield 9, 3) := by decide +kernel
theorem dX0_init_9 : decode cX0_init 9 = .ok (.aload_n 0, 1) := by decide +kernel
theorem dX0_init_10 : decode cX0_init 10 = .ok (.iconst 0, 1) := by decide +kernel
theorem dX0_init_11 : decode cX0_init 11 = .ok (.putfield 15, 3) := by decide +kernel
theorem dX0_init_14 : decode cX0_init 14 = .ok (.aload_n 0, 1) := by decide +kernel
theorem dX0_init_15 : decode cX0_init 15 = .ok (.bipush 6, 2) := by decide +kernel
theorem dX0_init_17 : decode cX0_init 17 = .ok (.newarray .int, 2) := by decide +kernel
theorem dX0_init_19 : decode cX0_init 19 = .ok (.putfield 19, 3) := by decide +kernel
theorem dX0_init_22 : decode cX0_init 22 = .ok (.aload_n 0, 1) := by decide +kernel
theorem dX0_init_23 : decode cX0_init 23 = .ok (.iload_n 1, 1) := by decide +kernel
theorem dX0_init_24 : decode cX0_init 24 = .ok (.putfield 23, 3) := by decide +kernel
theorem dX0_init_27 : decode cX0_init 27 = .ok (.aload_n 0, 1) := by decide +kernel
theorem dX0_init_28 : decode cX0_init 28 = .ok (.iload_n 2, 1) := by decide +kernel
theorem dX0_init_29 : decode cX0_init 29 = .ok (.putfield 26, 3) := by decide +kernel
theorem dX0_init_32 : decode cX0_init 32 = .ok (.aload_n 0, 1) := by decide +kernel
theorem dX0_init_33 : decode cX0_init 33 = .ok (.iload_n 3, 1) := by decide +kernel
theorem dX0_init_34 : decode cX0_init 34 = .ok (.putfield 29, 3) := by decide +kernel
theorem dX0_init_37 : decode cX0_init 37 = .ok (.aload_n 0, 1) := by decide +kernel
theorem dX0_init_38 : decode cX0_init 38 = .ok (.iload 4, 2) := by decide +kernel
theorem dX0_init_40 : decode cX0_init 40 = .ok (.putfield 32, 3) := by decide +kernel
theorem dX0_init_43 : decode cX0_init 43 = .ok (.return_, 1) := by decide +kernel
theorem dX0_runsAt_0 : decode cX0_runsAt 0 = .ok (.aload_n 0, 1) := by decide +kernel
theorem dX0_runsAt_1 : decode cX0_runsAt 1 = .ok (.getfield 9, 3) := by decide +kernel
theorem dX0_runsAt_4 : decode cX0_runsAt 4 = .ok (.aload_n 0, 1) := by decide +kernel
theorem dX0_runsAt_5 : decode cX0_runsAt 5 = .ok (.iload_n 1, 1) := by decide +kernel
theorem dX0_runsAt_6 : decode cX0_runsAt 6 = .ok (.iconst 1, 1) := by decide +kernel
theorem dX0_runsAt_7 : decode cX0_runsAt 7 = .ok (.iadd, 1) := by decide +kernel
theorem dX0_runsAt_8 : decode cX0_runsAt 8 = .ok (.invokevirtual 35, 3) := by decide +kernel
theorem dX0_runsAt_11 : decode cX0_runsAt 11 = .ok (.iconst 2, 1) := by decide +kernel
theorem dX0_runsAt_12 : decode cX0_runsAt 12 = .ok (.irem, 1) := by decide +kernel
theorem dX0_runsAt_13 : decode cX0_runsAt 13 = .ok (.ifCond .ne 7, 3) := by decide +kernel
theorem dX0_runsAt_16 : decode cX0_runsAt 16 = .ok (.iconst 1, 1) := by decide +kernel
theorem dX0_runsAt_17 : decode cX0_runsAt 17 = .ok (.goto 4, 3) := by decide +kernel
theorem dX0_runsAt_20 : decode cX0_runsAt 20 = .ok (.iconst 0, 1) := by decide +kernel
theorem dX0_runsAt_21 : decode cX0_runsAt 21 = .ok (.if_icmp .ne 7, 3) := by decide +kernel
theorem dX0_runsAt_24 : decode cX0_runsAt 24 = .ok (.iconst 1, 1) := by decide +kernel
theorem dX0_runsAt_25 : decode cX0_runsAt 25 = .ok (.goto 4, 3) := by decide +kernel
theorem dX0_runsAt_28 : decode cX0_runsAt 28 = .ok (.iconst 0, 1) := by decide +kernel
theorem dX0_runsAt_29 : decode cX0_runsAt 29 = .ok (.ireturn, 1) := by decide +kernel
theorem dX0_hasToggle_0 : decode cX0_hasToggle 0 = .ok (.aload_n 0, 1) := by decide +kernel
theorem dX0_hasToggle_1 : decode cX0_hasToggle 1 = .ok (.iload_n 1, 1) := by decide +kernel
theorem dX0_hasToggle_2 : decode cX0_hasToggle 2 = .ok (.invokevirtual 35, 3) := by decide +kernel
theorem dX0_hasToggle_5 : decode cX0_hasToggle 5 = .ok (.aload_n 0, 1) := by decide +kernel
theorem dX0_hasToggle_6 : decode cX0_hasToggle 6 = .ok (.iload_n 1, 1) := by decide +kernel
theorem dX0_hasToggle_7 : decode cX0_hasToggle 7 = .ok (.iconst 1, 1) := by decide +kernel
theorem dX0_hasToggle_8 : decode cX0_hasToggle 8 = .ok (.iadd, 1) := by decide +kernel
theorem dX0_hasToggle_9 : decode cX0_hasToggle 9 = .ok (.invokevirtual 35, 3) := by decide +kernel
theorem dX0_hasToggle_12 : decode cX0_hasToggle 12 = .ok (.if_icmp .ge 7, 3) := by decide +kernel
theorem dX0_hasToggle_15 : decode cX0_hasToggle 15 = .ok (.iconst 1, 1) := by decide +kernel
theorem dX0_hasToggle_16 : decode cX0_hasToggle 16 = .ok (.goto 4, 3) := by decide +kernel
theorem dX0_hasToggle_19 : decode cX0_hasToggle 19 = .ok (.iconst 0, 1) := by decide +kernel
theorem dX0_hasToggle_20 : decode cX0_hasToggle 20 = .ok (.ireturn, 1) := by decide +kernel
theorem dX0_toggleTime_0 : decode cX0_toggleTime 0 = .ok (.iload_n 1, 1) := by decide +kernel
theorem dX0_toggleTime_1 : decode cX0_toggleTime 1 = .ok (.ifCond .lt 20, 3) := by decide +kernel
theorem dX0_toggleTime_4 : decode cX0_toggleTime 4 = .ok (.iload_n 1, 1) := by decide +kernel
theorem dX0_toggleTime_5 : decode cX0_toggleTime 5 = .ok (.aload_n 0, 1) := by decide +kernel
theorem dX0_toggleTime_6 : decode cX0_toggleTime 6 = .ok (.getfield 15, 3) := by decide +kernel
theorem dX0_toggleTime_9 : decode cX0_toggleTime 9 = .ok (.if_icmp .ge 12, 3) := by decide +kernel
theorem dX0_toggleTime_12 : decode cX0_toggleTime 12 = .ok (.aload_n 0, 1) := by decide +kernel
theorem dX0_toggleTime_13 : decode cX0_toggleTime 13 = .ok (.getfield 19, 3) := by decide +kernel
theorem dX0_toggleTime_16 : decode cX0_toggleTime 16 = .ok (.iload_n 1, 1) := by decide +kernel
theorem dX0_toggleTime_17 : decode cX0_toggleTime 17 = .ok (.iaload, 1) := by decide +kernel
theorem dX0_toggleTime_18 : decode cX0_toggleTime 18 = .ok (.goto 4, 3) := by decide +kernel
theorem dX0_toggleTime_21 : decode cX0_toggleTime 21 = .ok (.iconst (-1), 1) := by decide +kernel
theorem dX0_toggleTime_22 : decode cX0_toggleTime 22 = .ok (.ireturn, 1) := by decide +kernel
theorem dX0_toggleBehind_0 : decode cX0_toggleBehind 0 = .ok (.aload_n 0, 1) := by decide +kernel
theorem dX0_toggleBehind_1 : decode cX0_toggleBehind 1 = .ok (.aload_n 0, 1) := by decide +kernel
theorem dX0_toggleBehind_2 : decode cX0_toggleBehind 2 = .ok (.iload_n 1, 1) := by decide +kernel
theorem dX0_toggleBehind_3 : decode cX0_toggleBehind 3 = .ok (.iconst 1, 1) := by decide +kernel
theorem dX0_toggleBehind_4 : decode cX0_toggleBehind 4 = .ok (.iadd, 1) := by decide +kernel
theorem dX0_toggleBehind_5 : decode cX0_toggleBehind 5 = .ok (.invokevirtual 35, 3) := by decide +kernel
theorem dX0_toggleBehind_8 : decode cX0_toggleBehind 8 = .ok (.invokevirtual 39, 3) := by decide +kernel
theorem dX0_toggleBehind_11 : decode cX0_toggleBehind 11 = .ok (.ireturn, 1) := by decide +kernel
theorem dX0_putToggle_0 : decode cX0_putToggle 0 = .ok (.aload_n 0, 1) := by decide +kernel
theorem dX0_putToggle_1 : decode cX0_putToggle 1 = .ok (.getfield 15, 3) := by decide +kernel
theorem dX0_putToggle_4 : decode cX0_putToggle 4 = .ok (.bipush 6, 2) := by decide +kernel
theorem dX0_putToggle_6 : decode cX0_putToggle 6 = .ok (.if_icmp .lt 4, 3) := by decide +kernel
theorem dX0_putToggle_9 : decode cX0_putToggle 9 = .ok (.return_, 1) := by decide +kernel
theorem dX0_putToggle_10 : decode cX0_putToggle 10 = .ok (.aload_n 0, 1) := by decide +kernel
theorem dX0_putToggle_11 : decode cX0_putToggle 11 = .ok (.iload_n 1, 1) := by decide +kernel
theorem dX0_putToggle_12 : decode cX0_putToggle 12 = .ok (.invokevirtual 35, 3) := by decide +kernel
theorem dX0_putToggle_15 : decode cX0_putToggle 15 = .ok (.istore_n 2, 1) := by decide +kernel
theorem dX0_putToggle_16 : decode cX0_putToggle 16 = .ok (.aload_n 0, 1) := by decide +kernel
theorem dX0_putToggle_17 : decode cX0_putToggle 17 = .ok (.getfield 15, 3) := by decide +kernel
theorem dX0_putToggle_20 : decode cX0_putToggle 20 = .ok (.istore_n 3, 1) := by decide +kernel
theorem dX0_putToggle_21 : decode cX0_putToggle 21 = .ok (.iload_n 3, 1) := by decide +kernel
theorem dX0_putToggle_22 : decode cX0_putToggle 22 = .ok (.iload_n 2, 1) := by decide +kernel
theorem dX0_putToggle_23 : decode cX0_putToggle 23 = .ok (.if_icmp .le 23, 3) := by decide +kernel
theorem dX0_putToggle_26 : decode cX0_putToggle 26 = .ok (.aload_n 0, 1) := by decide +kernel
theorem dX0_putToggle_27 : decode cX0_putToggle 27 = .ok (.getfield 19, 3) := by decide +kernel
theorem dX0_putToggle_30 : decode cX0_putToggle 30 = .ok (.iload_n 3, 1) := by decide +kernel
theorem dX0_putToggle_31 : decode cX0_putToggle 31 = .ok (.aload_n 0, 1) := by decide +kernel
theorem dX0_putToggle_32 : decode cX0_putToggle 32 = .ok (.getfield 19, 3) := by decide +kernel
theorem dX0_putToggle_35 : decode cX0_putToggle 35 = .ok (.iload_n 3, 1) := by decide +kernel
theorem dX0_putToggle_36 : decode cX0_putToggle 36 = .ok (.iconst 1, 1) := by decide +kernel
theorem dX0_putToggle_37 : decode cX0_putToggle 37 = .ok (.isub, 1) := by decide +kernel
theorem dX0_putToggle_38 : decode cX0_putToggle 38 = .ok (.iaload, 1) := by decide +kernel
theorem dX0_putToggle_39 : decode cX0_putToggle 39 = .ok (.iastore, 1) := by decide +kernel
theorem dX0_putToggle_40 : decode cX0_putToggle 40 = .ok (.iinc 3 (-1), 3) := by decide +kernel
theorem dX0_putToggle_43 : decode cX0_putToggle 43 = .ok (.goto (-22), 3) := by decide +kernel
theorem dX0_putToggle_46 : decode cX0_putToggle 46 = .ok (.aload_n 0, 1) := by decide +kernel
theorem dX0_putToggle_47 : decode cX0_putToggle 47 = .ok (.getfield 19, 3) := by decide +kernel
theorem dX0_putToggle_50 : decode cX0_putToggle 50 = .ok (.iload_n 2, 1) := by decide +kernel
theorem dX0_putToggle_51 : decode cX0_putToggle 51 = .ok (.iload_n 1, 1) := by decide +kernel
theorem dX0_putToggle_52 : decode cX0_putToggle 52 = .ok (.iastore, 1) := by decide +kernel
theorem dX0_putToggle_53 : decode cX0_putToggle 53 = .ok (.aload_n 0, 1) := by decide +kernel
theorem dX0_putToggle_54 : decode cX0_putToggle 54 = .ok (.dup, 1) := by decide +kernel
theorem dX0_putToggle_55 : decode cX0_putToggle 55 = .ok (.getfield 15, 3) := by decide +kernel
theorem dX0_putToggle_58 : decode cX0_putToggle 58 = .ok (.iconst 1, 1) := by decide +kernel
theorem dX0_putToggle_59 : decode cX0_putToggle 59 = .ok (.iadd, 1) := by decide +kernel
theorem dX0_putToggle_60 : decode cX0_putToggle 60 = .ok (.putfield 15, 3) := by decide +kernel
theorem dX0_putToggle_63 : decode cX0_putToggle 63 = .ok (.return_, 1) := by decide +kernel
theorem dX0_dropToggle_0 : decode cX0_dropToggle 0 = .ok (.aload_n 0, 1) := by decide +kernel
theorem dX0_dropToggle_1 : decode cX0_dropToggle 1 = .ok (.iload_n 1, 1) := by decide +kernel
theorem dX0_dropToggle_2 : decode cX0_dropToggle 2 = .ok (.invokevirtual 35, 3) := by decide +kernel
theorem dX0_dropToggle_5 : decode cX0_dropToggle 5 = .ok (.iconst 1, 1) := by decide +kernel
theorem dX0_dropToggle_6 : decode cX0_dropToggle 6 = .ok (.iadd, 1) := by decide +kernel
theorem dX0_dropToggle_7 : decode cX0_dropToggle 7 = .ok (.istore_n 2, 1) := by decide +kernel
theorem dX0_dropToggle_8 : decode cX0_dropToggle 8 = .ok (.iload_n 2, 1) := by decide +kernel
theorem dX0_dropToggle_9 : decode cX0_dropToggle 9 = .ok (.aload_n 0, 1) := by decide +kernel
theorem dX0_dropToggle_10 : decode cX0_dropToggle 10 = .ok (.getfield 15, 3) := by decide +kernel
theorem dX0_dropToggle_13 : decode cX0_dropToggle 13 = .ok (.if_icmp .ge 23, 3) := by decide +kernel
theorem dX0_dropToggle_16 : decode cX0_dropToggle 16 = .ok (.aload_n 0, 1) := by decide +kernel
theorem dX0_dropToggle_17 : decode cX0_dropToggle 17 = .ok (.getfield 19, 3) := by decide +kernel
theorem dX0_dropToggle_20 : decode cX0_dropToggle 20 = .ok (.iload_n 2, 1) := by decide +kernel
theorem dX0_dropToggle_21 : decode cX0_dropToggle 21 = .ok (.iconst 1, 1) := by decide +kernel
theorem dX0_dropToggle_22 : decode cX0_dropToggle 22 = .ok (.isub, 1) := by decide +kernel
theorem dX0_dropToggle_23 : decode cX0_dropToggle 23 = .ok (.aload_n 0, 1) := by decide +kernel
theorem dX0_dropToggle_24 : decode cX0_dropToggle 24 = .ok (.getfield 19, 3) := by decide +kernel
theorem dX0_dropToggle_27 : decode cX0_dropToggle 27 = .ok (.iload_n 2, 1) := by decide +kernel
theorem dX0_dropToggle_28 : decode cX0_dropToggle 28 = .ok (.iaload, 1) := by decide +kernel
theorem dX0_dropToggle_29 : decode cX0_dropToggle 29 = .ok (.iastore, 1) := by decide +kernel
theorem dX0_dropToggle_30 : decode cX0_dropToggle 30 = .ok (.iinc 2 1, 3) := by decide +kernel
theorem dX0_dropToggle_33 : decode cX0_dropToggle 33 = .ok (.goto (-25), 3) := by decide +kernel
theorem dX0_dropToggle_36 : decode cX0_dropToggle 36 = .ok (.aload_n 0, 1) := by decide +kernel
theorem dX0_dropToggle_37 : decode cX0_dropToggle 37 = .ok (.dup, 1) := by decide +kernel
theorem dX0_dropToggle_38 : decode cX0_dropToggle 38 = .ok (.getfield 15, 3) := by decide +kernel
theorem dX0_dropToggle_41 : decode cX0_dropToggle 41 = .ok (.iconst 1, 1) := by decide +kernel
theorem dX0_dropToggle_42 : decode cX0_dropToggle 42 = .ok (.isub, 1) := by decide +kernel
theorem dX0_dropToggle_43 : decode cX0_dropToggle 43 = .ok (.putfield 15, 3) := by decide +kernel
theorem dX0_dropToggle_46 : decode cX0_dropToggle 46 = .ok (.return_, 1) := by decide +kernel
theorem dX0_togglesBefore_0 : decode cX0_togglesBefore 0 = .ok (.iconst 0, 1) := by decide +kernel
theorem dX0_togglesBefore_1 : decode cX0_togglesBefore 1 = .ok (.istore_n 2, 1) := by decide +kernel
theorem dX0_togglesBefore_2 : decode cX0_togglesBefore 2 = .ok (.iconst 0, 1) := by decide +kernel
theorem dX0_togglesBefore_3 : decode cX0_togglesBefore 3 = .ok (.istore_n 3, 1) := by decide +kernel
theorem dX0_togglesBefore_4 : decode cX0_togglesBefore 4 = .ok (.iload_n 3, 1) := by decide +kernel
theorem dX0_togglesBefore_5 : decode cX0_togglesBefore 5 = .ok (.aload_n 0, 1) := by decide +kernel
theorem dX0_togglesBefore_6 : decode cX0_togglesBefore 6 = .ok (.getfield 15, 3) := by decide +kernel
theorem dX0_togglesBefore_9 : decode cX0_togglesBefore 9 = .ok (.if_icmp .ge 22, 3) := by decide +kernel
theorem dX0_togglesBefore_12 : decode cX0_togglesBefore 12 = .ok (.aload_n 0, 1) := by decide +kernel
theorem dX0_togglesBefore_13 : decode cX0_togglesBefore 13 = .ok (.getfield 19, 3) := by decide +kernel
theorem dX0_togglesBefore_16 : decode cX0_togglesBefore 16 = .ok (.iload_n 3, 1) := by decide +kernel
theorem dX0_togglesBefore_17 : decode cX0_togglesBefore 17 = .ok (.iaload, 1) := by decide +kernel
theorem dX0_togglesBefore_18 : decode cX0_togglesBefore 18 = .ok (.iload_n 1, 1) := by decide +kernel
theorem dX0_togglesBefore_19 : decode cX0_togglesBefore 19 = .ok (.if_icmp .ge 6, 3) := by decide +kernel
theorem dX0_togglesBefore_22 : decode cX0_togglesBefore 22 = .ok (.iinc 2 1, 3) := by decide +kernel
theorem dX0_togglesBefore_25 : decode cX0_togglesBefore 25 = .ok (.iinc 3 1, 3) := by decide +kernel
theorem dX0_togglesBefore_28 : decode cX0_togglesBefore 28 = .ok (.goto (-24), 3) := by decide +kernel
theorem dX0_togglesBefore_31 : decode cX0_togglesBefore 31 = .ok (.iload_n 2, 1) := by decide +kernel
theorem dX0_togglesBefore_32 : decode cX0_togglesBefore 32 = .ok (.ireturn, 1) := by decide +kernel
theorem dX1_init_0 : decode cX1_init 0 = .ok (.aload_n 0, 1) := by decide +kernel
theorem dX1_init_1 : decode cX1_init 1 = .ok (.invokespecial 3, 3) := by decide +kernel
theorem dX1_init_4 : decode cX1_init 4 = .ok (.aload_n 0, 1) := by decide +kernel
theorem dX1_init_5 : decode cX1_init 5 = .ok (.bipush 8, 2) := by decide +kernel
theorem dX1_init_7 : decode cX1_init 7 = .ok (.newarray .int, 2) := by decide +kernel
theorem dX1_init_9 : decode cX1_init 9 = .ok (.putfield 9, 3) := by decide +kernel
theorem dX1_init_12 : decode cX1_init 12 = .ok (.aload_n 0, 1) := by decide +kernel
theorem dX1_init_13 : decode cX1_init 13 = .ok (.bipush 8, 2) := by decide +kernel
theorem dX1_init_15 : decode cX1_init 15 = .ok (.newarray .long, 2) := by decide +kernel
theorem dX1_init_17 : decode cX1_init 17 = .ok (.putfield 15, 3) := by decide +kernel
theorem dX1_init_20 : decode cX1_init 20 = .ok (.aload_n 0, 1) := by decide +kernel
theorem dX1_init_21 : decode cX1_init 21 = .ok (.bipush 7, 2) := by decide +kernel
theorem dX1_init_23 : decode cX1_init 23 = .ok (.bipush 8, 2) := by decide +kernel
theorem dX1_init_25 : decode cX1_init 25 = .ok (.multianewarray 19 2, 4) := by decide +kernel
theorem dX1_init_29 : decode cX1_init 29 = .ok (.putfield 21, 3) := by decide +kernel
theorem dX1_init_32 : decode cX1_init 32 = .ok (.aload_n 0, 1) := by decide +kernel
theorem dX1_init_33 : decode cX1_init 33 = .ok (.sipush 256, 3) := by decide +kernel
theorem dX1_init_36 : decode cX1_init 36 = .ok (.newarray .long, 2) := by decide +kernel
theorem dX1_init_38 : decode cX1_init 38 = .ok (.putfield 24, 3) := by decide +kernel
theorem dX1_init_41 : decode cX1_init 41 = .ok (.aload_n 0, 1) := by decide +kernel
theorem dX1_init_42 : decode cX1_init 42 = .ok (.iconst 0, 1) := by decide +kernel
theorem dX1_init_43 : decode cX1_init 43 = .ok (.putfield 27, 3) := by decide +kernel
theorem dX1_init_46 : decode cX1_init 46 = .ok (.return_, 1) := by decide +kernel
theorem dX1_clear_0 : decode cX1_clear 0 = .ok (.aload_n 0, 1) := by decide +kernel
theorem dX1_clear_1 : decode cX1_clear 1 = .ok (.iconst 0, 1) := by decide +kernel
theorem dX1_clear_2 : decode cX1_clear 2 = .ok (.putfield 27, 3) := by decide +kernel
theorem dX1_clear_5 : decode cX1_clear 5 = .ok (.iconst 0, 1) := by decide +kernel
theorem dX1_clear_6 : decode cX1_clear 6 = .ok (.istore_n 1, 1) := by decide +kernel
theorem dX1_clear_7 : decode cX1_clear 7 = .ok (.iload_n 1, 1) := by decide +kernel
theorem dX1_clear_8 : decode cX1_clear 8 = .ok (.bipush 8, 2) := by decide +kernel
theorem dX1_clear_10 : decode cX1_clear 10 = .ok (.if_icmp .ge 23, 3) := by decide +kernel
theorem dX1_clear_13 : decode cX1_clear 13 = .ok (.aload_n 0, 1) := by decide +kernel
theorem dX1_clear_14 : decode cX1_clear 14 = .ok (.getfield 9, 3) := by decide +kernel
theorem dX1_clear_17 : decode cX1_clear 17 = .ok (.iload_n 1, 1) := by decide +kernel
theorem dX1_clear_18 : decode cX1_clear 18 = .ok (.iconst (-1), 1) := by decide +kernel
theorem dX1_clear_19 : decode cX1_clear 19 = .ok (.iastore, 1) := by decide +kernel
theorem dX1_clear_20 : decode cX1_clear 20 = .ok (.aload_n 0, 1) := by decide +kernel
theorem dX1_clear_21 : decode cX1_clear 21 = .ok (.getfield 15, 3) := by decide +kernel
theorem dX1_clear_24 : decode cX1_clear 24 = .ok (.iload_n 1, 1) := by decide +kernel
theorem dX1_clear_25 : decode cX1_clear 25 = .ok (.lconst 0, 1) := by decide +kernel
theorem dX1_clear_26 : decode cX1_clear 26 = .ok (.lastore, 1) := by decide +kernel
theorem dX1_clear_27 : decode cX1_clear 27 = .ok (.iinc 1 1, 3) := by decide +kernel
theorem dX1_clear_30 : decode cX1_clear 30 = .ok (.goto (-23), 3) := by decide +kernel
theorem dX1_clear_33 : decode cX1_clear 33 = .ok (.iconst 0, 1) := by decide +kernel
theorem dX1_clear_34 : decode cX1_clear 34 = .ok (.istore_n 1, 1) := by decide +kernel
theorem dX1_clear_35 : decode cX1_clear 35 = .ok (.iload_n 1, 1) := by decide +kernel
theorem dX1_clear_36 : decode cX1_clear 36 = .ok (.bipush 7, 2) := by decide +kernel
theorem dX1_clear_38 : decode cX1_clear 38 = .ok (.if_icmp .ge 32, 3) := by decide +kernel
theorem dX1_clear_41 : decode cX1_clear 41 = .ok (.iconst 0, 1) := by decide +kernel
theorem dX1_clear_42 : decode cX1_clear 42 = .ok (.istore_n 2, 1) := by decide +kernel
theorem dX1_clear_43 : decode cX1_clear 43 = .ok (.iload_n 2, 1) := by decide +kernel
theorem dX1_clear_44 : decode cX1_clear 44 = .ok (.bipush 7, 2) := by decide +kernel
theorem dX1_clear_46 : decode cX1_clear 46 = .ok (.if_icmp .gt 18, 3) := by decide +kernel
theorem dX1_clear_49 : decode cX1_clear 49 = .ok (.aload_n 0, 1) := by decide +kernel
theorem dX1_clear_50 : decode cX1_clear 50 = .ok (.getfield 21, 3) := by decide +kernel
theorem dX1_clear_53 : decode cX1_clear 53 = .ok (.iload_n 1, 1) := by decide +kernel
theorem dX1_clear_54 : decode cX1_clear 54 = .ok (.aaload, 1) := by decide +kernel
theorem dX1_clear_55 : decode cX1_clear 55 = .ok (.iload_n 2, 1) := by decide +kernel
theorem dX1_clear_56 : decode cX1_clear 56 = .ok (.lconst 0, 1) := by decide +kernel
theorem dX1_clear_57 : decode cX1_clear 57 = .ok (.lastore, 1) := by decide +kernel
theorem dX1_clear_58 : decode cX1_clear 58 = .ok (.iinc 2 1, 3) := by decide +kernel
theorem dX1_clear_61 : decode cX1_clear 61 = .ok (.goto (-18), 3) := by decide +kernel
theorem dX1_clear_64 : decode cX1_clear 64 = .ok (.iinc 1 1, 3) := by decide +kernel
theorem dX1_clear_67 : decode cX1_clear 67 = .ok (.goto (-32), 3) := by decide +kernel
theorem dX1_clear_70 : decode cX1_clear 70 = .ok (.return_, 1) := by decide +kernel
theorem dX1_fix_0 : decode cX1_fix 0 = .ok (.aload_n 0, 1) := by decide +kernel
theorem dX1_fix_1 : decode cX1_fix 1 = .ok (.getfield 15, 3) := by decide +kernel
theorem dX1_fix_4 : decode cX1_fix 4 = .ok (.iload_n 1, 1) := by decide +kernel
theorem dX1_fix_5 : decode cX1_fix 5 = .ok (.lload_n 2, 1) := by decide +kernel
theorem dX1_fix_6 : decode cX1_fix 6 = .ok (.lastore, 1) := by decide +kernel
theorem dX1_fix_7 : decode cX1_fix 7 = .ok (.return_, 1) := by decide +kernel
theorem dX1_seek_0 : decode cX1_seek 0 = .ok (.aload_n 0, 1) := by decide +kernel
theorem dX1_seek_1 : decode cX1_seek 1 = .ok (.getfield 27, 3) := by decide +kernel
theorem dX1_seek_4 : decode cX1_seek 4 = .ok (.bipush 7, 2) := by decide +kernel
theorem dX1_seek_6 : decode cX1_seek 6 = .ok (.if_icmp .ge 23, 3) := by decide +kernel
theorem dX1_seek_9 : decode cX1_seek 9 = .ok (.aload_n 0, 1) := by decide +kernel
theorem dX1_seek_10 : decode cX1_seek 10 = .ok (.getfield 9, 3) := by decide +kernel
theorem dX1_seek_13 : decode cX1_seek 13 = .ok (.iload_n 1, 1) := by decide +kernel
theorem dX1_seek_14 : decode cX1_seek 14 = .ok (.aload_n 0, 1) := by decide +kernel
theorem dX1_seek_15 : decode cX1_seek 15 = .ok (.getfield 27, 3) := by decide +kernel
theorem dX1_seek_18 : decode cX1_seek 18 = .ok (.iastore, 1) := by decide +kernel
theorem dX1_seek_19 : decode cX1_seek 19 = .ok (.aload_n 0, 1) := by decide +kernel
theorem dX1_seek_20 : decode cX1_seek 20 = .ok (.dup, 1) := by decide +kernel
theorem dX1_seek_21 : decode cX1_seek 21 = .ok (.getfield 27, 3) := by decide +kernel
theorem dX1_seek_24 : decode cX1_seek 24 = .ok (.iconst 1, 1) := by decide +kernel
theorem dX1_seek_25 : decode cX1_seek 25 = .ok (.iadd, 1) := by decide +kernel
theorem dX1_seek_26 : decode cX1_seek 26 = .ok (.putfield 27, 3) := by decide +kernel
theorem dX1_seek_29 : decode cX1_seek 29 = .ok (.return_, 1) := by decide +kernel
theorem dX1_bring_0 : decode cX1_bring 0 = .ok (.aload_n 0, 1) := by decide +kernel
theorem dX1_bring_1 : decode cX1_bring 1 = .ok (.getfield 9, 3) := by decide +kernel
theorem dX1_bring_4 : decode cX1_bring 4 = .ok (.iload_n 1, 1) := by decide +kernel
theorem dX1_bring_5 : decode cX1_bring 5 = .ok (.iaload, 1) := by decide +kernel
theorem dX1_bring_6 : decode cX1_bring 6 = .ok (.istore 4, 2) := by decide +kernel
theorem dX1_bring_8 : decode cX1_bring 8 = .ok (.iload 4, 2) := by decide +kernel
theorem dX1_bring_10 : decode cX1_bring 10 = .ok (.ifCond .lt 19, 3) := by decide +kernel
theorem dX1_bring_13 : decode cX1_bring 13 = .ok (.aload_n 0, 1) := by decide +kernel
theorem dX1_bring_14 : decode cX1_bring 14 = .ok (.getfield 21, 3) := by decide +kernel
theorem dX1_bring_17 : decode cX1_bring 17 = .ok (.iload 4, 2) := by decide +kernel
theorem dX1_bring_19 : decode cX1_bring 19 = .ok (.aaload, 1) := by decide +kernel
theorem dX1_bring_20 : decode cX1_bring 20 = .ok (.aload_n 0, 1) := by decide +kernel
theorem dX1_bring_21 : decode cX1_bring 21 = .ok (.getfield 27, 3) := by decide +kernel
theorem dX1_bring_24 : decode cX1_bring 24 = .ok (.dup2, 1) := by decide +kernel
theorem dX1_bring_25 : decode cX1_bring 25 = .ok (.laload, 1) := by decide +kernel
theorem dX1_bring_26 : decode cX1_bring 26 = .ok (.lload_n 2, 1) := by decide +kernel
theorem dX1_bring_27 : decode cX1_bring 27 = .ok (.ladd, 1) := by decide +kernel
theorem dX1_bring_28 : decode cX1_bring 28 = .ok (.lastore, 1) := by decide +kernel
theorem dX1_bring_29 : decode cX1_bring 29 = .ok (.return_, 1) := by decide +kernel
theorem dX1_link_0 : decode cX1_link 0 = .ok (.aload_n 0, 1) := by decide +kernel
theorem dX1_link_1 : decode cX1_link 1 = .ok (.iload_n 1, 1) := by decide +kernel
theorem dX1_link_2 : decode cX1_link 2 = .ok (.iload_n 2, 1) := by decide +kernel
theorem dX1_link_3 : decode cX1_link 3 = .ok (.lload_n 3, 1) := by decide +kernel
theorem dX1_link_4 : decode cX1_link 4 = .ok (.invokevirtual 31, 3) := by decide +kernel
theorem dX1_link_7 : decode cX1_link 7 = .ok (.aload_n 0, 1) := by decide +kernel
theorem dX1_link_8 : decode cX1_link 8 = .ok (.iload_n 2, 1) := by decide +kernel
theorem dX1_link_9 : decode cX1_link 9 = .ok (.iload_n 1, 1) := by decide +kernel
theorem dX1_link_10 : decode cX1_link 10 = .ok (.lload_n 3, 1) := by decide +kernel
theorem dX1_link_11 : decode cX1_link 11 = .ok (.invokevirtual 31, 3) := by decide +kernel
theorem dX1_link_14 : decode cX1_link 14 = .ok (.return_, 1) := by decide +kernel
theorem dX1_linkOneWay_0 : decode cX1_linkOneWay 0 = .ok (.aload_n 0, 1) := by decide +kernel
theorem dX1_linkOneWay_1 : decode cX1_linkOneWay 1 = .ok (.getfield 9, 3) := by decide +kernel
theorem dX1_linkOneWay_4 : decode cX1_linkOneWay 4 = .ok (.iload_n 1, 1) := by decide +kernel
theorem dX1_linkOneWay_5 : decode cX1_linkOneWay 5 = .ok (.iaload, 1) := by decide +kernel
theorem dX1_linkOneWay_6 : decode cX1_linkOneWay 6 = .ok (.istore 5, 2) := by decide +kernel
theorem dX1_linkOneWay_8 : decode cX1_linkOneWay 8 = .ok (.iload 5, 2) := by decide +kernel
theorem dX1_linkOneWay_10 : decode cX1_linkOneWay 10 = .ok (.ifCond .ge 4, 3) := by decide +kernel
theorem dX1_linkOneWay_13 : decode cX1_linkOneWay 13 = .ok (.return_, 1) := by decide +kernel
theorem dX1_linkOneWay_14 : decode cX1_linkOneWay 14 = .ok (.aload_n 0, 1) := by decide +kernel
theorem dX1_linkOneWay_15 : decode cX1_linkOneWay 15 = .ok (.getfield 21, 3) := by decide +kernel
theorem dX1_linkOneWay_18 : decode cX1_linkOneWay 18 = .ok (.iload 5, 2) := by decide +kernel
theorem dX1_linkOneWay_20 : decode cX1_linkOneWay 20 = .ok (.aaload, 1) := by decide +kernel
theorem dX1_linkOneWay_21 : decode cX1_linkOneWay 21 = .ok (.iload 5, 2) := by decide +kernel
theorem dX1_linkOneWay_23 : decode cX1_linkOneWay 23 = .ok (.dup2, 1) := by decide +kernel
theorem dX1_linkOneWay_24 : decode cX1_linkOneWay 24 = .ok (.laload, 1) := by decide +kernel
theorem dX1_linkOneWay_25 : decode cX1_linkOneWay 25 = .ok (.lload_n 3, 1) := by decide +kernel
theorem dX1_linkOneWay_26 : decode cX1_linkOneWay 26 = .ok (.ladd, 1) := by decide +kernel
theorem dX1_linkOneWay_27 : decode cX1_linkOneWay 27 = .ok (.lastore, 1) := by decide +kernel
theorem dX1_linkOneWay_28 : decode cX1_linkOneWay 28 = .ok (.aload_n 0, 1) := by decide +kernel
theorem dX1_linkOneWay_29 : decode cX1_linkOneWay 29 = .ok (.getfield 9, 3) := by decide +kernel
theorem dX1_linkOneWay_32 : decode cX1_linkOneWay 32 = .ok (.iload_n 2, 1) := by decide +kernel
theorem dX1_linkOneWay_33 : decode cX1_linkOneWay 33 = .ok (.iaload, 1) := by decide +kernel
theorem dX1_linkOneWay_34 : decode cX1_linkOneWay 34 = .ok (.istore 6, 2) := by decide +kernel
theorem dX1_linkOneWay_36 : decode cX1_linkOneWay 36 = .ok (.iload 6, 2) := by decide +kernel
theorem dX1_linkOneWay_38 : decode cX1_linkOneWay 38 = .ok (.ifCond .lt 20, 3) := by decide +kernel
theorem dX1_linkOneWay_41 : decode cX1_linkOneWay 41 = .ok (.aload_n 0, 1) := by decide +kernel
theorem dX1_linkOneWay_42 : decode cX1_linkOneWay 42 = .ok (.getfield 21, 3) := by decide +kernel
theorem dX1_linkOneWay_45 : decode cX1_linkOneWay 45 = .ok (.iload 5, 2) := by decide +kernel
theorem dX1_linkOneWay_47 : decode cX1_linkOneWay 47 = .ok (.aaload, 1) := by decide +kernel
theorem dX1_linkOneWay_48 : decode cX1_linkOneWay 48 = .ok (.iload 6, 2) := by decide +kernel
theorem dX1_linkOneWay_50 : decode cX1_linkOneWay 50 = .ok (.dup2, 1) := by decide +kernel
theorem dX1_linkOneWay_51 : decode cX1_linkOneWay 51 = .ok (.laload, 1) := by decide +kernel
theorem dX1_linkOneWay_52 : decode cX1_linkOneWay 52 = .ok (.lload_n 3, 1) := by decide +kernel
theorem dX1_linkOneWay_53 : decode cX1_linkOneWay 53 = .ok (.lsub, 1) := by decide +kernel
theorem dX1_linkOneWay_54 : decode cX1_linkOneWay 54 = .ok (.lastore, 1) := by decide +kernel
theorem dX1_linkOneWay_55 : decode cX1_linkOneWay 55 = .ok (.goto 26, 3) := by decide +kernel
theorem dX1_linkOneWay_58 : decode cX1_linkOneWay 58 = .ok (.aload_n 0, 1) := by decide +kernel
theorem dX1_linkOneWay_59 : decode cX1_linkOneWay 59 = .ok (.getfield 21, 3) := by decide +kernel
theorem dX1_linkOneWay_62 : decode cX1_linkOneWay 62 = .ok (.iload 5, 2) := by decide +kernel
theorem dX1_linkOneWay_64 : decode cX1_linkOneWay 64 = .ok (.aaload, 1) := by decide +kernel
theorem dX1_linkOneWay_65 : decode cX1_linkOneWay 65 = .ok (.aload_n 0, 1) := by decide +kernel
theorem dX1_linkOneWay_66 : decode cX1_linkOneWay 66 = .ok (.getfield 27, 3) := by decide +kernel
theorem dX1_linkOneWay_69 : decode cX1_linkOneWay 69 = .ok (.dup2, 1) := by decide +kernel
theorem dX1_linkOneWay_70 : decode cX1_linkOneWay 70 = .ok (.laload, 1) := by decide +kernel
theorem dX1_linkOneWay_71 : decode cX1_linkOneWay 71 = .ok (.lload_n 3, 1) := by decide +kernel
theorem dX1_linkOneWay_72 : decode cX1_linkOneWay 72 = .ok (.aload_n 0, 1) := by decide +kernel
theorem dX1_linkOneWay_73 : decode cX1_linkOneWay 73 = .ok (.getfield 15, 3) := by decide +kernel
theorem dX1_linkOneWay_76 : decode cX1_linkOneWay 76 = .ok (.iload_n 2, 1) := by decide +kernel
theorem dX1_linkOneWay_77 : decode cX1_linkOneWay 77 = .ok (.laload, 1) := by decide +kernel
theorem dX1_linkOneWay_78 : decode cX1_linkOneWay 78 = .ok (.lmul, 1) := by decide +kernel
theorem dX1_linkOneWay_79 : decode cX1_linkOneWay 79 = .ok (.ladd, 1) := by decide +kernel
theorem dX1_linkOneWay_80 : decode cX1_linkOneWay 80 = .ok (.lastore, 1) := by decide +kernel
theorem dX1_linkOneWay_81 : decode cX1_linkOneWay 81 = .ok (.return_, 1) := by decide +kernel
theorem dX1_solve_0 : decode cX1_solve 0 = .ok (.aload_n 0, 1) := by decide +kernel
theorem dX1_solve_1 : decode cX1_solve 1 = .ok (.invokevirtual 35, 3) := by decide +kernel
theorem dX1_solve_4 : decode cX1_solve 4 = .ok (.istore_n 1, 1) := by decide +kernel
theorem dX1_solve_5 : decode cX1_solve 5 = .ok (.aload_n 0, 1) := by decide +kernel
theorem dX1_solve_6 : decode cX1_solve 6 = .ok (.getfield 24, 3) := by decide +kernel
theorem dX1_solve_9 : decode cX1_solve 9 = .ok (.iconst 0, 1) := by decide +kernel
theorem dX1_solve_10 : decode cX1_solve 10 = .ok (.lconst 1, 1) := by decide +kernel
theorem dX1_solve_11 : decode cX1_solve 11 = .ok (.lastore, 1) := by decide +kernel
theorem dX1_solve_12 : decode cX1_solve 12 = .ok (.iconst 1, 1) := by decide +kernel
theorem dX1_solve_13 : decode cX1_solve 13 = .ok (.istore_n 2, 1) := by decide +kernel
theorem dX1_solve_14 : decode cX1_solve 14 = .ok (.iload_n 2, 1) := by decide +kernel
theorem dX1_solve_15 : decode cX1_solve 15 = .ok (.iload_n 1, 1) := by decide +kernel
theorem dX1_solve_16 : decode cX1_solve 16 = .ok (.if_icmp .ge 20, 3) := by decide +kernel
theorem dX1_solve_19 : decode cX1_solve 19 = .ok (.aload_n 0, 1) := by decide +kernel
theorem dX1_solve_20 : decode cX1_solve 20 = .ok (.getfield 24, 3) := by decide +kernel
theorem dX1_solve_23 : decode cX1_solve 23 = .ok (.iload_n 2, 1) := by decide +kernel
theorem dX1_solve_24 : decode cX1_solve 24 = .ok (.aload_n 0, 1) := by decide +kernel
theorem dX1_solve_25 : decode cX1_solve 25 = .ok (.iload_n 2, 1) := by decide +kernel
theorem dX1_solve_26 : decode cX1_solve 26 = .ok (.invokevirtual 39, 3) := by decide +kernel
theorem dX1_solve_29 : decode cX1_solve 29 = .ok (.lastore, 1) := by decide +kernel
theorem dX1_solve_30 : decode cX1_solve 30 = .ok (.iinc 2 1, 3) := by decide +kernel
theorem dX1_solve_33 : decode cX1_solve 33 = .ok (.goto (-19), 3) := by decide +kernel
theorem dX1_solve_36 : decode cX1_solve 36 = .ok (.return_, 1) := by decide +kernel
theorem dX1_expand_0 : decode cX1_expand 0 = .ok (.iload_n 1, 1) := by decide +kernel
theorem dX1_expand_1 : decode cX1_expand 1 = .ok (.invokestatic 43, 3) := by decide +kernel
theorem dX1_expand_4 : decode cX1_expand 4 = .ok (.iconst 1, 1) := by decide +kernel
theorem dX1_expand_5 : decode cX1_expand 5 = .ok (.isub, 1) := by decide +kernel
theorem dX1_expand_6 : decode cX1_expand 6 = .ok (.istore_n 2, 1) := by decide +kernel
theorem dX1_expand_7 : decode cX1_expand 7 = .ok (.lconst 0, 1) := by decide +kernel
theorem dX1_expand_8 : decode cX1_expand 8 = .ok (.lstore_n 3, 1) := by decide +kernel
theorem dX1_expand_9 : decode cX1_expand 9 = .ok (.iconst 1, 1) := by decide +kernel
theorem dX1_expand_10 : decode cX1_expand 10 = .ok (.istore 5, 2) := by decide +kernel
theorem dX1_expand_12 : decode cX1_expand 12 = .ok (.aload_n 0, 1) := by decide +kernel
theorem dX1_expand_13 : decode cX1_expand 13 = .ok (.getfield 27, 3) := by decide +kernel
theorem dX1_expand_16 : decode cX1_expand 16 = .ok (.istore 6, 2) := by decide +kernel
theorem dX1_expand_18 : decode cX1_expand 18 = .ok (.iload 6, 2) := by decide +kernel
theorem dX1_expand_20 : decode cX1_expand 20 = .ok (.ifCond .lt 51, 3) := by decide +kernel
theorem dX1_expand_23 : decode cX1_expand 23 = .ok (.iload_n 1, 1) := by decide +kernel
theorem dX1_expand_24 : decode cX1_expand 24 = .ok (.iload 6, 2) := by decide +kernel
theorem dX1_expand_26 : decode cX1_expand 26 = .ok (.invokestatic 49, 3) := by decide +kernel
theorem dX1_expand_29 : decode cX1_expand 29 = .ok (.ifCond .eq 36, 3) := by decide +kernel
theorem dX1_expand_32 : decode cX1_expand 32 = .ok (.lload_n 3, 1) := by decide +kernel
theorem dX1_expand_33 : decode cX1_expand 33 = .ok (.iload 5, 2) := by decide +kernel
theorem dX1_expand_35 : decode cX1_expand 35 = .ok (.i2l, 1) := by decide +kernel
theorem dX1_expand_36 : decode cX1_expand 36 = .ok (.aload_n 0, 1) := by decide +kernel
theorem dX1_expand_37 : decode cX1_expand 37 = .ok (.getfield 21, 3) := by decide +kernel
theorem dX1_expand_40 : decode cX1_expand 40 = .ok (.iload_n 2, 1) := by decide +kernel
theorem dX1_expand_41 : decode cX1_expand 41 = .ok (.aaload, 1) := by decide +kernel
theorem dX1_expand_42 : decode cX1_expand 42 = .ok (.iload 6, 2) := by decide +kernel
theorem dX1_expand_44 : decode cX1_expand 44 = .ok (.laload, 1) := by decide +kernel
theorem dX1_expand_45 : decode cX1_expand 45 = .ok (.lmul, 1) := by decide +kernel
theorem dX1_expand_46 : decode cX1_expand 46 = .ok (.aload_n 0, 1) := by decide +kernel
theorem dX1_expand_47 : decode cX1_expand 47 = .ok (.getfield 24, 3) := by decide +kernel
theorem dX1_expand_50 : decode cX1_expand 50 = .ok (.iload_n 1, 1) := by decide +kernel
theorem dX1_expand_51 : decode cX1_expand 51 = .ok (.iconst 1, 1) := by decide +kernel
theorem dX1_expand_52 : decode cX1_expand 52 = .ok (.iload 6, 2) := by decide +kernel
theorem dX1_expand_54 : decode cX1_expand 54 = .ok (.ishl, 1) := by decide +kernel
theorem dX1_expand_55 : decode cX1_expand 55 = .ok (.ixor, 1) := by decide +kernel
theorem dX1_expand_56 : decode cX1_expand 56 = .ok (.laload, 1) := by decide +kernel
theorem dX1_expand_57 : decode cX1_expand 57 = .ok (.lmul, 1) := by decide +kernel
theorem dX1_expand_58 : decode cX1_expand 58 = .ok (.ladd, 1) := by decide +kernel
theorem dX1_expand_59 : decode cX1_expand 59 = .ok (.lstore_n 3, 1) := by decide +kernel
theorem dX1_expand_60 : decode cX1_expand 60 = .ok (.iload 5, 2) := by decide +kernel
theorem dX1_expand_62 : decode cX1_expand 62 = .ok (.ineg, 1) := by decide +kernel
theorem dX1_expand_63 : decode cX1_expand 63 = .ok (.istore 5, 2) := by decide +kernel
theorem dX1_expand_65 : decode cX1_expand 65 = .ok (.iinc 6 (-1), 3) := by decide +kernel
theorem dX1_expand_68 : decode cX1_expand 68 = .ok (.goto (-50), 3) := by decide +kernel
theorem dX1_expand_71 : decode cX1_expand 71 = .ok (.lload_n 3, 1) := by decide +kernel
theorem dX1_expand_72 : decode cX1_expand 72 = .ok (.lreturn, 1) := by decide +kernel
theorem dX1_lower_0 : decode cX1_lower 0 = .ok (.aload_n 0, 1) := by decide +kernel
theorem dX1_lower_1 : decode cX1_lower 1 = .ok (.getfield 24, 3) := by decide +kernel
theorem dX1_lower_4 : decode cX1_lower 4 = .ok (.aload_n 0, 1) := by decide +kernel
theorem dX1_lower_5 : decode cX1_lower 5 = .ok (.invokevirtual 35, 3) := by decide +kernel
theorem dX1_lower_8 : decode cX1_lower 8 = .ok (.iconst 1, 1) := by decide +kernel
theorem dX1_lower_9 : decode cX1_lower 9 = .ok (.aload_n 0, 1) := by decide +kernel
theorem dX1_lower_10 : decode cX1_lower 10 = .ok (.getfield 27, 3) := by decide +kernel
theorem dX1_lower_13 : decode cX1_lower 13 = .ok (.ishl, 1) := by decide +kernel
theorem dX1_lower_14 : decode cX1_lower 14 = .ok (.ixor, 1) := by decide +kernel
theorem dX1_lower_15 : decode cX1_lower 15 = .ok (.laload, 1) := by decide +kernel
theorem dX1_lower_16 : decode cX1_lower 16 = .ok (.lreturn, 1) := by decide +kernel
theorem dX1_upper_0 : decode cX1_upper 0 = .ok (.aload_n 0, 1) := by decide +kernel
theorem dX1_upper_1 : decode cX1_upper 1 = .ok (.getfield 9, 3) := by decide +kernel
theorem dX1_upper_4 : decode cX1_upper 4 = .ok (.iload_n 1, 1) := by decide +kernel
theorem dX1_upper_5 : decode cX1_upper 5 = .ok (.iaload, 1) := by decide +kernel
theorem dX1_upper_6 : decode cX1_upper 6 = .ok (.istore_n 2, 1) := by decide +kernel
theorem dX1_upper_7 : decode cX1_upper 7 = .ok (.iload_n 2, 1) := by decide +kernel
theorem dX1_upper_8 : decode cX1_upper 8 = .ok (.ifCond .ge 15, 3) := by decide +kernel
theorem dX1_upper_11 : decode cX1_upper 11 = .ok (.aload_n 0, 1) := by decide +kernel
theorem dX1_upper_12 : decode cX1_upper 12 = .ok (.getfield 15, 3) := by decide +kernel
theorem dX1_upper_15 : decode cX1_upper 15 = .ok (.iload_n 1, 1) := by decide +kernel
theorem dX1_upper_16 : decode cX1_upper 16 = .ok (.laload, 1) := by decide +kernel
theorem dX1_upper_17 : decode cX1_upper 17 = .ok (.aload_n 0, 1) := by decide +kernel
theorem dX1_upper_18 : decode cX1_upper 18 = .ok (.invokevirtual 53, 3) := by decide +kernel
theorem dX1_upper_21 : decode cX1_upper 21 = .ok (.lmul, 1) := by decide +kernel
theorem dX1_upper_22 : decode cX1_upper 22 = .ok (.lreturn, 1) := by decide +kernel
theorem dX1_upper_23 : decode cX1_upper 23 = .ok (.aload_n 0, 1) := by decide +kernel
theorem dX1_upper_24 : decode cX1_upper 24 = .ok (.getfield 24, 3) := by decide +kernel
theorem dX1_upper_27 : decode cX1_upper 27 = .ok (.aload_n 0, 1) := by decide +kernel
theorem dX1_upper_28 : decode cX1_upper 28 = .ok (.invokevirtual 35, 3) := by decide +kernel
theorem dX1_upper_31 : decode cX1_upper 31 = .ok (.iconst 1, 1) := by decide +kernel
theorem dX1_upper_32 : decode cX1_upper 32 = .ok (.iload_n 2, 1) := by decide +kernel
theorem dX1_upper_33 : decode cX1_upper 33 = .ok (.ishl, 1) := by decide +kernel
theorem dX1_upper_34 : decode cX1_upper 34 = .ok (.ixor, 1) := by decide +kernel
theorem dX1_upper_35 : decode cX1_upper 35 = .ok (.laload, 1) := by decide +kernel
theorem dX1_upper_36 : decode cX1_upper 36 = .ok (.lstore_n 3, 1) := by decide +kernel
theorem dX1_upper_37 : decode cX1_upper 37 = .ok (.aload_n 0, 1) := by decide +kernel
theorem dX1_upper_38 : decode cX1_upper 38 = .ok (.getfield 27, 3) := by decide +kernel
theorem dX1_upper_41 : decode cX1_upper 41 = .ok (.iconst 1, 1) := by decide +kernel
theorem dX1_upper_42 : decode cX1_upper 42 = .ok (.isub, 1) := by decide +kernel
theorem dX1_upper_43 : decode cX1_upper 43 = .ok (.iload_n 2, 1) := by decide +kernel
theorem dX1_upper_44 : decode cX1_upper 44 = .ok (.isub, 1) := by decide +kernel
theorem dX1_upper_45 : decode cX1_upper 45 = .ok (.iconst 2, 1) := by decide +kernel
theorem dX1_upper_46 : decode cX1_upper 46 = .ok (.irem, 1) := by decide +kernel
theorem dX1_upper_47 : decode cX1_upper 47 = .ok (.ifCond .ne 7, 3) := by decide +kernel
theorem dX1_upper_50 : decode cX1_upper 50 = .ok (.lload_n 3, 1) := by decide +kernel
theorem dX1_upper_51 : decode cX1_upper 51 = .ok (.goto 5, 3) := by decide +kernel
theorem dX1_upper_54 : decode cX1_upper 54 = .ok (.lload_n 3, 1) := by decide +kernel
theorem dX1_upper_55 : decode cX1_upper 55 = .ok (.lneg, 1) := by decide +kernel
theorem dX1_upper_56 : decode cX1_upper 56 = .ok (.lreturn, 1) := by decide +kernel
theorem dX1_allColumns_0 : decode cX1_allColumns 0 = .ok (.iconst 1, 1) := by decide +kernel
theorem dX1_allColumns_1 : decode cX1_allColumns 1 = .ok (.aload_n 0, 1) := by decide +kernel
theorem dX1_allColumns_2 : decode cX1_allColumns 2 = .ok (.getfield 27, 3) := by decide +kernel
theorem dX1_allColumns_5 : decode cX1_allColumns 5 = .ok (.iconst 1, 1) := by decide +kernel
theorem dX1_allColumns_6 : decode cX1_allColumns 6 = .ok (.iadd, 1) := by decide +kernel
theorem dX1_allColumns_7 : decode cX1_allColumns 7 = .ok (.ishl, 1) := by decide +kernel
theorem dX1_allColumns_8 : decode cX1_allColumns 8 = .ok (.iconst 1, 1) := by decide +kernel
theorem dX1_allColumns_9 : decode cX1_allColumns 9 = .ok (.isub, 1) := by decide +kernel
theorem dX1_allColumns_10 : decode cX1_allColumns 10 = .ok (.ireturn, 1) := by decide +kernel
theorem dX2_init_0 : decode cX2_init 0 = .ok (.aload_n 0, 1) := by decide +kernel
theorem dX2_init_1 : decode cX2_init 1 = .ok (.invokespecial 1, 3) := by decide +kernel
theorem dX2_init_4 : decode cX2_init 4 = .ok (.aload_n 0, 1) := by decide +kernel
theorem dX2_init_5 : decode cX2_init 5 = .ok (.iconst 0, 1) := by decide +kernel
theorem dX2_init_6 : decode cX2_init 6 = .ok (.putfield 7, 3) := by decide +kernel
theorem dX2_init_9 : decode cX2_init 9 = .ok (.aload_n 0, 1) := by decide +kernel
theorem dX2_init_10 : decode cX2_init 10 = .ok (.iconst 0, 1) := by decide +kernel
theorem dX2_init_11 : decode cX2_init 11 = .ok (.putfield 13, 3) := by decide +kernel
theorem dX2_init_14 : decode cX2_init 14 = .ok (.return_, 1) := by decide +kernel
theorem dX3_init_0 : decode cX3_init 0 = .ok (.aload_n 0, 1) := by decide +kernel
theorem dX3_init_1 : decode cX3_init 1 = .ok (.invokespecial 3, 3) := by decide +kernel
theorem dX3_init_4 : decode cX3_init 4 = .ok (.aload_n 0, 1) := by decide +kernel
theorem dX3_init_5 : decode cX3_init 5 = .ok (.new 9, 3) := by decide +kernel
theorem dX3_init_8 : decode cX3_init 8 = .ok (.dup, 1) := by decide +kernel
theorem dX3_init_9 : decode cX3_init 9 = .ok (.invokespecial 11, 3) := by decide +kernel
theorem dX3_init_12 : decode cX3_init 12 = .ok (.putfield 12, 3) := by decide +kernel
theorem dX3_init_15 : decode cX3_init 15 = .ok (.aload_n 0, 1) := by decide +kernel
theorem dX3_init_16 : decode cX3_init 16 = .ok (.new 9, 3) := by decide +kernel
theorem dX3_init_19 : decode cX3_init 19 = .ok (.dup, 1) := by decide +kernel
theorem dX3_init_20 : decode cX3_init 20 = .ok (.invokespecial 11, 3) := by decide +kernel
theorem dX3_init_23 : decode cX3_init 23 = .ok (.putfield 16, 3) := by decide +kernel
theorem dX3_init_26 : decode cX3_init 26 = .ok (.aload_n 0, 1) := by decide +kernel
theorem dX3_init_27 : decode cX3_init 27 = .ok (.bipush 8, 2) := by decide +kernel
theorem dX3_init_29 : decode cX3_init 29 = .ok (.newarray .int, 2) := by decide +kernel
theorem dX3_init_31 : decode cX3_init 31 = .ok (.putfield 19, 3) := by decide +kernel
theorem dX3_init_34 : decode cX3_init 34 = .ok (.aload_n 0, 1) := by decide +kernel
theorem dX3_init_35 : decode cX3_init 35 = .ok (.new 23, 3) := by decide +kernel
theorem dX3_init_38 : decode cX3_init 38 = .ok (.dup, 1) := by decide +kernel
theorem dX3_init_39 : decode cX3_init 39 = .ok (.invokespecial 25, 3) := by decide +kernel
theorem dX3_init_42 : decode cX3_init 42 = .ok (.putfield 26, 3) := by decide +kernel
theorem dX3_init_45 : decode cX3_init 45 = .ok (.return_, 1) := by decide +kernel
theorem dX3_addNode_0 : decode cX3_addNode 0 = .ok (.aload_n 0, 1) := by decide +kernel
theorem dX3_addNode_1 : decode cX3_addNode 1 = .ok (.getfield 12, 3) := by decide +kernel
theorem dX3_addNode_4 : decode cX3_addNode 4 = .ok (.invokevirtual 30, 3) := by decide +kernel
theorem dX3_addNode_7 : decode cX3_addNode 7 = .ok (.istore_n 1, 1) := by decide +kernel
theorem dX3_addNode_8 : decode cX3_addNode 8 = .ok (.iload_n 1, 1) := by decide +kernel
theorem dX3_addNode_9 : decode cX3_addNode 9 = .ok (.bipush 8, 2) := by decide +kernel
theorem dX3_addNode_11 : decode cX3_addNode 11 = .ok (.if_icmp .lt 13, 3) := by decide +kernel
theorem dX3_addNode_14 : decode cX3_addNode 14 = .ok (.new 34, 3) := by decide +kernel
theorem dX3_addNode_17 : decode cX3_addNode 17 = .ok (.dup, 1) := by decide +kernel
theorem dX3_addNode_18 : decode cX3_addNode 18 = .ok (.ldc 36, 2) := by decide +kernel
theorem dX3_addNode_20 : decode cX3_addNode 20 = .ok (.invokespecial 38, 3) := by decide +kernel
theorem dX3_addNode_23 : decode cX3_addNode 23 = .ok (.athrow, 1) := by decide +kernel
theorem dX3_addNode_24 : decode cX3_addNode 24 = .ok (.aload_n 0, 1) := by decide +kernel
theorem dX3_addNode_25 : decode cX3_addNode 25 = .ok (.getfield 12, 3) := by decide +kernel
theorem dX3_addNode_28 : decode cX3_addNode 28 = .ok (.new 41, 3) := by decide +kernel
theorem dX3_addNode_31 : decode cX3_addNode 31 = .ok (.dup, 1) := by decide +kernel
theorem dX3_addNode_32 : decode cX3_addNode 32 = .ok (.invokespecial 43, 3) := by decide +kernel
theorem dX3_addNode_35 : decode cX3_addNode 35 = .ok (.invokevirtual 44, 3) := by decide +kernel
theorem dX3_addNode_38 : decode cX3_addNode 38 = .ok (.pop, 1) := by decide +kernel
theorem dX3_addNode_39 : decode cX3_addNode 39 = .ok (.iload_n 1, 1) := by decide +kernel
theorem dX3_addNode_40 : decode cX3_addNode 40 = .ok (.ireturn, 1) := by decide +kernel
theorem dX3_rail_0 : decode cX3_rail 0 = .ok (.aload_n 0, 1) := by decide +kernel
theorem dX3_rail_1 : decode cX3_rail 1 = .ok (.iload_n 1, 1) := by decide +kernel
theorem dX3_rail_2 : decode cX3_rail 2 = .ok (.invokevirtual 48, 3) := by decide +kernel
theorem dX3_rail_5 : decode cX3_rail 5 = .ok (.iload_n 2, 1) := by decide +kernel
theorem dX3_rail_6 : decode cX3_rail 6 = .ok (.ifCond .eq 25, 3) := by decide +kernel
theorem dX3_rail_9 : decode cX3_rail 9 = .ok (.iload_n 3, 1) := by decide +kernel
theorem dX3_rail_10 : decode cX3_rail 10 = .ok (.bipush (-99), 2) := by decide +kernel
theorem dX3_rail_12 : decode cX3_rail 12 = .ok (.if_icmp .lt 9, 3) := by decide +kernel
theorem dX3_rail_15 : decode cX3_rail 15 = .ok (.iload_n 3, 1) := by decide +kernel
theorem dX3_rail_16 : decode cX3_rail 16 = .ok (.bipush 99, 2) := by decide +kernel
theorem dX3_rail_18 : decode cX3_rail 18 = .ok (.if_icmp .le 13, 3) := by decide +kernel
theorem dX3_rail_21 : decode cX3_rail 21 = .ok (.new 52, 3) := by decide +kernel
theorem dX3_rail_24 : decode cX3_rail 24 = .ok (.dup, 1) := by decide +kernel
theorem dX3_rail_25 : decode cX3_rail 25 = .ok (.ldc 54, 2) := by decide +kernel
theorem dX3_rail_27 : decode cX3_rail 27 = .ok (.invokespecial 56, 3) := by decide +kernel
theorem dX3_rail_30 : decode cX3_rail 30 = .ok (.athrow, 1) := by decide +kernel
theorem dX3_rail_31 : decode cX3_rail 31 = .ok (.aload_n 0, 1) := by decide +kernel
theorem dX3_rail_32 : decode cX3_rail 32 = .ok (.getfield 12, 3) := by decide +kernel
theorem dX3_rail_35 : decode cX3_rail 35 = .ok (.iload_n 1, 1) := by decide +kernel
theorem dX3_rail_36 : decode cX3_rail 36 = .ok (.invokevirtual 57, 3) := by decide +kernel
theorem dX3_rail_39 : decode cX3_rail 39 = .ok (.checkcast 41, 3) := by decide +kernel
theorem dX3_rail_42 : decode cX3_rail 42 = .ok (.astore 4, 2) := by decide +kernel
theorem dX3_rail_44 : decode cX3_rail 44 = .ok (.aload 4, 2) := by decide +kernel
theorem dX3_rail_46 : decode cX3_rail 46 = .ok (.getfield 61, 3) := by decide +kernel
theorem dX3_rail_49 : decode cX3_rail 49 = .ok (.istore 5, 2) := by decide +kernel
theorem dX3_rail_51 : decode cX3_rail 51 = .ok (.aload 4, 2) := by decide +kernel
theorem dX3_rail_53 : decode cX3_rail 53 = .ok (.iload_n 2, 1) := by decide +kernel
theorem dX3_rail_54 : decode cX3_rail 54 = .ok (.putfield 61, 3) := by decide +kernel
theorem dX3_rail_57 : decode cX3_rail 57 = .ok (.aload 4, 2) := by decide +kernel
theorem dX3_rail_59 : decode cX3_rail 59 = .ok (.iload_n 2, 1) := by decide +kernel
theorem dX3_rail_60 : decode cX3_rail 60 = .ok (.ifCond .eq 7, 3) := by decide +kernel
theorem dX3_rail_63 : decode cX3_rail 63 = .ok (.iload_n 3, 1) := by decide +kernel
theorem dX3_rail_64 : decode cX3_rail 64 = .ok (.goto 4, 3) := by decide +kernel
theorem dX3_rail_67 : decode cX3_rail 67 = .ok (.iconst 0, 1) := by decide +kernel
theorem dX3_rail_68 : decode cX3_rail 68 = .ok (.putfield 65, 3) := by decide +kernel
theorem dX3_rail_71 : decode cX3_rail 71 = .ok (.iload 5, 2) := by decide +kernel
theorem dX3_rail_73 : decode cX3_rail 73 = .ok (.ireturn, 1) := by decide +kernel
theorem dX3_addElement_0 : decode cX3_addElement 0 = .ok (.aload_n 0, 1) := by decide +kernel
theorem dX3_addElement_1 : decode cX3_addElement 1 = .ok (.iload_n 2, 1) := by decide +kernel
theorem dX3_addElement_2 : decode cX3_addElement 2 = .ok (.invokevirtual 48, 3) := by decide +kernel
theorem dX3_addElement_5 : decode cX3_addElement 5 = .ok (.aload_n 0, 1) := by decide +kernel
theorem dX3_addElement_6 : decode cX3_addElement 6 = .ok (.iload_n 3, 1) := by decide +kernel
theorem dX3_addElement_7 : decode cX3_addElement 7 = .ok (.invokevirtual 48, 3) := by decide +kernel
theorem dX3_addElement_10 : decode cX3_addElement 10 = .ok (.iload_n 2, 1) := by decide +kernel
theorem dX3_addElement_11 : decode cX3_addElement 11 = .ok (.iload_n 3, 1) := by decide +kernel
theorem dX3_addElement_12 : decode cX3_addElement 12 = .ok (.if_icmp .ne 13, 3) := by decide +kernel
theorem dX3_addElement_15 : decode cX3_addElement 15 = .ok (.new 52, 3) := by decide +kernel
theorem dX3_addElement_18 : decode cX3_addElement 18 = .ok (.dup, 1) := by decide +kernel
theorem dX3_addElement_19 : decode cX3_addElement 19 = .ok (.ldc 69, 2) := by decide +kernel
theorem dX3_addElement_21 : decode cX3_addElement 21 = .ok (.invokespecial 56, 3) := by decide +kernel
theorem dX3_addElement_24 : decode cX3_addElement 24 = .ok (.athrow, 1) := by decide +kernel
theorem dX3_addElement_25 : decode cX3_addElement 25 = .ok (.iload_n 1, 1) := by decide +kernel
theorem dX3_addElement_26 : decode cX3_addElement 26 = .ok (.iload 4, 2) := by decide +kernel
theorem dX3_addElement_28 : decode cX3_addElement 28 = .ok (.invokestatic 71, 3) := by decide +kernel
theorem dX3_addElement_31 : decode cX3_addElement 31 = .ok (.aload_n 0, 1) := by decide +kernel
theorem dX3_addElement_32 : decode cX3_addElement 32 = .ok (.getfield 16, 3) := by decide +kernel
theorem dX3_addElement_35 : decode cX3_addElement 35 = .ok (.invokevirtual 30, 3) := by decide +kernel
theorem dX3_addElement_38 : decode cX3_addElement 38 = .ok (.istore 5, 2) := by decide +kernel
theorem dX3_addElement_40 : decode cX3_addElement 40 = .ok (.iload 5, 2) := by decide +kernel
theorem dX3_addElement_42 : decode cX3_addElement 42 = .ok (.bipush 20, 2) := by decide +kernel
theorem dX3_addElement_44 : decode cX3_addElement 44 = .ok (.if_icmp .lt 13, 3) := by decide +kernel
theorem dX3_addElement_47 : decode cX3_addElement 47 = .ok (.new 34, 3) := by decide +kernel
theorem dX3_addElement_50 : decode cX3_addElement 50 = .ok (.dup, 1) := by decide +kernel
theorem dX3_addElement_51 : decode cX3_addElement 51 = .ok (.ldc 75, 2) := by decide +kernel
theorem dX3_addElement_53 : decode cX3_addElement 53 = .ok (.invokespecial 38, 3) := by decide +kernel
theorem dX3_addElement_56 : decode cX3_addElement 56 = .ok (.athrow, 1) := by decide +kernel
theorem dX3_addElement_57 : decode cX3_addElement 57 = .ok (.aload_n 0, 1) := by decide +kernel
theorem dX3_addElement_58 : decode cX3_addElement 58 = .ok (.getfield 16, 3) := by decide +kernel
theorem dX3_addElement_61 : decode cX3_addElement 61 = .ok (.new 77, 3) := by decide +kernel
theorem dX3_addElement_64 : decode cX3_addElement 64 = .ok (.dup, 1) := by decide +kernel
theorem dX3_addElement_65 : decode cX3_addElement 65 = .ok (.iload_n 1, 1) := by decide +kernel
theorem dX3_addElement_66 : decode cX3_addElement 66 = .ok (.iload_n 2, 1) := by decide +kernel
theorem dX3_addElement_67 : decode cX3_addElement 67 = .ok (.iload_n 3, 1) := by decide +kernel
theorem dX3_addElement_68 : decode cX3_addElement 68 = .ok (.iload 4, 2) := by decide +kernel
theorem dX3_addElement_70 : decode cX3_addElement 70 = .ok (.invokespecial 79, 3) := by decide +kernel
theorem dX3_addElement_73 : decode cX3_addElement 73 = .ok (.invokevirtual 44, 3) := by decide +kernel
theorem dX3_addElement_76 : decode cX3_addElement 76 = .ok (.pop, 1) := by decide +kernel
theorem dX3_addElement_77 : decode cX3_addElement 77 = .ok (.iload 5, 2) := by decide +kernel
theorem dX3_addElement_79 : decode cX3_addElement 79 = .ok (.ireturn, 1) := by decide +kernel
theorem dX3_resize_0 : decode cX3_resize 0 = .ok (.aload_n 0, 1) := by decide +kernel
theorem dX3_resize_1 : decode cX3_resize 1 = .ok (.iload_n 1, 1) := by decide +kernel
theorem dX3_resize_2 : decode cX3_resize 2 = .ok (.invokevirtual 82, 3) := by decide +kernel
theorem dX3_resize_5 : decode cX3_resize 5 = .ok (.aload_n 0, 1) := by decide +kernel
theorem dX3_resize_6 : decode cX3_resize 6 = .ok (.getfield 16, 3) := by decide +kernel
theorem dX3_resize_9 : decode cX3_resize 9 = .ok (.iload_n 1, 1) := by decide +kernel
theorem dX3_resize_10 : decode cX3_resize 10 = .ok (.invokevirtual 57, 3) := by decide +kernel
theorem dX3_resize_13 : decode cX3_resize 13 = .ok (.checkcast 77, 3) := by decide +kernel
theorem dX3_resize_16 : decode cX3_resize 16 = .ok (.astore_n 3, 1) := by decide +kernel
theorem dX3_resize_17 : decode cX3_resize 17 = .ok (.aload_n 3, 1) := by decide +kernel
theorem dX3_resize_18 : decode cX3_resize 18 = .ok (.getfield 85, 3) := by decide +kernel
theorem dX3_resize_21 : decode cX3_resize 21 = .ok (.iload_n 2, 1) := by decide +kernel
theorem dX3_resize_22 : decode cX3_resize 22 = .ok (.invokestatic 71, 3) := by decide +kernel
theorem dX3_resize_25 : decode cX3_resize 25 = .ok (.aload_n 3, 1) := by decide +kernel
theorem dX3_resize_26 : decode cX3_resize 26 = .ok (.getfield 88, 3) := by decide +kernel
theorem dX3_resize_29 : decode cX3_resize 29 = .ok (.istore 4, 2) := by decide +kernel
theorem dX3_resize_31 : decode cX3_resize 31 = .ok (.aload_n 3, 1) := by decide +kernel
theorem dX3_resize_32 : decode cX3_resize 32 = .ok (.iload_n 2, 1) := by decide +kernel
theorem dX3_resize_33 : decode cX3_resize 33 = .ok (.putfield 88, 3) := by decide +kernel
theorem dX3_resize_36 : decode cX3_resize 36 = .ok (.iload 4, 2) := by decide +kernel
theorem dX3_resize_38 : decode cX3_resize 38 = .ok (.ireturn, 1) := by decide +kernel
theorem dX3_begin_0 : decode cX3_begin 0 = .ok (.aload_n 0, 1) := by decide +kernel
theorem dX3_begin_1 : decode cX3_begin 1 = .ok (.iload_n 1, 1) := by decide +kernel
theorem dX3_begin_2 : decode cX3_begin 2 = .ok (.invokevirtual 82, 3) := by decide +kernel
theorem dX3_begin_5 : decode cX3_begin 5 = .ok (.aload_n 0, 1) := by decide +kernel
theorem dX3_begin_6 : decode cX3_begin 6 = .ok (.getfield 16, 3) := by decide +kernel
theorem dX3_begin_9 : decode cX3_begin 9 = .ok (.iload_n 1, 1) := by decide +kernel
theorem dX3_begin_10 : decode cX3_begin 10 = .ok (.invokevirtual 57, 3) := by decide +kernel
theorem dX3_begin_13 : decode cX3_begin 13 = .ok (.checkcast 77, 3) := by decide +kernel
theorem dX3_begin_16 : decode cX3_begin 16 = .ok (.astore_n 3, 1) := by decide +kernel
theorem dX3_begin_17 : decode cX3_begin 17 = .ok (.aload_n 3, 1) := by decide +kernel
theorem dX3_begin_18 : decode cX3_begin 18 = .ok (.getfield 90, 3) := by decide +kernel
theorem dX3_begin_21 : decode cX3_begin 21 = .ok (.istore 4, 2) := by decide +kernel
theorem dX3_begin_23 : decode cX3_begin 23 = .ok (.aload_n 3, 1) := by decide +kernel
theorem dX3_begin_24 : decode cX3_begin 24 = .ok (.iload_n 2, 1) := by decide +kernel
theorem dX3_begin_25 : decode cX3_begin 25 = .ok (.putfield 90, 3) := by decide +kernel
theorem dX3_begin_28 : decode cX3_begin 28 = .ok (.iload 4, 2) := by decide +kernel
theorem dX3_begin_30 : decode cX3_begin 30 = .ok (.ireturn, 1) := by decide +kernel
theorem dX3_toggle_0 : decode cX3_toggle 0 = .ok (.aload_n 0, 1) := by decide +kernel
theorem dX3_toggle_1 : decode cX3_toggle 1 = .ok (.iload_n 1, 1) := by decide +kernel
theorem dX3_toggle_2 : decode cX3_toggle 2 = .ok (.invokevirtual 82, 3) := by decide +kernel
theorem dX3_toggle_5 : decode cX3_toggle 5 = .ok (.iload_n 2, 1) := by decide +kernel
theorem dX3_toggle_6 : decode cX3_toggle 6 = .ok (.iconst 1, 1) := by decide +kernel
theorem dX3_toggle_7 : decode cX3_toggle 7 = .ok (.if_icmp .lt 10, 3) := by decide +kernel
theorem dX3_toggle_10 : decode cX3_toggle 10 = .ok (.iload_n 2, 1) := by decide +kernel
theorem dX3_toggle_11 : decode cX3_toggle 11 = .ok (.sipush 999, 3) := by decide +kernel
theorem dX3_toggle_14 : decode cX3_toggle 14 = .ok (.if_icmp .le 13, 3) := by decide +kernel
theorem dX3_toggle_17 : decode cX3_toggle 17 = .ok (.new 52, 3) := by decide +kernel
theorem dX3_toggle_20 : decode cX3_toggle 20 = .ok (.dup, 1) := by decide +kernel
theorem dX3_toggle_21 : decode cX3_toggle 21 = .ok (.ldc 93, 2) := by decide +kernel
theorem dX3_toggle_23 : decode cX3_toggle 23 = .ok (.invokespecial 56, 3) := by decide +kernel
theorem dX3_toggle_26 : decode cX3_toggle 26 = .ok (.athrow, 1) := by decide +kernel
theorem dX3_toggle_27 : decode cX3_toggle 27 = .ok (.aload_n 0, 1) := by decide +kernel
theorem dX3_toggle_28 : decode cX3_toggle 28 = .ok (.getfield 16, 3) := by decide +kernel
theorem dX3_toggle_31 : decode cX3_toggle 31 = .ok (.iload_n 1, 1) := by decide +kernel
theorem dX3_toggle_32 : decode cX3_toggle 32 = .ok (.invokevirtual 57, 3) := by decide +kernel
theorem dX3_toggle_35 : decode cX3_toggle 35 = .ok (.checkcast 77, 3) := by decide +kernel
theorem dX3_toggle_38 : decode cX3_toggle 38 = .ok (.astore_n 3, 1) := by decide +kernel
theorem dX3_toggle_39 : decode cX3_toggle 39 = .ok (.aload_n 3, 1) := by decide +kernel
theorem dX3_toggle_40 : decode cX3_toggle 40 = .ok (.iload_n 2, 1) := by decide +kernel
theorem dX3_toggle_41 : decode cX3_toggle 41 = .ok (.invokevirtual 95, 3) := by decide +kernel
theorem dX3_toggle_44 : decode cX3_toggle 44 = .ok (.ifCond .eq 11, 3) := by decide +kernel
theorem dX3_toggle_47 : decode cX3_toggle 47 = .ok (.aload_n 3, 1) := by decide +kernel
theorem dX3_toggle_48 : decode cX3_toggle 48 = .ok (.iload_n 2, 1) := by decide +kernel
theorem dX3_toggle_49 : decode cX3_toggle 49 = .ok (.invokevirtual 99, 3) := by decide +kernel
theorem dX3_toggle_52 : decode cX3_toggle 52 = .ok (.goto 30, 3) := by decide +kernel
theorem dX3_toggle_55 : decode cX3_toggle 55 = .ok (.aload_n 3, 1) := by decide +kernel
theorem dX3_toggle_56 : decode cX3_toggle 56 = .ok (.getfield 102, 3) := by decide +kernel
theorem dX3_toggle_59 : decode cX3_toggle 59 = .ok (.bipush 6, 2) := by decide +kernel
theorem dX3_toggle_61 : decode cX3_toggle 61 = .ok (.if_icmp .ge 11, 3) := by decide +kernel
theorem dX3_toggle_64 : decode cX3_toggle 64 = .ok (.aload_n 3, 1) := by decide +kernel
theorem dX3_toggle_65 : decode cX3_toggle 65 = .ok (.iload_n 2, 1) := by decide +kernel
theorem dX3_toggle_66 : decode cX3_toggle 66 = .ok (.invokevirtual 105, 3) := by decide +kernel
theorem dX3_toggle_69 : decode cX3_toggle 69 = .ok (.goto 13, 3) := by decide +kernel
theorem dX3_toggle_72 : decode cX3_toggle 72 = .ok (.new 34, 3) := by decide +kernel
theorem dX3_toggle_75 : decode cX3_toggle 75 = .ok (.dup, 1) := by decide +kernel
theorem dX3_toggle_76 : decode cX3_toggle 76 = .ok (.ldc 108, 2) := by decide +kernel
theorem dX3_toggle_78 : decode cX3_toggle 78 = .ok (.invokespecial 38, 3) := by decide +kernel
theorem dX3_toggle_81 : decode cX3_toggle 81 = .ok (.athrow, 1) := by decide +kernel
theorem dX3_toggle_82 : decode cX3_toggle 82 = .ok (.aload_n 3, 1) := by decide +kernel
theorem dX3_toggle_83 : decode cX3_toggle 83 = .ok (.getfield 102, 3) := by decide +kernel
theorem dX3_toggle_86 : decode cX3_toggle 86 = .ok (.ireturn, 1) := by decide +kernel
theorem dX3_floats_0 : decode cX3_floats 0 = .ok (.aload_n 0, 1) := by decide +kernel
theorem dX3_floats_1 : decode cX3_floats 1 = .ok (.iload_n 1, 1) := by decide +kernel
theorem dX3_floats_2 : decode cX3_floats 2 = .ok (.invokevirtual 48, 3) := by decide +kernel
theorem dX3_floats_5 : decode cX3_floats 5 = .ok (.iload_n 2, 1) := by decide +kernel
theorem dX3_floats_6 : decode cX3_floats 6 = .ok (.invokestatic 129, 3) := by decide +kernel
theorem dX3_floats_9 : decode cX3_floats 9 = .ok (.aload_n 0, 1) := by decide +kernel
theorem dX3_floats_10 : decode cX3_floats 10 = .ok (.iload_n 2, 1) := by decide +kernel
theorem dX3_floats_11 : decode cX3_floats 11 = .ok (.invokevirtual 135, 3) := by decide +kernel
theorem dX3_floats_14 : decode cX3_floats 14 = .ok (.aload_n 0, 1) := by decide +kernel
theorem dX3_floats_15 : decode cX3_floats 15 = .ok (.iload_n 1, 1) := by decide +kernel
theorem dX3_floats_16 : decode cX3_floats 16 = .ok (.invokevirtual 138, 3) := by decide +kernel
theorem dX3_floats_19 : decode cX3_floats 19 = .ok (.ireturn, 1) := by decide +kernel
theorem dX3_feed_0 : decode cX3_feed 0 = .ok (.aload_n 0, 1) := by decide +kernel
theorem dX3_feed_1 : decode cX3_feed 1 = .ok (.iload_n 1, 1) := by decide +kernel
theorem dX3_feed_2 : decode cX3_feed 2 = .ok (.invokevirtual 48, 3) := by decide +kernel
theorem dX3_feed_5 : decode cX3_feed 5 = .ok (.iload_n 2, 1) := by decide +kernel
theorem dX3_feed_6 : decode cX3_feed 6 = .ok (.invokestatic 129, 3) := by decide +kernel
theorem dX3_feed_9 : decode cX3_feed 9 = .ok (.aload_n 0, 1) := by decide +kernel
theorem dX3_feed_10 : decode cX3_feed 10 = .ok (.getfield 12, 3) := by decide +kernel
theorem dX3_feed_13 : decode cX3_feed 13 = .ok (.iload_n 1, 1) := by decide +kernel
theorem dX3_feed_14 : decode cX3_feed 14 = .ok (.invokevirtual 57, 3) := by decide +kernel
theorem dX3_feed_17 : decode cX3_feed 17 = .ok (.checkcast 41, 3) := by decide +kernel
theorem dX3_feed_20 : decode cX3_feed 20 = .ok (.getfield 61, 3) := by decide +kernel
theorem dX3_feed_23 : decode cX3_feed 23 = .ok (.ifCond .ne 13, 3) := by decide +kernel
theorem dX3_feed_26 : decode cX3_feed 26 = .ok (.new 34, 3) := by decide +kernel
theorem dX3_feed_29 : decode cX3_feed 29 = .ok (.dup, 1) := by decide +kernel
theorem dX3_feed_30 : decode cX3_feed 30 = .ok (.ldc 166, 2) := by decide +kernel
theorem dX3_feed_32 : decode cX3_feed 32 = .ok (.invokespecial 38, 3) := by decide +kernel
theorem dX3_feed_35 : decode cX3_feed 35 = .ok (.athrow, 1) := by decide +kernel
theorem dX3_feed_36 : decode cX3_feed 36 = .ok (.aload_n 0, 1) := by decide +kernel
theorem dX3_feed_37 : decode cX3_feed 37 = .ok (.iload_n 2, 1) := by decide +kernel
theorem dX3_feed_38 : decode cX3_feed 38 = .ok (.invokevirtual 141, 3) := by decide +kernel
theorem dX3_feed_41 : decode cX3_feed 41 = .ok (.lconst 0, 1) := by decide +kernel
theorem dX3_feed_42 : decode cX3_feed 42 = .ok (.lstore 4, 2) := by decide +kernel
theorem dX3_feed_44 : decode cX3_feed 44 = .ok (.iconst 0, 1) := by decide +kernel
theorem dX3_feed_45 : decode cX3_feed 45 = .ok (.istore 6, 2) := by decide +kernel
theorem dX3_feed_47 : decode cX3_feed 47 = .ok (.iload 6, 2) := by decide +kernel
theorem dX3_feed_49 : decode cX3_feed 49 = .ok (.aload_n 0, 1) := by decide +kernel
theorem dX3_feed_50 : decode cX3_feed 50 = .ok (.getfield 16, 3) := by decide +kernel
theorem dX3_feed_53 : decode cX3_feed 53 = .ok (.invokevirtual 30, 3) := by decide +kernel
theorem dX3_feed_56 : decode cX3_feed 56 = .ok (.if_icmp .ge 44, 3) := by decide +kernel
theorem dX3_feed_59 : decode cX3_feed 59 = .ok (.aload_n 0, 1) := by decide +kernel
theorem dX3_feed_60 : decode cX3_feed 60 = .ok (.getfield 16, 3) := by decide +kernel
theorem dX3_feed_63 : decode cX3_feed 63 = .ok (.iload 6, 2) := by decide +kernel
theorem dX3_feed_65 : decode cX3_feed 65 = .ok (.invokevirtual 57, 3) := by decide +kernel
theorem dX3_feed_68 : decode cX3_feed 68 = .ok (.checkcast 77, 3) := by decide +kernel
theorem dX3_feed_71 : decode cX3_feed 71 = .ok (.astore 7, 2) := by decide +kernel
theorem dX3_feed_73 : decode cX3_feed 73 = .ok (.aload 7, 2) := by decide +kernel
theorem dX3_feed_75 : decode cX3_feed 75 = .ok (.iload_n 2, 1) := by decide +kernel
theorem dX3_feed_76 : decode cX3_feed 76 = .ok (.invokevirtual 132, 3) := by decide +kernel
theorem dX3_feed_79 : decode cX3_feed 79 = .ok (.ifCond .eq 15, 3) := by decide +kernel
theorem dX3_feed_82 : decode cX3_feed 82 = .ok (.lload 4, 2) := by decide +kernel
theorem dX3_feed_84 : decode cX3_feed 84 = .ok (.aload_n 0, 1) := by decide +kernel
theorem dX3_feed_85 : decode cX3_feed 85 = .ok (.aload 7, 2) := by decide +kernel
theorem dX3_feed_87 : decode cX3_feed 87 = .ok (.iload_n 1, 1) := by decide +kernel
theorem dX3_feed_88 : decode cX3_feed 88 = .ok (.invokevirtual 162, 3) := by decide +kernel
theorem dX3_feed_91 : decode cX3_feed 91 = .ok (.ladd, 1) := by decide +kernel
theorem dX3_feed_92 : decode cX3_feed 92 = .ok (.lstore 4, 2) := by decide +kernel
theorem dX3_feed_94 : decode cX3_feed 94 = .ok (.iinc 6 1, 3) := by decide +kernel
theorem dX3_feed_97 : decode cX3_feed 97 = .ok (.goto (-50), 3) := by decide +kernel
theorem dX3_feed_100 : decode cX3_feed 100 = .ok (.lload 4, 2) := by decide +kernel
theorem dX3_feed_102 : decode cX3_feed 102 = .ok (.aload_n 0, 1) := by decide +kernel
theorem dX3_feed_103 : decode cX3_feed 103 = .ok (.getfield 26, 3) := by decide +kernel
theorem dX3_feed_106 : decode cX3_feed 106 = .ok (.invokevirtual 151, 3) := by decide +kernel
theorem dX3_feed_109 : decode cX3_feed 109 = .ok (.iload_n 3, 1) := by decide +kernel
theorem dX3_feed_110 : decode cX3_feed 110 = .ok (.invokestatic 155, 3) := by decide +kernel
theorem dX3_feed_113 : decode cX3_feed 113 = .ok (.lreturn, 1) := by decide +kernel
theorem dX3_resistance_0 : decode cX3_resistance 0 = .ok (.aload_n 0, 1) := by decide +kernel
theorem dX3_resistance_1 : decode cX3_resistance 1 = .ok (.iload_n 1, 1) := by decide +kernel
theorem dX3_resistance_2 : decode cX3_resistance 2 = .ok (.invokevirtual 48, 3) := by decide +kernel
theorem dX3_resistance_5 : decode cX3_resistance 5 = .ok (.aload_n 0, 1) := by decide +kernel
theorem dX3_resistance_6 : decode cX3_resistance 6 = .ok (.iload_n 2, 1) := by decide +kernel
theorem dX3_resistance_7 : decode cX3_resistance 7 = .ok (.invokevirtual 48, 3) := by decide +kernel
theorem dX3_resistance_10 : decode cX3_resistance 10 = .ok (.iload_n 3, 1) := by decide +kernel
theorem dX3_resistance_11 : decode cX3_resistance 11 = .ok (.invokestatic 129, 3) := by decide +kernel
theorem dX3_resistance_14 : decode cX3_resistance 14 = .ok (.aload_n 0, 1) := by decide +kernel
theorem dX3_resistance_15 : decode cX3_resistance 15 = .ok (.iload_n 3, 1) := by decide +kernel
theorem dX3_resistance_16 : decode cX3_resistance 16 = .ok (.invokevirtual 135, 3) := by decide +kernel
theorem dX3_resistance_19 : decode cX3_resistance 19 = .ok (.aload_n 0, 1) := by decide +kernel
theorem dX3_resistance_20 : decode cX3_resistance 20 = .ok (.getfield 19, 3) := by decide +kernel
theorem dX3_resistance_23 : decode cX3_resistance 23 = .ok (.iload_n 1, 1) := by decide +kernel
theorem dX3_resistance_24 : decode cX3_resistance 24 = .ok (.iaload, 1) := by decide +kernel
theorem dX3_resistance_25 : decode cX3_resistance 25 = .ok (.iload_n 2, 1) := by decide +kernel
theorem dX3_resistance_26 : decode cX3_resistance 26 = .ok (.invokestatic 168, 3) := by decide +kernel
theorem dX3_resistance_29 : decode cX3_resistance 29 = .ok (.ifCond .ne 13, 3) := by decide +kernel
theorem dX3_resistance_32 : decode cX3_resistance 32 = .ok (.new 34, 3) := by decide +kernel
theorem dX3_resistance_35 : decode cX3_resistance 35 = .ok (.dup, 1) := by decide +kernel
theorem dX3_resistance_36 : decode cX3_resistance 36 = .ok (.ldc 172, 2) := by decide +kernel
theorem dX3_resistance_38 : decode cX3_resistance 38 = .ok (.invokespecial 38, 3) := by decide +kernel
theorem dX3_resistance_41 : decode cX3_resistance 41 = .ok (.athrow, 1) := by decide +kernel
theorem dX3_resistance_42 : decode cX3_resistance 42 = .ok (.aload_n 0, 1) := by decide +kernel
theorem dX3_resistance_43 : decode cX3_resistance 43 = .ok (.iload_n 1, 1) := by decide +kernel
theorem dX3_resistance_44 : decode cX3_resistance 44 = .ok (.iload_n 2, 1) := by decide +kernel
theorem dX3_resistance_45 : decode cX3_resistance 45 = .ok (.iload_n 3, 1) := by decide +kernel
theorem dX3_resistance_46 : decode cX3_resistance 46 = .ok (.invokevirtual 174, 3) := by decide +kernel
theorem dX3_resistance_49 : decode cX3_resistance 49 = .ok (.aload_n 0, 1) := by decide +kernel
theorem dX3_resistance_50 : decode cX3_resistance 50 = .ok (.getfield 26, 3) := by decide +kernel
theorem dX3_resistance_53 : decode cX3_resistance 53 = .ok (.iload_n 1, 1) := by decide +kernel
theorem dX3_resistance_54 : decode cX3_resistance 54 = .ok (.invokevirtual 147, 3) := by decide +kernel
theorem dX3_resistance_57 : decode cX3_resistance 57 = .ok (.aload_n 0, 1) := by decide +kernel
theorem dX3_resistance_58 : decode cX3_resistance 58 = .ok (.getfield 26, 3) := by decide +kernel
theorem dX3_resistance_61 : decode cX3_resistance 61 = .ok (.invokevirtual 151, 3) := by decide +kernel
theorem dX3_resistance_64 : decode cX3_resistance 64 = .ok (.iload 4, 2) := by decide +kernel
theorem dX3_resistance_66 : decode cX3_resistance 66 = .ok (.invokestatic 155, 3) := by decide +kernel
theorem dX3_resistance_69 : decode cX3_resistance 69 = .ok (.lreturn, 1) := by decide +kernel
theorem dX3_power_0 : decode cX3_power 0 = .ok (.iload_n 1, 1) := by decide +kernel
theorem dX3_power_1 : decode cX3_power 1 = .ok (.invokestatic 129, 3) := by decide +kernel
theorem dX3_power_4 : decode cX3_power 4 = .ok (.aload_n 0, 1) := by decide +kernel
theorem dX3_power_5 : decode cX3_power 5 = .ok (.iload_n 1, 1) := by decide +kernel
theorem dX3_power_6 : decode cX3_power 6 = .ok (.invokevirtual 141, 3) := by decide +kernel
theorem dX3_power_9 : decode cX3_power 9 = .ok (.dconst 0, 1) := by decide +kernel
theorem dX3_power_10 : decode cX3_power 10 = .ok (.dstore_n 2, 1) := by decide +kernel
theorem dX3_power_11 : decode cX3_power 11 = .ok (.iconst 0, 1) := by decide +kernel
theorem dX3_power_12 : decode cX3_power 12 = .ok (.istore 4, 2) := by decide +kernel
theorem dX3_power_14 : decode cX3_power 14 = .ok (.iload 4, 2) := by decide +kernel
theorem dX3_power_16 : decode cX3_power 16 = .ok (.aload_n 0, 1) := by decide +kernel
theorem dX3_power_17 : decode cX3_power 17 = .ok (.getfield 16, 3) := by decide +kernel
theorem dX3_power_20 : decode cX3_power 20 = .ok (.invokevirtual 30, 3) := by decide +kernel
theorem dX3_power_23 : decode cX3_power 23 = .ok (.if_icmp .ge 88, 3) := by decide +kernel
theorem dX3_power_26 : decode cX3_power 26 = .ok (.aload_n 0, 1) := by decide +kernel
theorem dX3_power_27 : decode cX3_power 27 = .ok (.getfield 16, 3) := by decide +kernel
theorem dX3_power_30 : decode cX3_power 30 = .ok (.iload 4, 2) := by decide +kernel
theorem dX3_power_32 : decode cX3_power 32 = .ok (.invokevirtual 57, 3) := by decide +kernel
theorem dX3_power_35 : decode cX3_power 35 = .ok (.checkcast 77, 3) := by decide +kernel
theorem dX3_power_38 : decode cX3_power 38 = .ok (.astore 5, 2) := by decide +kernel
theorem dX3_power_40 : decode cX3_power 40 = .ok (.aload 5, 2) := by decide +kernel
theorem dX3_power_42 : decode cX3_power 42 = .ok (.getfield 85, 3) := by decide +kernel
theorem dX3_power_45 : decode cX3_power 45 = .ok (.ifCond .ne 60, 3) := by decide +kernel
theorem dX3_power_48 : decode cX3_power 48 = .ok (.aload 5, 2) := by decide +kernel
theorem dX3_power_50 : decode cX3_power 50 = .ok (.iload_n 1, 1) := by decide +kernel
theorem dX3_power_51 : decode cX3_power 51 = .ok (.invokevirtual 132, 3) := by decide +kernel
theorem dX3_power_54 : decode cX3_power 54 = .ok (.ifCond .eq 51, 3) := by decide +kernel
theorem dX3_power_57 : decode cX3_power 57 = .ok (.aload_n 0, 1) := by decide +kernel
theorem dX3_power_58 : decode cX3_power 58 = .ok (.aload 5, 2) := by decide +kernel
theorem dX3_power_60 : decode cX3_power 60 = .ok (.getfield 159, 3) := by decide +kernel
theorem dX3_power_63 : decode cX3_power 63 = .ok (.invokevirtual 138, 3) := by decide +kernel
theorem dX3_power_66 : decode cX3_power 66 = .ok (.ifCond .ne 39, 3) := by decide +kernel
theorem dX3_power_69 : decode cX3_power 69 = .ok (.aload_n 0, 1) := by decide +kernel
theorem dX3_power_70 : decode cX3_power 70 = .ok (.aload 5, 2) := by decide +kernel
theorem dX3_power_72 : decode cX3_power 72 = .ok (.getfield 159, 3) := by decide +kernel
theorem dX3_power_75 : decode cX3_power 75 = .ok (.invokevirtual 178, 3) := by decide +kernel
theorem dX3_power_78 : decode cX3_power 78 = .ok (.aload_n 0, 1) := by decide +kernel
theorem dX3_power_79 : decode cX3_power 79 = .ok (.aload 5, 2) := by decide +kernel
theorem dX3_power_81 : decode cX3_power 81 = .ok (.getfield 182, 3) := by decide +kernel
theorem dX3_power_84 : decode cX3_power 84 = .ok (.invokevirtual 178, 3) := by decide +kernel
theorem dX3_power_87 : decode cX3_power 87 = .ok (.dsub, 1) := by decide +kernel
theorem dX3_power_88 : decode cX3_power 88 = .ok (.dstore 6, 2) := by decide +kernel
theorem dX3_power_90 : decode cX3_power 90 = .ok (.dload_n 2, 1) := by decide +kernel
theorem dX3_power_91 : decode cX3_power 91 = .ok (.aload 5, 2) := by decide +kernel
theorem dX3_power_93 : decode cX3_power 93 = .ok (.getfield 88, 3) := by decide +kernel
theorem dX3_power_96 : decode cX3_power 96 = .ok (.i2d, 1) := by decide +kernel
theorem dX3_power_97 : decode cX3_power 97 = .ok (.dload 6, 2) := by decide +kernel
theorem dX3_power_99 : decode cX3_power 99 = .ok (.dmul, 1) := by decide +kernel
theorem dX3_power_100 : decode cX3_power 100 = .ok (.dload 6, 2) := by decide +kernel
theorem dX3_power_102 : decode cX3_power 102 = .ok (.dmul, 1) := by decide +kernel
theorem dX3_power_103 : decode cX3_power 103 = .ok (.dadd, 1) := by decide +kernel
theorem dX3_power_104 : decode cX3_power 104 = .ok (.dstore_n 2, 1) := by decide +kernel
theorem dX3_power_105 : decode cX3_power 105 = .ok (.iinc 4 1, 3) := by decide +kernel
theorem dX3_power_108 : decode cX3_power 108 = .ok (.goto (-94), 3) := by decide +kernel
theorem dX3_power_111 : decode cX3_power 111 = .ok (.dload_n 2, 1) := by decide +kernel
theorem dX3_power_112 : decode cX3_power 112 = .ok (.dreturn, 1) := by decide +kernel
theorem dX3_probe_0 : decode cX3_probe 0 = .ok (.aload_n 0, 1) := by decide +kernel
theorem dX3_probe_1 : decode cX3_probe 1 = .ok (.iload_n 1, 1) := by decide +kernel
theorem dX3_probe_2 : decode cX3_probe 2 = .ok (.invokevirtual 48, 3) := by decide +kernel
theorem dX3_probe_5 : decode cX3_probe 5 = .ok (.iload_n 2, 1) := by decide +kernel
theorem dX3_probe_6 : decode cX3_probe 6 = .ok (.invokestatic 129, 3) := by decide +kernel
theorem dX3_probe_9 : decode cX3_probe 9 = .ok (.iload_n 3, 1) := by decide +kernel
theorem dX3_probe_10 : decode cX3_probe 10 = .ok (.invokestatic 129, 3) := by decide +kernel
theorem dX3_probe_13 : decode cX3_probe 13 = .ok (.iload_n 3, 1) := by decide +kernel
theorem dX3_probe_14 : decode cX3_probe 14 = .ok (.iload_n 2, 1) := by decide +kernel
theorem dX3_probe_15 : decode cX3_probe 15 = .ok (.if_icmp .ge 13, 3) := by decide +kernel
theorem dX3_probe_18 : decode cX3_probe 18 = .ok (.new 52, 3) := by decide +kernel
theorem dX3_probe_21 : decode cX3_probe 21 = .ok (.dup, 1) := by decide +kernel
theorem dX3_probe_22 : decode cX3_probe 22 = .ok (.ldc 188, 2) := by decide +kernel
theorem dX3_probe_24 : decode cX3_probe 24 = .ok (.invokespecial 56, 3) := by decide +kernel
theorem dX3_probe_27 : decode cX3_probe 27 = .ok (.athrow, 1) := by decide +kernel
theorem dX3_probe_28 : decode cX3_probe 28 = .ok (.iconst (-1), 1) := by decide +kernel
theorem dX3_probe_29 : decode cX3_probe 29 = .ok (.istore 5, 2) := by decide +kernel
theorem dX3_probe_31 : decode cX3_probe 31 = .ok (.lconst 0, 1) := by decide +kernel
theorem dX3_probe_32 : decode cX3_probe 32 = .ok (.lstore 6, 2) := by decide +kernel
theorem dX3_probe_34 : decode cX3_probe 34 = .ok (.lconst 1, 1) := by decide +kernel
theorem dX3_probe_35 : decode cX3_probe 35 = .ok (.lstore 8, 2) := by decide +kernel
theorem dX3_probe_37 : decode cX3_probe 37 = .ok (.iload_n 2, 1) := by decide +kernel
theorem dX3_probe_38 : decode cX3_probe 38 = .ok (.istore 10, 2) := by decide +kernel
theorem dX3_probe_40 : decode cX3_probe 40 = .ok (.iconst 0, 1) := by decide +kernel
theorem dX3_probe_41 : decode cX3_probe 41 = .ok (.istore 11, 2) := by decide +kernel
theorem dX3_probe_43 : decode cX3_probe 43 = .ok (.iload 11, 2) := by decide +kernel
theorem dX3_probe_45 : decode cX3_probe 45 = .ok (.sipush 999, 3) := by decide +kernel
theorem dX3_probe_48 : decode cX3_probe 48 = .ok (.if_icmp .gt 109, 3) := by decide +kernel
theorem dX3_probe_51 : decode cX3_probe 51 = .ok (.iload 10, 2) := by decide +kernel
theorem dX3_probe_53 : decode cX3_probe 53 = .ok (.ifCond .lt 104, 3) := by decide +kernel
theorem dX3_probe_56 : decode cX3_probe 56 = .ok (.iload 10, 2) := by decide +kernel
theorem dX3_probe_58 : decode cX3_probe 58 = .ok (.iload_n 3, 1) := by decide +kernel
theorem dX3_probe_59 : decode cX3_probe 59 = .ok (.if_icmp .gt 98, 3) := by decide +kernel
theorem dX3_probe_62 : decode cX3_probe 62 = .ok (.aload_n 0, 1) := by decide +kernel
theorem dX3_probe_63 : decode cX3_probe 63 = .ok (.iload 10, 2) := by decide +kernel
theorem dX3_probe_65 : decode cX3_probe 65 = .ok (.invokevirtual 141, 3) := by decide +kernel
theorem dX3_probe_68 : decode cX3_probe 68 = .ok (.aload_n 0, 1) := by decide +kernel
theorem dX3_probe_69 : decode cX3_probe 69 = .ok (.iload_n 1, 1) := by decide +kernel
theorem dX3_probe_70 : decode cX3_probe 70 = .ok (.invokevirtual 138, 3) := by decide +kernel
theorem dX3_probe_73 : decode cX3_probe 73 = .ok (.ifCond .ne 70, 3) := by decide +kernel
theorem dX3_probe_76 : decode cX3_probe 76 = .ok (.aload_n 0, 1) := by decide +kernel
theorem dX3_probe_77 : decode cX3_probe 77 = .ok (.getfield 26, 3) := by decide +kernel
theorem dX3_probe_80 : decode cX3_probe 80 = .ok (.iload_n 1, 1) := by decide +kernel
theorem dX3_probe_81 : decode cX3_probe 81 = .ok (.invokevirtual 147, 3) := by decide +kernel
theorem dX3_probe_84 : decode cX3_probe 84 = .ok (.lstore 12, 2) := by decide +kernel
theorem dX3_probe_86 : decode cX3_probe 86 = .ok (.aload_n 0, 1) := by decide +kernel
theorem dX3_probe_87 : decode cX3_probe 87 = .ok (.getfield 26, 3) := by decide +kernel
theorem dX3_probe_90 : decode cX3_probe 90 = .ok (.invokevirtual 151, 3) := by decide +kernel
theorem dX3_probe_93 : decode cX3_probe 93 = .ok (.lstore 14, 2) := by decide +kernel
theorem dX3_probe_95 : decode cX3_probe 95 = .ok (.lload 12, 2) := by decide +kernel
theorem dX3_probe_97 : decode cX3_probe 97 = .ok (.lload 14, 2) := by decide +kernel
theorem dX3_probe_99 : decode cX3_probe 99 = .ok (.lload 6, 2) := by decide +kernel
theorem dX3_probe_101 : decode cX3_probe 101 = .ok (.lload 8, 2) := by decide +kernel
theorem dX3_probe_103 : decode cX3_probe 103 = .ok (.invokestatic 190, 3) := by decide +kernel
theorem dX3_probe_106 : decode cX3_probe 106 = .ok (.istore 16, 2) := by decide +kernel
theorem dX3_probe_108 : decode cX3_probe 108 = .ok (.iload 5, 2) := by decide +kernel
theorem dX3_probe_110 : decode cX3_probe 110 = .ok (.ifCond .lt 21, 3) := by decide +kernel
theorem dX3_probe_113 : decode cX3_probe 113 = .ok (.iload 4, 2) := by decide +kernel
theorem dX3_probe_115 : decode cX3_probe 115 = .ok (.ifCond .eq 11, 3) := by decide +kernel
theorem dX3_probe_118 : decode cX3_probe 118 = .ok (.iload 16, 2) := by decide +kernel
theorem dX3_probe_120 : decode cX3_probe 120 = .ok (.ifCond .le 23, 3) := by decide +kernel
theorem dX3_probe_123 : decode cX3_probe 123 = .ok (.goto 8, 3) := by decide +kernel
theorem dX3_probe_126 : decode cX3_probe 126 = .ok (.iload 16, 2) := by decide +kernel
end
section
theorem dX3_probe_128 : decode cX3_probe 128 = .ok (.ifCond .ge 15, 3) := by decide +kernel
theorem dX3_probe_131 : decode cX3_probe 131 = .ok (.iload 10, 2) := by decide +kernel
theorem dX3_probe_133 : decode cX3_probe 133 = .ok (.istore 5, 2) := by decide +kernel
theorem dX3_probe_135 : decode cX3_probe 135 = .ok (.lload 12, 2) := by decide +kernel
theorem dX3_probe_137 : decode cX3_probe 137 = .ok (.lstore 6, 2) := by decide +kernel
theorem dX3_probe_139 : decode cX3_probe 139 = .ok (.lload 14, 2) := by decide +kernel
theorem dX3_probe_141 : decode cX3_probe 141 = .ok (.lstore 8, 2) := by decide +kernel
theorem dX3_probe_143 : decode cX3_probe 143 = .ok (.aload_n 0, 1) := by decide +kernel
theorem dX3_probe_144 : decode cX3_probe 144 = .ok (.iload 10, 2) := by decide +kernel
theorem dX3_probe_146 : decode cX3_probe 146 = .ok (.invokevirtual 185, 3) := by decide +kernel
theorem dX3_probe_149 : decode cX3_probe 149 = .ok (.istore 10, 2) := by decide +kernel
theorem dX3_probe_151 : decode cX3_probe 151 = .ok (.iinc 11 1, 3) := by decide +kernel
theorem dX3_probe_154 : decode cX3_probe 154 = .ok (.goto (-111), 3) := by decide +kernel
theorem dX3_probe_157 : decode cX3_probe 157 = .ok (.iload 5, 2) := by decide +kernel
theorem dX3_probe_159 : decode cX3_probe 159 = .ok (.ireturn, 1) := by decide +kernel
theorem dX3_compare_0 : decode cX3_compare 0 = .ok (.aload_n 0, 1) := by decide +kernel
theorem dX3_compare_1 : decode cX3_compare 1 = .ok (.iload_n 1, 1) := by decide +kernel
theorem dX3_compare_2 : decode cX3_compare 2 = .ok (.invokevirtual 48, 3) := by decide +kernel
theorem dX3_compare_5 : decode cX3_compare 5 = .ok (.iload_n 2, 1) := by decide +kernel
theorem dX3_compare_6 : decode cX3_compare 6 = .ok (.invokestatic 129, 3) := by decide +kernel
theorem dX3_compare_9 : decode cX3_compare 9 = .ok (.iload_n 3, 1) := by decide +kernel
theorem dX3_compare_10 : decode cX3_compare 10 = .ok (.sipush (-500), 3) := by decide +kernel
theorem dX3_compare_13 : decode cX3_compare 13 = .ok (.if_icmp .lt 24, 3) := by decide +kernel
theorem dX3_compare_16 : decode cX3_compare 16 = .ok (.iload_n 3, 1) := by decide +kernel
theorem dX3_compare_17 : decode cX3_compare 17 = .ok (.sipush 500, 3) := by decide +kernel
theorem dX3_compare_20 : decode cX3_compare 20 = .ok (.if_icmp .gt 17, 3) := by decide +kernel
theorem dX3_compare_23 : decode cX3_compare 23 = .ok (.iload 4, 2) := by decide +kernel
theorem dX3_compare_25 : decode cX3_compare 25 = .ok (.iconst 1, 1) := by decide +kernel
theorem dX3_compare_26 : decode cX3_compare 26 = .ok (.if_icmp .lt 11, 3) := by decide +kernel
theorem dX3_compare_29 : decode cX3_compare 29 = .ok (.iload 4, 2) := by decide +kernel
theorem dX3_compare_31 : decode cX3_compare 31 = .ok (.sipush 500, 3) := by decide +kernel
theorem dX3_compare_34 : decode cX3_compare 34 = .ok (.if_icmp .le 13, 3) := by decide +kernel
theorem dX3_compare_37 : decode cX3_compare 37 = .ok (.new 52, 3) := by decide +kernel
theorem dX3_compare_40 : decode cX3_compare 40 = .ok (.dup, 1) := by decide +kernel
theorem dX3_compare_41 : decode cX3_compare 41 = .ok (.ldc 194, 2) := by decide +kernel
theorem dX3_compare_43 : decode cX3_compare 43 = .ok (.invokespecial 56, 3) := by decide +kernel
theorem dX3_compare_46 : decode cX3_compare 46 = .ok (.athrow, 1) := by decide +kernel
theorem dX3_compare_47 : decode cX3_compare 47 = .ok (.aload_n 0, 1) := by decide +kernel
theorem dX3_compare_48 : decode cX3_compare 48 = .ok (.iload_n 2, 1) := by decide +kernel
theorem dX3_compare_49 : decode cX3_compare 49 = .ok (.invokevirtual 141, 3) := by decide +kernel
theorem dX3_compare_52 : decode cX3_compare 52 = .ok (.aload_n 0, 1) := by decide +kernel
theorem dX3_compare_53 : decode cX3_compare 53 = .ok (.iload_n 1, 1) := by decide +kernel
theorem dX3_compare_54 : decode cX3_compare 54 = .ok (.invokevirtual 144, 3) := by decide +kernel
theorem dX3_compare_57 : decode cX3_compare 57 = .ok (.aload_n 0, 1) := by decide +kernel
theorem dX3_compare_58 : decode cX3_compare 58 = .ok (.getfield 26, 3) := by decide +kernel
theorem dX3_compare_61 : decode cX3_compare 61 = .ok (.iload_n 1, 1) := by decide +kernel
theorem dX3_compare_62 : decode cX3_compare 62 = .ok (.invokevirtual 147, 3) := by decide +kernel
theorem dX3_compare_65 : decode cX3_compare 65 = .ok (.aload_n 0, 1) := by decide +kernel
theorem dX3_compare_66 : decode cX3_compare 66 = .ok (.getfield 26, 3) := by decide +kernel
theorem dX3_compare_69 : decode cX3_compare 69 = .ok (.invokevirtual 151, 3) := by decide +kernel
theorem dX3_compare_72 : decode cX3_compare 72 = .ok (.iload_n 3, 1) := by decide +kernel
theorem dX3_compare_73 : decode cX3_compare 73 = .ok (.i2l, 1) := by decide +kernel
theorem dX3_compare_74 : decode cX3_compare 74 = .ok (.iload 4, 2) := by decide +kernel
theorem dX3_compare_76 : decode cX3_compare 76 = .ok (.i2l, 1) := by decide +kernel
theorem dX3_compare_77 : decode cX3_compare 77 = .ok (.invokestatic 190, 3) := by decide +kernel
theorem dX3_compare_80 : decode cX3_compare 80 = .ok (.ireturn, 1) := by decide +kernel
theorem dX3_checkNode_0 : decode cX3_checkNode 0 = .ok (.iload_n 1, 1) := by decide +kernel
theorem dX3_checkNode_1 : decode cX3_checkNode 1 = .ok (.ifCond .lt 14, 3) := by decide +kernel
theorem dX3_checkNode_4 : decode cX3_checkNode 4 = .ok (.iload_n 1, 1) := by decide +kernel
theorem dX3_checkNode_5 : decode cX3_checkNode 5 = .ok (.aload_n 0, 1) := by decide +kernel
theorem dX3_checkNode_6 : decode cX3_checkNode 6 = .ok (.getfield 12, 3) := by decide +kernel
theorem dX3_checkNode_9 : decode cX3_checkNode 9 = .ok (.invokevirtual 30, 3) := by decide +kernel
theorem dX3_checkNode_12 : decode cX3_checkNode 12 = .ok (.if_icmp .lt 13, 3) := by decide +kernel
theorem dX3_checkNode_15 : decode cX3_checkNode 15 = .ok (.new 110, 3) := by decide +kernel
theorem dX3_checkNode_18 : decode cX3_checkNode 18 = .ok (.dup, 1) := by decide +kernel
theorem dX3_checkNode_19 : decode cX3_checkNode 19 = .ok (.ldc 209, 2) := by decide +kernel
theorem dX3_checkNode_21 : decode cX3_checkNode 21 = .ok (.invokespecial 114, 3) := by decide +kernel
theorem dX3_checkNode_24 : decode cX3_checkNode 24 = .ok (.athrow, 1) := by decide +kernel
theorem dX3_checkNode_25 : decode cX3_checkNode 25 = .ok (.return_, 1) := by decide +kernel
theorem dX3_checkElement_0 : decode cX3_checkElement 0 = .ok (.iload_n 1, 1) := by decide +kernel
theorem dX3_checkElement_1 : decode cX3_checkElement 1 = .ok (.ifCond .lt 14, 3) := by decide +kernel
theorem dX3_checkElement_4 : decode cX3_checkElement 4 = .ok (.iload_n 1, 1) := by decide +kernel
theorem dX3_checkElement_5 : decode cX3_checkElement 5 = .ok (.aload_n 0, 1) := by decide +kernel
theorem dX3_checkElement_6 : decode cX3_checkElement 6 = .ok (.getfield 16, 3) := by decide +kernel
theorem dX3_checkElement_9 : decode cX3_checkElement 9 = .ok (.invokevirtual 30, 3) := by decide +kernel
theorem dX3_checkElement_12 : decode cX3_checkElement 12 = .ok (.if_icmp .lt 13, 3) := by decide +kernel
theorem dX3_checkElement_15 : decode cX3_checkElement 15 = .ok (.new 110, 3) := by decide +kernel
theorem dX3_checkElement_18 : decode cX3_checkElement 18 = .ok (.dup, 1) := by decide +kernel
theorem dX3_checkElement_19 : decode cX3_checkElement 19 = .ok (.ldc 211, 2) := by decide +kernel
theorem dX3_checkElement_21 : decode cX3_checkElement 21 = .ok (.invokespecial 114, 3) := by decide +kernel
theorem dX3_checkElement_24 : decode cX3_checkElement 24 = .ok (.athrow, 1) := by decide +kernel
theorem dX3_checkElement_25 : decode cX3_checkElement 25 = .ok (.return_, 1) := by decide +kernel
theorem dX3_checkTime_0 : decode cX3_checkTime 0 = .ok (.iload_n 0, 1) := by decide +kernel
theorem dX3_checkTime_1 : decode cX3_checkTime 1 = .ok (.ifCond .lt 10, 3) := by decide +kernel
theorem dX3_checkTime_4 : decode cX3_checkTime 4 = .ok (.iload_n 0, 1) := by decide +kernel
theorem dX3_checkTime_5 : decode cX3_checkTime 5 = .ok (.sipush 999, 3) := by decide +kernel
theorem dX3_checkTime_8 : decode cX3_checkTime 8 = .ok (.if_icmp .le 13, 3) := by decide +kernel
theorem dX3_checkTime_11 : decode cX3_checkTime 11 = .ok (.new 52, 3) := by decide +kernel
theorem dX3_checkTime_14 : decode cX3_checkTime 14 = .ok (.dup, 1) := by decide +kernel
theorem dX3_checkTime_15 : decode cX3_checkTime 15 = .ok (.ldc 213, 2) := by decide +kernel
theorem dX3_checkTime_17 : decode cX3_checkTime 17 = .ok (.invokespecial 56, 3) := by decide +kernel
theorem dX3_checkTime_20 : decode cX3_checkTime 20 = .ok (.athrow, 1) := by decide +kernel
theorem dX3_checkTime_21 : decode cX3_checkTime 21 = .ok (.return_, 1) := by decide +kernel
theorem dX3_checkSize_0 : decode cX3_checkSize 0 = .ok (.iload_n 0, 1) := by decide +kernel
theorem dX3_checkSize_1 : decode cX3_checkSize 1 = .ok (.ifCond .eq 8, 3) := by decide +kernel
theorem dX3_checkSize_4 : decode cX3_checkSize 4 = .ok (.bipush (-99), 2) := by decide +kernel
theorem dX3_checkSize_6 : decode cX3_checkSize 6 = .ok (.goto 4, 3) := by decide +kernel
theorem dX3_checkSize_9 : decode cX3_checkSize 9 = .ok (.iconst 1, 1) := by decide +kernel
theorem dX3_checkSize_10 : decode cX3_checkSize 10 = .ok (.istore_n 2, 1) := by decide +kernel
theorem dX3_checkSize_11 : decode cX3_checkSize 11 = .ok (.iload_n 0, 1) := by decide +kernel
theorem dX3_checkSize_12 : decode cX3_checkSize 12 = .ok (.ifCond .eq 8, 3) := by decide +kernel
theorem dX3_checkSize_15 : decode cX3_checkSize 15 = .ok (.bipush 99, 2) := by decide +kernel
theorem dX3_checkSize_17 : decode cX3_checkSize 17 = .ok (.goto 5, 3) := by decide +kernel
theorem dX3_checkSize_20 : decode cX3_checkSize 20 = .ok (.bipush 9, 2) := by decide +kernel
theorem dX3_checkSize_22 : decode cX3_checkSize 22 = .ok (.istore_n 3, 1) := by decide +kernel
theorem dX3_checkSize_23 : decode cX3_checkSize 23 = .ok (.iload_n 1, 1) := by decide +kernel
theorem dX3_checkSize_24 : decode cX3_checkSize 24 = .ok (.iload_n 2, 1) := by decide +kernel
theorem dX3_checkSize_25 : decode cX3_checkSize 25 = .ok (.if_icmp .lt 8, 3) := by decide +kernel
theorem dX3_checkSize_28 : decode cX3_checkSize 28 = .ok (.iload_n 1, 1) := by decide +kernel
theorem dX3_checkSize_29 : decode cX3_checkSize 29 = .ok (.iload_n 3, 1) := by decide +kernel
theorem dX3_checkSize_30 : decode cX3_checkSize 30 = .ok (.if_icmp .le 13, 3) := by decide +kernel
theorem dX3_checkSize_33 : decode cX3_checkSize 33 = .ok (.new 52, 3) := by decide +kernel
theorem dX3_checkSize_36 : decode cX3_checkSize 36 = .ok (.dup, 1) := by decide +kernel
theorem dX3_checkSize_37 : decode cX3_checkSize 37 = .ok (.ldc 215, 2) := by decide +kernel
theorem dX3_checkSize_39 : decode cX3_checkSize 39 = .ok (.invokespecial 56, 3) := by decide +kernel
theorem dX3_checkSize_42 : decode cX3_checkSize 42 = .ok (.athrow, 1) := by decide +kernel
theorem dX3_checkSize_43 : decode cX3_checkSize 43 = .ok (.return_, 1) := by decide +kernel
theorem dX3_checkGrounded_0 : decode cX3_checkGrounded 0 = .ok (.aload_n 0, 1) := by decide +kernel
theorem dX3_checkGrounded_1 : decode cX3_checkGrounded 1 = .ok (.iload_n 1, 1) := by decide +kernel
theorem dX3_checkGrounded_2 : decode cX3_checkGrounded 2 = .ok (.invokevirtual 138, 3) := by decide +kernel
theorem dX3_checkGrounded_5 : decode cX3_checkGrounded 5 = .ok (.ifCond .eq 13, 3) := by decide +kernel
theorem dX3_checkGrounded_8 : decode cX3_checkGrounded 8 = .ok (.new 34, 3) := by decide +kernel
theorem dX3_checkGrounded_11 : decode cX3_checkGrounded 11 = .ok (.dup, 1) := by decide +kernel
theorem dX3_checkGrounded_12 : decode cX3_checkGrounded 12 = .ok (.ldc 217, 2) := by decide +kernel
theorem dX3_checkGrounded_14 : decode cX3_checkGrounded 14 = .ok (.invokespecial 38, 3) := by decide +kernel
theorem dX3_checkGrounded_17 : decode cX3_checkGrounded 17 = .ok (.athrow, 1) := by decide +kernel
theorem dX3_checkGrounded_18 : decode cX3_checkGrounded 18 = .ok (.return_, 1) := by decide +kernel
theorem dX3_group_0 : decode cX3_group 0 = .ok (.iconst 0, 1) := by decide +kernel
theorem dX3_group_1 : decode cX3_group 1 = .ok (.istore_n 2, 1) := by decide +kernel
theorem dX3_group_2 : decode cX3_group 2 = .ok (.iload_n 2, 1) := by decide +kernel
theorem dX3_group_3 : decode cX3_group 3 = .ok (.bipush 8, 2) := by decide +kernel
theorem dX3_group_5 : decode cX3_group 5 = .ok (.if_icmp .ge 18, 3) := by decide +kernel
theorem dX3_group_8 : decode cX3_group 8 = .ok (.aload_n 0, 1) := by decide +kernel
theorem dX3_group_9 : decode cX3_group 9 = .ok (.getfield 19, 3) := by decide +kernel
theorem dX3_group_12 : decode cX3_group 12 = .ok (.iload_n 2, 1) := by decide +kernel
theorem dX3_group_13 : decode cX3_group 13 = .ok (.iconst 1, 1) := by decide +kernel
theorem dX3_group_14 : decode cX3_group 14 = .ok (.iload_n 2, 1) := by decide +kernel
theorem dX3_group_15 : decode cX3_group 15 = .ok (.ishl, 1) := by decide +kernel
theorem dX3_group_16 : decode cX3_group 16 = .ok (.iastore, 1) := by decide +kernel
theorem dX3_group_17 : decode cX3_group 17 = .ok (.iinc 2 1, 3) := by decide +kernel
theorem dX3_group_20 : decode cX3_group 20 = .ok (.goto (-18), 3) := by decide +kernel
theorem dX3_group_23 : decode cX3_group 23 = .ok (.iconst 0, 1) := by decide +kernel
theorem dX3_group_24 : decode cX3_group 24 = .ok (.istore_n 2, 1) := by decide +kernel
theorem dX3_group_25 : decode cX3_group 25 = .ok (.iload_n 2, 1) := by decide +kernel
theorem dX3_group_26 : decode cX3_group 26 = .ok (.aload_n 0, 1) := by decide +kernel
theorem dX3_group_27 : decode cX3_group 27 = .ok (.getfield 16, 3) := by decide +kernel
theorem dX3_group_30 : decode cX3_group 30 = .ok (.invokevirtual 30, 3) := by decide +kernel
theorem dX3_group_33 : decode cX3_group 33 = .ok (.if_icmp .ge 59, 3) := by decide +kernel
theorem dX3_group_36 : decode cX3_group 36 = .ok (.aload_n 0, 1) := by decide +kernel
theorem dX3_group_37 : decode cX3_group 37 = .ok (.getfield 16, 3) := by decide +kernel
theorem dX3_group_40 : decode cX3_group 40 = .ok (.iload_n 2, 1) := by decide +kernel
theorem dX3_group_41 : decode cX3_group 41 = .ok (.invokevirtual 57, 3) := by decide +kernel
theorem dX3_group_44 : decode cX3_group 44 = .ok (.checkcast 77, 3) := by decide +kernel
theorem dX3_group_47 : decode cX3_group 47 = .ok (.astore_n 3, 1) := by decide +kernel
theorem dX3_group_48 : decode cX3_group 48 = .ok (.aload_n 3, 1) := by decide +kernel
theorem dX3_group_49 : decode cX3_group 49 = .ok (.getfield 85, 3) := by decide +kernel
theorem dX3_group_52 : decode cX3_group 52 = .ok (.ifCond .ne 34, 3) := by decide +kernel
theorem dX3_group_55 : decode cX3_group 55 = .ok (.aload_n 3, 1) := by decide +kernel
theorem dX3_group_56 : decode cX3_group 56 = .ok (.iload_n 1, 1) := by decide +kernel
theorem dX3_group_57 : decode cX3_group 57 = .ok (.invokevirtual 132, 3) := by decide +kernel
theorem dX3_group_60 : decode cX3_group 60 = .ok (.ifCond .eq 26, 3) := by decide +kernel
theorem dX3_group_63 : decode cX3_group 63 = .ok (.aload_n 0, 1) := by decide +kernel
theorem dX3_group_64 : decode cX3_group 64 = .ok (.aload_n 0, 1) := by decide +kernel
theorem dX3_group_65 : decode cX3_group 65 = .ok (.getfield 19, 3) := by decide +kernel
theorem dX3_group_68 : decode cX3_group 68 = .ok (.aload_n 3, 1) := by decide +kernel
theorem dX3_group_69 : decode cX3_group 69 = .ok (.getfield 159, 3) := by decide +kernel
theorem dX3_group_72 : decode cX3_group 72 = .ok (.iaload, 1) := by decide +kernel
theorem dX3_group_73 : decode cX3_group 73 = .ok (.aload_n 0, 1) := by decide +kernel
theorem dX3_group_74 : decode cX3_group 74 = .ok (.getfield 19, 3) := by decide +kernel
theorem dX3_group_77 : decode cX3_group 77 = .ok (.aload_n 3, 1) := by decide +kernel
theorem dX3_group_78 : decode cX3_group 78 = .ok (.getfield 182, 3) := by decide +kernel
theorem dX3_group_81 : decode cX3_group 81 = .ok (.iaload, 1) := by decide +kernel
theorem dX3_group_82 : decode cX3_group 82 = .ok (.ior, 1) := by decide +kernel
theorem dX3_group_83 : decode cX3_group 83 = .ok (.invokevirtual 219, 3) := by decide +kernel
theorem dX3_group_86 : decode cX3_group 86 = .ok (.iinc 2 1, 3) := by decide +kernel
theorem dX3_group_89 : decode cX3_group 89 = .ok (.goto (-64), 3) := by decide +kernel
theorem dX3_group_92 : decode cX3_group 92 = .ok (.return_, 1) := by decide +kernel
theorem dX3_join_0 : decode cX3_join 0 = .ok (.iconst 0, 1) := by decide +kernel
theorem dX3_join_1 : decode cX3_join 1 = .ok (.istore_n 2, 1) := by decide +kernel
theorem dX3_join_2 : decode cX3_join 2 = .ok (.iload_n 2, 1) := by decide +kernel
theorem dX3_join_3 : decode cX3_join 3 = .ok (.bipush 8, 2) := by decide +kernel
theorem dX3_join_5 : decode cX3_join 5 = .ok (.if_icmp .ge 24, 3) := by decide +kernel
theorem dX3_join_8 : decode cX3_join 8 = .ok (.iload_n 1, 1) := by decide +kernel
theorem dX3_join_9 : decode cX3_join 9 = .ok (.iload_n 2, 1) := by decide +kernel
theorem dX3_join_10 : decode cX3_join 10 = .ok (.invokestatic 168, 3) := by decide +kernel
theorem dX3_join_13 : decode cX3_join 13 = .ok (.ifCond .eq 10, 3) := by decide +kernel
theorem dX3_join_16 : decode cX3_join 16 = .ok (.aload_n 0, 1) := by decide +kernel
theorem dX3_join_17 : decode cX3_join 17 = .ok (.getfield 19, 3) := by decide +kernel
theorem dX3_join_20 : decode cX3_join 20 = .ok (.iload_n 2, 1) := by decide +kernel
theorem dX3_join_21 : decode cX3_join 21 = .ok (.iload_n 1, 1) := by decide +kernel
theorem dX3_join_22 : decode cX3_join 22 = .ok (.iastore, 1) := by decide +kernel
theorem dX3_join_23 : decode cX3_join 23 = .ok (.iinc 2 1, 3) := by decide +kernel
theorem dX3_join_26 : decode cX3_join 26 = .ok (.goto (-24), 3) := by decide +kernel
theorem dX3_join_29 : decode cX3_join 29 = .ok (.return_, 1) := by decide +kernel
theorem dX3_isAfloat_0 : decode cX3_isAfloat 0 = .ok (.iconst 0, 1) := by decide +kernel
theorem dX3_isAfloat_1 : decode cX3_isAfloat 1 = .ok (.istore_n 2, 1) := by decide +kernel
theorem dX3_isAfloat_2 : decode cX3_isAfloat 2 = .ok (.iload_n 2, 1) := by decide +kernel
theorem dX3_isAfloat_3 : decode cX3_isAfloat 3 = .ok (.aload_n 0, 1) := by decide +kernel
theorem dX3_isAfloat_4 : decode cX3_isAfloat 4 = .ok (.getfield 12, 3) := by decide +kernel
theorem dX3_isAfloat_7 : decode cX3_isAfloat 7 = .ok (.invokevirtual 30, 3) := by decide +kernel
theorem dX3_isAfloat_10 : decode cX3_isAfloat 10 = .ok (.if_icmp .ge 41, 3) := by decide +kernel
theorem dX3_isAfloat_13 : decode cX3_isAfloat 13 = .ok (.aload_n 0, 1) := by decide +kernel
theorem dX3_isAfloat_14 : decode cX3_isAfloat 14 = .ok (.getfield 12, 3) := by decide +kernel
theorem dX3_isAfloat_17 : decode cX3_isAfloat 17 = .ok (.iload_n 2, 1) := by decide +kernel
theorem dX3_isAfloat_18 : decode cX3_isAfloat 18 = .ok (.invokevirtual 57, 3) := by decide +kernel
theorem dX3_isAfloat_21 : decode cX3_isAfloat 21 = .ok (.checkcast 41, 3) := by decide +kernel
theorem dX3_isAfloat_24 : decode cX3_isAfloat 24 = .ok (.getfield 61, 3) := by decide +kernel
theorem dX3_isAfloat_27 : decode cX3_isAfloat 27 = .ok (.ifCond .eq 18, 3) := by decide +kernel
theorem dX3_isAfloat_30 : decode cX3_isAfloat 30 = .ok (.aload_n 0, 1) := by decide +kernel
theorem dX3_isAfloat_31 : decode cX3_isAfloat 31 = .ok (.getfield 19, 3) := by decide +kernel
theorem dX3_isAfloat_34 : decode cX3_isAfloat 34 = .ok (.iload_n 1, 1) := by decide +kernel
theorem dX3_isAfloat_35 : decode cX3_isAfloat 35 = .ok (.iaload, 1) := by decide +kernel
theorem dX3_isAfloat_36 : decode cX3_isAfloat 36 = .ok (.iload_n 2, 1) := by decide +kernel
theorem dX3_isAfloat_37 : decode cX3_isAfloat 37 = .ok (.invokestatic 168, 3) := by decide +kernel
theorem dX3_isAfloat_40 : decode cX3_isAfloat 40 = .ok (.ifCond .eq 5, 3) := by decide +kernel
theorem dX3_isAfloat_43 : decode cX3_isAfloat 43 = .ok (.iconst 0, 1) := by decide +kernel
theorem dX3_isAfloat_44 : decode cX3_isAfloat 44 = .ok (.ireturn, 1) := by decide +kernel
theorem dX3_isAfloat_45 : decode cX3_isAfloat 45 = .ok (.iinc 2 1, 3) := by decide +kernel
theorem dX3_isAfloat_48 : decode cX3_isAfloat 48 = .ok (.goto (-46), 3) := by decide +kernel
theorem dX3_isAfloat_51 : decode cX3_isAfloat 51 = .ok (.iconst 1, 1) := by decide +kernel
theorem dX3_isAfloat_52 : decode cX3_isAfloat 52 = .ok (.ireturn, 1) := by decide +kernel
theorem dX3_contains_0 : decode cX3_contains 0 = .ok (.iload_n 0, 1) := by decide +kernel
theorem dX3_contains_1 : decode cX3_contains 1 = .ok (.iload_n 1, 1) := by decide +kernel
theorem dX3_contains_2 : decode cX3_contains 2 = .ok (.ishr, 1) := by decide +kernel
theorem dX3_contains_3 : decode cX3_contains 3 = .ok (.iconst 1, 1) := by decide +kernel
theorem dX3_contains_4 : decode cX3_contains 4 = .ok (.iand, 1) := by decide +kernel
theorem dX3_contains_5 : decode cX3_contains 5 = .ok (.ifCond .eq 7, 3) := by decide +kernel
theorem dX3_contains_8 : decode cX3_contains 8 = .ok (.iconst 1, 1) := by decide +kernel
theorem dX3_contains_9 : decode cX3_contains 9 = .ok (.goto 4, 3) := by decide +kernel
theorem dX3_contains_12 : decode cX3_contains 12 = .ok (.iconst 0, 1) := by decide +kernel
theorem dX3_contains_13 : decode cX3_contains 13 = .ok (.ireturn, 1) := by decide +kernel
theorem dX3_settle_0 : decode cX3_settle 0 = .ok (.aload_n 0, 1) := by decide +kernel
theorem dX3_settle_1 : decode cX3_settle 1 = .ok (.iload_n 1, 1) := by decide +kernel
theorem dX3_settle_2 : decode cX3_settle 2 = .ok (.invokevirtual 135, 3) := by decide +kernel
theorem dX3_settle_5 : decode cX3_settle 5 = .ok (.aload_n 0, 1) := by decide +kernel
theorem dX3_settle_6 : decode cX3_settle 6 = .ok (.getfield 26, 3) := by decide +kernel
theorem dX3_settle_9 : decode cX3_settle 9 = .ok (.invokevirtual 222, 3) := by decide +kernel
theorem dX3_settle_12 : decode cX3_settle 12 = .ok (.iconst 0, 1) := by decide +kernel
theorem dX3_settle_13 : decode cX3_settle 13 = .ok (.istore_n 2, 1) := by decide +kernel
theorem dX3_settle_14 : decode cX3_settle 14 = .ok (.iload_n 2, 1) := by decide +kernel
theorem dX3_settle_15 : decode cX3_settle 15 = .ok (.aload_n 0, 1) := by decide +kernel
theorem dX3_settle_16 : decode cX3_settle 16 = .ok (.getfield 12, 3) := by decide +kernel
theorem dX3_settle_19 : decode cX3_settle 19 = .ok (.invokevirtual 30, 3) := by decide +kernel
theorem dX3_settle_22 : decode cX3_settle 22 = .ok (.if_icmp .ge 60, 3) := by decide +kernel
theorem dX3_settle_25 : decode cX3_settle 25 = .ok (.aload_n 0, 1) := by decide +kernel
theorem dX3_settle_26 : decode cX3_settle 26 = .ok (.getfield 12, 3) := by decide +kernel
theorem dX3_settle_29 : decode cX3_settle 29 = .ok (.iload_n 2, 1) := by decide +kernel
theorem dX3_settle_30 : decode cX3_settle 30 = .ok (.invokevirtual 57, 3) := by decide +kernel
theorem dX3_settle_33 : decode cX3_settle 33 = .ok (.checkcast 41, 3) := by decide +kernel
theorem dX3_settle_36 : decode cX3_settle 36 = .ok (.astore_n 3, 1) := by decide +kernel
theorem dX3_settle_37 : decode cX3_settle 37 = .ok (.aload_n 3, 1) := by decide +kernel
theorem dX3_settle_38 : decode cX3_settle 38 = .ok (.getfield 61, 3) := by decide +kernel
theorem dX3_settle_41 : decode cX3_settle 41 = .ok (.ifCond .eq 19, 3) := by decide +kernel
theorem dX3_settle_44 : decode cX3_settle 44 = .ok (.aload_n 0, 1) := by decide +kernel
theorem dX3_settle_45 : decode cX3_settle 45 = .ok (.getfield 26, 3) := by decide +kernel
theorem dX3_settle_48 : decode cX3_settle 48 = .ok (.iload_n 2, 1) := by decide +kernel
theorem dX3_settle_49 : decode cX3_settle 49 = .ok (.aload_n 3, 1) := by decide +kernel
theorem dX3_settle_50 : decode cX3_settle 50 = .ok (.getfield 65, 3) := by decide +kernel
theorem dX3_settle_53 : decode cX3_settle 53 = .ok (.i2l, 1) := by decide +kernel
theorem dX3_settle_54 : decode cX3_settle 54 = .ok (.invokevirtual 225, 3) := by decide +kernel
theorem dX3_settle_57 : decode cX3_settle 57 = .ok (.goto 19, 3) := by decide +kernel
theorem dX3_settle_60 : decode cX3_settle 60 = .ok (.aload_n 0, 1) := by decide +kernel
theorem dX3_settle_61 : decode cX3_settle 61 = .ok (.iload_n 2, 1) := by decide +kernel
theorem dX3_settle_62 : decode cX3_settle 62 = .ok (.invokevirtual 138, 3) := by decide +kernel
theorem dX3_settle_65 : decode cX3_settle 65 = .ok (.ifCond .ne 11, 3) := by decide +kernel
theorem dX3_settle_68 : decode cX3_settle 68 = .ok (.aload_n 0, 1) := by decide +kernel
theorem dX3_settle_69 : decode cX3_settle 69 = .ok (.getfield 26, 3) := by decide +kernel
theorem dX3_settle_72 : decode cX3_settle 72 = .ok (.iload_n 2, 1) := by decide +kernel
theorem dX3_settle_73 : decode cX3_settle 73 = .ok (.invokevirtual 229, 3) := by decide +kernel
theorem dX3_settle_76 : decode cX3_settle 76 = .ok (.iinc 2 1, 3) := by decide +kernel
theorem dX3_settle_79 : decode cX3_settle 79 = .ok (.goto (-65), 3) := by decide +kernel
theorem dX3_settle_82 : decode cX3_settle 82 = .ok (.iconst 0, 1) := by decide +kernel
theorem dX3_settle_83 : decode cX3_settle 83 = .ok (.istore_n 2, 1) := by decide +kernel
theorem dX3_settle_84 : decode cX3_settle 84 = .ok (.iload_n 2, 1) := by decide +kernel
theorem dX3_settle_85 : decode cX3_settle 85 = .ok (.aload_n 0, 1) := by decide +kernel
theorem dX3_settle_86 : decode cX3_settle 86 = .ok (.getfield 16, 3) := by decide +kernel
theorem dX3_settle_89 : decode cX3_settle 89 = .ok (.invokevirtual 30, 3) := by decide +kernel
theorem dX3_settle_92 : decode cX3_settle 92 = .ok (.if_icmp .ge 69, 3) := by decide +kernel
theorem dX3_settle_95 : decode cX3_settle 95 = .ok (.aload_n 0, 1) := by decide +kernel
theorem dX3_settle_96 : decode cX3_settle 96 = .ok (.getfield 16, 3) := by decide +kernel
theorem dX3_settle_99 : decode cX3_settle 99 = .ok (.iload_n 2, 1) := by decide +kernel
theorem dX3_settle_100 : decode cX3_settle 100 = .ok (.invokevirtual 57, 3) := by decide +kernel
theorem dX3_settle_103 : decode cX3_settle 103 = .ok (.checkcast 77, 3) := by decide +kernel
theorem dX3_settle_106 : decode cX3_settle 106 = .ok (.astore_n 3, 1) := by decide +kernel
theorem dX3_settle_107 : decode cX3_settle 107 = .ok (.aload_n 3, 1) := by decide +kernel
theorem dX3_settle_108 : decode cX3_settle 108 = .ok (.getfield 85, 3) := by decide +kernel
theorem dX3_settle_111 : decode cX3_settle 111 = .ok (.ifCond .eq 44, 3) := by decide +kernel
theorem dX3_settle_114 : decode cX3_settle 114 = .ok (.aload_n 3, 1) := by decide +kernel
theorem dX3_settle_115 : decode cX3_settle 115 = .ok (.iload_n 1, 1) := by decide +kernel
theorem dX3_settle_116 : decode cX3_settle 116 = .ok (.invokevirtual 132, 3) := by decide +kernel
theorem dX3_settle_119 : decode cX3_settle 119 = .ok (.ifCond .eq 36, 3) := by decide +kernel
theorem dX3_settle_122 : decode cX3_settle 122 = .ok (.aload_n 0, 1) := by decide +kernel
theorem dX3_settle_123 : decode cX3_settle 123 = .ok (.getfield 26, 3) := by decide +kernel
theorem dX3_settle_126 : decode cX3_settle 126 = .ok (.aload_n 3, 1) := by decide +kernel
theorem dX3_settle_127 : decode cX3_settle 127 = .ok (.getfield 159, 3) := by decide +kernel
theorem dX3_settle_130 : decode cX3_settle 130 = .ok (.aload_n 3, 1) := by decide +kernel
theorem dX3_settle_131 : decode cX3_settle 131 = .ok (.getfield 88, 3) := by decide +kernel
theorem dX3_settle_134 : decode cX3_settle 134 = .ok (.ineg, 1) := by decide +kernel
theorem dX3_settle_135 : decode cX3_settle 135 = .ok (.i2l, 1) := by decide +kernel
theorem dX3_settle_136 : decode cX3_settle 136 = .ok (.invokevirtual 232, 3) := by decide +kernel
theorem dX3_settle_139 : decode cX3_settle 139 = .ok (.aload_n 0, 1) := by decide +kernel
theorem dX3_settle_140 : decode cX3_settle 140 = .ok (.getfield 26, 3) := by decide +kernel
theorem dX3_settle_143 : decode cX3_settle 143 = .ok (.aload_n 3, 1) := by decide +kernel
theorem dX3_settle_144 : decode cX3_settle 144 = .ok (.getfield 182, 3) := by decide +kernel
theorem dX3_settle_147 : decode cX3_settle 147 = .ok (.aload_n 3, 1) := by decide +kernel
theorem dX3_settle_148 : decode cX3_settle 148 = .ok (.getfield 88, 3) := by decide +kernel
theorem dX3_settle_151 : decode cX3_settle 151 = .ok (.i2l, 1) := by decide +kernel
theorem dX3_settle_152 : decode cX3_settle 152 = .ok (.invokevirtual 232, 3) := by decide +kernel
theorem dX3_settle_155 : decode cX3_settle 155 = .ok (.iinc 2 1, 3) := by decide +kernel
theorem dX3_settle_158 : decode cX3_settle 158 = .ok (.goto (-74), 3) := by decide +kernel
theorem dX3_settle_161 : decode cX3_settle 161 = .ok (.aload_n 0, 1) := by decide +kernel
theorem dX3_settle_162 : decode cX3_settle 162 = .ok (.iload_n 1, 1) := by decide +kernel
theorem dX3_settle_163 : decode cX3_settle 163 = .ok (.invokevirtual 235, 3) := by decide +kernel
theorem dX3_settle_166 : decode cX3_settle 166 = .ok (.aload_n 0, 1) := by decide +kernel
theorem dX3_settle_167 : decode cX3_settle 167 = .ok (.getfield 26, 3) := by decide +kernel
theorem dX3_settle_170 : decode cX3_settle 170 = .ok (.invokevirtual 238, 3) := by decide +kernel
theorem dX3_settle_173 : decode cX3_settle 173 = .ok (.return_, 1) := by decide +kernel
theorem dX3_drive_0 : decode cX3_drive 0 = .ok (.aload_n 0, 1) := by decide +kernel
theorem dX3_drive_1 : decode cX3_drive 1 = .ok (.getfield 26, 3) := by decide +kernel
theorem dX3_drive_4 : decode cX3_drive 4 = .ok (.invokevirtual 222, 3) := by decide +kernel
theorem dX3_drive_7 : decode cX3_drive 7 = .ok (.iconst 0, 1) := by decide +kernel
theorem dX3_drive_8 : decode cX3_drive 8 = .ok (.istore 4, 2) := by decide +kernel
theorem dX3_drive_10 : decode cX3_drive 10 = .ok (.iload 4, 2) := by decide +kernel
theorem dX3_drive_12 : decode cX3_drive 12 = .ok (.aload_n 0, 1) := by decide +kernel
theorem dX3_drive_13 : decode cX3_drive 13 = .ok (.getfield 12, 3) := by decide +kernel
theorem dX3_drive_16 : decode cX3_drive 16 = .ok (.invokevirtual 30, 3) := by decide +kernel
theorem dX3_drive_19 : decode cX3_drive 19 = .ok (.if_icmp .ge 38, 3) := by decide +kernel
theorem dX3_drive_22 : decode cX3_drive 22 = .ok (.iload 4, 2) := by decide +kernel
theorem dX3_drive_24 : decode cX3_drive 24 = .ok (.iload_n 2, 1) := by decide +kernel
theorem dX3_drive_25 : decode cX3_drive 25 = .ok (.if_icmp .eq 26, 3) := by decide +kernel
theorem dX3_drive_28 : decode cX3_drive 28 = .ok (.aload_n 0, 1) := by decide +kernel
theorem dX3_drive_29 : decode cX3_drive 29 = .ok (.getfield 19, 3) := by decide +kernel
theorem dX3_drive_32 : decode cX3_drive 32 = .ok (.iload_n 2, 1) := by decide +kernel
theorem dX3_drive_33 : decode cX3_drive 33 = .ok (.iaload, 1) := by decide +kernel
theorem dX3_drive_34 : decode cX3_drive 34 = .ok (.iload 4, 2) := by decide +kernel
theorem dX3_drive_36 : decode cX3_drive 36 = .ok (.invokestatic 168, 3) := by decide +kernel
theorem dX3_drive_39 : decode cX3_drive 39 = .ok (.ifCond .eq 12, 3) := by decide +kernel
theorem dX3_drive_42 : decode cX3_drive 42 = .ok (.aload_n 0, 1) := by decide +kernel
theorem dX3_drive_43 : decode cX3_drive 43 = .ok (.getfield 26, 3) := by decide +kernel
theorem dX3_drive_46 : decode cX3_drive 46 = .ok (.iload 4, 2) := by decide +kernel
theorem dX3_drive_48 : decode cX3_drive 48 = .ok (.invokevirtual 229, 3) := by decide +kernel
theorem dX3_drive_51 : decode cX3_drive 51 = .ok (.iinc 4 1, 3) := by decide +kernel
theorem dX3_drive_54 : decode cX3_drive 54 = .ok (.goto (-44), 3) := by decide +kernel
theorem dX3_drive_57 : decode cX3_drive 57 = .ok (.aload_n 0, 1) := by decide +kernel
theorem dX3_drive_58 : decode cX3_drive 58 = .ok (.getfield 26, 3) := by decide +kernel
theorem dX3_drive_61 : decode cX3_drive 61 = .ok (.iload_n 1, 1) := by decide +kernel
theorem dX3_drive_62 : decode cX3_drive 62 = .ok (.lconst 1, 1) := by decide +kernel
theorem dX3_drive_63 : decode cX3_drive 63 = .ok (.invokevirtual 232, 3) := by decide +kernel
theorem dX3_drive_66 : decode cX3_drive 66 = .ok (.aload_n 0, 1) := by decide +kernel
theorem dX3_drive_67 : decode cX3_drive 67 = .ok (.iload_n 3, 1) := by decide +kernel
theorem dX3_drive_68 : decode cX3_drive 68 = .ok (.invokevirtual 235, 3) := by decide +kernel
theorem dX3_drive_71 : decode cX3_drive 71 = .ok (.aload_n 0, 1) := by decide +kernel
theorem dX3_drive_72 : decode cX3_drive 72 = .ok (.getfield 26, 3) := by decide +kernel
theorem dX3_drive_75 : decode cX3_drive 75 = .ok (.invokevirtual 238, 3) := by decide +kernel
theorem dX3_drive_78 : decode cX3_drive 78 = .ok (.return_, 1) := by decide +kernel
theorem dX3_conduct_0 : decode cX3_conduct 0 = .ok (.iconst 0, 1) := by decide +kernel
theorem dX3_conduct_1 : decode cX3_conduct 1 = .ok (.istore_n 2, 1) := by decide +kernel
theorem dX3_conduct_2 : decode cX3_conduct 2 = .ok (.iload_n 2, 1) := by decide +kernel
theorem dX3_conduct_3 : decode cX3_conduct 3 = .ok (.aload_n 0, 1) := by decide +kernel
theorem dX3_conduct_4 : decode cX3_conduct 4 = .ok (.getfield 16, 3) := by decide +kernel
theorem dX3_conduct_7 : decode cX3_conduct 7 = .ok (.invokevirtual 30, 3) := by decide +kernel
theorem dX3_conduct_10 : decode cX3_conduct 10 = .ok (.if_icmp .ge 56, 3) := by decide +kernel
theorem dX3_conduct_13 : decode cX3_conduct 13 = .ok (.aload_n 0, 1) := by decide +kernel
theorem dX3_conduct_14 : decode cX3_conduct 14 = .ok (.getfield 16, 3) := by decide +kernel
theorem dX3_conduct_17 : decode cX3_conduct 17 = .ok (.iload_n 2, 1) := by decide +kernel
theorem dX3_conduct_18 : decode cX3_conduct 18 = .ok (.invokevirtual 57, 3) := by decide +kernel
theorem dX3_conduct_21 : decode cX3_conduct 21 = .ok (.checkcast 77, 3) := by decide +kernel
theorem dX3_conduct_24 : decode cX3_conduct 24 = .ok (.astore_n 3, 1) := by decide +kernel
theorem dX3_conduct_25 : decode cX3_conduct 25 = .ok (.aload_n 3, 1) := by decide +kernel
theorem dX3_conduct_26 : decode cX3_conduct 26 = .ok (.getfield 85, 3) := by decide +kernel
theorem dX3_conduct_29 : decode cX3_conduct 29 = .ok (.ifCond .ne 31, 3) := by decide +kernel
theorem dX3_conduct_32 : decode cX3_conduct 32 = .ok (.aload_n 3, 1) := by decide +kernel
theorem dX3_conduct_33 : decode cX3_conduct 33 = .ok (.iload_n 1, 1) := by decide +kernel
theorem dX3_conduct_34 : decode cX3_conduct 34 = .ok (.invokevirtual 132, 3) := by decide +kernel
theorem dX3_conduct_37 : decode cX3_conduct 37 = .ok (.ifCond .eq 23, 3) := by decide +kernel
theorem dX3_conduct_40 : decode cX3_conduct 40 = .ok (.aload_n 0, 1) := by decide +kernel
theorem dX3_conduct_41 : decode cX3_conduct 41 = .ok (.getfield 26, 3) := by decide +kernel
theorem dX3_conduct_44 : decode cX3_conduct 44 = .ok (.aload_n 3, 1) := by decide +kernel
theorem dX3_conduct_45 : decode cX3_conduct 45 = .ok (.getfield 159, 3) := by decide +kernel
theorem dX3_conduct_48 : decode cX3_conduct 48 = .ok (.aload_n 3, 1) := by decide +kernel
theorem dX3_conduct_49 : decode cX3_conduct 49 = .ok (.getfield 182, 3) := by decide +kernel
theorem dX3_conduct_52 : decode cX3_conduct 52 = .ok (.aload_n 3, 1) := by decide +kernel
theorem dX3_conduct_53 : decode cX3_conduct 53 = .ok (.getfield 88, 3) := by decide +kernel
theorem dX3_conduct_56 : decode cX3_conduct 56 = .ok (.i2l, 1) := by decide +kernel
theorem dX3_conduct_57 : decode cX3_conduct 57 = .ok (.invokevirtual 241, 3) := by decide +kernel
theorem dX3_conduct_60 : decode cX3_conduct 60 = .ok (.iinc 2 1, 3) := by decide +kernel
theorem dX3_conduct_63 : decode cX3_conduct 63 = .ok (.goto (-61), 3) := by decide +kernel
theorem dX3_conduct_66 : decode cX3_conduct 66 = .ok (.return_, 1) := by decide +kernel
theorem dX3_flowOut_0 : decode cX3_flowOut 0 = .ok (.iload_n 2, 1) := by decide +kernel
theorem dX3_flowOut_1 : decode cX3_flowOut 1 = .ok (.aload_n 1, 1) := by decide +kernel
theorem dX3_flowOut_2 : decode cX3_flowOut 2 = .ok (.getfield 159, 3) := by decide +kernel
theorem dX3_flowOut_5 : decode cX3_flowOut 5 = .ok (.if_icmp .eq 13, 3) := by decide +kernel
theorem dX3_flowOut_8 : decode cX3_flowOut 8 = .ok (.iload_n 2, 1) := by decide +kernel
theorem dX3_flowOut_9 : decode cX3_flowOut 9 = .ok (.aload_n 1, 1) := by decide +kernel
theorem dX3_flowOut_10 : decode cX3_flowOut 10 = .ok (.getfield 182, 3) := by decide +kernel
theorem dX3_flowOut_13 : decode cX3_flowOut 13 = .ok (.if_icmp .eq 5, 3) := by decide +kernel
theorem dX3_flowOut_16 : decode cX3_flowOut 16 = .ok (.lconst 0, 1) := by decide +kernel
theorem dX3_flowOut_17 : decode cX3_flowOut 17 = .ok (.lreturn, 1) := by decide +kernel
theorem dX3_flowOut_18 : decode cX3_flowOut 18 = .ok (.aload_n 1, 1) := by decide +kernel
theorem dX3_flowOut_19 : decode cX3_flowOut 19 = .ok (.getfield 85, 3) := by decide +kernel
theorem dX3_flowOut_22 : decode cX3_flowOut 22 = .ok (.ifCond .eq 19, 3) := by decide +kernel
theorem dX3_flowOut_25 : decode cX3_flowOut 25 = .ok (.aload_n 1, 1) := by decide +kernel
theorem dX3_flowOut_26 : decode cX3_flowOut 26 = .ok (.getfield 88, 3) := by decide +kernel
theorem dX3_flowOut_29 : decode cX3_flowOut 29 = .ok (.i2l, 1) := by decide +kernel
theorem dX3_flowOut_30 : decode cX3_flowOut 30 = .ok (.aload_n 0, 1) := by decide +kernel
theorem dX3_flowOut_31 : decode cX3_flowOut 31 = .ok (.getfield 26, 3) := by decide +kernel
theorem dX3_flowOut_34 : decode cX3_flowOut 34 = .ok (.invokevirtual 151, 3) := by decide +kernel
theorem dX3_flowOut_37 : decode cX3_flowOut 37 = .ok (.lmul, 1) := by decide +kernel
theorem dX3_flowOut_38 : decode cX3_flowOut 38 = .ok (.goto 32, 3) := by decide +kernel
theorem dX3_flowOut_41 : decode cX3_flowOut 41 = .ok (.aload_n 1, 1) := by decide +kernel
theorem dX3_flowOut_42 : decode cX3_flowOut 42 = .ok (.getfield 88, 3) := by decide +kernel
theorem dX3_flowOut_45 : decode cX3_flowOut 45 = .ok (.i2l, 1) := by decide +kernel
theorem dX3_flowOut_46 : decode cX3_flowOut 46 = .ok (.aload_n 0, 1) := by decide +kernel
theorem dX3_flowOut_47 : decode cX3_flowOut 47 = .ok (.getfield 26, 3) := by decide +kernel
theorem dX3_flowOut_50 : decode cX3_flowOut 50 = .ok (.aload_n 1, 1) := by decide +kernel
theorem dX3_flowOut_51 : decode cX3_flowOut 51 = .ok (.getfield 159, 3) := by decide +kernel
theorem dX3_flowOut_54 : decode cX3_flowOut 54 = .ok (.invokevirtual 147, 3) := by decide +kernel
theorem dX3_flowOut_57 : decode cX3_flowOut 57 = .ok (.aload_n 0, 1) := by decide +kernel
theorem dX3_flowOut_58 : decode cX3_flowOut 58 = .ok (.getfield 26, 3) := by decide +kernel
theorem dX3_flowOut_61 : decode cX3_flowOut 61 = .ok (.aload_n 1, 1) := by decide +kernel
theorem dX3_flowOut_62 : decode cX3_flowOut 62 = .ok (.getfield 182, 3) := by decide +kernel
theorem dX3_flowOut_65 : decode cX3_flowOut 65 = .ok (.invokevirtual 147, 3) := by decide +kernel
theorem dX3_flowOut_68 : decode cX3_flowOut 68 = .ok (.lsub, 1) := by decide +kernel
theorem dX3_flowOut_69 : decode cX3_flowOut 69 = .ok (.lmul, 1) := by decide +kernel
theorem dX3_flowOut_70 : decode cX3_flowOut 70 = .ok (.lstore_n 3, 1) := by decide +kernel
theorem dX3_flowOut_71 : decode cX3_flowOut 71 = .ok (.iload_n 2, 1) := by decide +kernel
theorem dX3_flowOut_72 : decode cX3_flowOut 72 = .ok (.aload_n 1, 1) := by decide +kernel
theorem dX3_flowOut_73 : decode cX3_flowOut 73 = .ok (.getfield 159, 3) := by decide +kernel
theorem dX3_flowOut_76 : decode cX3_flowOut 76 = .ok (.if_icmp .ne 7, 3) := by decide +kernel
theorem dX3_flowOut_79 : decode cX3_flowOut 79 = .ok (.lload_n 3, 1) := by decide +kernel
theorem dX3_flowOut_80 : decode cX3_flowOut 80 = .ok (.goto 5, 3) := by decide +kernel
theorem dX3_flowOut_83 : decode cX3_flowOut 83 = .ok (.lload_n 3, 1) := by decide +kernel
theorem dX3_flowOut_84 : decode cX3_flowOut 84 = .ok (.lneg, 1) := by decide +kernel
theorem dX3_flowOut_85 : decode cX3_flowOut 85 = .ok (.lreturn, 1) := by decide +kernel
theorem dX3_quotientAt_0 : decode cX3_quotientAt 0 = .ok (.aload_n 0, 1) := by decide +kernel
theorem dX3_quotientAt_1 : decode cX3_quotientAt 1 = .ok (.getfield 26, 3) := by decide +kernel
theorem dX3_quotientAt_4 : decode cX3_quotientAt 4 = .ok (.iload_n 1, 1) := by decide +kernel
theorem dX3_quotientAt_5 : decode cX3_quotientAt 5 = .ok (.invokevirtual 147, 3) := by decide +kernel
theorem dX3_quotientAt_8 : decode cX3_quotientAt 8 = .ok (.aload_n 0, 1) := by decide +kernel
theorem dX3_quotientAt_9 : decode cX3_quotientAt 9 = .ok (.getfield 26, 3) := by decide +kernel
theorem dX3_quotientAt_12 : decode cX3_quotientAt 12 = .ok (.invokevirtual 151, 3) := by decide +kernel
theorem dX3_quotientAt_15 : decode cX3_quotientAt 15 = .ok (.iconst 1, 1) := by decide +kernel
theorem dX3_quotientAt_16 : decode cX3_quotientAt 16 = .ok (.invokestatic 155, 3) := by decide +kernel
theorem dX3_quotientAt_19 : decode cX3_quotientAt 19 = .ok (.l2d, 1) := by decide +kernel
theorem dX3_quotientAt_20 : decode cX3_quotientAt 20 = .ok (.dstore_n 2, 1) := by decide +kernel
theorem dX3_quotientAt_21 : decode cX3_quotientAt 21 = .ok (.aload_n 0, 1) := by decide +kernel
theorem dX3_quotientAt_22 : decode cX3_quotientAt 22 = .ok (.getfield 26, 3) := by decide +kernel
theorem dX3_quotientAt_25 : decode cX3_quotientAt 25 = .ok (.iload_n 1, 1) := by decide +kernel
theorem dX3_quotientAt_26 : decode cX3_quotientAt 26 = .ok (.invokevirtual 147, 3) := by decide +kernel
theorem dX3_quotientAt_29 : decode cX3_quotientAt 29 = .ok (.aload_n 0, 1) := by decide +kernel
theorem dX3_quotientAt_30 : decode cX3_quotientAt 30 = .ok (.getfield 26, 3) := by decide +kernel
theorem dX3_quotientAt_33 : decode cX3_quotientAt 33 = .ok (.invokevirtual 151, 3) := by decide +kernel
theorem dX3_quotientAt_36 : decode cX3_quotientAt 36 = .ok (.iconst 0, 1) := by decide +kernel
theorem dX3_quotientAt_37 : decode cX3_quotientAt 37 = .ok (.invokestatic 155, 3) := by decide +kernel
theorem dX3_quotientAt_40 : decode cX3_quotientAt 40 = .ok (.l2d, 1) := by decide +kernel
theorem dX3_quotientAt_41 : decode cX3_quotientAt 41 = .ok (.dstore 4, 2) := by decide +kernel
theorem dX3_quotientAt_43 : decode cX3_quotientAt 43 = .ok (.dload 4, 2) := by decide +kernel
theorem dX3_quotientAt_45 : decode cX3_quotientAt 45 = .ok (.dconst 0, 1) := by decide +kernel
theorem dX3_quotientAt_46 : decode cX3_quotientAt 46 = .ok (.dcmp .l, 1) := by decide +kernel
theorem dX3_quotientAt_47 : decode cX3_quotientAt 47 = .ok (.ifCond .le 10, 3) := by decide +kernel
theorem dX3_quotientAt_50 : decode cX3_quotientAt 50 = .ok (.dload_n 2, 1) := by decide +kernel
theorem dX3_quotientAt_51 : decode cX3_quotientAt 51 = .ok (.dload 4, 2) := by decide +kernel
theorem dX3_quotientAt_53 : decode cX3_quotientAt 53 = .ok (.ddiv, 1) := by decide +kernel
theorem dX3_quotientAt_54 : decode cX3_quotientAt 54 = .ok (.goto 4, 3) := by decide +kernel
theorem dX3_quotientAt_57 : decode cX3_quotientAt 57 = .ok (.dconst 0, 1) := by decide +kernel
theorem dX3_quotientAt_58 : decode cX3_quotientAt 58 = .ok (.dreturn, 1) := by decide +kernel
theorem dX3_firstToggleBehind_0 : decode cX3_firstToggleBehind 0 = .ok (.iconst (-1), 1) := by decide +kernel
theorem dX3_firstToggleBehind_1 : decode cX3_firstToggleBehind 1 = .ok (.istore_n 2, 1) := by decide +kernel
theorem dX3_firstToggleBehind_2 : decode cX3_firstToggleBehind 2 = .ok (.iconst 0, 1) := by decide +kernel
theorem dX3_firstToggleBehind_3 : decode cX3_firstToggleBehind 3 = .ok (.istore_n 3, 1) := by decide +kernel
theorem dX3_firstToggleBehind_4 : decode cX3_firstToggleBehind 4 = .ok (.iload_n 3, 1) := by decide +kernel
theorem dX3_firstToggleBehind_5 : decode cX3_firstToggleBehind 5 = .ok (.aload_n 0, 1) := by decide +kernel
theorem dX3_firstToggleBehind_6 : decode cX3_firstToggleBehind 6 = .ok (.getfield 16, 3) := by decide +kernel
theorem dX3_firstToggleBehind_9 : decode cX3_firstToggleBehind 9 = .ok (.invokevirtual 30, 3) := by decide +kernel
theorem dX3_firstToggleBehind_12 : decode cX3_firstToggleBehind 12 = .ok (.if_icmp .ge 44, 3) := by decide +kernel
theorem dX3_firstToggleBehind_15 : decode cX3_firstToggleBehind 15 = .ok (.aload_n 0, 1) := by decide +kernel
theorem dX3_firstToggleBehind_16 : decode cX3_firstToggleBehind 16 = .ok (.getfield 16, 3) := by decide +kernel
theorem dX3_firstToggleBehind_19 : decode cX3_firstToggleBehind 19 = .ok (.iload_n 3, 1) := by decide +kernel
theorem dX3_firstToggleBehind_20 : decode cX3_firstToggleBehind 20 = .ok (.invokevirtual 57, 3) := by decide +kernel
theorem dX3_firstToggleBehind_23 : decode cX3_firstToggleBehind 23 = .ok (.checkcast 77, 3) := by decide +kernel
theorem dX3_firstToggleBehind_26 : decode cX3_firstToggleBehind 26 = .ok (.iload_n 1, 1) := by decide +kernel
theorem dX3_firstToggleBehind_27 : decode cX3_firstToggleBehind 27 = .ok (.invokevirtual 245, 3) := by decide +kernel
theorem dX3_firstToggleBehind_30 : decode cX3_firstToggleBehind 30 = .ok (.istore 4, 2) := by decide +kernel
theorem dX3_firstToggleBehind_32 : decode cX3_firstToggleBehind 32 = .ok (.iload 4, 2) := by decide +kernel
theorem dX3_firstToggleBehind_34 : decode cX3_firstToggleBehind 34 = .ok (.ifCond .lt 16, 3) := by decide +kernel
theorem dX3_firstToggleBehind_37 : decode cX3_firstToggleBehind 37 = .ok (.iload_n 2, 1) := by decide +kernel
theorem dX3_firstToggleBehind_38 : decode cX3_firstToggleBehind 38 = .ok (.ifCond .lt 9, 3) := by decide +kernel
theorem dX3_firstToggleBehind_41 : decode cX3_firstToggleBehind 41 = .ok (.iload 4, 2) := by decide +kernel
theorem dX3_firstToggleBehind_43 : decode cX3_firstToggleBehind 43 = .ok (.iload_n 2, 1) := by decide +kernel
theorem dX3_firstToggleBehind_44 : decode cX3_firstToggleBehind 44 = .ok (.if_icmp .ge 6, 3) := by decide +kernel
theorem dX3_firstToggleBehind_47 : decode cX3_firstToggleBehind 47 = .ok (.iload 4, 2) := by decide +kernel
theorem dX3_firstToggleBehind_49 : decode cX3_firstToggleBehind 49 = .ok (.istore_n 2, 1) := by decide +kernel
theorem dX3_firstToggleBehind_50 : decode cX3_firstToggleBehind 50 = .ok (.iinc 3 1, 3) := by decide +kernel
theorem dX3_firstToggleBehind_53 : decode cX3_firstToggleBehind 53 = .ok (.goto (-49), 3) := by decide +kernel
theorem dX3_firstToggleBehind_56 : decode cX3_firstToggleBehind 56 = .ok (.iload_n 2, 1) := by decide +kernel
theorem dX3_firstToggleBehind_57 : decode cX3_firstToggleBehind 57 = .ok (.ireturn, 1) := by decide +kernel
theorem dX3_partOf_0 : decode cX3_partOf 0 = .ok (.iload 4, 2) := by decide +kernel
theorem dX3_partOf_2 : decode cX3_partOf 2 = .ok (.ifCond .eq 7, 3) := by decide +kernel
theorem dX3_partOf_5 : decode cX3_partOf 5 = .ok (.lload_n 0, 1) := by decide +kernel
theorem dX3_partOf_6 : decode cX3_partOf 6 = .ok (.goto 4, 3) := by decide +kernel
theorem dX3_partOf_9 : decode cX3_partOf 9 = .ok (.lload_n 2, 1) := by decide +kernel
theorem dX3_partOf_10 : decode cX3_partOf 10 = .ok (.lstore 5, 2) := by decide +kernel
theorem dX3_partOf_12 : decode cX3_partOf 12 = .ok (.lload_n 0, 1) := by decide +kernel
theorem dX3_partOf_13 : decode cX3_partOf 13 = .ok (.invokestatic 266, 3) := by decide +kernel
theorem dX3_partOf_16 : decode cX3_partOf 16 = .ok (.lload_n 2, 1) := by decide +kernel
theorem dX3_partOf_17 : decode cX3_partOf 17 = .ok (.invokestatic 271, 3) := by decide +kernel
theorem dX3_partOf_20 : decode cX3_partOf 20 = .ok (.lstore 7, 2) := by decide +kernel
theorem dX3_partOf_22 : decode cX3_partOf 22 = .ok (.lload 7, 2) := by decide +kernel
theorem dX3_partOf_24 : decode cX3_partOf 24 = .ok (.lconst 1, 1) := by decide +kernel
theorem dX3_partOf_25 : decode cX3_partOf 25 = .ok (.lcmp, 1) := by decide +kernel
theorem dX3_partOf_26 : decode cX3_partOf 26 = .ok (.ifCond .le 11, 3) := by decide +kernel
theorem dX3_partOf_29 : decode cX3_partOf 29 = .ok (.lload 5, 2) := by decide +kernel
theorem dX3_partOf_31 : decode cX3_partOf 31 = .ok (.lload 7, 2) := by decide +kernel
theorem dX3_partOf_33 : decode cX3_partOf 33 = .ok (.ldiv, 1) := by decide +kernel
theorem dX3_partOf_34 : decode cX3_partOf 34 = .ok (.goto 5, 3) := by decide +kernel
theorem dX3_partOf_37 : decode cX3_partOf 37 = .ok (.lload 5, 2) := by decide +kernel
theorem dX3_partOf_39 : decode cX3_partOf 39 = .ok (.lreturn, 1) := by decide +kernel
theorem dX3_commonDivisor_0 : decode cX3_commonDivisor 0 = .ok (.lload_n 0, 1) := by decide +kernel
theorem dX3_commonDivisor_1 : decode cX3_commonDivisor 1 = .ok (.lstore 4, 2) := by decide +kernel
theorem dX3_commonDivisor_3 : decode cX3_commonDivisor 3 = .ok (.lload_n 2, 1) := by decide +kernel
theorem dX3_commonDivisor_4 : decode cX3_commonDivisor 4 = .ok (.lstore 6, 2) := by decide +kernel
theorem dX3_commonDivisor_6 : decode cX3_commonDivisor 6 = .ok (.iconst 0, 1) := by decide +kernel
theorem dX3_commonDivisor_7 : decode cX3_commonDivisor 7 = .ok (.istore 8, 2) := by decide +kernel
theorem dX3_commonDivisor_9 : decode cX3_commonDivisor 9 = .ok (.iload 8, 2) := by decide +kernel
theorem dX3_commonDivisor_11 : decode cX3_commonDivisor 11 = .ok (.sipush 200, 3) := by decide +kernel
theorem dX3_commonDivisor_14 : decode cX3_commonDivisor 14 = .ok (.if_icmp .ge 31, 3) := by decide +kernel
theorem dX3_commonDivisor_17 : decode cX3_commonDivisor 17 = .ok (.lload 6, 2) := by decide +kernel
theorem dX3_commonDivisor_19 : decode cX3_commonDivisor 19 = .ok (.lconst 0, 1) := by decide +kernel
theorem dX3_commonDivisor_20 : decode cX3_commonDivisor 20 = .ok (.lcmp, 1) := by decide +kernel
theorem dX3_commonDivisor_21 : decode cX3_commonDivisor 21 = .ok (.ifCond .eq 24, 3) := by decide +kernel
theorem dX3_commonDivisor_24 : decode cX3_commonDivisor 24 = .ok (.lload 4, 2) := by decide +kernel
theorem dX3_commonDivisor_26 : decode cX3_commonDivisor 26 = .ok (.lload 6, 2) := by decide +kernel
theorem dX3_commonDivisor_28 : decode cX3_commonDivisor 28 = .ok (.lrem, 1) := by decide +kernel
theorem dX3_commonDivisor_29 : decode cX3_commonDivisor 29 = .ok (.lstore 9, 2) := by decide +kernel
theorem dX3_commonDivisor_31 : decode cX3_commonDivisor 31 = .ok (.lload 6, 2) := by decide +kernel
theorem dX3_commonDivisor_33 : decode cX3_commonDivisor 33 = .ok (.lstore 4, 2) := by decide +kernel
theorem dX3_commonDivisor_35 : decode cX3_commonDivisor 35 = .ok (.lload 9, 2) := by decide +kernel
theorem dX3_commonDivisor_37 : decode cX3_commonDivisor 37 = .ok (.lstore 6, 2) := by decide +kernel
theorem dX3_commonDivisor_39 : decode cX3_commonDivisor 39 = .ok (.iinc 8 1, 3) := by decide +kernel
theorem dX3_commonDivisor_42 : decode cX3_commonDivisor 42 = .ok (.goto (-33), 3) := by decide +kernel
theorem dX3_commonDivisor_45 : decode cX3_commonDivisor 45 = .ok (.lload 4, 2) := by decide +kernel
theorem dX3_commonDivisor_47 : decode cX3_commonDivisor 47 = .ok (.lreturn, 1) := by decide +kernel
theorem dX3_compareFractions_0 : decode cX3_compareFractions 0 = .ok (.lload_n 0, 1) := by decide +kernel
theorem dX3_compareFractions_1 : decode cX3_compareFractions 1 = .ok (.lstore 8, 2) := by decide +kernel
theorem dX3_compareFractions_3 : decode cX3_compareFractions 3 = .ok (.lload_n 2, 1) := by decide +kernel
theorem dX3_compareFractions_4 : decode cX3_compareFractions 4 = .ok (.lstore 10, 2) := by decide +kernel
theorem dX3_compareFractions_6 : decode cX3_compareFractions 6 = .ok (.lload 4, 2) := by decide +kernel
theorem dX3_compareFractions_8 : decode cX3_compareFractions 8 = .ok (.lstore 12, 2) := by decide +kernel
theorem dX3_compareFractions_10 : decode cX3_compareFractions 10 = .ok (.lload 6, 2) := by decide +kernel
theorem dX3_compareFractions_12 : decode cX3_compareFractions 12 = .ok (.lstore 14, 2) := by decide +kernel
theorem dX3_compareFractions_14 : decode cX3_compareFractions 14 = .ok (.iconst 1, 1) := by decide +kernel
theorem dX3_compareFractions_15 : decode cX3_compareFractions 15 = .ok (.istore 16, 2) := by decide +kernel
theorem dX3_compareFractions_17 : decode cX3_compareFractions 17 = .ok (.iconst 0, 1) := by decide +kernel
theorem dX3_compareFractions_18 : decode cX3_compareFractions 18 = .ok (.istore 17, 2) := by decide +kernel
theorem dX3_compareFractions_20 : decode cX3_compareFractions 20 = .ok (.iload 17, 2) := by decide +kernel
theorem dX3_compareFractions_22 : decode cX3_compareFractions 22 = .ok (.sipush 200, 3) := by decide +kernel
theorem dX3_compareFractions_25 : decode cX3_compareFractions 25 = .ok (.if_icmp .ge 105, 3) := by decide +kernel
theorem dX3_compareFractions_28 : decode cX3_compareFractions 28 = .ok (.lload 10, 2) := by decide +kernel
theorem dX3_compareFractions_30 : decode cX3_compareFractions 30 = .ok (.lconst 0, 1) := by decide +kernel
theorem dX3_compareFractions_31 : decode cX3_compareFractions 31 = .ok (.lcmp, 1) := by decide +kernel
theorem dX3_compareFractions_32 : decode cX3_compareFractions 32 = .ok (.ifCond .eq 98, 3) := by decide +kernel
theorem dX3_compareFractions_35 : decode cX3_compareFractions 35 = .ok (.lload 14, 2) := by decide +kernel
theorem dX3_compareFractions_37 : decode cX3_compareFractions 37 = .ok (.lconst 0, 1) := by decide +kernel
theorem dX3_compareFractions_38 : decode cX3_compareFractions 38 = .ok (.lcmp, 1) := by decide +kernel
theorem dX3_compareFractions_39 : decode cX3_compareFractions 39 = .ok (.ifCond .eq 91, 3) := by decide +kernel
theorem dX3_compareFractions_42 : decode cX3_compareFractions 42 = .ok (.lload 8, 2) := by decide +kernel
theorem dX3_compareFractions_44 : decode cX3_compareFractions 44 = .ok (.lload 10, 2) := by decide +kernel
theorem dX3_compareFractions_46 : decode cX3_compareFractions 46 = .ok (.invokestatic 274, 3) := by decide +kernel
theorem dX3_compareFractions_49 : decode cX3_compareFractions 49 = .ok (.lstore 18, 2) := by decide +kernel
theorem dX3_compareFractions_51 : decode cX3_compareFractions 51 = .ok (.lload 12, 2) := by decide +kernel
theorem dX3_compareFractions_53 : decode cX3_compareFractions 53 = .ok (.lload 14, 2) := by decide +kernel
theorem dX3_compareFractions_55 : decode cX3_compareFractions 55 = .ok (.invokestatic 274, 3) := by decide +kernel
theorem dX3_compareFractions_58 : decode cX3_compareFractions 58 = .ok (.lstore 20, 2) := by decide +kernel
theorem dX3_compareFractions_60 : decode cX3_compareFractions 60 = .ok (.lload 18, 2) := by decide +kernel
theorem dX3_compareFractions_62 : decode cX3_compareFractions 62 = .ok (.lload 20, 2) := by decide +kernel
theorem dX3_compareFractions_64 : decode cX3_compareFractions 64 = .ok (.lcmp, 1) := by decide +kernel
theorem dX3_compareFractions_65 : decode cX3_compareFractions 65 = .ok (.ifCond .eq 20, 3) := by decide +kernel
theorem dX3_compareFractions_68 : decode cX3_compareFractions 68 = .ok (.lload 18, 2) := by decide +kernel
theorem dX3_compareFractions_70 : decode cX3_compareFractions 70 = .ok (.lload 20, 2) := by decide +kernel
theorem dX3_compareFractions_72 : decode cX3_compareFractions 72 = .ok (.lcmp, 1) := by decide +kernel
theorem dX3_compareFractions_73 : decode cX3_compareFractions 73 = .ok (.ifCond .le 8, 3) := by decide +kernel
theorem dX3_compareFractions_76 : decode cX3_compareFractions 76 = .ok (.iload 16, 2) := by decide +kernel
theorem dX3_compareFractions_78 : decode cX3_compareFractions 78 = .ok (.goto 6, 3) := by decide +kernel
theorem dX3_compareFractions_81 : decode cX3_compareFractions 81 = .ok (.iload 16, 2) := by decide +kernel
theorem dX3_compareFractions_83 : decode cX3_compareFractions 83 = .ok (.ineg, 1) := by decide +kernel
theorem dX3_compareFractions_84 : decode cX3_compareFractions 84 = .ok (.ireturn, 1) := by decide +kernel
theorem dX3_compareFractions_85 : decode cX3_compareFractions 85 = .ok (.lload 8, 2) := by decide +kernel
theorem dX3_compareFractions_87 : decode cX3_compareFractions 87 = .ok (.lload 10, 2) := by decide +kernel
theorem dX3_compareFractions_89 : decode cX3_compareFractions 89 = .ok (.invokestatic 277, 3) := by decide +kernel
theorem dX3_compareFractions_92 : decode cX3_compareFractions 92 = .ok (.lstore 22, 2) := by decide +kernel
theorem dX3_compareFractions_94 : decode cX3_compareFractions 94 = .ok (.lload 12, 2) := by decide +kernel
theorem dX3_compareFractions_96 : decode cX3_compareFractions 96 = .ok (.lload 14, 2) := by decide +kernel
theorem dX3_compareFractions_98 : decode cX3_compareFractions 98 = .ok (.invokestatic 277, 3) := by decide +kernel
theorem dX3_compareFractions_101 : decode cX3_compareFractions 101 = .ok (.lstore 24, 2) := by decide +kernel
theorem dX3_compareFractions_103 : decode cX3_compareFractions 103 = .ok (.lload 10, 2) := by decide +kernel
theorem dX3_compareFractions_105 : decode cX3_compareFractions 105 = .ok (.lstore 8, 2) := by decide +kernel
theorem dX3_compareFractions_107 : decode cX3_compareFractions 107 = .ok (.lload 22, 2) := by decide +kernel
theorem dX3_compareFractions_109 : decode cX3_compareFractions 109 = .ok (.lstore 10, 2) := by decide +kernel
theorem dX3_compareFractions_111 : decode cX3_compareFractions 111 = .ok (.lload 14, 2) := by decide +kernel
theorem dX3_compareFractions_113 : decode cX3_compareFractions 113 = .ok (.lstore 12, 2) := by decide +kernel
theorem dX3_compareFractions_115 : decode cX3_compareFractions 115 = .ok (.lload 24, 2) := by decide +kernel
theorem dX3_compareFractions_117 : decode cX3_compareFractions 117 = .ok (.lstore 14, 2) := by decide +kernel
theorem dX3_compareFractions_119 : decode cX3_compareFractions 119 = .ok (.iload 16, 2) := by decide +kernel
theorem dX3_compareFractions_121 : decode cX3_compareFractions 121 = .ok (.ineg, 1) := by decide +kernel
theorem dX3_compareFractions_122 : decode cX3_compareFractions 122 = .ok (.istore 16, 2) := by decide +kernel
theorem dX3_compareFractions_124 : decode cX3_compareFractions 124 = .ok (.iinc 17 1, 3) := by decide +kernel
theorem dX3_compareFractions_127 : decode cX3_compareFractions 127 = .ok (.goto (-107), 3) := by decide +kernel
theorem dX3_compareFractions_130 : decode cX3_compareFractions 130 = .ok (.lload 10, 2) := by decide +kernel
theorem dX3_compareFractions_132 : decode cX3_compareFractions 132 = .ok (.lload 14, 2) := by decide +kernel
theorem dX3_compareFractions_134 : decode cX3_compareFractions 134 = .ok (.lcmp, 1) := by decide +kernel
theorem dX3_compareFractions_135 : decode cX3_compareFractions 135 = .ok (.ifCond .ne 5, 3) := by decide +kernel
theorem dX3_compareFractions_138 : decode cX3_compareFractions 138 = .ok (.iconst 0, 1) := by decide +kernel
theorem dX3_compareFractions_139 : decode cX3_compareFractions 139 = .ok (.ireturn, 1) := by decide +kernel
theorem dX3_compareFractions_140 : decode cX3_compareFractions 140 = .ok (.lload 10, 2) := by decide +kernel
theorem dX3_compareFractions_142 : decode cX3_compareFractions 142 = .ok (.lconst 0, 1) := by decide +kernel
theorem dX3_compareFractions_143 : decode cX3_compareFractions 143 = .ok (.lcmp, 1) := by decide +kernel
theorem dX3_compareFractions_144 : decode cX3_compareFractions 144 = .ok (.ifCond .ne 8, 3) := by decide +kernel
theorem dX3_compareFractions_147 : decode cX3_compareFractions 147 = .ok (.iload 16, 2) := by decide +kernel
theorem dX3_compareFractions_149 : decode cX3_compareFractions 149 = .ok (.goto 6, 3) := by decide +kernel
theorem dX3_compareFractions_152 : decode cX3_compareFractions 152 = .ok (.iload 16, 2) := by decide +kernel
theorem dX3_compareFractions_154 : decode cX3_compareFractions 154 = .ok (.ineg, 1) := by decide +kernel
theorem dX3_compareFractions_155 : decode cX3_compareFractions 155 = .ok (.ireturn, 1) := by decide +kernel
theorem dX4_init_0 : decode cX4_init 0 = .ok (.aload_n 0, 1) := by decide +kernel
theorem dX4_init_1 : decode cX4_init 1 = .ok (.invokespecial 1, 3) := by decide +kernel
theorem dX4_init_4 : decode cX4_init 4 = .ok (.aload_n 0, 1) := by decide +kernel
theorem dX4_init_5 : decode cX4_init 5 = .ok (.iconst 0, 1) := by decide +kernel
theorem dX4_init_6 : decode cX4_init 6 = .ok (.newarray .int, 2) := by decide +kernel
theorem dX4_init_8 : decode cX4_init 8 = .ok (.putfield 7, 3) := by decide +kernel
theorem dX4_init_11 : decode cX4_init 11 = .ok (.aload_n 0, 1) := by decide +kernel
theorem dX4_init_12 : decode cX4_init 12 = .ok (.iconst 0, 1) := by decide +kernel
theorem dX4_init_13 : decode cX4_init 13 = .ok (.anewarray 13, 3) := by decide +kernel
theorem dX4_init_16 : decode cX4_init 16 = .ok (.putfield 14, 3) := by decide +kernel
theorem dX4_init_19 : decode cX4_init 19 = .ok (.return_, 1) := by decide +kernel
theorem dX4_more_0 : decode cX4_more 0 = .ok (.aload_n 0, 1) := by decide +kernel
theorem dX4_more_1 : decode cX4_more 1 = .ok (.arraylength, 1) := by decide +kernel
theorem dX4_more_2 : decode cX4_more 2 = .ok (.iconst 1, 1) := by decide +kernel
theorem dX4_more_3 : decode cX4_more 3 = .ok (.iadd, 1) := by decide +kernel
theorem dX4_more_4 : decode cX4_more 4 = .ok (.newarray .int, 2) := by decide +kernel
theorem dX4_more_6 : decode cX4_more 6 = .ok (.astore_n 2, 1) := by decide +kernel
theorem dX4_more_7 : decode cX4_more 7 = .ok (.iconst 0, 1) := by decide +kernel
theorem dX4_more_8 : decode cX4_more 8 = .ok (.istore_n 3, 1) := by decide +kernel
theorem dX4_more_9 : decode cX4_more 9 = .ok (.iload_n 3, 1) := by decide +kernel
theorem dX4_more_10 : decode cX4_more 10 = .ok (.aload_n 0, 1) := by decide +kernel
theorem dX4_more_11 : decode cX4_more 11 = .ok (.arraylength, 1) := by decide +kernel
theorem dX4_more_12 : decode cX4_more 12 = .ok (.if_icmp .ge 15, 3) := by decide +kernel
theorem dX4_more_15 : decode cX4_more 15 = .ok (.aload_n 2, 1) := by decide +kernel
theorem dX4_more_16 : decode cX4_more 16 = .ok (.iload_n 3, 1) := by decide +kernel
theorem dX4_more_17 : decode cX4_more 17 = .ok (.aload_n 0, 1) := by decide +kernel
theorem dX4_more_18 : decode cX4_more 18 = .ok (.iload_n 3, 1) := by decide +kernel
theorem dX4_more_19 : decode cX4_more 19 = .ok (.iaload, 1) := by decide +kernel
theorem dX4_more_20 : decode cX4_more 20 = .ok (.iastore, 1) := by decide +kernel
theorem dX4_more_21 : decode cX4_more 21 = .ok (.iinc 3 1, 3) := by decide +kernel
theorem dX4_more_24 : decode cX4_more 24 = .ok (.goto (-15), 3) := by decide +kernel
theorem dX4_more_27 : decode cX4_more 27 = .ok (.aload_n 2, 1) := by decide +kernel
theorem dX4_more_28 : decode cX4_more 28 = .ok (.aload_n 0, 1) := by decide +kernel
theorem dX4_more_29 : decode cX4_more 29 = .ok (.arraylength, 1) := by decide +kernel
theorem dX4_more_30 : decode cX4_more 30 = .ok (.iload_n 1, 1) := by decide +kernel
theorem dX4_more_31 : decode cX4_more 31 = .ok (.iastore, 1) := by decide +kernel
theorem dX4_more_32 : decode cX4_more 32 = .ok (.aload_n 2, 1) := by decide +kernel
theorem dX4_more_33 : decode cX4_more 33 = .ok (.areturn, 1) := by decide +kernel
theorem dX4_isOn_0 : decode cX4_isOn 0 = .ok (.aload_n 0, 1) := by decide +kernel
theorem dX4_isOn_1 : decode cX4_isOn 1 = .ok (.getfield 14, 3) := by decide +kernel
theorem dX4_isOn_4 : decode cX4_isOn 4 = .ok (.iload_n 1, 1) := by decide +kernel
theorem dX4_isOn_5 : decode cX4_isOn 5 = .ok (.aaload, 1) := by decide +kernel
theorem dX4_isOn_6 : decode cX4_isOn 6 = .ok (.iconst 4, 1) := by decide +kernel
theorem dX4_isOn_7 : decode cX4_isOn 7 = .ok (.iaload, 1) := by decide +kernel
theorem dX4_isOn_8 : decode cX4_isOn 8 = .ok (.iconst 1, 1) := by decide +kernel
theorem dX4_isOn_9 : decode cX4_isOn 9 = .ok (.if_icmp .ne 7, 3) := by decide +kernel
theorem dX4_isOn_12 : decode cX4_isOn 12 = .ok (.iconst 1, 1) := by decide +kernel
theorem dX4_isOn_13 : decode cX4_isOn 13 = .ok (.goto 4, 3) := by decide +kernel
theorem dX4_isOn_16 : decode cX4_isOn 16 = .ok (.iconst 0, 1) := by decide +kernel
theorem dX4_isOn_17 : decode cX4_isOn 17 = .ok (.istore_n 3, 1) := by decide +kernel
theorem dX4_isOn_18 : decode cX4_isOn 18 = .ok (.iconst 5, 1) := by decide +kernel
theorem dX4_isOn_19 : decode cX4_isOn 19 = .ok (.istore 4, 2) := by decide +kernel
theorem dX4_isOn_21 : decode cX4_isOn 21 = .ok (.iload 4, 2) := by decide +kernel
theorem dX4_isOn_23 : decode cX4_isOn 23 = .ok (.aload_n 0, 1) := by decide +kernel
theorem dX4_isOn_24 : decode cX4_isOn 24 = .ok (.getfield 14, 3) := by decide +kernel
theorem dX4_isOn_27 : decode cX4_isOn 27 = .ok (.iload_n 1, 1) := by decide +kernel
theorem dX4_isOn_28 : decode cX4_isOn 28 = .ok (.aaload, 1) := by decide +kernel
theorem dX4_isOn_29 : decode cX4_isOn 29 = .ok (.arraylength, 1) := by decide +kernel
theorem dX4_isOn_30 : decode cX4_isOn 30 = .ok (.if_icmp .ge 32, 3) := by decide +kernel
theorem dX4_isOn_33 : decode cX4_isOn 33 = .ok (.aload_n 0, 1) := by decide +kernel
theorem dX4_isOn_34 : decode cX4_isOn 34 = .ok (.getfield 14, 3) := by decide +kernel
theorem dX4_isOn_37 : decode cX4_isOn 37 = .ok (.iload_n 1, 1) := by decide +kernel
theorem dX4_isOn_38 : decode cX4_isOn 38 = .ok (.aaload, 1) := by decide +kernel
theorem dX4_isOn_39 : decode cX4_isOn 39 = .ok (.iload 4, 2) := by decide +kernel
theorem dX4_isOn_41 : decode cX4_isOn 41 = .ok (.iaload, 1) := by decide +kernel
theorem dX4_isOn_42 : decode cX4_isOn 42 = .ok (.iload_n 2, 1) := by decide +kernel
theorem dX4_isOn_43 : decode cX4_isOn 43 = .ok (.if_icmp .gt 13, 3) := by decide +kernel
theorem dX4_isOn_46 : decode cX4_isOn 46 = .ok (.iload_n 3, 1) := by decide +kernel
theorem dX4_isOn_47 : decode cX4_isOn 47 = .ok (.ifCond .ne 7, 3) := by decide +kernel
theorem dX4_isOn_50 : decode cX4_isOn 50 = .ok (.iconst 1, 1) := by decide +kernel
theorem dX4_isOn_51 : decode cX4_isOn 51 = .ok (.goto 4, 3) := by decide +kernel
theorem dX4_isOn_54 : decode cX4_isOn 54 = .ok (.iconst 0, 1) := by decide +kernel
theorem dX4_isOn_55 : decode cX4_isOn 55 = .ok (.istore_n 3, 1) := by decide +kernel
theorem dX4_isOn_56 : decode cX4_isOn 56 = .ok (.iinc 4 1, 3) := by decide +kernel
theorem dX4_isOn_59 : decode cX4_isOn 59 = .ok (.goto (-38), 3) := by decide +kernel
theorem dX4_isOn_62 : decode cX4_isOn 62 = .ok (.iload_n 3, 1) := by decide +kernel
theorem dX4_isOn_63 : decode cX4_isOn 63 = .ok (.ireturn, 1) := by decide +kernel
theorem dX4_conducts_0 : decode cX4_conducts 0 = .ok (.aload_n 0, 1) := by decide +kernel
theorem dX4_conducts_1 : decode cX4_conducts 1 = .ok (.getfield 14, 3) := by decide +kernel
theorem dX4_conducts_4 : decode cX4_conducts 4 = .ok (.iload_n 1, 1) := by decide +kernel
theorem dX4_conducts_5 : decode cX4_conducts 5 = .ok (.aaload, 1) := by decide +kernel
theorem dX4_conducts_6 : decode cX4_conducts 6 = .ok (.iconst 0, 1) := by decide +kernel
theorem dX4_conducts_7 : decode cX4_conducts 7 = .ok (.iaload, 1) := by decide +kernel
theorem dX4_conducts_8 : decode cX4_conducts 8 = .ok (.ifCond .ne 16, 3) := by decide +kernel
theorem dX4_conducts_11 : decode cX4_conducts 11 = .ok (.aload_n 0, 1) := by decide +kernel
theorem dX4_conducts_12 : decode cX4_conducts 12 = .ok (.iload_n 1, 1) := by decide +kernel
theorem dX4_conducts_13 : decode cX4_conducts 13 = .ok (.iload_n 2, 1) := by decide +kernel
theorem dX4_conducts_14 : decode cX4_conducts 14 = .ok (.invokevirtual 18, 3) := by decide +kernel
theorem dX4_conducts_17 : decode cX4_conducts 17 = .ok (.ifCond .eq 7, 3) := by decide +kernel
theorem dX4_conducts_20 : decode cX4_conducts 20 = .ok (.iconst 1, 1) := by decide +kernel
theorem dX4_conducts_21 : decode cX4_conducts 21 = .ok (.goto 4, 3) := by decide +kernel
theorem dX4_conducts_24 : decode cX4_conducts 24 = .ok (.iconst 0, 1) := by decide +kernel
theorem dX4_conducts_25 : decode cX4_conducts 25 = .ok (.ireturn, 1) := by decide +kernel
theorem dX4_isWay_0 : decode cX4_isWay 0 = .ok (.aload_n 0, 1) := by decide +kernel
theorem dX4_isWay_1 : decode cX4_isWay 1 = .ok (.getfield 7, 3) := by decide +kernel
theorem dX4_isWay_4 : decode cX4_isWay 4 = .ok (.arraylength, 1) := by decide +kernel
theorem dX4_isWay_5 : decode cX4_isWay 5 = .ok (.newarray .boolean, 2) := by decide +kernel
theorem dX4_isWay_7 : decode cX4_isWay 7 = .ok (.astore 4, 2) := by decide +kernel
theorem dX4_isWay_9 : decode cX4_isWay 9 = .ok (.aload 4, 2) := by decide +kernel
theorem dX4_isWay_11 : decode cX4_isWay 11 = .ok (.iload_n 1, 1) := by decide +kernel
theorem dX4_isWay_12 : decode cX4_isWay 12 = .ok (.iconst 1, 1) := by decide +kernel
theorem dX4_isWay_13 : decode cX4_isWay 13 = .ok (.bastore, 1) := by decide +kernel
theorem dX4_isWay_14 : decode cX4_isWay 14 = .ok (.iconst 0, 1) := by decide +kernel
theorem dX4_isWay_15 : decode cX4_isWay 15 = .ok (.istore 5, 2) := by decide +kernel
theorem dX4_isWay_17 : decode cX4_isWay 17 = .ok (.iload 5, 2) := by decide +kernel
theorem dX4_isWay_19 : decode cX4_isWay 19 = .ok (.aload_n 0, 1) := by decide +kernel
theorem dX4_isWay_20 : decode cX4_isWay 20 = .ok (.getfield 7, 3) := by decide +kernel
theorem dX4_isWay_23 : decode cX4_isWay 23 = .ok (.arraylength, 1) := by decide +kernel
theorem dX4_isWay_24 : decode cX4_isWay 24 = .ok (.if_icmp .ge 91, 3) := by decide +kernel
theorem dX4_isWay_27 : decode cX4_isWay 27 = .ok (.iconst 0, 1) := by decide +kernel
theorem dX4_isWay_28 : decode cX4_isWay 28 = .ok (.istore 6, 2) := by decide +kernel
theorem dX4_isWay_30 : decode cX4_isWay 30 = .ok (.iload 6, 2) := by decide +kernel
theorem dX4_isWay_32 : decode cX4_isWay 32 = .ok (.aload_n 0, 1) := by decide +kernel
theorem dX4_isWay_33 : decode cX4_isWay 33 = .ok (.getfield 14, 3) := by decide +kernel
theorem dX4_isWay_36 : decode cX4_isWay 36 = .ok (.arraylength, 1) := by decide +kernel
theorem dX4_isWay_37 : decode cX4_isWay 37 = .ok (.if_icmp .ge 72, 3) := by decide +kernel
theorem dX4_isWay_40 : decode cX4_isWay 40 = .ok (.aload_n 0, 1) := by decide +kernel
theorem dX4_isWay_41 : decode cX4_isWay 41 = .ok (.iload 6, 2) := by decide +kernel
theorem dX4_isWay_43 : decode cX4_isWay 43 = .ok (.iload_n 3, 1) := by decide +kernel
theorem dX4_isWay_44 : decode cX4_isWay 44 = .ok (.invokevirtual 22, 3) := by decide +kernel
theorem dX4_isWay_47 : decode cX4_isWay 47 = .ok (.ifCond .eq 56, 3) := by decide +kernel
theorem dX4_isWay_50 : decode cX4_isWay 50 = .ok (.aload 4, 2) := by decide +kernel
theorem dX4_isWay_52 : decode cX4_isWay 52 = .ok (.aload_n 0, 1) := by decide +kernel
theorem dX4_isWay_53 : decode cX4_isWay 53 = .ok (.getfield 14, 3) := by decide +kernel
theorem dX4_isWay_56 : decode cX4_isWay 56 = .ok (.iload 6, 2) := by decide +kernel
theorem dX4_isWay_58 : decode cX4_isWay 58 = .ok (.aaload, 1) := by decide +kernel
theorem dX4_isWay_59 : decode cX4_isWay 59 = .ok (.iconst 1, 1) := by decide +kernel
theorem dX4_isWay_60 : decode cX4_isWay 60 = .ok (.iaload, 1) := by decide +kernel
theorem dX4_isWay_61 : decode cX4_isWay 61 = .ok (.baload, 1) := by decide +kernel
theorem dX4_isWay_62 : decode cX4_isWay 62 = .ok (.aload 4, 2) := by decide +kernel
theorem dX4_isWay_64 : decode cX4_isWay 64 = .ok (.aload_n 0, 1) := by decide +kernel
theorem dX4_isWay_65 : decode cX4_isWay 65 = .ok (.getfield 14, 3) := by decide +kernel
theorem dX4_isWay_68 : decode cX4_isWay 68 = .ok (.iload 6, 2) := by decide +kernel
theorem dX4_isWay_70 : decode cX4_isWay 70 = .ok (.aaload, 1) := by decide +kernel
theorem dX4_isWay_71 : decode cX4_isWay 71 = .ok (.iconst 2, 1) := by decide +kernel
theorem dX4_isWay_72 : decode cX4_isWay 72 = .ok (.iaload, 1) := by decide +kernel
theorem dX4_isWay_73 : decode cX4_isWay 73 = .ok (.baload, 1) := by decide +kernel
theorem dX4_isWay_74 : decode cX4_isWay 74 = .ok (.if_icmp .eq 29, 3) := by decide +kernel
theorem dX4_isWay_77 : decode cX4_isWay 77 = .ok (.aload 4, 2) := by decide +kernel
theorem dX4_isWay_79 : decode cX4_isWay 79 = .ok (.aload_n 0, 1) := by decide +kernel
theorem dX4_isWay_80 : decode cX4_isWay 80 = .ok (.getfield 14, 3) := by decide +kernel
theorem dX4_isWay_83 : decode cX4_isWay 83 = .ok (.iload 6, 2) := by decide +kernel
theorem dX4_isWay_85 : decode cX4_isWay 85 = .ok (.aaload, 1) := by decide +kernel
theorem dX4_isWay_86 : decode cX4_isWay 86 = .ok (.iconst 1, 1) := by decide +kernel
theorem dX4_isWay_87 : decode cX4_isWay 87 = .ok (.iaload, 1) := by decide +kernel
theorem dX4_isWay_88 : decode cX4_isWay 88 = .ok (.iconst 1, 1) := by decide +kernel
theorem dX4_isWay_89 : decode cX4_isWay 89 = .ok (.bastore, 1) := by decide +kernel
theorem dX4_isWay_90 : decode cX4_isWay 90 = .ok (.aload 4, 2) := by decide +kernel
theorem dX4_isWay_92 : decode cX4_isWay 92 = .ok (.aload_n 0, 1) := by decide +kernel
theorem dX4_isWay_93 : decode cX4_isWay 93 = .ok (.getfield 14, 3) := by decide +kernel
theorem dX4_isWay_96 : decode cX4_isWay 96 = .ok (.iload 6, 2) := by decide +kernel
theorem dX4_isWay_98 : decode cX4_isWay 98 = .ok (.aaload, 1) := by decide +kernel
theorem dX4_isWay_99 : decode cX4_isWay 99 = .ok (.iconst 2, 1) := by decide +kernel
theorem dX4_isWay_100 : decode cX4_isWay 100 = .ok (.iaload, 1) := by decide +kernel
theorem dX4_isWay_101 : decode cX4_isWay 101 = .ok (.iconst 1, 1) := by decide +kernel
theorem dX4_isWay_102 : decode cX4_isWay 102 = .ok (.bastore, 1) := by decide +kernel
theorem dX4_isWay_103 : decode cX4_isWay 103 = .ok (.iinc 6 1, 3) := by decide +kernel
theorem dX4_isWay_106 : decode cX4_isWay 106 = .ok (.goto (-76), 3) := by decide +kernel
theorem dX4_isWay_109 : decode cX4_isWay 109 = .ok (.iinc 5 1, 3) := by decide +kernel
theorem dX4_isWay_112 : decode cX4_isWay 112 = .ok (.goto (-95), 3) := by decide +kernel
theorem dX4_isWay_115 : decode cX4_isWay 115 = .ok (.aload 4, 2) := by decide +kernel
theorem dX4_isWay_117 : decode cX4_isWay 117 = .ok (.iload_n 2, 1) := by decide +kernel
theorem dX4_isWay_118 : decode cX4_isWay 118 = .ok (.baload, 1) := by decide +kernel
theorem dX4_isWay_119 : decode cX4_isWay 119 = .ok (.ireturn, 1) := by decide +kernel
theorem dX4_floats_0 : decode cX4_floats 0 = .ok (.iconst 0, 1) := by decide +kernel
theorem dX4_floats_1 : decode cX4_floats 1 = .ok (.istore_n 3, 1) := by decide +kernel
theorem dX4_floats_2 : decode cX4_floats 2 = .ok (.iload_n 3, 1) := by decide +kernel
theorem dX4_floats_3 : decode cX4_floats 3 = .ok (.aload_n 0, 1) := by decide +kernel
theorem dX4_floats_4 : decode cX4_floats 4 = .ok (.getfield 7, 3) := by decide +kernel
theorem dX4_floats_7 : decode cX4_floats 7 = .ok (.arraylength, 1) := by decide +kernel
theorem dX4_floats_8 : decode cX4_floats 8 = .ok (.if_icmp .ge 32, 3) := by decide +kernel
theorem dX4_floats_11 : decode cX4_floats 11 = .ok (.aload_n 0, 1) := by decide +kernel
theorem dX4_floats_12 : decode cX4_floats 12 = .ok (.getfield 7, 3) := by decide +kernel
theorem dX4_floats_15 : decode cX4_floats 15 = .ok (.iload_n 3, 1) := by decide +kernel
theorem dX4_floats_16 : decode cX4_floats 16 = .ok (.iaload, 1) := by decide +kernel
theorem dX4_floats_17 : decode cX4_floats 17 = .ok (.bipush 100, 2) := by decide +kernel
theorem dX4_floats_19 : decode cX4_floats 19 = .ok (.if_icmp .ge 15, 3) := by decide +kernel
theorem dX4_floats_22 : decode cX4_floats 22 = .ok (.aload_n 0, 1) := by decide +kernel
theorem dX4_floats_23 : decode cX4_floats 23 = .ok (.iload_n 1, 1) := by decide +kernel
theorem dX4_floats_24 : decode cX4_floats 24 = .ok (.iload_n 3, 1) := by decide +kernel
theorem dX4_floats_25 : decode cX4_floats 25 = .ok (.iload_n 2, 1) := by decide +kernel
theorem dX4_floats_26 : decode cX4_floats 26 = .ok (.invokevirtual 25, 3) := by decide +kernel
theorem dX4_floats_29 : decode cX4_floats 29 = .ok (.ifCond .eq 5, 3) := by decide +kernel
theorem dX4_floats_32 : decode cX4_floats 32 = .ok (.iconst 0, 1) := by decide +kernel
theorem dX4_floats_33 : decode cX4_floats 33 = .ok (.ireturn, 1) := by decide +kernel
theorem dX4_floats_34 : decode cX4_floats 34 = .ok (.iinc 3 1, 3) := by decide +kernel
theorem dX4_floats_37 : decode cX4_floats 37 = .ok (.goto (-35), 3) := by decide +kernel
theorem dX4_floats_40 : decode cX4_floats 40 = .ok (.iconst 1, 1) := by decide +kernel
theorem dX4_floats_41 : decode cX4_floats 41 = .ok (.ireturn, 1) := by decide +kernel
theorem dJ6_bitCount_0f7a4_0 : decode cJ6_bitCount_0f7a4 0 = .ok (.iload_n 0, 1) := by decide +kernel
theorem dJ6_bitCount_0f7a4_1 : decode cJ6_bitCount_0f7a4 1 = .ok (.iload_n 0, 1) := by decide +kernel
theorem dJ6_bitCount_0f7a4_2 : decode cJ6_bitCount_0f7a4 2 = .ok (.iconst 1, 1) := by decide +kernel
theorem dJ6_bitCount_0f7a4_3 : decode cJ6_bitCount_0f7a4 3 = .ok (.iushr, 1) := by decide +kernel
theorem dJ6_bitCount_0f7a4_4 : decode cJ6_bitCount_0f7a4 4 = .ok (.ldc_w 265, 3) := by decide +kernel
theorem dJ6_bitCount_0f7a4_7 : decode cJ6_bitCount_0f7a4 7 = .ok (.iand, 1) := by decide +kernel
theorem dJ6_bitCount_0f7a4_8 : decode cJ6_bitCount_0f7a4 8 = .ok (.isub, 1) := by decide +kernel
theorem dJ6_bitCount_0f7a4_9 : decode cJ6_bitCount_0f7a4 9 = .ok (.istore_n 0, 1) := by decide +kernel
theorem dJ6_bitCount_0f7a4_10 : decode cJ6_bitCount_0f7a4 10 = .ok (.iload_n 0, 1) := by decide +kernel
theorem dJ6_bitCount_0f7a4_11 : decode cJ6_bitCount_0f7a4 11 = .ok (.ldc_w 266, 3) := by decide +kernel
theorem dJ6_bitCount_0f7a4_14 : decode cJ6_bitCount_0f7a4 14 = .ok (.iand, 1) := by decide +kernel
theorem dJ6_bitCount_0f7a4_15 : decode cJ6_bitCount_0f7a4 15 = .ok (.iload_n 0, 1) := by decide +kernel
theorem dJ6_bitCount_0f7a4_16 : decode cJ6_bitCount_0f7a4 16 = .ok (.iconst 2, 1) := by decide +kernel
theorem dJ6_bitCount_0f7a4_17 : decode cJ6_bitCount_0f7a4 17 = .ok (.iushr, 1) := by decide +kernel
theorem dJ6_bitCount_0f7a4_18 : decode cJ6_bitCount_0f7a4 18 = .ok (.ldc_w 266, 3) := by decide +kernel
theorem dJ6_bitCount_0f7a4_21 : decode cJ6_bitCount_0f7a4 21 = .ok (.iand, 1) := by decide +kernel
theorem dJ6_bitCount_0f7a4_22 : decode cJ6_bitCount_0f7a4 22 = .ok (.iadd, 1) := by decide +kernel
theorem dJ6_bitCount_0f7a4_23 : decode cJ6_bitCount_0f7a4 23 = .ok (.istore_n 0, 1) := by decide +kernel
theorem dJ6_bitCount_0f7a4_24 : decode cJ6_bitCount_0f7a4 24 = .ok (.iload_n 0, 1) := by decide +kernel
theorem dJ6_bitCount_0f7a4_25 : decode cJ6_bitCount_0f7a4 25 = .ok (.iload_n 0, 1) := by decide +kernel
theorem dJ6_bitCount_0f7a4_26 : decode cJ6_bitCount_0f7a4 26 = .ok (.iconst 4, 1) := by decide +kernel
theorem dJ6_bitCount_0f7a4_27 : decode cJ6_bitCount_0f7a4 27 = .ok (.iushr, 1) := by decide +kernel
theorem dJ6_bitCount_0f7a4_28 : decode cJ6_bitCount_0f7a4 28 = .ok (.iadd, 1) := by decide +kernel
theorem dJ6_bitCount_0f7a4_29 : decode cJ6_bitCount_0f7a4 29 = .ok (.ldc_w 267, 3) := by decide +kernel
theorem dJ6_bitCount_0f7a4_32 : decode cJ6_bitCount_0f7a4 32 = .ok (.iand, 1) := by decide +kernel
theorem dJ6_bitCount_0f7a4_33 : decode cJ6_bitCount_0f7a4 33 = .ok (.istore_n 0, 1) := by decide +kernel
theorem dJ6_bitCount_0f7a4_34 : decode cJ6_bitCount_0f7a4 34 = .ok (.iload_n 0, 1) := by decide +kernel
theorem dJ6_bitCount_0f7a4_35 : decode cJ6_bitCount_0f7a4 35 = .ok (.iload_n 0, 1) := by decide +kernel
theorem dJ6_bitCount_0f7a4_36 : decode cJ6_bitCount_0f7a4 36 = .ok (.bipush 8, 2) := by decide +kernel
theorem dJ6_bitCount_0f7a4_38 : decode cJ6_bitCount_0f7a4 38 = .ok (.iushr, 1) := by decide +kernel
theorem dJ6_bitCount_0f7a4_39 : decode cJ6_bitCount_0f7a4 39 = .ok (.iadd, 1) := by decide +kernel
theorem dJ6_bitCount_0f7a4_40 : decode cJ6_bitCount_0f7a4 40 = .ok (.istore_n 0, 1) := by decide +kernel
theorem dJ6_bitCount_0f7a4_41 : decode cJ6_bitCount_0f7a4 41 = .ok (.iload_n 0, 1) := by decide +kernel
theorem dJ6_bitCount_0f7a4_42 : decode cJ6_bitCount_0f7a4 42 = .ok (.iload_n 0, 1) := by decide +kernel
theorem dJ6_bitCount_0f7a4_43 : decode cJ6_bitCount_0f7a4 43 = .ok (.bipush 16, 2) := by decide +kernel
theorem dJ6_bitCount_0f7a4_45 : decode cJ6_bitCount_0f7a4 45 = .ok (.iushr, 1) := by decide +kernel
theorem dJ6_bitCount_0f7a4_46 : decode cJ6_bitCount_0f7a4 46 = .ok (.iadd, 1) := by decide +kernel
theorem dJ6_bitCount_0f7a4_47 : decode cJ6_bitCount_0f7a4 47 = .ok (.istore_n 0, 1) := by decide +kernel
theorem dJ6_bitCount_0f7a4_48 : decode cJ6_bitCount_0f7a4 48 = .ok (.iload_n 0, 1) := by decide +kernel
theorem dJ6_bitCount_0f7a4_49 : decode cJ6_bitCount_0f7a4 49 = .ok (.bipush 63, 2) := by decide +kernel
theorem dJ6_bitCount_0f7a4_51 : decode cJ6_bitCount_0f7a4 51 = .ok (.iand, 1) := by decide +kernel
theorem dJ6_bitCount_0f7a4_52 : decode cJ6_bitCount_0f7a4 52 = .ok (.ireturn, 1) := by decide +kernel
theorem dJ9_floorDiv_f86c9_0 : decode cJ9_floorDiv_f86c9 0 = .ok (.lload_n 0, 1) := by decide +kernel
theorem dJ9_floorDiv_f86c9_1 : decode cJ9_floorDiv_f86c9 1 = .ok (.lload_n 2, 1) := by decide +kernel
theorem dJ9_floorDiv_f86c9_2 : decode cJ9_floorDiv_f86c9 2 = .ok (.ldiv, 1) := by decide +kernel
theorem dJ9_floorDiv_f86c9_3 : decode cJ9_floorDiv_f86c9 3 = .ok (.lstore 4, 2) := by decide +kernel
theorem dJ9_floorDiv_f86c9_5 : decode cJ9_floorDiv_f86c9 5 = .ok (.lload_n 0, 1) := by decide +kernel
theorem dJ9_floorDiv_f86c9_6 : decode cJ9_floorDiv_f86c9 6 = .ok (.lload_n 2, 1) := by decide +kernel
theorem dJ9_floorDiv_f86c9_7 : decode cJ9_floorDiv_f86c9 7 = .ok (.lxor, 1) := by decide +kernel
theorem dJ9_floorDiv_f86c9_8 : decode cJ9_floorDiv_f86c9 8 = .ok (.lconst 0, 1) := by decide +kernel
theorem dJ9_floorDiv_f86c9_9 : decode cJ9_floorDiv_f86c9 9 = .ok (.lcmp, 1) := by decide +kernel
theorem dJ9_floorDiv_f86c9_10 : decode cJ9_floorDiv_f86c9 10 = .ok (.ifCond .ge 17, 3) := by decide +kernel
theorem dJ9_floorDiv_f86c9_13 : decode cJ9_floorDiv_f86c9 13 = .ok (.lload 4, 2) := by decide +kernel
theorem dJ9_floorDiv_f86c9_15 : decode cJ9_floorDiv_f86c9 15 = .ok (.lload_n 2, 1) := by decide +kernel
theorem dJ9_floorDiv_f86c9_16 : decode cJ9_floorDiv_f86c9 16 = .ok (.lmul, 1) := by decide +kernel
theorem dJ9_floorDiv_f86c9_17 : decode cJ9_floorDiv_f86c9 17 = .ok (.lload_n 0, 1) := by decide +kernel
theorem dJ9_floorDiv_f86c9_18 : decode cJ9_floorDiv_f86c9 18 = .ok (.lcmp, 1) := by decide +kernel
theorem dJ9_floorDiv_f86c9_19 : decode cJ9_floorDiv_f86c9 19 = .ok (.ifCond .eq 8, 3) := by decide +kernel
theorem dJ9_floorDiv_f86c9_22 : decode cJ9_floorDiv_f86c9 22 = .ok (.lload 4, 2) := by decide +kernel
theorem dJ9_floorDiv_f86c9_24 : decode cJ9_floorDiv_f86c9 24 = .ok (.lconst 1, 1) := by decide +kernel
theorem dJ9_floorDiv_f86c9_25 : decode cJ9_floorDiv_f86c9 25 = .ok (.lsub, 1) := by decide +kernel
theorem dJ9_floorDiv_f86c9_26 : decode cJ9_floorDiv_f86c9 26 = .ok (.lreturn, 1) := by decide +kernel
theorem dJ9_floorDiv_f86c9_27 : decode cJ9_floorDiv_f86c9 27 = .ok (.lload 4, 2) := by decide +kernel
theorem dJ9_floorDiv_f86c9_29 : decode cJ9_floorDiv_f86c9 29 = .ok (.lreturn, 1) := by decide +kernel
theorem dJ9_floorMod_f86c9_0 : decode cJ9_floorMod_f86c9 0 = .ok (.lload_n 0, 1) := by decide +kernel
theorem dJ9_floorMod_f86c9_1 : decode cJ9_floorMod_f86c9 1 = .ok (.lload_n 2, 1) := by decide +kernel
theorem dJ9_floorMod_f86c9_2 : decode cJ9_floorMod_f86c9 2 = .ok (.lrem, 1) := by decide +kernel
theorem dJ9_floorMod_f86c9_3 : decode cJ9_floorMod_f86c9 3 = .ok (.lstore 4, 2) := by decide +kernel
theorem dJ9_floorMod_f86c9_5 : decode cJ9_floorMod_f86c9 5 = .ok (.lload_n 0, 1) := by decide +kernel
theorem dJ9_floorMod_f86c9_6 : decode cJ9_floorMod_f86c9 6 = .ok (.lload_n 2, 1) := by decide +kernel
theorem dJ9_floorMod_f86c9_7 : decode cJ9_floorMod_f86c9 7 = .ok (.lxor, 1) := by decide +kernel
theorem dJ9_floorMod_f86c9_8 : decode cJ9_floorMod_f86c9 8 = .ok (.lconst 0, 1) := by decide +kernel
theorem dJ9_floorMod_f86c9_9 : decode cJ9_floorMod_f86c9 9 = .ok (.lcmp, 1) := by decide +kernel
theorem dJ9_floorMod_f86c9_10 : decode cJ9_floorMod_f86c9 10 = .ok (.ifCond .ge 15, 3) := by decide +kernel
theorem dJ9_floorMod_f86c9_13 : decode cJ9_floorMod_f86c9 13 = .ok (.lload 4, 2) := by decide +kernel
theorem dJ9_floorMod_f86c9_15 : decode cJ9_floorMod_f86c9 15 = .ok (.lconst 0, 1) := by decide +kernel
theorem dJ9_floorMod_f86c9_16 : decode cJ9_floorMod_f86c9 16 = .ok (.lcmp, 1) := by decide +kernel
theorem dJ9_floorMod_f86c9_17 : decode cJ9_floorMod_f86c9 17 = .ok (.ifCond .eq 8, 3) := by decide +kernel
theorem dJ9_floorMod_f86c9_20 : decode cJ9_floorMod_f86c9 20 = .ok (.lload 4, 2) := by decide +kernel
theorem dJ9_floorMod_f86c9_22 : decode cJ9_floorMod_f86c9 22 = .ok (.lload_n 2, 1) := by decide +kernel
theorem dJ9_floorMod_f86c9_23 : decode cJ9_floorMod_f86c9 23 = .ok (.ladd, 1) := by decide +kernel
theorem dJ9_floorMod_f86c9_24 : decode cJ9_floorMod_f86c9 24 = .ok (.lreturn, 1) := by decide +kernel
theorem dJ9_floorMod_f86c9_25 : decode cJ9_floorMod_f86c9 25 = .ok (.lload 4, 2) := by decide +kernel
theorem dJ9_floorMod_f86c9_27 : decode cJ9_floorMod_f86c9 27 = .ok (.lreturn, 1) := by decide +kernel
theorem dJ9_abs_067f4_0 : decode cJ9_abs_067f4 0 = .ok (.lload_n 0, 1) := by decide +kernel
theorem dJ9_abs_067f4_1 : decode cJ9_abs_067f4 1 = .ok (.lconst 0, 1) := by decide +kernel
theorem dJ9_abs_067f4_2 : decode cJ9_abs_067f4 2 = .ok (.lcmp, 1) := by decide +kernel
theorem dJ9_abs_067f4_3 : decode cJ9_abs_067f4 3 = .ok (.ifCond .ge 8, 3) := by decide +kernel
theorem dJ9_abs_067f4_6 : decode cJ9_abs_067f4 6 = .ok (.lload_n 0, 1) := by decide +kernel
end
section
theorem dJ9_abs_067f4_7 : decode cJ9_abs_067f4 7 = .ok (.lneg, 1) := by decide +kernel
theorem dJ9_abs_067f4_8 : decode cJ9_abs_067f4 8 = .ok (.goto 4, 3) := by decide +kernel
theorem dJ9_abs_067f4_11 : decode cJ9_abs_067f4 11 = .ok (.lload_n 0, 1) := by decide +kernel
theorem dJ9_abs_067f4_12 : decode cJ9_abs_067f4 12 = .ok (.lreturn, 1) := by decide +kernel
theorem dJ9_max_7cf53_0 : decode cJ9_max_7cf53 0 = .ok (.iload_n 0, 1) := by decide +kernel
theorem dJ9_max_7cf53_1 : decode cJ9_max_7cf53 1 = .ok (.iload_n 1, 1) := by decide +kernel
theorem dJ9_max_7cf53_2 : decode cJ9_max_7cf53 2 = .ok (.if_icmp .lt 7, 3) := by decide +kernel
theorem dJ9_max_7cf53_5 : decode cJ9_max_7cf53 5 = .ok (.iload_n 0, 1) := by decide +kernel
theorem dJ9_max_7cf53_6 : decode cJ9_max_7cf53 6 = .ok (.goto 4, 3) := by decide +kernel
theorem dJ9_max_7cf53_9 : decode cJ9_max_7cf53 9 = .ok (.iload_n 1, 1) := by decide +kernel
theorem dJ9_max_7cf53_10 : decode cJ9_max_7cf53 10 = .ok (.ireturn, 1) := by decide +kernel
theorem dJ9_min_7cf53_0 : decode cJ9_min_7cf53 0 = .ok (.iload_n 0, 1) := by decide +kernel
theorem dJ9_min_7cf53_1 : decode cJ9_min_7cf53 1 = .ok (.iload_n 1, 1) := by decide +kernel
theorem dJ9_min_7cf53_2 : decode cJ9_min_7cf53 2 = .ok (.if_icmp .gt 7, 3) := by decide +kernel
theorem dJ9_min_7cf53_5 : decode cJ9_min_7cf53 5 = .ok (.iload_n 0, 1) := by decide +kernel
theorem dJ9_min_7cf53_6 : decode cJ9_min_7cf53 6 = .ok (.goto 4, 3) := by decide +kernel
theorem dJ9_min_7cf53_9 : decode cJ9_min_7cf53 9 = .ok (.iload_n 1, 1) := by decide +kernel
theorem dJ9_min_7cf53_10 : decode cJ9_min_7cf53 10 = .ok (.ireturn, 1) := by decide +kernel
theorem dJxa1e45_init_da8c8_0 : decode cJxa1e45_init_da8c8 0 = .ok (.aload_n 0, 1) := by decide +kernel
theorem dJxa1e45_init_da8c8_1 : decode cJxa1e45_init_da8c8 1 = .ok (.invokespecial 1, 3) := by decide +kernel
theorem dJxa1e45_init_da8c8_4 : decode cJxa1e45_init_da8c8 4 = .ok (.return_, 1) := by decide +kernel
theorem dJxc12de_init_da8c8_0 : decode cJxc12de_init_da8c8 0 = .ok (.aload_n 0, 1) := by decide +kernel
theorem dJxc12de_init_da8c8_1 : decode cJxc12de_init_da8c8 1 = .ok (.invokespecial 1, 3) := by decide +kernel
theorem dJxc12de_init_da8c8_4 : decode cJxc12de_init_da8c8 4 = .ok (.aload_n 0, 1) := by decide +kernel
theorem dJxc12de_init_da8c8_5 : decode cJxc12de_init_da8c8 5 = .ok (.iconst 0, 1) := by decide +kernel
theorem dJxc12de_init_da8c8_6 : decode cJxc12de_init_da8c8 6 = .ok (.putfield 7, 3) := by decide +kernel
theorem dJxc12de_init_da8c8_9 : decode cJxc12de_init_da8c8 9 = .ok (.return_, 1) := by decide +kernel
theorem dJx4a65c_init_da8c8_0 : decode cJx4a65c_init_da8c8 0 = .ok (.aload_n 0, 1) := by decide +kernel
theorem dJx4a65c_init_da8c8_1 : decode cJx4a65c_init_da8c8 1 = .ok (.invokespecial 1, 3) := by decide +kernel
theorem dJx4a65c_init_da8c8_4 : decode cJx4a65c_init_da8c8 4 = .ok (.aload_n 0, 1) := by decide +kernel
theorem dJx4a65c_init_da8c8_5 : decode cJx4a65c_init_da8c8 5 = .ok (.getstatic 39, 3) := by decide +kernel
theorem dJx4a65c_init_da8c8_8 : decode cJx4a65c_init_da8c8 8 = .ok (.putfield 9, 3) := by decide +kernel
theorem dJx4a65c_init_da8c8_11 : decode cJx4a65c_init_da8c8 11 = .ok (.return_, 1) := by decide +kernel
theorem dJx4a65c_grow_92f84_0 : decode cJx4a65c_grow_92f84 0 = .ok (.aload_n 0, 1) := by decide +kernel
theorem dJx4a65c_grow_92f84_1 : decode cJx4a65c_grow_92f84 1 = .ok (.getfield 9, 3) := by decide +kernel
theorem dJx4a65c_grow_92f84_4 : decode cJx4a65c_grow_92f84 4 = .ok (.arraylength, 1) := by decide +kernel
theorem dJx4a65c_grow_92f84_5 : decode cJx4a65c_grow_92f84 5 = .ok (.istore_n 2, 1) := by decide +kernel
theorem dJx4a65c_grow_92f84_6 : decode cJx4a65c_grow_92f84 6 = .ok (.iload_n 2, 1) := by decide +kernel
theorem dJx4a65c_grow_92f84_7 : decode cJx4a65c_grow_92f84 7 = .ok (.ifCond .gt 13, 3) := by decide +kernel
theorem dJx4a65c_grow_92f84_10 : decode cJx4a65c_grow_92f84 10 = .ok (.aload_n 0, 1) := by decide +kernel
theorem dJx4a65c_grow_92f84_11 : decode cJx4a65c_grow_92f84 11 = .ok (.getfield 9, 3) := by decide +kernel
theorem dJx4a65c_grow_92f84_14 : decode cJx4a65c_grow_92f84 14 = .ok (.getstatic 39, 3) := by decide +kernel
theorem dJx4a65c_grow_92f84_17 : decode cJx4a65c_grow_92f84 17 = .ok (.if_acmp .eq 28, 3) := by decide +kernel
theorem dJx4a65c_grow_92f84_20 : decode cJx4a65c_grow_92f84 20 = .ok (.iload_n 2, 1) := by decide +kernel
theorem dJx4a65c_grow_92f84_21 : decode cJx4a65c_grow_92f84 21 = .ok (.iload_n 1, 1) := by decide +kernel
theorem dJx4a65c_grow_92f84_22 : decode cJx4a65c_grow_92f84 22 = .ok (.iload_n 2, 1) := by decide +kernel
theorem dJx4a65c_grow_92f84_23 : decode cJx4a65c_grow_92f84 23 = .ok (.isub, 1) := by decide +kernel
theorem dJx4a65c_grow_92f84_24 : decode cJx4a65c_grow_92f84 24 = .ok (.iload_n 2, 1) := by decide +kernel
theorem dJx4a65c_grow_92f84_25 : decode cJx4a65c_grow_92f84 25 = .ok (.iconst 1, 1) := by decide +kernel
theorem dJx4a65c_grow_92f84_26 : decode cJx4a65c_grow_92f84 26 = .ok (.ishr, 1) := by decide +kernel
theorem dJx4a65c_grow_92f84_27 : decode cJx4a65c_grow_92f84 27 = .ok (.invokestatic 73, 3) := by decide +kernel
theorem dJx4a65c_grow_92f84_30 : decode cJx4a65c_grow_92f84 30 = .ok (.istore_n 3, 1) := by decide +kernel
theorem dJx4a65c_grow_92f84_31 : decode cJx4a65c_grow_92f84 31 = .ok (.aload_n 0, 1) := by decide +kernel
theorem dJx4a65c_grow_92f84_32 : decode cJx4a65c_grow_92f84 32 = .ok (.aload_n 0, 1) := by decide +kernel
theorem dJx4a65c_grow_92f84_33 : decode cJx4a65c_grow_92f84 33 = .ok (.getfield 9, 3) := by decide +kernel
theorem dJx4a65c_grow_92f84_36 : decode cJx4a65c_grow_92f84 36 = .ok (.iload_n 3, 1) := by decide +kernel
theorem dJx4a65c_grow_92f84_37 : decode cJx4a65c_grow_92f84 37 = .ok (.invokestatic 66, 3) := by decide +kernel
theorem dJx4a65c_grow_92f84_40 : decode cJx4a65c_grow_92f84 40 = .ok (.dup_x1, 1) := by decide +kernel
theorem dJx4a65c_grow_92f84_41 : decode cJx4a65c_grow_92f84 41 = .ok (.putfield 9, 3) := by decide +kernel
theorem dJx4a65c_grow_92f84_44 : decode cJx4a65c_grow_92f84 44 = .ok (.areturn, 1) := by decide +kernel
theorem dJx4a65c_grow_92f84_45 : decode cJx4a65c_grow_92f84 45 = .ok (.aload_n 0, 1) := by decide +kernel
theorem dJx4a65c_grow_92f84_46 : decode cJx4a65c_grow_92f84 46 = .ok (.bipush 10, 2) := by decide +kernel
theorem dJx4a65c_grow_92f84_48 : decode cJx4a65c_grow_92f84 48 = .ok (.iload_n 1, 1) := by decide +kernel
theorem dJx4a65c_grow_92f84_49 : decode cJx4a65c_grow_92f84 49 = .ok (.invokestatic 79, 3) := by decide +kernel
theorem dJx4a65c_grow_92f84_52 : decode cJx4a65c_grow_92f84 52 = .ok (.anewarray 7, 3) := by decide +kernel
theorem dJx4a65c_grow_92f84_55 : decode cJx4a65c_grow_92f84 55 = .ok (.dup_x1, 1) := by decide +kernel
theorem dJx4a65c_grow_92f84_56 : decode cJx4a65c_grow_92f84 56 = .ok (.putfield 9, 3) := by decide +kernel
theorem dJx4a65c_grow_92f84_59 : decode cJx4a65c_grow_92f84 59 = .ok (.areturn, 1) := by decide +kernel
theorem dJx4a65c_grow_d5877_0 : decode cJx4a65c_grow_d5877 0 = .ok (.aload_n 0, 1) := by decide +kernel
theorem dJx4a65c_grow_d5877_1 : decode cJx4a65c_grow_d5877 1 = .ok (.aload_n 0, 1) := by decide +kernel
theorem dJx4a65c_grow_d5877_2 : decode cJx4a65c_grow_d5877 2 = .ok (.getfield 48, 3) := by decide +kernel
theorem dJx4a65c_grow_d5877_5 : decode cJx4a65c_grow_d5877 5 = .ok (.iconst 1, 1) := by decide +kernel
theorem dJx4a65c_grow_d5877_6 : decode cJx4a65c_grow_d5877 6 = .ok (.iadd, 1) := by decide +kernel
theorem dJx4a65c_grow_d5877_7 : decode cJx4a65c_grow_d5877 7 = .ok (.invokevirtual 69, 3) := by decide +kernel
theorem dJx4a65c_grow_d5877_10 : decode cJx4a65c_grow_d5877 10 = .ok (.areturn, 1) := by decide +kernel
theorem dJx4a65c_size_8abf5_0 : decode cJx4a65c_size_8abf5 0 = .ok (.aload_n 0, 1) := by decide +kernel
theorem dJx4a65c_size_8abf5_1 : decode cJx4a65c_size_8abf5 1 = .ok (.getfield 48, 3) := by decide +kernel
theorem dJx4a65c_size_8abf5_4 : decode cJx4a65c_size_8abf5 4 = .ok (.ireturn, 1) := by decide +kernel
theorem dJx4a65c_elementData_915e3_0 : decode cJx4a65c_elementData_915e3 0 = .ok (.aload_n 0, 1) := by decide +kernel
theorem dJx4a65c_elementData_915e3_1 : decode cJx4a65c_elementData_915e3 1 = .ok (.getfield 9, 3) := by decide +kernel
theorem dJx4a65c_elementData_915e3_4 : decode cJx4a65c_elementData_915e3 4 = .ok (.iload_n 1, 1) := by decide +kernel
theorem dJx4a65c_elementData_915e3_5 : decode cJx4a65c_elementData_915e3 5 = .ok (.aaload, 1) := by decide +kernel
theorem dJx4a65c_elementData_915e3_6 : decode cJx4a65c_elementData_915e3 6 = .ok (.areturn, 1) := by decide +kernel
theorem dJx4a65c_get_915e3_0 : decode cJx4a65c_get_915e3 0 = .ok (.iload_n 1, 1) := by decide +kernel
theorem dJx4a65c_get_915e3_1 : decode cJx4a65c_get_915e3 1 = .ok (.aload_n 0, 1) := by decide +kernel
theorem dJx4a65c_get_915e3_2 : decode cJx4a65c_get_915e3 2 = .ok (.getfield 48, 3) := by decide +kernel
theorem dJx4a65c_get_915e3_5 : decode cJx4a65c_get_915e3 5 = .ok (.invokestatic 118, 3) := by decide +kernel
theorem dJx4a65c_get_915e3_8 : decode cJx4a65c_get_915e3 8 = .ok (.pop, 1) := by decide +kernel
theorem dJx4a65c_get_915e3_9 : decode cJx4a65c_get_915e3 9 = .ok (.aload_n 0, 1) := by decide +kernel
theorem dJx4a65c_get_915e3_10 : decode cJx4a65c_get_915e3 10 = .ok (.iload_n 1, 1) := by decide +kernel
theorem dJx4a65c_get_915e3_11 : decode cJx4a65c_get_915e3 11 = .ok (.invokevirtual 123, 3) := by decide +kernel
theorem dJx4a65c_get_915e3_14 : decode cJx4a65c_get_915e3 14 = .ok (.areturn, 1) := by decide +kernel
theorem dJx4a65c_add_72be8_0 : decode cJx4a65c_add_72be8 0 = .ok (.iload_n 3, 1) := by decide +kernel
theorem dJx4a65c_add_72be8_1 : decode cJx4a65c_add_72be8 1 = .ok (.aload_n 2, 1) := by decide +kernel
theorem dJx4a65c_add_72be8_2 : decode cJx4a65c_add_72be8 2 = .ok (.arraylength, 1) := by decide +kernel
theorem dJx4a65c_add_72be8_3 : decode cJx4a65c_add_72be8 3 = .ok (.if_icmp .ne 8, 3) := by decide +kernel
theorem dJx4a65c_add_72be8_6 : decode cJx4a65c_add_72be8 6 = .ok (.aload_n 0, 1) := by decide +kernel
theorem dJx4a65c_add_72be8_7 : decode cJx4a65c_add_72be8 7 = .ok (.invokevirtual 129, 3) := by decide +kernel
theorem dJx4a65c_add_72be8_10 : decode cJx4a65c_add_72be8 10 = .ok (.astore_n 2, 1) := by decide +kernel
theorem dJx4a65c_add_72be8_11 : decode cJx4a65c_add_72be8 11 = .ok (.aload_n 2, 1) := by decide +kernel
theorem dJx4a65c_add_72be8_12 : decode cJx4a65c_add_72be8 12 = .ok (.iload_n 3, 1) := by decide +kernel
theorem dJx4a65c_add_72be8_13 : decode cJx4a65c_add_72be8 13 = .ok (.aload_n 1, 1) := by decide +kernel
theorem dJx4a65c_add_72be8_14 : decode cJx4a65c_add_72be8 14 = .ok (.aastore, 1) := by decide +kernel
theorem dJx4a65c_add_72be8_15 : decode cJx4a65c_add_72be8 15 = .ok (.aload_n 0, 1) := by decide +kernel
theorem dJx4a65c_add_72be8_16 : decode cJx4a65c_add_72be8 16 = .ok (.iload_n 3, 1) := by decide +kernel
theorem dJx4a65c_add_72be8_17 : decode cJx4a65c_add_72be8 17 = .ok (.iconst 1, 1) := by decide +kernel
theorem dJx4a65c_add_72be8_18 : decode cJx4a65c_add_72be8 18 = .ok (.iadd, 1) := by decide +kernel
theorem dJx4a65c_add_72be8_19 : decode cJx4a65c_add_72be8 19 = .ok (.putfield 48, 3) := by decide +kernel
theorem dJx4a65c_add_72be8_22 : decode cJx4a65c_add_72be8 22 = .ok (.return_, 1) := by decide +kernel
theorem dJx4a65c_add_9ea2d_0 : decode cJx4a65c_add_9ea2d 0 = .ok (.aload_n 0, 1) := by decide +kernel
theorem dJx4a65c_add_9ea2d_1 : decode cJx4a65c_add_9ea2d 1 = .ok (.dup, 1) := by decide +kernel
theorem dJx4a65c_add_9ea2d_2 : decode cJx4a65c_add_9ea2d 2 = .ok (.getfield 63, 3) := by decide +kernel
theorem dJx4a65c_add_9ea2d_5 : decode cJx4a65c_add_9ea2d 5 = .ok (.iconst 1, 1) := by decide +kernel
theorem dJx4a65c_add_9ea2d_6 : decode cJx4a65c_add_9ea2d 6 = .ok (.iadd, 1) := by decide +kernel
theorem dJx4a65c_add_9ea2d_7 : decode cJx4a65c_add_9ea2d 7 = .ok (.putfield 63, 3) := by decide +kernel
theorem dJx4a65c_add_9ea2d_10 : decode cJx4a65c_add_9ea2d 10 = .ok (.aload_n 0, 1) := by decide +kernel
theorem dJx4a65c_add_9ea2d_11 : decode cJx4a65c_add_9ea2d 11 = .ok (.aload_n 1, 1) := by decide +kernel
theorem dJx4a65c_add_9ea2d_12 : decode cJx4a65c_add_9ea2d 12 = .ok (.aload_n 0, 1) := by decide +kernel
theorem dJx4a65c_add_9ea2d_13 : decode cJx4a65c_add_9ea2d 13 = .ok (.getfield 9, 3) := by decide +kernel
theorem dJx4a65c_add_9ea2d_16 : decode cJx4a65c_add_9ea2d 16 = .ok (.aload_n 0, 1) := by decide +kernel
theorem dJx4a65c_add_9ea2d_17 : decode cJx4a65c_add_9ea2d 17 = .ok (.getfield 48, 3) := by decide +kernel
theorem dJx4a65c_add_9ea2d_20 : decode cJx4a65c_add_9ea2d 20 = .ok (.invokevirtual 131, 3) := by decide +kernel
theorem dJx4a65c_add_9ea2d_23 : decode cJx4a65c_add_9ea2d 23 = .ok (.iconst 1, 1) := by decide +kernel
theorem dJx4a65c_add_9ea2d_24 : decode cJx4a65c_add_9ea2d 24 = .ok (.ireturn, 1) := by decide +kernel
theorem dJ7_copyOf_1904c_0 : decode cJ7_copyOf_1904c 0 = .ok (.aload_n 0, 1) := by decide +kernel
theorem dJ7_copyOf_1904c_1 : decode cJ7_copyOf_1904c 1 = .ok (.iload_n 1, 1) := by decide +kernel
theorem dJ7_copyOf_1904c_2 : decode cJ7_copyOf_1904c 2 = .ok (.aload_n 0, 1) := by decide +kernel
theorem dJ7_copyOf_1904c_3 : decode cJ7_copyOf_1904c 3 = .ok (.invokevirtual 86, 3) := by decide +kernel
theorem dJ7_copyOf_1904c_6 : decode cJ7_copyOf_1904c 6 = .ok (.invokestatic 300, 3) := by decide +kernel
theorem dJ7_copyOf_1904c_9 : decode cJ7_copyOf_1904c 9 = .ok (.areturn, 1) := by decide +kernel
theorem dJ7_copyOf_6403c_0 : decode cJ7_copyOf_6403c 0 = .ok (.aload_n 2, 1) := by decide +kernel
theorem dJ7_copyOf_6403c_1 : decode cJ7_copyOf_6403c 1 = .ok (.ldc 110, 2) := by decide +kernel
theorem dJ7_copyOf_6403c_3 : decode cJ7_copyOf_6403c 3 = .ok (.if_acmp .ne 10, 3) := by decide +kernel
theorem dJ7_copyOf_6403c_6 : decode cJ7_copyOf_6403c 6 = .ok (.iload_n 1, 1) := by decide +kernel
theorem dJ7_copyOf_6403c_7 : decode cJ7_copyOf_6403c 7 = .ok (.anewarray 2, 3) := by decide +kernel
theorem dJ7_copyOf_6403c_10 : decode cJ7_copyOf_6403c 10 = .ok (.goto 14, 3) := by decide +kernel
theorem dJ7_copyOf_6403c_13 : decode cJ7_copyOf_6403c 13 = .ok (.aload_n 2, 1) := by decide +kernel
theorem dJ7_copyOf_6403c_14 : decode cJ7_copyOf_6403c 14 = .ok (.invokevirtual 90, 3) := by decide +kernel
theorem dJ7_copyOf_6403c_17 : decode cJ7_copyOf_6403c 17 = .ok (.iload_n 1, 1) := by decide +kernel
theorem dJ7_copyOf_6403c_18 : decode cJ7_copyOf_6403c 18 = .ok (.invokestatic 95, 3) := by decide +kernel
theorem dJ7_copyOf_6403c_21 : decode cJ7_copyOf_6403c 21 = .ok (.checkcast 110, 3) := by decide +kernel
theorem dJ7_copyOf_6403c_24 : decode cJ7_copyOf_6403c 24 = .ok (.astore_n 3, 1) := by decide +kernel
theorem dJ7_copyOf_6403c_25 : decode cJ7_copyOf_6403c 25 = .ok (.aload_n 0, 1) := by decide +kernel
theorem dJ7_copyOf_6403c_26 : decode cJ7_copyOf_6403c 26 = .ok (.iconst 0, 1) := by decide +kernel
theorem dJ7_copyOf_6403c_27 : decode cJ7_copyOf_6403c 27 = .ok (.aload_n 3, 1) := by decide +kernel
theorem dJ7_copyOf_6403c_28 : decode cJ7_copyOf_6403c 28 = .ok (.iconst 0, 1) := by decide +kernel
theorem dJ7_copyOf_6403c_29 : decode cJ7_copyOf_6403c 29 = .ok (.aload_n 0, 1) := by decide +kernel
theorem dJ7_copyOf_6403c_30 : decode cJ7_copyOf_6403c 30 = .ok (.arraylength, 1) := by decide +kernel
theorem dJ7_copyOf_6403c_31 : decode cJ7_copyOf_6403c 31 = .ok (.iload_n 1, 1) := by decide +kernel
theorem dJ7_copyOf_6403c_32 : decode cJ7_copyOf_6403c 32 = .ok (.invokestatic 304, 3) := by decide +kernel
theorem dJ7_copyOf_6403c_35 : decode cJ7_copyOf_6403c 35 = .ok (.invokestatic 150, 3) := by decide +kernel
theorem dJ7_copyOf_6403c_38 : decode cJ7_copyOf_6403c 38 = .ok (.aload_n 3, 1) := by decide +kernel
theorem dJ7_copyOf_6403c_39 : decode cJ7_copyOf_6403c 39 = .ok (.areturn, 1) := by decide +kernel
theorem dJ15_checkIndex_7cf53_0 : decode cJ15_checkIndex_7cf53 0 = .ok (.iload_n 0, 1) := by decide +kernel
theorem dJ15_checkIndex_7cf53_1 : decode cJ15_checkIndex_7cf53 1 = .ok (.iload_n 1, 1) := by decide +kernel
theorem dJ15_checkIndex_7cf53_2 : decode cJ15_checkIndex_7cf53 2 = .ok (.aconst_null, 1) := by decide +kernel
theorem dJ15_checkIndex_7cf53_3 : decode cJ15_checkIndex_7cf53 3 = .ok (.invokestatic 105, 3) := by decide +kernel
theorem dJ15_checkIndex_7cf53_6 : decode cJ15_checkIndex_7cf53 6 = .ok (.ireturn, 1) := by decide +kernel
theorem dJ8_newLength_cabcc_0 : decode cJ8_newLength_cabcc 0 = .ok (.iload_n 0, 1) := by decide +kernel
theorem dJ8_newLength_cabcc_1 : decode cJ8_newLength_cabcc 1 = .ok (.iload_n 1, 1) := by decide +kernel
theorem dJ8_newLength_cabcc_2 : decode cJ8_newLength_cabcc 2 = .ok (.iload_n 2, 1) := by decide +kernel
theorem dJ8_newLength_cabcc_3 : decode cJ8_newLength_cabcc 3 = .ok (.invokestatic 194, 3) := by decide +kernel
theorem dJ8_newLength_cabcc_6 : decode cJ8_newLength_cabcc 6 = .ok (.iadd, 1) := by decide +kernel
theorem dJ8_newLength_cabcc_7 : decode cJ8_newLength_cabcc 7 = .ok (.istore_n 3, 1) := by decide +kernel
theorem dJ8_newLength_cabcc_8 : decode cJ8_newLength_cabcc 8 = .ok (.iconst 0, 1) := by decide +kernel
theorem dJ8_newLength_cabcc_9 : decode cJ8_newLength_cabcc 9 = .ok (.iload_n 3, 1) := by decide +kernel
theorem dJ8_newLength_cabcc_10 : decode cJ8_newLength_cabcc 10 = .ok (.if_icmp .ge 11, 3) := by decide +kernel
theorem dJ8_newLength_cabcc_13 : decode cJ8_newLength_cabcc 13 = .ok (.iload_n 3, 1) := by decide +kernel
theorem dJ8_newLength_cabcc_14 : decode cJ8_newLength_cabcc 14 = .ok (.ldc 200, 2) := by decide +kernel
theorem dJ8_newLength_cabcc_16 : decode cJ8_newLength_cabcc 16 = .ok (.if_icmp .gt 5, 3) := by decide +kernel
theorem dJ8_newLength_cabcc_19 : decode cJ8_newLength_cabcc 19 = .ok (.iload_n 3, 1) := by decide +kernel
theorem dJ8_newLength_cabcc_20 : decode cJ8_newLength_cabcc 20 = .ok (.ireturn, 1) := by decide +kernel
theorem dJ8_newLength_cabcc_21 : decode cJ8_newLength_cabcc 21 = .ok (.iload_n 0, 1) := by decide +kernel
theorem dJ8_newLength_cabcc_22 : decode cJ8_newLength_cabcc 22 = .ok (.iload_n 1, 1) := by decide +kernel
theorem dJ8_newLength_cabcc_23 : decode cJ8_newLength_cabcc 23 = .ok (.invokestatic 201, 3) := by decide +kernel
theorem dJ8_newLength_cabcc_26 : decode cJ8_newLength_cabcc 26 = .ok (.ireturn, 1) := by decide +kernel
theorem dJ8_hugeLength_7cf53_0 : decode cJ8_hugeLength_7cf53 0 = .ok (.iload_n 0, 1) := by decide +kernel
theorem dJ8_hugeLength_7cf53_1 : decode cJ8_hugeLength_7cf53 1 = .ok (.iload_n 1, 1) := by decide +kernel
theorem dJ8_hugeLength_7cf53_2 : decode cJ8_hugeLength_7cf53 2 = .ok (.iadd, 1) := by decide +kernel
theorem dJ8_hugeLength_7cf53_3 : decode cJ8_hugeLength_7cf53 3 = .ok (.istore_n 2, 1) := by decide +kernel
theorem dJ8_hugeLength_7cf53_4 : decode cJ8_hugeLength_7cf53 4 = .ok (.iload_n 2, 1) := by decide +kernel
theorem dJ8_hugeLength_7cf53_5 : decode cJ8_hugeLength_7cf53 5 = .ok (.ifCond .ge 44, 3) := by decide +kernel
theorem dJ8_hugeLength_7cf53_8 : decode cJ8_hugeLength_7cf53 8 = .ok (.new 204, 3) := by decide +kernel
theorem dJ8_hugeLength_7cf53_11 : decode cJ8_hugeLength_7cf53 11 = .ok (.dup, 1) := by decide +kernel
theorem dJ8_hugeLength_7cf53_12 : decode cJ8_hugeLength_7cf53 12 = .ok (.new 89, 3) := by decide +kernel
theorem dJ8_hugeLength_7cf53_15 : decode cJ8_hugeLength_7cf53 15 = .ok (.dup, 1) := by decide +kernel
theorem dJ8_hugeLength_7cf53_16 : decode cJ8_hugeLength_7cf53 16 = .ok (.invokespecial 91, 3) := by decide +kernel
theorem dJ8_hugeLength_7cf53_19 : decode cJ8_hugeLength_7cf53 19 = .ok (.ldc 206, 2) := by decide +kernel
theorem dJ8_hugeLength_7cf53_21 : decode cJ8_hugeLength_7cf53 21 = .ok (.invokevirtual 94, 3) := by decide +kernel
theorem dJ8_hugeLength_7cf53_24 : decode cJ8_hugeLength_7cf53 24 = .ok (.iload_n 0, 1) := by decide +kernel
theorem dJ8_hugeLength_7cf53_25 : decode cJ8_hugeLength_7cf53 25 = .ok (.invokevirtual 98, 3) := by decide +kernel
theorem dJ8_hugeLength_7cf53_28 : decode cJ8_hugeLength_7cf53 28 = .ok (.ldc 208, 2) := by decide +kernel
theorem dJ8_hugeLength_7cf53_30 : decode cJ8_hugeLength_7cf53 30 = .ok (.invokevirtual 94, 3) := by decide +kernel
theorem dJ8_hugeLength_7cf53_33 : decode cJ8_hugeLength_7cf53 33 = .ok (.iload_n 1, 1) := by decide +kernel
theorem dJ8_hugeLength_7cf53_34 : decode cJ8_hugeLength_7cf53 34 = .ok (.invokevirtual 98, 3) := by decide +kernel
theorem dJ8_hugeLength_7cf53_37 : decode cJ8_hugeLength_7cf53 37 = .ok (.ldc 210, 2) := by decide +kernel
theorem dJ8_hugeLength_7cf53_39 : decode cJ8_hugeLength_7cf53 39 = .ok (.invokevirtual 94, 3) := by decide +kernel
theorem dJ8_hugeLength_7cf53_42 : decode cJ8_hugeLength_7cf53 42 = .ok (.invokevirtual 101, 3) := by decide +kernel
theorem dJ8_hugeLength_7cf53_45 : decode cJ8_hugeLength_7cf53 45 = .ok (.invokespecial 212, 3) := by decide +kernel
theorem dJ8_hugeLength_7cf53_48 : decode cJ8_hugeLength_7cf53 48 = .ok (.athrow, 1) := by decide +kernel
theorem dJ8_hugeLength_7cf53_49 : decode cJ8_hugeLength_7cf53 49 = .ok (.iload_n 2, 1) := by decide +kernel
theorem dJ8_hugeLength_7cf53_50 : decode cJ8_hugeLength_7cf53 50 = .ok (.ldc 200, 2) := by decide +kernel
theorem dJ8_hugeLength_7cf53_52 : decode cJ8_hugeLength_7cf53 52 = .ok (.if_icmp .gt 6, 3) := by decide +kernel
theorem dJ8_hugeLength_7cf53_55 : decode cJ8_hugeLength_7cf53 55 = .ok (.ldc 200, 2) := by decide +kernel
theorem dJ8_hugeLength_7cf53_57 : decode cJ8_hugeLength_7cf53 57 = .ok (.ireturn, 1) := by decide +kernel
theorem dJ8_hugeLength_7cf53_58 : decode cJ8_hugeLength_7cf53 58 = .ok (.iload_n 2, 1) := by decide +kernel
theorem dJ8_hugeLength_7cf53_59 : decode cJ8_hugeLength_7cf53 59 = .ok (.ireturn, 1) := by decide +kernel
theorem dJ3_checkIndex_8e157_0 : decode cJ3_checkIndex_8e157 0 = .ok (.iload_n 0, 1) := by decide +kernel
theorem dJ3_checkIndex_8e157_1 : decode cJ3_checkIndex_8e157 1 = .ok (.ifCond .lt 8, 3) := by decide +kernel
theorem dJ3_checkIndex_8e157_4 : decode cJ3_checkIndex_8e157 4 = .ok (.iload_n 0, 1) := by decide +kernel
theorem dJ3_checkIndex_8e157_5 : decode cJ3_checkIndex_8e157 5 = .ok (.iload_n 1, 1) := by decide +kernel
theorem dJ3_checkIndex_8e157_6 : decode cJ3_checkIndex_8e157 6 = .ok (.if_icmp .lt 10, 3) := by decide +kernel
theorem dJ3_checkIndex_8e157_9 : decode cJ3_checkIndex_8e157 9 = .ok (.aload_n 2, 1) := by decide +kernel
theorem dJ3_checkIndex_8e157_10 : decode cJ3_checkIndex_8e157 10 = .ok (.iload_n 0, 1) := by decide +kernel
theorem dJ3_checkIndex_8e157_11 : decode cJ3_checkIndex_8e157 11 = .ok (.iload_n 1, 1) := by decide +kernel
theorem dJ3_checkIndex_8e157_12 : decode cJ3_checkIndex_8e157 12 = .ok (.invokestatic 95, 3) := by decide +kernel
theorem dJ3_checkIndex_8e157_15 : decode cJ3_checkIndex_8e157 15 = .ok (.athrow, 1) := by decide +kernel
theorem dJ3_checkIndex_8e157_16 : decode cJ3_checkIndex_8e157 16 = .ok (.iload_n 0, 1) := by decide +kernel
theorem dJ3_checkIndex_8e157_17 : decode cJ3_checkIndex_8e157 17 = .ok (.ireturn, 1) := by decide +kernel
theorem dL_below_0 : decode cL_below 0 = .ok (.iload_n 0, 1) := by decide +kernel
theorem dL_below_1 : decode cL_below 1 = .ok (.ldc 7, 2) := by decide +kernel
theorem dL_below_3 : decode cL_below 3 = .ok (.iand, 1) := by decide +kernel
theorem dL_below_4 : decode cL_below 4 = .ok (.iload_n 1, 1) := by decide +kernel
theorem dL_below_5 : decode cL_below 5 = .ok (.irem, 1) := by decide +kernel
theorem dL_below_6 : decode cL_below 6 = .ok (.ireturn, 1) := by decide +kernel
theorem dL_cell_0 : decode cL_cell 0 = .ok (.iload_n 1, 1) := by decide +kernel
theorem dL_cell_1 : decode cL_cell 1 = .ok (.aload_n 0, 1) := by decide +kernel
theorem dL_cell_2 : decode cL_cell 2 = .ok (.arraylength, 1) := by decide +kernel
theorem dL_cell_3 : decode cL_cell 3 = .ok (.if_icmp .ge 9, 3) := by decide +kernel
theorem dL_cell_6 : decode cL_cell 6 = .ok (.aload_n 0, 1) := by decide +kernel
theorem dL_cell_7 : decode cL_cell 7 = .ok (.iload_n 1, 1) := by decide +kernel
theorem dL_cell_8 : decode cL_cell 8 = .ok (.iaload, 1) := by decide +kernel
theorem dL_cell_9 : decode cL_cell 9 = .ok (.goto 9, 3) := by decide +kernel
theorem dL_cell_12 : decode cL_cell 12 = .ok (.ldc 8, 2) := by decide +kernel
theorem dL_cell_14 : decode cL_cell 14 = .ok (.iload_n 1, 1) := by decide +kernel
theorem dL_cell_15 : decode cL_cell 15 = .ok (.iconst 3, 1) := by decide +kernel
theorem dL_cell_16 : decode cL_cell 16 = .ok (.iadd, 1) := by decide +kernel
theorem dL_cell_17 : decode cL_cell 17 = .ok (.imul, 1) := by decide +kernel
theorem dL_cell_18 : decode cL_cell 18 = .ok (.ireturn, 1) := by decide +kernel
theorem dL_build_0 : decode cL_build 0 = .ok (.new 21, 3) := by decide +kernel
theorem dL_build_3 : decode cL_build 3 = .ok (.dup, 1) := by decide +kernel
theorem dL_build_4 : decode cL_build 4 = .ok (.invokespecial 23, 3) := by decide +kernel
theorem dL_build_7 : decode cL_build 7 = .ok (.astore 4, 2) := by decide +kernel
theorem dL_build_9 : decode cL_build 9 = .ok (.iconst 0, 1) := by decide +kernel
theorem dL_build_10 : decode cL_build 10 = .ok (.istore 5, 2) := by decide +kernel
theorem dL_build_12 : decode cL_build 12 = .ok (.iload 5, 2) := by decide +kernel
theorem dL_build_14 : decode cL_build 14 = .ok (.iload_n 2, 1) := by decide +kernel
theorem dL_build_15 : decode cL_build 15 = .ok (.if_icmp .ge 107, 3) := by decide +kernel
theorem dL_build_18 : decode cL_build 18 = .ok (.aload_n 0, 1) := by decide +kernel
theorem dL_build_19 : decode cL_build 19 = .ok (.invokevirtual 24, 3) := by decide +kernel
theorem dL_build_22 : decode cL_build 22 = .ok (.iload 5, 2) := by decide +kernel
theorem dL_build_24 : decode cL_build 24 = .ok (.if_icmp .eq 5, 3) := by decide +kernel
theorem dL_build_27 : decode cL_build 27 = .ok (.aconst_null, 1) := by decide +kernel
theorem dL_build_28 : decode cL_build 28 = .ok (.areturn, 1) := by decide +kernel
theorem dL_build_29 : decode cL_build 29 = .ok (.iload 5, 2) := by decide +kernel
theorem dL_build_31 : decode cL_build 31 = .ok (.ifCond .eq 19, 3) := by decide +kernel
theorem dL_build_34 : decode cL_build 34 = .ok (.aload_n 1, 1) := by decide +kernel
theorem dL_build_35 : decode cL_build 35 = .ok (.iload 5, 2) := by decide +kernel
theorem dL_build_37 : decode cL_build 37 = .ok (.invokestatic 30, 3) := by decide +kernel
theorem dL_build_40 : decode cL_build 40 = .ok (.bipush 9, 2) := by decide +kernel
theorem dL_build_42 : decode cL_build 42 = .ok (.ishr, 1) := by decide +kernel
theorem dL_build_43 : decode cL_build 43 = .ok (.iconst 4, 1) := by decide +kernel
theorem dL_build_44 : decode cL_build 44 = .ok (.invokestatic 34, 3) := by decide +kernel
theorem dL_build_47 : decode cL_build 47 = .ok (.ifCond .ne 7, 3) := by decide +kernel
theorem dL_build_50 : decode cL_build 50 = .ok (.iconst 1, 1) := by decide +kernel
theorem dL_build_51 : decode cL_build 51 = .ok (.goto 4, 3) := by decide +kernel
theorem dL_build_54 : decode cL_build 54 = .ok (.iconst 0, 1) := by decide +kernel
theorem dL_build_55 : decode cL_build 55 = .ok (.istore 6, 2) := by decide +kernel
theorem dL_build_57 : decode cL_build 57 = .ok (.aload_n 1, 1) := by decide +kernel
theorem dL_build_58 : decode cL_build 58 = .ok (.iload 5, 2) := by decide +kernel
theorem dL_build_60 : decode cL_build 60 = .ok (.invokestatic 30, 3) := by decide +kernel
theorem dL_build_63 : decode cL_build 63 = .ok (.iconst 2, 1) := by decide +kernel
theorem dL_build_64 : decode cL_build 64 = .ok (.ishr, 1) := by decide +kernel
theorem dL_build_65 : decode cL_build 65 = .ok (.sipush 199, 3) := by decide +kernel
theorem dL_build_68 : decode cL_build 68 = .ok (.invokestatic 34, 3) := by decide +kernel
theorem dL_build_71 : decode cL_build 71 = .ok (.bipush 99, 2) := by decide +kernel
theorem dL_build_73 : decode cL_build 73 = .ok (.isub, 1) := by decide +kernel
theorem dL_build_74 : decode cL_build 74 = .ok (.istore 7, 2) := by decide +kernel
theorem dL_build_76 : decode cL_build 76 = .ok (.aload_n 0, 1) := by decide +kernel
theorem dL_build_77 : decode cL_build 77 = .ok (.iload 5, 2) := by decide +kernel
theorem dL_build_79 : decode cL_build 79 = .ok (.iload 6, 2) := by decide +kernel
theorem dL_build_81 : decode cL_build 81 = .ok (.iload 7, 2) := by decide +kernel
theorem dL_build_83 : decode cL_build 83 = .ok (.invokevirtual 38, 3) := by decide +kernel
theorem dL_build_86 : decode cL_build 86 = .ok (.ifCond .eq 5, 3) := by decide +kernel
theorem dL_build_89 : decode cL_build 89 = .ok (.aconst_null, 1) := by decide +kernel
theorem dL_build_90 : decode cL_build 90 = .ok (.areturn, 1) := by decide +kernel
theorem dL_build_91 : decode cL_build 91 = .ok (.aload 4, 2) := by decide +kernel
theorem dL_build_93 : decode cL_build 93 = .ok (.aload 4, 2) := by decide +kernel
theorem dL_build_95 : decode cL_build 95 = .ok (.getfield 42, 3) := by decide +kernel
theorem dL_build_98 : decode cL_build 98 = .ok (.iload 6, 2) := by decide +kernel
theorem dL_build_100 : decode cL_build 100 = .ok (.ifCond .eq 8, 3) := by decide +kernel
theorem dL_build_103 : decode cL_build 103 = .ok (.iload 7, 2) := by decide +kernel
theorem dL_build_105 : decode cL_build 105 = .ok (.goto 5, 3) := by decide +kernel
theorem dL_build_108 : decode cL_build 108 = .ok (.bipush 100, 2) := by decide +kernel
theorem dL_build_110 : decode cL_build 110 = .ok (.invokestatic 46, 3) := by decide +kernel
theorem dL_build_113 : decode cL_build 113 = .ok (.putfield 42, 3) := by decide +kernel
theorem dL_build_116 : decode cL_build 116 = .ok (.iinc 5 1, 3) := by decide +kernel
theorem dL_build_119 : decode cL_build 119 = .ok (.goto (-107), 3) := by decide +kernel
theorem dL_build_122 : decode cL_build 122 = .ok (.iconst 1, 1) := by decide +kernel
theorem dL_build_123 : decode cL_build 123 = .ok (.aload_n 1, 1) := by decide +kernel
theorem dL_build_124 : decode cL_build 124 = .ok (.iconst 0, 1) := by decide +kernel
theorem dL_build_125 : decode cL_build 125 = .ok (.invokestatic 30, 3) := by decide +kernel
theorem dL_build_128 : decode cL_build 128 = .ok (.iload_n 3, 1) := by decide +kernel
theorem dL_build_129 : decode cL_build 129 = .ok (.invokestatic 34, 3) := by decide +kernel
theorem dL_build_132 : decode cL_build 132 = .ok (.iadd, 1) := by decide +kernel
theorem dL_build_133 : decode cL_build 133 = .ok (.istore 5, 2) := by decide +kernel
theorem dL_build_135 : decode cL_build 135 = .ok (.iconst 0, 1) := by decide +kernel
theorem dL_build_136 : decode cL_build 136 = .ok (.istore 6, 2) := by decide +kernel
theorem dL_build_138 : decode cL_build 138 = .ok (.iload 6, 2) := by decide +kernel
theorem dL_build_140 : decode cL_build 140 = .ok (.iload 5, 2) := by decide +kernel
theorem dL_build_142 : decode cL_build 142 = .ok (.if_icmp .ge 371, 3) := by decide +kernel
theorem dL_build_145 : decode cL_build 145 = .ok (.aload_n 1, 1) := by decide +kernel
theorem dL_build_146 : decode cL_build 146 = .ok (.iload 6, 2) := by decide +kernel
theorem dL_build_148 : decode cL_build 148 = .ok (.bipush 16, 2) := by decide +kernel
theorem dL_build_150 : decode cL_build 150 = .ok (.irem, 1) := by decide +kernel
theorem dL_build_151 : decode cL_build 151 = .ok (.invokestatic 30, 3) := by decide +kernel
theorem dL_build_154 : decode cL_build 154 = .ok (.iload 6, 2) := by decide +kernel
theorem dL_build_156 : decode cL_build 156 = .ok (.bipush 16, 2) := by decide +kernel
theorem dL_build_158 : decode cL_build 158 = .ok (.idiv, 1) := by decide +kernel
theorem dL_build_159 : decode cL_build 159 = .ok (.iconst 3, 1) := by decide +kernel
theorem dL_build_160 : decode cL_build 160 = .ok (.imul, 1) := by decide +kernel
theorem dL_build_161 : decode cL_build 161 = .ok (.ishr, 1) := by decide +kernel
theorem dL_build_162 : decode cL_build 162 = .ok (.istore 7, 2) := by decide +kernel
theorem dL_build_164 : decode cL_build 164 = .ok (.iload 7, 2) := by decide +kernel
theorem dL_build_166 : decode cL_build 166 = .ok (.iload_n 2, 1) := by decide +kernel
theorem dL_build_167 : decode cL_build 167 = .ok (.invokestatic 34, 3) := by decide +kernel
theorem dL_build_170 : decode cL_build 170 = .ok (.istore 8, 2) := by decide +kernel
theorem dL_build_172 : decode cL_build 172 = .ok (.iload 8, 2) := by decide +kernel
theorem dL_build_174 : decode cL_build 174 = .ok (.iconst 1, 1) := by decide +kernel
theorem dL_build_175 : decode cL_build 175 = .ok (.iadd, 1) := by decide +kernel
theorem dL_build_176 : decode cL_build 176 = .ok (.iload 7, 2) := by decide +kernel
theorem dL_build_178 : decode cL_build 178 = .ok (.iconst 4, 1) := by decide +kernel
theorem dL_build_179 : decode cL_build 179 = .ok (.ishr, 1) := by decide +kernel
theorem dL_build_180 : decode cL_build 180 = .ok (.iload_n 2, 1) := by decide +kernel
theorem dL_build_181 : decode cL_build 181 = .ok (.iconst 1, 1) := by decide +kernel
theorem dL_build_182 : decode cL_build 182 = .ok (.isub, 1) := by decide +kernel
theorem dL_build_183 : decode cL_build 183 = .ok (.invokestatic 34, 3) := by decide +kernel
theorem dL_build_186 : decode cL_build 186 = .ok (.iadd, 1) := by decide +kernel
theorem dL_build_187 : decode cL_build 187 = .ok (.iload_n 2, 1) := by decide +kernel
theorem dL_build_188 : decode cL_build 188 = .ok (.irem, 1) := by decide +kernel
theorem dL_build_189 : decode cL_build 189 = .ok (.istore 9, 2) := by decide +kernel
theorem dL_build_191 : decode cL_build 191 = .ok (.iload 7, 2) := by decide +kernel
theorem dL_build_193 : decode cL_build 193 = .ok (.bipush 7, 2) := by decide +kernel
theorem dL_build_195 : decode cL_build 195 = .ok (.ishr, 1) := by decide +kernel
theorem dL_build_196 : decode cL_build 196 = .ok (.iconst 4, 1) := by decide +kernel
theorem dL_build_197 : decode cL_build 197 = .ok (.invokestatic 34, 3) := by decide +kernel
theorem dL_build_200 : decode cL_build 200 = .ok (.ifCond .ne 7, 3) := by decide +kernel
theorem dL_build_203 : decode cL_build 203 = .ok (.iconst 1, 1) := by decide +kernel
theorem dL_build_204 : decode cL_build 204 = .ok (.goto 4, 3) := by decide +kernel
theorem dL_build_207 : decode cL_build 207 = .ok (.iconst 0, 1) := by decide +kernel
theorem dL_build_208 : decode cL_build 208 = .ok (.istore 10, 2) := by decide +kernel
theorem dL_build_210 : decode cL_build 210 = .ok (.iload 10, 2) := by decide +kernel
theorem dL_build_212 : decode cL_build 212 = .ok (.ifCond .eq 19, 3) := by decide +kernel
theorem dL_build_215 : decode cL_build 215 = .ok (.iload 7, 2) := by decide +kernel
theorem dL_build_217 : decode cL_build 217 = .ok (.iconst 3, 1) := by decide +kernel
theorem dL_build_218 : decode cL_build 218 = .ok (.ishr, 1) := by decide +kernel
theorem dL_build_219 : decode cL_build 219 = .ok (.sipush 199, 3) := by decide +kernel
theorem dL_build_222 : decode cL_build 222 = .ok (.invokestatic 34, 3) := by decide +kernel
theorem dL_build_225 : decode cL_build 225 = .ok (.bipush 99, 2) := by decide +kernel
theorem dL_build_227 : decode cL_build 227 = .ok (.isub, 1) := by decide +kernel
theorem dL_build_228 : decode cL_build 228 = .ok (.goto 14, 3) := by decide +kernel
theorem dL_build_231 : decode cL_build 231 = .ok (.iconst 1, 1) := by decide +kernel
theorem dL_build_232 : decode cL_build 232 = .ok (.iload 7, 2) := by decide +kernel
theorem dL_build_234 : decode cL_build 234 = .ok (.iconst 5, 1) := by decide +kernel
theorem dL_build_235 : decode cL_build 235 = .ok (.ishr, 1) := by decide +kernel
theorem dL_build_236 : decode cL_build 236 = .ok (.bipush 9, 2) := by decide +kernel
theorem dL_build_238 : decode cL_build 238 = .ok (.invokestatic 34, 3) := by decide +kernel
theorem dL_build_241 : decode cL_build 241 = .ok (.iadd, 1) := by decide +kernel
theorem dL_build_242 : decode cL_build 242 = .ok (.istore 11, 2) := by decide +kernel
theorem dL_build_244 : decode cL_build 244 = .ok (.aload_n 0, 1) := by decide +kernel
theorem dL_build_245 : decode cL_build 245 = .ok (.iload 10, 2) := by decide +kernel
theorem dL_build_247 : decode cL_build 247 = .ok (.iload 8, 2) := by decide +kernel
theorem dL_build_249 : decode cL_build 249 = .ok (.iload 9, 2) := by decide +kernel
theorem dL_build_251 : decode cL_build 251 = .ok (.iload 11, 2) := by decide +kernel
theorem dL_build_253 : decode cL_build 253 = .ok (.invokevirtual 50, 3) := by decide +kernel
theorem dL_build_256 : decode cL_build 256 = .ok (.iload 6, 2) := by decide +kernel
theorem dL_build_258 : decode cL_build 258 = .ok (.if_icmp .eq 5, 3) := by decide +kernel
theorem dL_build_261 : decode cL_build 261 = .ok (.aconst_null, 1) := by decide +kernel
theorem dL_build_262 : decode cL_build 262 = .ok (.areturn, 1) := by decide +kernel
theorem dL_build_263 : decode cL_build 263 = .ok (.iconst 5, 1) := by decide +kernel
theorem dL_build_264 : decode cL_build 264 = .ok (.newarray .int, 2) := by decide +kernel
theorem dL_build_266 : decode cL_build 266 = .ok (.dup, 1) := by decide +kernel
theorem dL_build_267 : decode cL_build 267 = .ok (.iconst 0, 1) := by decide +kernel
theorem dL_build_268 : decode cL_build 268 = .ok (.iload 10, 2) := by decide +kernel
theorem dL_build_270 : decode cL_build 270 = .ok (.ifCond .eq 7, 3) := by decide +kernel
theorem dL_build_273 : decode cL_build 273 = .ok (.iconst 1, 1) := by decide +kernel
theorem dL_build_274 : decode cL_build 274 = .ok (.goto 4, 3) := by decide +kernel
theorem dL_build_277 : decode cL_build 277 = .ok (.iconst 0, 1) := by decide +kernel
theorem dL_build_278 : decode cL_build 278 = .ok (.iastore, 1) := by decide +kernel
theorem dL_build_279 : decode cL_build 279 = .ok (.dup, 1) := by decide +kernel
theorem dL_build_280 : decode cL_build 280 = .ok (.iconst 1, 1) := by decide +kernel
theorem dL_build_281 : decode cL_build 281 = .ok (.iload 8, 2) := by decide +kernel
theorem dL_build_283 : decode cL_build 283 = .ok (.iastore, 1) := by decide +kernel
theorem dL_build_284 : decode cL_build 284 = .ok (.dup, 1) := by decide +kernel
theorem dL_build_285 : decode cL_build 285 = .ok (.iconst 2, 1) := by decide +kernel
theorem dL_build_286 : decode cL_build 286 = .ok (.iload 9, 2) := by decide +kernel
theorem dL_build_288 : decode cL_build 288 = .ok (.iastore, 1) := by decide +kernel
theorem dL_build_289 : decode cL_build 289 = .ok (.dup, 1) := by decide +kernel
theorem dL_build_290 : decode cL_build 290 = .ok (.iconst 3, 1) := by decide +kernel
theorem dL_build_291 : decode cL_build 291 = .ok (.iload 11, 2) := by decide +kernel
theorem dL_build_293 : decode cL_build 293 = .ok (.iastore, 1) := by decide +kernel
theorem dL_build_294 : decode cL_build 294 = .ok (.dup, 1) := by decide +kernel
theorem dL_build_295 : decode cL_build 295 = .ok (.iconst 4, 1) := by decide +kernel
theorem dL_build_296 : decode cL_build 296 = .ok (.iconst 1, 1) := by decide +kernel
theorem dL_build_297 : decode cL_build 297 = .ok (.iastore, 1) := by decide +kernel
theorem dL_build_298 : decode cL_build 298 = .ok (.astore 12, 2) := by decide +kernel
theorem dL_build_300 : decode cL_build 300 = .ok (.iload 7, 2) := by decide +kernel
theorem dL_build_302 : decode cL_build 302 = .ok (.bipush 6, 2) := by decide +kernel
theorem dL_build_304 : decode cL_build 304 = .ok (.ishr, 1) := by decide +kernel
theorem dL_build_305 : decode cL_build 305 = .ok (.iconst 4, 1) := by decide +kernel
theorem dL_build_306 : decode cL_build 306 = .ok (.invokestatic 34, 3) := by decide +kernel
theorem dL_build_309 : decode cL_build 309 = .ok (.ifCond .ne 20, 3) := by decide +kernel
theorem dL_build_312 : decode cL_build 312 = .ok (.aload_n 0, 1) := by decide +kernel
theorem dL_build_313 : decode cL_build 313 = .ok (.iload 6, 2) := by decide +kernel
theorem dL_build_315 : decode cL_build 315 = .ok (.iconst 0, 1) := by decide +kernel
theorem dL_build_316 : decode cL_build 316 = .ok (.invokevirtual 54, 3) := by decide +kernel
theorem dL_build_319 : decode cL_build 319 = .ok (.ifCond .ne 5, 3) := by decide +kernel
theorem dL_build_322 : decode cL_build 322 = .ok (.aconst_null, 1) := by decide +kernel
theorem dL_build_323 : decode cL_build 323 = .ok (.areturn, 1) := by decide +kernel
theorem dL_build_324 : decode cL_build 324 = .ok (.aload 12, 2) := by decide +kernel
theorem dL_build_326 : decode cL_build 326 = .ok (.iconst 4, 1) := by decide +kernel
theorem dL_build_327 : decode cL_build 327 = .ok (.iconst 0, 1) := by decide +kernel
theorem dL_build_328 : decode cL_build 328 = .ok (.iastore, 1) := by decide +kernel
theorem dL_build_329 : decode cL_build 329 = .ok (.iload 7, 2) := by decide +kernel
theorem dL_build_331 : decode cL_build 331 = .ok (.bipush 8, 2) := by decide +kernel
theorem dL_build_333 : decode cL_build 333 = .ok (.ishr, 1) := by decide +kernel
theorem dL_build_334 : decode cL_build 334 = .ok (.iconst 4, 1) := by decide +kernel
theorem dL_build_335 : decode cL_build 335 = .ok (.invokestatic 34, 3) := by decide +kernel
theorem dL_build_338 : decode cL_build 338 = .ok (.istore 13, 2) := by decide +kernel
theorem dL_build_340 : decode cL_build 340 = .ok (.iconst 0, 1) := by decide +kernel
theorem dL_build_341 : decode cL_build 341 = .ok (.istore 14, 2) := by decide +kernel
theorem dL_build_343 : decode cL_build 343 = .ok (.iload 14, 2) := by decide +kernel
theorem dL_build_345 : decode cL_build 345 = .ok (.iload 13, 2) := by decide +kernel
theorem dL_build_347 : decode cL_build 347 = .ok (.if_icmp .ge 108, 3) := by decide +kernel
theorem dL_build_350 : decode cL_build 350 = .ok (.iconst 1, 1) := by decide +kernel
theorem dL_build_351 : decode cL_build 351 = .ok (.iload 7, 2) := by decide +kernel
theorem dL_build_353 : decode cL_build 353 = .ok (.iconst 3, 1) := by decide +kernel
theorem dL_build_354 : decode cL_build 354 = .ok (.iload 14, 2) := by decide +kernel
theorem dL_build_356 : decode cL_build 356 = .ok (.imul, 1) := by decide +kernel
theorem dL_build_357 : decode cL_build 357 = .ok (.ishr, 1) := by decide +kernel
theorem dL_build_358 : decode cL_build 358 = .ok (.bipush 97, 2) := by decide +kernel
theorem dL_build_360 : decode cL_build 360 = .ok (.iload 14, 2) := by decide +kernel
theorem dL_build_362 : decode cL_build 362 = .ok (.imul, 1) := by decide +kernel
theorem dL_build_363 : decode cL_build 363 = .ok (.iadd, 1) := by decide +kernel
theorem dL_build_364 : decode cL_build 364 = .ok (.bipush 30, 2) := by decide +kernel
theorem dL_build_366 : decode cL_build 366 = .ok (.invokestatic 34, 3) := by decide +kernel
theorem dL_build_369 : decode cL_build 369 = .ok (.iadd, 1) := by decide +kernel
theorem dL_build_370 : decode cL_build 370 = .ok (.istore 15, 2) := by decide +kernel
theorem dL_build_372 : decode cL_build 372 = .ok (.iconst 0, 1) := by decide +kernel
theorem dL_build_373 : decode cL_build 373 = .ok (.istore 16, 2) := by decide +kernel
theorem dL_build_375 : decode cL_build 375 = .ok (.iconst 5, 1) := by decide +kernel
theorem dL_build_376 : decode cL_build 376 = .ok (.istore 17, 2) := by decide +kernel
theorem dL_build_378 : decode cL_build 378 = .ok (.iload 17, 2) := by decide +kernel
theorem dL_build_380 : decode cL_build 380 = .ok (.aload 12, 2) := by decide +kernel
theorem dL_build_382 : decode cL_build 382 = .ok (.arraylength, 1) := by decide +kernel
theorem dL_build_383 : decode cL_build 383 = .ok (.if_icmp .ge 31, 3) := by decide +kernel
theorem dL_build_386 : decode cL_build 386 = .ok (.iload 16, 2) := by decide +kernel
theorem dL_build_388 : decode cL_build 388 = .ok (.ifCond .ne 13, 3) := by decide +kernel
theorem dL_build_391 : decode cL_build 391 = .ok (.aload 12, 2) := by decide +kernel
theorem dL_build_393 : decode cL_build 393 = .ok (.iload 17, 2) := by decide +kernel
theorem dL_build_395 : decode cL_build 395 = .ok (.iaload, 1) := by decide +kernel
theorem dL_build_396 : decode cL_build 396 = .ok (.iload 15, 2) := by decide +kernel
theorem dL_build_398 : decode cL_build 398 = .ok (.if_icmp .ne 7, 3) := by decide +kernel
theorem dL_build_401 : decode cL_build 401 = .ok (.iconst 1, 1) := by decide +kernel
theorem dL_build_402 : decode cL_build 402 = .ok (.goto 4, 3) := by decide +kernel
theorem dL_build_405 : decode cL_build 405 = .ok (.iconst 0, 1) := by decide +kernel
theorem dL_build_406 : decode cL_build 406 = .ok (.istore 16, 2) := by decide +kernel
theorem dL_build_408 : decode cL_build 408 = .ok (.iinc 17 1, 3) := by decide +kernel
theorem dL_build_411 : decode cL_build 411 = .ok (.goto (-33), 3) := by decide +kernel
theorem dL_build_414 : decode cL_build 414 = .ok (.iload 16, 2) := by decide +kernel
theorem dL_build_416 : decode cL_build 416 = .ok (.ifCond .eq 6, 3) := by decide +kernel
theorem dL_build_419 : decode cL_build 419 = .ok (.goto 30, 3) := by decide +kernel
theorem dL_build_422 : decode cL_build 422 = .ok (.aload 12, 2) := by decide +kernel
theorem dL_build_424 : decode cL_build 424 = .ok (.iload 15, 2) := by decide +kernel
theorem dL_build_426 : decode cL_build 426 = .ok (.invokestatic 46, 3) := by decide +kernel
theorem dL_build_429 : decode cL_build 429 = .ok (.astore 12, 2) := by decide +kernel
theorem dL_build_431 : decode cL_build 431 = .ok (.aload_n 0, 1) := by decide +kernel
theorem dL_build_432 : decode cL_build 432 = .ok (.iload 6, 2) := by decide +kernel
theorem dL_build_434 : decode cL_build 434 = .ok (.iload 15, 2) := by decide +kernel
theorem dL_build_436 : decode cL_build 436 = .ok (.invokevirtual 58, 3) := by decide +kernel
theorem dL_build_439 : decode cL_build 439 = .ok (.aload 12, 2) := by decide +kernel
theorem dL_build_441 : decode cL_build 441 = .ok (.arraylength, 1) := by decide +kernel
theorem dL_build_442 : decode cL_build 442 = .ok (.iconst 5, 1) := by decide +kernel
theorem dL_build_443 : decode cL_build 443 = .ok (.isub, 1) := by decide +kernel
theorem dL_build_444 : decode cL_build 444 = .ok (.if_icmp .eq 5, 3) := by decide +kernel
theorem dL_build_447 : decode cL_build 447 = .ok (.aconst_null, 1) := by decide +kernel
theorem dL_build_448 : decode cL_build 448 = .ok (.areturn, 1) := by decide +kernel
theorem dL_build_449 : decode cL_build 449 = .ok (.iinc 14 1, 3) := by decide +kernel
theorem dL_build_452 : decode cL_build 452 = .ok (.goto (-109), 3) := by decide +kernel
theorem dL_build_455 : decode cL_build 455 = .ok (.iload 6, 2) := by decide +kernel
theorem dL_build_457 : decode cL_build 457 = .ok (.iconst 1, 1) := by decide +kernel
theorem dL_build_458 : decode cL_build 458 = .ok (.iadd, 1) := by decide +kernel
theorem dL_build_459 : decode cL_build 459 = .ok (.anewarray 61, 3) := by decide +kernel
theorem dL_build_462 : decode cL_build 462 = .ok (.astore 14, 2) := by decide +kernel
theorem dL_build_464 : decode cL_build 464 = .ok (.iconst 0, 1) := by decide +kernel
theorem dL_build_465 : decode cL_build 465 = .ok (.istore 15, 2) := by decide +kernel
theorem dL_build_467 : decode cL_build 467 = .ok (.iload 15, 2) := by decide +kernel
theorem dL_build_469 : decode cL_build 469 = .ok (.iload 6, 2) := by decide +kernel
theorem dL_build_471 : decode cL_build 471 = .ok (.if_icmp .ge 22, 3) := by decide +kernel
theorem dL_build_474 : decode cL_build 474 = .ok (.aload 14, 2) := by decide +kernel
theorem dL_build_476 : decode cL_build 476 = .ok (.iload 15, 2) := by decide +kernel
theorem dL_build_478 : decode cL_build 478 = .ok (.aload 4, 2) := by decide +kernel
theorem dL_build_480 : decode cL_build 480 = .ok (.getfield 62, 3) := by decide +kernel
theorem dL_build_483 : decode cL_build 483 = .ok (.iload 15, 2) := by decide +kernel
theorem dL_build_485 : decode cL_build 485 = .ok (.aaload, 1) := by decide +kernel
theorem dL_build_486 : decode cL_build 486 = .ok (.aastore, 1) := by decide +kernel
theorem dL_build_487 : decode cL_build 487 = .ok (.iinc 15 1, 3) := by decide +kernel
theorem dL_build_490 : decode cL_build 490 = .ok (.goto (-23), 3) := by decide +kernel
theorem dL_build_493 : decode cL_build 493 = .ok (.aload 14, 2) := by decide +kernel
theorem dL_build_495 : decode cL_build 495 = .ok (.iload 6, 2) := by decide +kernel
theorem dL_build_497 : decode cL_build 497 = .ok (.aload 12, 2) := by decide +kernel
theorem dL_build_499 : decode cL_build 499 = .ok (.aastore, 1) := by decide +kernel
theorem dL_build_500 : decode cL_build 500 = .ok (.aload 4, 2) := by decide +kernel
theorem dL_build_502 : decode cL_build 502 = .ok (.aload 14, 2) := by decide +kernel
theorem dL_build_504 : decode cL_build 504 = .ok (.putfield 62, 3) := by decide +kernel
theorem dL_build_507 : decode cL_build 507 = .ok (.iinc 6 1, 3) := by decide +kernel
theorem dL_build_510 : decode cL_build 510 = .ok (.goto (-372), 3) := by decide +kernel
theorem dL_build_513 : decode cL_build 513 = .ok (.aload 4, 2) := by decide +kernel
theorem dL_build_515 : decode cL_build 515 = .ok (.areturn, 1) := by decide +kernel
theorem dL_law_0 : decode cL_law 0 = .ok (.new 25, 3) := by decide +kernel
end
section
theorem dL_law_3 : decode cL_law 3 = .ok (.dup, 1) := by decide +kernel
theorem dL_law_4 : decode cL_law 4 = .ok (.invokespecial 66, 3) := by decide +kernel
theorem dL_law_7 : decode cL_law 7 = .ok (.astore_n 1, 1) := by decide +kernel
theorem dL_law_8 : decode cL_law 8 = .ok (.iconst 2, 1) := by decide +kernel
theorem dL_law_9 : decode cL_law 9 = .ok (.aload_n 0, 1) := by decide +kernel
theorem dL_law_10 : decode cL_law 10 = .ok (.iconst 3, 1) := by decide +kernel
theorem dL_law_11 : decode cL_law 11 = .ok (.invokestatic 30, 3) := by decide +kernel
theorem dL_law_14 : decode cL_law 14 = .ok (.iconst 5, 1) := by decide +kernel
theorem dL_law_15 : decode cL_law 15 = .ok (.invokestatic 34, 3) := by decide +kernel
theorem dL_law_18 : decode cL_law 18 = .ok (.iadd, 1) := by decide +kernel
theorem dL_law_19 : decode cL_law 19 = .ok (.istore_n 2, 1) := by decide +kernel
theorem dL_law_20 : decode cL_law 20 = .ok (.aload_n 1, 1) := by decide +kernel
theorem dL_law_21 : decode cL_law 21 = .ok (.aload_n 0, 1) := by decide +kernel
theorem dL_law_22 : decode cL_law 22 = .ok (.iload_n 2, 1) := by decide +kernel
theorem dL_law_23 : decode cL_law 23 = .ok (.bipush 12, 2) := by decide +kernel
theorem dL_law_25 : decode cL_law 25 = .ok (.invokestatic 67, 3) := by decide +kernel
theorem dL_law_28 : decode cL_law 28 = .ok (.astore_n 3, 1) := by decide +kernel
theorem dL_law_29 : decode cL_law 29 = .ok (.aload_n 3, 1) := by decide +kernel
theorem dL_law_30 : decode cL_law 30 = .ok (.ifnonnull 5, 3) := by decide +kernel
theorem dL_law_33 : decode cL_law 33 = .ok (.iconst 0, 1) := by decide +kernel
theorem dL_law_34 : decode cL_law 34 = .ok (.ireturn, 1) := by decide +kernel
theorem dL_law_35 : decode cL_law 35 = .ok (.iconst 3, 1) := by decide +kernel
theorem dL_law_36 : decode cL_law 36 = .ok (.newarray .int, 2) := by decide +kernel
theorem dL_law_38 : decode cL_law 38 = .ok (.dup, 1) := by decide +kernel
theorem dL_law_39 : decode cL_law 39 = .ok (.iconst 0, 1) := by decide +kernel
theorem dL_law_40 : decode cL_law 40 = .ok (.iconst 0, 1) := by decide +kernel
theorem dL_law_41 : decode cL_law 41 = .ok (.iastore, 1) := by decide +kernel
theorem dL_law_42 : decode cL_law 42 = .ok (.dup, 1) := by decide +kernel
theorem dL_law_43 : decode cL_law 43 = .ok (.iconst 1, 1) := by decide +kernel
theorem dL_law_44 : decode cL_law 44 = .ok (.bipush 11, 2) := by decide +kernel
theorem dL_law_46 : decode cL_law 46 = .ok (.iastore, 1) := by decide +kernel
theorem dL_law_47 : decode cL_law 47 = .ok (.dup, 1) := by decide +kernel
theorem dL_law_48 : decode cL_law 48 = .ok (.iconst 2, 1) := by decide +kernel
theorem dL_law_49 : decode cL_law 49 = .ok (.bipush 23, 2) := by decide +kernel
theorem dL_law_51 : decode cL_law 51 = .ok (.iastore, 1) := by decide +kernel
theorem dL_law_52 : decode cL_law 52 = .ok (.astore 4, 2) := by decide +kernel
theorem dL_law_54 : decode cL_law 54 = .ok (.aload 4, 2) := by decide +kernel
theorem dL_law_56 : decode cL_law 56 = .ok (.arraylength, 1) := by decide +kernel
theorem dL_law_57 : decode cL_law 57 = .ok (.istore 5, 2) := by decide +kernel
theorem dL_law_59 : decode cL_law 59 = .ok (.iconst 0, 1) := by decide +kernel
theorem dL_law_60 : decode cL_law 60 = .ok (.istore 6, 2) := by decide +kernel
theorem dL_law_62 : decode cL_law 62 = .ok (.iload 6, 2) := by decide +kernel
theorem dL_law_64 : decode cL_law 64 = .ok (.iload 5, 2) := by decide +kernel
theorem dL_law_66 : decode cL_law 66 = .ok (.if_icmp .ge 285, 3) := by decide +kernel
theorem dL_law_69 : decode cL_law 69 = .ok (.aload 4, 2) := by decide +kernel
theorem dL_law_71 : decode cL_law 71 = .ok (.iload 6, 2) := by decide +kernel
theorem dL_law_73 : decode cL_law 73 = .ok (.iaload, 1) := by decide +kernel
theorem dL_law_74 : decode cL_law 74 = .ok (.istore 7, 2) := by decide +kernel
theorem dL_law_76 : decode cL_law 76 = .ok (.lconst 0, 1) := by decide +kernel
theorem dL_law_77 : decode cL_law 77 = .ok (.lstore 8, 2) := by decide +kernel
theorem dL_law_79 : decode cL_law 79 = .ok (.lconst 1, 1) := by decide +kernel
theorem dL_law_80 : decode cL_law 80 = .ok (.lstore 10, 2) := by decide +kernel
theorem dL_law_82 : decode cL_law 82 = .ok (.iconst 0, 1) := by decide +kernel
theorem dL_law_83 : decode cL_law 83 = .ok (.istore 12, 2) := by decide +kernel
theorem dL_law_85 : decode cL_law 85 = .ok (.iconst 0, 1) := by decide +kernel
theorem dL_law_86 : decode cL_law 86 = .ok (.istore 13, 2) := by decide +kernel
theorem dL_law_88 : decode cL_law 88 = .ok (.iload 13, 2) := by decide +kernel
theorem dL_law_90 : decode cL_law 90 = .ok (.iload_n 2, 1) := by decide +kernel
theorem dL_law_91 : decode cL_law 91 = .ok (.if_icmp .ge 71, 3) := by decide +kernel
theorem dL_law_94 : decode cL_law 94 = .ok (.aload_n 3, 1) := by decide +kernel
theorem dL_law_95 : decode cL_law 95 = .ok (.getfield 42, 3) := by decide +kernel
theorem dL_law_98 : decode cL_law 98 = .ok (.iload 13, 2) := by decide +kernel
theorem dL_law_100 : decode cL_law 100 = .ok (.iaload, 1) := by decide +kernel
theorem dL_law_101 : decode cL_law 101 = .ok (.bipush 100, 2) := by decide +kernel
theorem dL_law_103 : decode cL_law 103 = .ok (.if_icmp .ne 6, 3) := by decide +kernel
theorem dL_law_106 : decode cL_law 106 = .ok (.goto 50, 3) := by decide +kernel
theorem dL_law_109 : decode cL_law 109 = .ok (.aload_n 1, 1) := by decide +kernel
theorem dL_law_110 : decode cL_law 110 = .ok (.iload 13, 2) := by decide +kernel
theorem dL_law_112 : decode cL_law 112 = .ok (.iload 7, 2) := by decide +kernel
theorem dL_law_114 : decode cL_law 114 = .ok (.iconst 0, 1) := by decide +kernel
theorem dL_law_115 : decode cL_law 115 = .ok (.invokevirtual 71, 3) := by decide +kernel
theorem dL_law_118 : decode cL_law 118 = .ok (.lstore 14, 2) := by decide +kernel
theorem dL_law_120 : decode cL_law 120 = .ok (.lload 14, 2) := by decide +kernel
theorem dL_law_122 : decode cL_law 122 = .ok (.lconst 1, 1) := by decide +kernel
theorem dL_law_123 : decode cL_law 123 = .ok (.lcmp, 1) := by decide +kernel
theorem dL_law_124 : decode cL_law 124 = .ok (.ifCond .ge 5, 3) := by decide +kernel
theorem dL_law_127 : decode cL_law 127 = .ok (.iconst 0, 1) := by decide +kernel
theorem dL_law_128 : decode cL_law 128 = .ok (.ireturn, 1) := by decide +kernel
theorem dL_law_129 : decode cL_law 129 = .ok (.lload 8, 2) := by decide +kernel
theorem dL_law_131 : decode cL_law 131 = .ok (.lload 14, 2) := by decide +kernel
theorem dL_law_133 : decode cL_law 133 = .ok (.lmul, 1) := by decide +kernel
theorem dL_law_134 : decode cL_law 134 = .ok (.aload_n 1, 1) := by decide +kernel
theorem dL_law_135 : decode cL_law 135 = .ok (.iload 13, 2) := by decide +kernel
theorem dL_law_137 : decode cL_law 137 = .ok (.iload 7, 2) := by decide +kernel
theorem dL_law_139 : decode cL_law 139 = .ok (.iconst 1, 1) := by decide +kernel
theorem dL_law_140 : decode cL_law 140 = .ok (.invokevirtual 71, 3) := by decide +kernel
theorem dL_law_143 : decode cL_law 143 = .ok (.lload 10, 2) := by decide +kernel
theorem dL_law_145 : decode cL_law 145 = .ok (.lmul, 1) := by decide +kernel
theorem dL_law_146 : decode cL_law 146 = .ok (.ladd, 1) := by decide +kernel
theorem dL_law_147 : decode cL_law 147 = .ok (.lstore 8, 2) := by decide +kernel
theorem dL_law_149 : decode cL_law 149 = .ok (.lload 10, 2) := by decide +kernel
theorem dL_law_151 : decode cL_law 151 = .ok (.lload 14, 2) := by decide +kernel
theorem dL_law_153 : decode cL_law 153 = .ok (.lmul, 1) := by decide +kernel
theorem dL_law_154 : decode cL_law 154 = .ok (.lstore 10, 2) := by decide +kernel
theorem dL_law_156 : decode cL_law 156 = .ok (.iinc 13 1, 3) := by decide +kernel
theorem dL_law_159 : decode cL_law 159 = .ok (.goto (-71), 3) := by decide +kernel
theorem dL_law_162 : decode cL_law 162 = .ok (.iconst 0, 1) := by decide +kernel
theorem dL_law_163 : decode cL_law 163 = .ok (.istore 13, 2) := by decide +kernel
theorem dL_law_165 : decode cL_law 165 = .ok (.iload 13, 2) := by decide +kernel
theorem dL_law_167 : decode cL_law 167 = .ok (.aload_n 3, 1) := by decide +kernel
theorem dL_law_168 : decode cL_law 168 = .ok (.getfield 62, 3) := by decide +kernel
theorem dL_law_171 : decode cL_law 171 = .ok (.arraylength, 1) := by decide +kernel
theorem dL_law_172 : decode cL_law 172 = .ok (.if_icmp .ge 91, 3) := by decide +kernel
theorem dL_law_175 : decode cL_law 175 = .ok (.aload_n 3, 1) := by decide +kernel
theorem dL_law_176 : decode cL_law 176 = .ok (.getfield 62, 3) := by decide +kernel
theorem dL_law_179 : decode cL_law 179 = .ok (.iload 13, 2) := by decide +kernel
theorem dL_law_181 : decode cL_law 181 = .ok (.aaload, 1) := by decide +kernel
theorem dL_law_182 : decode cL_law 182 = .ok (.astore 14, 2) := by decide +kernel
theorem dL_law_184 : decode cL_law 184 = .ok (.aload 14, 2) := by decide +kernel
theorem dL_law_186 : decode cL_law 186 = .ok (.iconst 0, 1) := by decide +kernel
theorem dL_law_187 : decode cL_law 187 = .ok (.iaload, 1) := by decide +kernel
theorem dL_law_188 : decode cL_law 188 = .ok (.ifCond .eq 69, 3) := by decide +kernel
theorem dL_law_191 : decode cL_law 191 = .ok (.aload_n 3, 1) := by decide +kernel
theorem dL_law_192 : decode cL_law 192 = .ok (.iload 13, 2) := by decide +kernel
theorem dL_law_194 : decode cL_law 194 = .ok (.iload 7, 2) := by decide +kernel
theorem dL_law_196 : decode cL_law 196 = .ok (.invokevirtual 75, 3) := by decide +kernel
theorem dL_law_199 : decode cL_law 199 = .ok (.ifCond .ne 6, 3) := by decide +kernel
theorem dL_law_202 : decode cL_law 202 = .ok (.goto 55, 3) := by decide +kernel
theorem dL_law_205 : decode cL_law 205 = .ok (.iload 12, 2) := by decide +kernel
theorem dL_law_207 : decode cL_law 207 = .ok (.aload_n 3, 1) := by decide +kernel
theorem dL_law_208 : decode cL_law 208 = .ok (.aload 14, 2) := by decide +kernel
theorem dL_law_210 : decode cL_law 210 = .ok (.iconst 1, 1) := by decide +kernel
theorem dL_law_211 : decode cL_law 211 = .ok (.iaload, 1) := by decide +kernel
theorem dL_law_212 : decode cL_law 212 = .ok (.iload 7, 2) := by decide +kernel
theorem dL_law_214 : decode cL_law 214 = .ok (.invokevirtual 79, 3) := by decide +kernel
theorem dL_law_217 : decode cL_law 217 = .ok (.ifCond .eq 10, 3) := by decide +kernel
theorem dL_law_220 : decode cL_law 220 = .ok (.aload 14, 2) := by decide +kernel
theorem dL_law_222 : decode cL_law 222 = .ok (.iconst 3, 1) := by decide +kernel
theorem dL_law_223 : decode cL_law 223 = .ok (.iaload, 1) := by decide +kernel
theorem dL_law_224 : decode cL_law 224 = .ok (.goto 4, 3) := by decide +kernel
theorem dL_law_227 : decode cL_law 227 = .ok (.iconst 0, 1) := by decide +kernel
theorem dL_law_228 : decode cL_law 228 = .ok (.iadd, 1) := by decide +kernel
theorem dL_law_229 : decode cL_law 229 = .ok (.istore 12, 2) := by decide +kernel
theorem dL_law_231 : decode cL_law 231 = .ok (.iload 12, 2) := by decide +kernel
theorem dL_law_233 : decode cL_law 233 = .ok (.aload_n 3, 1) := by decide +kernel
theorem dL_law_234 : decode cL_law 234 = .ok (.aload 14, 2) := by decide +kernel
theorem dL_law_236 : decode cL_law 236 = .ok (.iconst 2, 1) := by decide +kernel
theorem dL_law_237 : decode cL_law 237 = .ok (.iaload, 1) := by decide +kernel
theorem dL_law_238 : decode cL_law 238 = .ok (.iload 7, 2) := by decide +kernel
theorem dL_law_240 : decode cL_law 240 = .ok (.invokevirtual 79, 3) := by decide +kernel
theorem dL_law_243 : decode cL_law 243 = .ok (.ifCond .eq 10, 3) := by decide +kernel
theorem dL_law_246 : decode cL_law 246 = .ok (.aload 14, 2) := by decide +kernel
theorem dL_law_248 : decode cL_law 248 = .ok (.iconst 3, 1) := by decide +kernel
theorem dL_law_249 : decode cL_law 249 = .ok (.iaload, 1) := by decide +kernel
theorem dL_law_250 : decode cL_law 250 = .ok (.goto 4, 3) := by decide +kernel
theorem dL_law_253 : decode cL_law 253 = .ok (.iconst 0, 1) := by decide +kernel
theorem dL_law_254 : decode cL_law 254 = .ok (.isub, 1) := by decide +kernel
theorem dL_law_255 : decode cL_law 255 = .ok (.istore 12, 2) := by decide +kernel
theorem dL_law_257 : decode cL_law 257 = .ok (.iinc 13 1, 3) := by decide +kernel
theorem dL_law_260 : decode cL_law 260 = .ok (.goto (-95), 3) := by decide +kernel
theorem dL_law_263 : decode cL_law 263 = .ok (.lload 8, 2) := by decide +kernel
theorem dL_law_265 : decode cL_law 265 = .ok (.iload 12, 2) := by decide +kernel
theorem dL_law_267 : decode cL_law 267 = .ok (.i2l, 1) := by decide +kernel
theorem dL_law_268 : decode cL_law 268 = .ok (.lload 10, 2) := by decide +kernel
theorem dL_law_270 : decode cL_law 270 = .ok (.lmul, 1) := by decide +kernel
theorem dL_law_271 : decode cL_law 271 = .ok (.ladd, 1) := by decide +kernel
theorem dL_law_272 : decode cL_law 272 = .ok (.lconst 0, 1) := by decide +kernel
theorem dL_law_273 : decode cL_law 273 = .ok (.lcmp, 1) := by decide +kernel
theorem dL_law_274 : decode cL_law 274 = .ok (.ifCond .eq 5, 3) := by decide +kernel
theorem dL_law_277 : decode cL_law 277 = .ok (.iconst 0, 1) := by decide +kernel
theorem dL_law_278 : decode cL_law 278 = .ok (.ireturn, 1) := by decide +kernel
theorem dL_law_279 : decode cL_law 279 = .ok (.iconst 0, 1) := by decide +kernel
theorem dL_law_280 : decode cL_law 280 = .ok (.istore 13, 2) := by decide +kernel
theorem dL_law_282 : decode cL_law 282 = .ok (.iload 13, 2) := by decide +kernel
theorem dL_law_284 : decode cL_law 284 = .ok (.iload_n 2, 1) := by decide +kernel
theorem dL_law_285 : decode cL_law 285 = .ok (.if_icmp .ge 60, 3) := by decide +kernel
theorem dL_law_288 : decode cL_law 288 = .ok (.aload_n 1, 1) := by decide +kernel
theorem dL_law_289 : decode cL_law 289 = .ok (.iload 13, 2) := by decide +kernel
theorem dL_law_291 : decode cL_law 291 = .ok (.iload 7, 2) := by decide +kernel
theorem dL_law_293 : decode cL_law 293 = .ok (.invokevirtual 82, 3) := by decide +kernel
theorem dL_law_296 : decode cL_law 296 = .ok (.aload_n 1, 1) := by decide +kernel
theorem dL_law_297 : decode cL_law 297 = .ok (.iload 13, 2) := by decide +kernel
theorem dL_law_299 : decode cL_law 299 = .ok (.iload 7, 2) := by decide +kernel
theorem dL_law_301 : decode cL_law 301 = .ok (.iload 7, 2) := by decide +kernel
theorem dL_law_303 : decode cL_law 303 = .ok (.iconst 1, 1) := by decide +kernel
theorem dL_law_304 : decode cL_law 304 = .ok (.invokevirtual 83, 3) := by decide +kernel
theorem dL_law_307 : decode cL_law 307 = .ok (.ifCond .ge 7, 3) := by decide +kernel
theorem dL_law_310 : decode cL_law 310 = .ok (.iconst 1, 1) := by decide +kernel
theorem dL_law_311 : decode cL_law 311 = .ok (.goto 4, 3) := by decide +kernel
theorem dL_law_314 : decode cL_law 314 = .ok (.iconst 0, 1) := by decide +kernel
theorem dL_law_315 : decode cL_law 315 = .ok (.if_icmp .ne 22, 3) := by decide +kernel
theorem dL_law_318 : decode cL_law 318 = .ok (.aload_n 1, 1) := by decide +kernel
theorem dL_law_319 : decode cL_law 319 = .ok (.iload 13, 2) := by decide +kernel
theorem dL_law_321 : decode cL_law 321 = .ok (.iload 7, 2) := by decide +kernel
theorem dL_law_323 : decode cL_law 323 = .ok (.invokevirtual 82, 3) := by decide +kernel
theorem dL_law_326 : decode cL_law 326 = .ok (.aload_n 3, 1) := by decide +kernel
theorem dL_law_327 : decode cL_law 327 = .ok (.iload 13, 2) := by decide +kernel
theorem dL_law_329 : decode cL_law 329 = .ok (.iload 7, 2) := by decide +kernel
theorem dL_law_331 : decode cL_law 331 = .ok (.invokevirtual 79, 3) := by decide +kernel
theorem dL_law_334 : decode cL_law 334 = .ok (.if_icmp .eq 5, 3) := by decide +kernel
theorem dL_law_337 : decode cL_law 337 = .ok (.iconst 0, 1) := by decide +kernel
theorem dL_law_338 : decode cL_law 338 = .ok (.ireturn, 1) := by decide +kernel
theorem dL_law_339 : decode cL_law 339 = .ok (.iinc 13 1, 3) := by decide +kernel
theorem dL_law_342 : decode cL_law 342 = .ok (.goto (-60), 3) := by decide +kernel
theorem dL_law_345 : decode cL_law 345 = .ok (.iinc 6 1, 3) := by decide +kernel
theorem dL_law_348 : decode cL_law 348 = .ok (.goto (-286), 3) := by decide +kernel
theorem dL_law_351 : decode cL_law 351 = .ok (.iconst 0, 1) := by decide +kernel
theorem dL_law_352 : decode cL_law 352 = .ok (.istore 4, 2) := by decide +kernel
theorem dL_law_354 : decode cL_law 354 = .ok (.iload 4, 2) := by decide +kernel
theorem dL_law_356 : decode cL_law 356 = .ok (.aload_n 3, 1) := by decide +kernel
theorem dL_law_357 : decode cL_law 357 = .ok (.getfield 62, 3) := by decide +kernel
theorem dL_law_360 : decode cL_law 360 = .ok (.arraylength, 1) := by decide +kernel
theorem dL_law_361 : decode cL_law 361 = .ok (.if_icmp .ge 30, 3) := by decide +kernel
theorem dL_law_364 : decode cL_law 364 = .ok (.aload_n 3, 1) := by decide +kernel
theorem dL_law_365 : decode cL_law 365 = .ok (.getfield 62, 3) := by decide +kernel
theorem dL_law_368 : decode cL_law 368 = .ok (.iload 4, 2) := by decide +kernel
theorem dL_law_370 : decode cL_law 370 = .ok (.aaload, 1) := by decide +kernel
theorem dL_law_371 : decode cL_law 371 = .ok (.iconst 0, 1) := by decide +kernel
theorem dL_law_372 : decode cL_law 372 = .ok (.iaload, 1) := by decide +kernel
theorem dL_law_373 : decode cL_law 373 = .ok (.iconst 1, 1) := by decide +kernel
theorem dL_law_374 : decode cL_law 374 = .ok (.if_icmp .ne 11, 3) := by decide +kernel
theorem dL_law_377 : decode cL_law 377 = .ok (.aload_n 1, 1) := by decide +kernel
theorem dL_law_378 : decode cL_law 378 = .ok (.iload 4, 2) := by decide +kernel
theorem dL_law_380 : decode cL_law 380 = .ok (.iconst 0, 1) := by decide +kernel
theorem dL_law_381 : decode cL_law 381 = .ok (.invokevirtual 87, 3) := by decide +kernel
theorem dL_law_384 : decode cL_law 384 = .ok (.pop, 1) := by decide +kernel
theorem dL_law_385 : decode cL_law 385 = .ok (.iinc 4 1, 3) := by decide +kernel
theorem dL_law_388 : decode cL_law 388 = .ok (.goto (-34), 3) := by decide +kernel
theorem dL_law_391 : decode cL_law 391 = .ok (.bipush 100, 2) := by decide +kernel
theorem dL_law_393 : decode cL_law 393 = .ok (.istore 4, 2) := by decide +kernel
theorem dL_law_395 : decode cL_law 395 = .ok (.bipush (-100), 2) := by decide +kernel
theorem dL_law_397 : decode cL_law 397 = .ok (.istore 5, 2) := by decide +kernel
theorem dL_law_399 : decode cL_law 399 = .ok (.iconst 0, 1) := by decide +kernel
theorem dL_law_400 : decode cL_law 400 = .ok (.istore 6, 2) := by decide +kernel
theorem dL_law_402 : decode cL_law 402 = .ok (.iload 6, 2) := by decide +kernel
theorem dL_law_404 : decode cL_law 404 = .ok (.iload_n 2, 1) := by decide +kernel
theorem dL_law_405 : decode cL_law 405 = .ok (.if_icmp .ge 52, 3) := by decide +kernel
theorem dL_law_408 : decode cL_law 408 = .ok (.aload_n 3, 1) := by decide +kernel
theorem dL_law_409 : decode cL_law 409 = .ok (.getfield 42, 3) := by decide +kernel
theorem dL_law_412 : decode cL_law 412 = .ok (.iload 6, 2) := by decide +kernel
theorem dL_law_414 : decode cL_law 414 = .ok (.iaload, 1) := by decide +kernel
theorem dL_law_415 : decode cL_law 415 = .ok (.bipush 100, 2) := by decide +kernel
theorem dL_law_417 : decode cL_law 417 = .ok (.if_icmp .ne 6, 3) := by decide +kernel
theorem dL_law_420 : decode cL_law 420 = .ok (.goto 31, 3) := by decide +kernel
theorem dL_law_423 : decode cL_law 423 = .ok (.iload 4, 2) := by decide +kernel
theorem dL_law_425 : decode cL_law 425 = .ok (.aload_n 3, 1) := by decide +kernel
theorem dL_law_426 : decode cL_law 426 = .ok (.getfield 42, 3) := by decide +kernel
theorem dL_law_429 : decode cL_law 429 = .ok (.iload 6, 2) := by decide +kernel
theorem dL_law_431 : decode cL_law 431 = .ok (.iaload, 1) := by decide +kernel
theorem dL_law_432 : decode cL_law 432 = .ok (.invokestatic 90, 3) := by decide +kernel
theorem dL_law_435 : decode cL_law 435 = .ok (.istore 4, 2) := by decide +kernel
theorem dL_law_437 : decode cL_law 437 = .ok (.iload 5, 2) := by decide +kernel
theorem dL_law_439 : decode cL_law 439 = .ok (.aload_n 3, 1) := by decide +kernel
theorem dL_law_440 : decode cL_law 440 = .ok (.getfield 42, 3) := by decide +kernel
theorem dL_law_443 : decode cL_law 443 = .ok (.iload 6, 2) := by decide +kernel
theorem dL_law_445 : decode cL_law 445 = .ok (.iaload, 1) := by decide +kernel
theorem dL_law_446 : decode cL_law 446 = .ok (.invokestatic 93, 3) := by decide +kernel
theorem dL_law_449 : decode cL_law 449 = .ok (.istore 5, 2) := by decide +kernel
theorem dL_law_451 : decode cL_law 451 = .ok (.iinc 6 1, 3) := by decide +kernel
theorem dL_law_454 : decode cL_law 454 = .ok (.goto (-52), 3) := by decide +kernel
theorem dL_law_457 : decode cL_law 457 = .ok (.iconst 0, 1) := by decide +kernel
theorem dL_law_458 : decode cL_law 458 = .ok (.istore 6, 2) := by decide +kernel
theorem dL_law_460 : decode cL_law 460 = .ok (.iload 6, 2) := by decide +kernel
theorem dL_law_462 : decode cL_law 462 = .ok (.iload_n 2, 1) := by decide +kernel
theorem dL_law_463 : decode cL_law 463 = .ok (.if_icmp .ge 69, 3) := by decide +kernel
theorem dL_law_466 : decode cL_law 466 = .ok (.iconst 0, 1) := by decide +kernel
theorem dL_law_467 : decode cL_law 467 = .ok (.istore 7, 2) := by decide +kernel
theorem dL_law_469 : decode cL_law 469 = .ok (.iload 7, 2) := by decide +kernel
theorem dL_law_471 : decode cL_law 471 = .ok (.bipush 32, 2) := by decide +kernel
theorem dL_law_473 : decode cL_law 473 = .ok (.if_icmp .ge 53, 3) := by decide +kernel
theorem dL_law_476 : decode cL_law 476 = .ok (.aload_n 1, 1) := by decide +kernel
theorem dL_law_477 : decode cL_law 477 = .ok (.iload 6, 2) := by decide +kernel
theorem dL_law_479 : decode cL_law 479 = .ok (.iload 7, 2) := by decide +kernel
theorem dL_law_481 : decode cL_law 481 = .ok (.invokevirtual 82, 3) := by decide +kernel
theorem dL_law_484 : decode cL_law 484 = .ok (.ifCond .eq 6, 3) := by decide +kernel
theorem dL_law_487 : decode cL_law 487 = .ok (.goto 33, 3) := by decide +kernel
theorem dL_law_490 : decode cL_law 490 = .ok (.aload_n 1, 1) := by decide +kernel
theorem dL_law_491 : decode cL_law 491 = .ok (.iload 6, 2) := by decide +kernel
theorem dL_law_493 : decode cL_law 493 = .ok (.iload 7, 2) := by decide +kernel
theorem dL_law_495 : decode cL_law 495 = .ok (.iload 4, 2) := by decide +kernel
theorem dL_law_497 : decode cL_law 497 = .ok (.iconst 1, 1) := by decide +kernel
theorem dL_law_498 : decode cL_law 498 = .ok (.invokevirtual 96, 3) := by decide +kernel
theorem dL_law_501 : decode cL_law 501 = .ok (.ifCond .lt 17, 3) := by decide +kernel
theorem dL_law_504 : decode cL_law 504 = .ok (.aload_n 1, 1) := by decide +kernel
theorem dL_law_505 : decode cL_law 505 = .ok (.iload 6, 2) := by decide +kernel
theorem dL_law_507 : decode cL_law 507 = .ok (.iload 7, 2) := by decide +kernel
theorem dL_law_509 : decode cL_law 509 = .ok (.iload 5, 2) := by decide +kernel
theorem dL_law_511 : decode cL_law 511 = .ok (.iconst 1, 1) := by decide +kernel
theorem dL_law_512 : decode cL_law 512 = .ok (.invokevirtual 96, 3) := by decide +kernel
theorem dL_law_515 : decode cL_law 515 = .ok (.ifCond .le 5, 3) := by decide +kernel
theorem dL_law_518 : decode cL_law 518 = .ok (.iconst 0, 1) := by decide +kernel
theorem dL_law_519 : decode cL_law 519 = .ok (.ireturn, 1) := by decide +kernel
theorem dL_law_520 : decode cL_law 520 = .ok (.iinc 7 8, 3) := by decide +kernel
theorem dL_law_523 : decode cL_law 523 = .ok (.goto (-54), 3) := by decide +kernel
theorem dL_law_526 : decode cL_law 526 = .ok (.iinc 6 1, 3) := by decide +kernel
theorem dL_law_529 : decode cL_law 529 = .ok (.goto (-69), 3) := by decide +kernel
theorem dL_law_532 : decode cL_law 532 = .ok (.iconst 0, 1) := by decide +kernel
theorem dL_law_533 : decode cL_law 533 = .ok (.istore 6, 2) := by decide +kernel
theorem dL_law_535 : decode cL_law 535 = .ok (.iload 6, 2) := by decide +kernel
theorem dL_law_537 : decode cL_law 537 = .ok (.iload_n 2, 1) := by decide +kernel
theorem dL_law_538 : decode cL_law 538 = .ok (.if_icmp .ge 161, 3) := by decide +kernel
theorem dL_law_541 : decode cL_law 541 = .ok (.iconst 0, 1) := by decide +kernel
theorem dL_law_542 : decode cL_law 542 = .ok (.istore 7, 2) := by decide +kernel
theorem dL_law_544 : decode cL_law 544 = .ok (.iload 7, 2) := by decide +kernel
theorem dL_law_546 : decode cL_law 546 = .ok (.iload_n 2, 1) := by decide +kernel
theorem dL_law_547 : decode cL_law 547 = .ok (.if_icmp .ge 146, 3) := by decide +kernel
theorem dL_law_550 : decode cL_law 550 = .ok (.iconst 0, 1) := by decide +kernel
theorem dL_law_551 : decode cL_law 551 = .ok (.istore 8, 2) := by decide +kernel
theorem dL_law_553 : decode cL_law 553 = .ok (.iload 8, 2) := by decide +kernel
theorem dL_law_555 : decode cL_law 555 = .ok (.iload_n 2, 1) := by decide +kernel
theorem dL_law_556 : decode cL_law 556 = .ok (.if_icmp .ge 131, 3) := by decide +kernel
theorem dL_law_559 : decode cL_law 559 = .ok (.aload_n 3, 1) := by decide +kernel
theorem dL_law_560 : decode cL_law 560 = .ok (.iload 6, 2) := by decide +kernel
theorem dL_law_562 : decode cL_law 562 = .ok (.iload 7, 2) := by decide +kernel
theorem dL_law_564 : decode cL_law 564 = .ok (.iconst 0, 1) := by decide +kernel
theorem dL_law_565 : decode cL_law 565 = .ok (.invokevirtual 100, 3) := by decide +kernel
theorem dL_law_568 : decode cL_law 568 = .ok (.ifCond .eq 113, 3) := by decide +kernel
theorem dL_law_571 : decode cL_law 571 = .ok (.aload_n 3, 1) := by decide +kernel
theorem dL_law_572 : decode cL_law 572 = .ok (.iload 6, 2) := by decide +kernel
theorem dL_law_574 : decode cL_law 574 = .ok (.iload 8, 2) := by decide +kernel
theorem dL_law_576 : decode cL_law 576 = .ok (.iconst 0, 1) := by decide +kernel
theorem dL_law_577 : decode cL_law 577 = .ok (.invokevirtual 100, 3) := by decide +kernel
theorem dL_law_580 : decode cL_law 580 = .ok (.ifCond .ne 6, 3) := by decide +kernel
theorem dL_law_583 : decode cL_law 583 = .ok (.goto 98, 3) := by decide +kernel
theorem dL_law_586 : decode cL_law 586 = .ok (.aload_n 1, 1) := by decide +kernel
theorem dL_law_587 : decode cL_law 587 = .ok (.iload 6, 2) := by decide +kernel
theorem dL_law_589 : decode cL_law 589 = .ok (.iload 7, 2) := by decide +kernel
theorem dL_law_591 : decode cL_law 591 = .ok (.iconst 0, 1) := by decide +kernel
theorem dL_law_592 : decode cL_law 592 = .ok (.iconst 1, 1) := by decide +kernel
theorem dL_law_593 : decode cL_law 593 = .ok (.invokevirtual 104, 3) := by decide +kernel
theorem dL_law_596 : decode cL_law 596 = .ok (.l2d, 1) := by decide +kernel
theorem dL_law_597 : decode cL_law 597 = .ok (.aload_n 1, 1) := by decide +kernel
theorem dL_law_598 : decode cL_law 598 = .ok (.iload 6, 2) := by decide +kernel
theorem dL_law_600 : decode cL_law 600 = .ok (.iload 7, 2) := by decide +kernel
theorem dL_law_602 : decode cL_law 602 = .ok (.iconst 0, 1) := by decide +kernel
theorem dL_law_603 : decode cL_law 603 = .ok (.iconst 0, 1) := by decide +kernel
theorem dL_law_604 : decode cL_law 604 = .ok (.invokevirtual 104, 3) := by decide +kernel
theorem dL_law_607 : decode cL_law 607 = .ok (.l2d, 1) := by decide +kernel
theorem dL_law_608 : decode cL_law 608 = .ok (.ddiv, 1) := by decide +kernel
theorem dL_law_609 : decode cL_law 609 = .ok (.dstore 9, 2) := by decide +kernel
end
section
theorem dL_law_611 : decode cL_law 611 = .ok (.aload_n 1, 1) := by decide +kernel
theorem dL_law_612 : decode cL_law 612 = .ok (.iload 6, 2) := by decide +kernel
theorem dL_law_614 : decode cL_law 614 = .ok (.iload 8, 2) := by decide +kernel
theorem dL_law_616 : decode cL_law 616 = .ok (.iconst 0, 1) := by decide +kernel
theorem dL_law_617 : decode cL_law 617 = .ok (.iconst 1, 1) := by decide +kernel
theorem dL_law_618 : decode cL_law 618 = .ok (.invokevirtual 104, 3) := by decide +kernel
theorem dL_law_621 : decode cL_law 621 = .ok (.l2d, 1) := by decide +kernel
theorem dL_law_622 : decode cL_law 622 = .ok (.aload_n 1, 1) := by decide +kernel
theorem dL_law_623 : decode cL_law 623 = .ok (.iload 6, 2) := by decide +kernel
theorem dL_law_625 : decode cL_law 625 = .ok (.iload 8, 2) := by decide +kernel
theorem dL_law_627 : decode cL_law 627 = .ok (.iconst 0, 1) := by decide +kernel
theorem dL_law_628 : decode cL_law 628 = .ok (.iconst 0, 1) := by decide +kernel
theorem dL_law_629 : decode cL_law 629 = .ok (.invokevirtual 104, 3) := by decide +kernel
theorem dL_law_632 : decode cL_law 632 = .ok (.l2d, 1) := by decide +kernel
theorem dL_law_633 : decode cL_law 633 = .ok (.ddiv, 1) := by decide +kernel
theorem dL_law_634 : decode cL_law 634 = .ok (.aload_n 1, 1) := by decide +kernel
theorem dL_law_635 : decode cL_law 635 = .ok (.iload 8, 2) := by decide +kernel
theorem dL_law_637 : decode cL_law 637 = .ok (.iload 7, 2) := by decide +kernel
theorem dL_law_639 : decode cL_law 639 = .ok (.iconst 0, 1) := by decide +kernel
theorem dL_law_640 : decode cL_law 640 = .ok (.iconst 1, 1) := by decide +kernel
theorem dL_law_641 : decode cL_law 641 = .ok (.invokevirtual 104, 3) := by decide +kernel
theorem dL_law_644 : decode cL_law 644 = .ok (.l2d, 1) := by decide +kernel
theorem dL_law_645 : decode cL_law 645 = .ok (.aload_n 1, 1) := by decide +kernel
theorem dL_law_646 : decode cL_law 646 = .ok (.iload 8, 2) := by decide +kernel
theorem dL_law_648 : decode cL_law 648 = .ok (.iload 7, 2) := by decide +kernel
theorem dL_law_650 : decode cL_law 650 = .ok (.iconst 0, 1) := by decide +kernel
theorem dL_law_651 : decode cL_law 651 = .ok (.iconst 0, 1) := by decide +kernel
theorem dL_law_652 : decode cL_law 652 = .ok (.invokevirtual 104, 3) := by decide +kernel
theorem dL_law_655 : decode cL_law 655 = .ok (.l2d, 1) := by decide +kernel
theorem dL_law_656 : decode cL_law 656 = .ok (.ddiv, 1) := by decide +kernel
theorem dL_law_657 : decode cL_law 657 = .ok (.dadd, 1) := by decide +kernel
theorem dL_law_658 : decode cL_law 658 = .ok (.dstore 11, 2) := by decide +kernel
theorem dL_law_660 : decode cL_law 660 = .ok (.dload 9, 2) := by decide +kernel
theorem dL_law_662 : decode cL_law 662 = .ok (.dload 11, 2) := by decide +kernel
theorem dL_law_664 : decode cL_law 664 = .ok (.ldc2_w 108, 3) := by decide +kernel
theorem dL_law_667 : decode cL_law 667 = .ok (.dadd, 1) := by decide +kernel
theorem dL_law_668 : decode cL_law 668 = .ok (.dcmp .l, 1) := by decide +kernel
theorem dL_law_669 : decode cL_law 669 = .ok (.ifCond .gt 10, 3) := by decide +kernel
theorem dL_law_672 : decode cL_law 672 = .ok (.dload 9, 2) := by decide +kernel
theorem dL_law_674 : decode cL_law 674 = .ok (.dconst 0, 1) := by decide +kernel
theorem dL_law_675 : decode cL_law 675 = .ok (.dcmp .g, 1) := by decide +kernel
theorem dL_law_676 : decode cL_law 676 = .ok (.ifCond .ge 5, 3) := by decide +kernel
theorem dL_law_679 : decode cL_law 679 = .ok (.iconst 0, 1) := by decide +kernel
theorem dL_law_680 : decode cL_law 680 = .ok (.ireturn, 1) := by decide +kernel
theorem dL_law_681 : decode cL_law 681 = .ok (.iinc 8 1, 3) := by decide +kernel
theorem dL_law_684 : decode cL_law 684 = .ok (.goto (-131), 3) := by decide +kernel
theorem dL_law_687 : decode cL_law 687 = .ok (.iinc 7 1, 3) := by decide +kernel
theorem dL_law_690 : decode cL_law 690 = .ok (.goto (-146), 3) := by decide +kernel
theorem dL_law_693 : decode cL_law 693 = .ok (.iinc 6 1, 3) := by decide +kernel
theorem dL_law_696 : decode cL_law 696 = .ok (.goto (-161), 3) := by decide +kernel
theorem dL_law_699 : decode cL_law 699 = .ok (.aload_n 1, 1) := by decide +kernel
theorem dL_law_700 : decode cL_law 700 = .ok (.iconst 0, 1) := by decide +kernel
theorem dL_law_701 : decode cL_law 701 = .ok (.invokevirtual 110, 3) := by decide +kernel
theorem dL_law_704 : decode cL_law 704 = .ok (.dconst 0, 1) := by decide +kernel
theorem dL_law_705 : decode cL_law 705 = .ok (.dcmp .l, 1) := by decide +kernel
theorem dL_law_706 : decode cL_law 706 = .ok (.ifCond .lt 7, 3) := by decide +kernel
theorem dL_law_709 : decode cL_law 709 = .ok (.iconst 1, 1) := by decide +kernel
theorem dL_law_710 : decode cL_law 710 = .ok (.goto 4, 3) := by decide +kernel
theorem dL_law_713 : decode cL_law 713 = .ok (.iconst 0, 1) := by decide +kernel
theorem dL_law_714 : decode cL_law 714 = .ok (.ireturn, 1) := by decide +kernel
end
section
/-! THE WORLD BY LABELS: every cell has a label (kind, number); its address is ad label, what it holds ct label. -/
abbrev xL : Type := Nat × Nat
def aw_P (D : va_G) (ad : xL → Nat) (ct : xL → Option va_E) (H : Heap) : Prop := ∀ (k : xL) (e : va_E), ct k = some e → va_at D vwCl (ad k, e) H
def aw_D (A : Nat → Prop) (ad : xL → Nat) (ct : xL → Option va_E) : Prop := (∀ i j : xL, ct i ≠ none → ct j ≠ none → ad i = ad j → i = j) ∧ ∀ i : xL, ct i ≠ none → A (ad i)
/-- the world: what the cells hold, that they are apart and among those that may change; whatever is new may change -/
def xW (D : va_G) (A : Nat → Prop) (ad : xL → Nat) (ct : xL → Option va_E) (H : Heap) : Prop := aw_P D ad ct H ∧ aw_D A ad ct ∧ ∀ q : Nat, H.size ≤ q → A q
def aw_up (ct : xL → Option va_E) (k : xL) (e : va_E) : xL → Option va_E := fun j => if j = k then some e else ct j
theorem aw_up_self {ct : xL → Option va_E} {k : xL} {e : va_E} : aw_up ct k e k = some e := if_pos rfl
theorem aw_up_ne {ct : xL → Option va_E} {k j : xL} {e : va_E} (h : j ≠ k) : aw_up ct k e j = ct j := if_neg h
theorem xW.one {D : va_G} {A : Nat → Prop} {ad : xL → Nat} {ct : xL → Option va_E} {H : Heap} (h : xW D A ad ct H) {k : xL} {e : va_E} (hk : ct k = some e) : va_P D vwCl [(ad k, e)] H := by
  intro i q hi
  cases i with
  | zero => cases hi; exact h.1 k e hk
  | succ i => simp at hi
theorem xW.inA {D : va_G} {A : Nat → Prop} {ad : xL → Nat} {ct : xL → Option va_E} {H : Heap} (h : xW D A ad ct H) {k : xL} {e : va_E} (hk : ct k = some e) : A (ad k) := h.2.1.2 k (by rw [hk]; exact fun q => by cases q)
theorem xW.lt {D : va_G} {A : Nat → Prop} {ad : xL → Nat} {ct : xL → Option va_E} {H : Heap} (h : xW D A ad ct H) {k : xL} {e : va_E} (hk : ct k = some e) : ad k < H.size := (h.1 k e hk).lt
theorem xW.ne {D : va_G} {A : Nat → Prop} {ad : xL → Nat} {ct : xL → Option va_E} {H : Heap} (h : xW D A ad ct H) {i j : xL} {e f : va_E} (hi : ct i = some e) (hj : ct j = some f) (hn : i ≠ j) : ad i ≠ ad j := fun q => hn (h.2.1.1 i j (by rw [hi]; exact fun q => by cases q) (by rw [hj]; exact fun q => by cases q) q)
theorem xW.set {D : va_G} {A : Nat → Prop} {ad : xL → Nat} {ct : xL → Option va_E} {H H1 : Heap} (h : xW D A ad ct H) {k : xL} {e0 e : va_E} (hk : ct k = some e0) (he : va_at D vwCl (ad k, e) H1) (z : H1.size = H.size) (oq : ∀ q : Nat, q ≠ ad k → H1[q]? = H[q]?) : xW D A ad (aw_up ct k e) H1 := by
  have hkn : ct k ≠ none := by rw [hk]; exact fun q => by cases q
  have dn : ∀ j : xL, aw_up ct k e j ≠ none → ct j ≠ none := by
    intro j hj
    by_cases hjk : j = k
    · rw [hjk]; exact hkn
    · rwa [aw_up_ne hjk] at hj
  refine ⟨?_, ⟨fun i j hi hj q => h.2.1.1 i j (dn i hi) (dn j hj) q, fun i hi => h.2.1.2 i (dn i hi)⟩, by rw [z]; exact h.2.2⟩
  intro j f hj
  by_cases hjk : j = k
  · subst hjk
    rw [aw_up_self] at hj
    cases hj
    exact he
  · rw [aw_up_ne hjk] at hj
    refine (h.1 j f hj).kept (oq _ ?_)
    exact fun q => hjk (h.2.1.1 j k (by rw [hj]; exact fun q => by cases q) hkn q)
theorem xW.ct {D : va_G} {A : Nat → Prop} {ad : xL → Nat} {ct ct' : xL → Option va_E} {H : Heap} (h : xW D A ad ct H) (e : ct = ct') : xW D A ad ct' H := e ▸ h
/-- the same labels, and cells that hold the same -/
theorem xW.alike {D : va_G} {A : Nat → Prop} {ad : xL → Nat} {ct ct' : xL → Option va_E} {H : Heap} (h : xW D A ad ct H) (e : ∀ (k : xL) (f : va_E), ct' k = some f → ∃ g, ct k = some g ∧ (va_at D vwCl (ad k, g) H → va_at D vwCl (ad k, f) H)) : xW D A ad ct' H := by
  have dn : ∀ k : xL, ct' k ≠ none → ct k ≠ none := by
    intro k hk
    cases hc : ct' k with
    | none => exact absurd hc hk
    | some f =>
      obtain ⟨g, hg, -⟩ := e k f hc
      rw [hg]
      exact fun q => by cases q
  refine ⟨fun k f hk => ?_, ⟨fun i j hi hj q => h.2.1.1 i j (dn i hi) (dn j hj) q, fun i hi => h.2.1.2 i (dn i hi)⟩, h.2.2⟩
  obtain ⟨g, hg, hi⟩ := e k f hk
  exact hi (h.1 k g hg)
/-- arrays that agree within their length are one cell -/
theorem xW_arrV {cA : ClassId} {n : Nat} {f g : Nat → Value} (h : ∀ j, j < n → f j = g j) : arrV cA n f = arrV cA n g := by
  have e : ∀ q : Nat, (arrV cA n f).slots[q]? = (arrV cA n g).slots[q]? := by
    intro q
    by_cases hq : q < n
    · rw [arrV_read _ _ hq, arrV_read _ _ hq, h q hq]
    · rw [Array.getElem?_eq_none (by rw [arrV_size]; omega), Array.getElem?_eq_none (by rw [arrV_size]; omega)]
  have e2 : (arrV cA n f).slots = (arrV cA n g).slots := Array.ext_getElem? e
  show ({ cls := cA, slots := (arrV cA n f).slots, vm := (arrV cA n f).vm } : Cell) = ({ cls := cA, slots := (arrV cA n g).slots, vm := (arrV cA n g).vm } : Cell)
  rw [e2]
  rfl
theorem xW_i {D : va_G} {a : Nat} {cA : ClassId} {n : Nat} {f g : Nat → Int32} {H : Heap} (h : ∀ j, j < n → f j = g j) (k : va_at D vwCl (a, .inl (cA, n, .inl f)) H) : va_at D vwCl (a, .inl (cA, n, .inl g)) H := by
  show H[a]? = some (vp_cell cA (n, .inl g))
  rw [vp_cell_i, ← xW_arrV (f := fun j => .int (f j)) (fun j hj => by rw [h j hj]), ← vp_cell_i]
  exact k
theorem xW_l {D : va_G} {a : Nat} {cA : ClassId} {n : Nat} {f g : Nat → Int64} {H : Heap} (h : ∀ j, j < n → f j = g j) (k : va_at D vwCl (a, .inl (cA, n, .inr (.inl f))) H) : va_at D vwCl (a, .inl (cA, n, .inr (.inl g))) H := by
  show H[a]? = some (vp_cell cA (n, .inr (.inl g)))
  rw [vp_cell_l, ← xW_arrV (f := fun j => .long (f j)) (fun j hj => by rw [h j hj]), ← vp_cell_l]
  exact k
/-- the arrays' classes: int, long, boolean, int[], Object, long[] -/
def xT (y : Nat → ClassId) : List (ClassId × FieldType) := [(y 0, .int), (y 1, .long), (y 2, .boolean), (y 3, .array .int), (y 4, .object "java/lang/Object"), (y 5, .array .long)]
/-- what every method knows of the machine beside the words -/
def xE (D : va_G) (y : Nat → ClassId) (U : State) : Prop := va_K D vwCl (xT y) U ∧ va_Nw (.methodLinkNest "NetlistBench$Equations" 49 ⟨"NetlistBench", "contains", "(II)Z"⟩ "NetlistBench") U
theorem xE.moved {D : va_G} {y : Nat → ClassId} {s U : State} (hW : s.WarmedH U.vm) (h : xE D y s) : xE D y U := ⟨va_K.moved hW.alike h.1, va_Nw.warmM hW h.2⟩
theorem xE.same {D : va_G} {y : Nat → ClassId} {s U : State} (hv : s.vm = U.vm) (h : xE D y s) : xE D y U := ⟨va_K.moved (by rw [hv]; exact Vm.Alike.refl U.vm) h.1, va_Nw.same rfl hv h.2⟩
/-- a method's start and its end -/
def xPc (av : List Value) (D : va_G) (y : Nat → ClassId) (H : Heap) : Array Value → State → Prop := va_Pc av (fun U => U.heap = H ∧ xE D y U)
def xQ (post : Option Value → Heap → Prop) (A : Nat → Prop) : Array Value → State → Outcome → State → Prop := fun _ st oc t => (∃ v, oc = .returned v ∧ post v t.heap) ∧ va_F A st t
theorem xPc_blind {av : List Value} {D : va_G} {y : Nat → ClassId} {H : Heap} : FrameBlind (xPc av D y H) := fun a U g mk q => ⟨q.1, q.2.1, q.2.2.same rfl⟩
theorem xM_start {l : Launch} {x : MethodName} {cc : ByteArray} {maxL : Nat} {ret : Option FieldType} {rm : Room} {av : List Value} {D : va_G} {y : Nat → ClassId} {H : Heap} {post : Option Value → Heap → Prop} {A : Nat → Prop} {mc ms : Nat}
    (hy : plainName x.cls = true) (hlen : (lg_sl av).length ≤ maxL)
    (body : ∀ (p : Program) (e : Env) (s : State) (m : MethodId) (below : List Frame) (meth : Method) (c : Code) (ls : Array Slot), p.tables.exec = Jvm.exec → c.code = cc → meth.sig.returnType = ret → meth.locks = false → c.maxLocals = maxL → s.vm.findClass x.cls = some m.cls → (∀ w ∈ WG, w.before av.toArray s = true) → s.heap = H → xE D y s → meth.name = x.name → va_S A H H [] → lv_has ls maxL (lv_args 0 av) →
      W p l e rm s m av.toArray below meth c H [] 0 0 (MQ below (xQ post A) av.toArray s mc ms A) (F0 m 0 ls [])) : Met l x (.code x cc maxL ret :: WG) rm (xPc av D y H) (xQ post A) mc ms A := by
  refine Met.ofW (cc := cc) (maxL := maxL) (ret := ret) hy rfl ?_
  intro p e s m args below meth c s₁ B hml hv
  obtain ⟨rfl, hH, hE⟩ := hv
  have hts := atoms_spec (ws := .code x cc maxL ret :: WG) B.pre
  have hl := lv_entry av (n := maxL) hlen
  rw [lg_entry_eq]
  have hb := body p e s m below meth c _ B.exec B.bytes B.returns B.notSynchronized hml (findClass_of_methodNamed B.named) (fun w h => hts w (List.mem_cons_of_mem _ h)) hH hE (name_of_methodNamed B.named B.method).1 va_S.rf hl
  rw [hH]
  exact hb
theorem xM_startF {l : Launch} {x : MethodName} {cc : ByteArray} {maxL : Nat} {ret : Option FieldType} {rm : Room} {av : List Value} {D : va_G} {y : Nat → ClassId} {H : Heap} {post : Option Value → Heap → Prop} {A : Nat → Prop} {mc ms : Nat}
    (hy : plainFor x = true) (hlen : (lg_sl av).length ≤ maxL)
    (body : ∀ (p : Program) (e : Env) (s : State) (m : MethodId) (below : List Frame) (meth : Method) (c : Code) (ls : Array Slot), p.tables.exec = Jvm.exec → c.code = cc → meth.sig.returnType = ret → meth.locks = false → c.maxLocals = maxL → s.vm.findClass x.cls = some m.cls → (∀ w ∈ WG, w.before av.toArray s = true) → s.heap = H → xE D y s → meth.name = x.name → va_S A H H [] → lv_has ls maxL (lv_args 0 av) →
      W p l e rm s m av.toArray below meth c H [] 0 0 (MQ below (xQ post A) av.toArray s mc ms A) (F0 m 0 ls [])) : Met l x (.code x cc maxL ret :: WG) rm (xPc av D y H) (xQ post A) mc ms A := by
  refine va_MetF (cc := cc) (maxL := maxL) (ret := ret) hy rfl ?_
  intro p e s m args below meth c s₁ B hml hv
  obtain ⟨rfl, hH, hE⟩ := hv
  have hts := atoms_spec (ws := .code x cc maxL ret :: WG) B.pre
  have hl := lv_entry av (n := maxL) hlen
  rw [lg_entry_eq]
  have hb := body p e s m below meth c _ B.exec B.bytes B.returns B.notSynchronized hml (findClass_of_methodNamed B.named) (fun w h => hts w (List.mem_cons_of_mem _ h)) hH hE (name_of_methodNamed B.named B.method).1 va_S.rf hl
  rw [hH]
  exact hb
section XR
variable {p : Program} {l : Launch} {e : Env} {R : Room} {s : State} {m : MethodId} {args : Array Value} {below : List Frame} {meth : Method} {c : Code} {H H0 : Heap} {locs : List Loc} {cells slots mc ms : Nat} {Q : State → Prop}
variable {cc : ByteArray} {pc : Nat} {ls : Array Slot} {rest : List Value} {D : va_G} {y : Nat → ClassId} {A : Nat → Prop} {ad : xL → Nat} {ct : xL → Option va_E} {post : Option Value → Heap → Prop}
theorem xq_end {v : Option Value} (hH : s.heap = H0) (hS : va_S A H0 H locs) (hp : post v H) (t : State) (ht : t.heap = H) : xQ post A args s (.returned v) t := ⟨⟨v, rfl, by rw [ht]; exact hp⟩, by rw [ht, hH]; exact hS.1, fun q h1 h2 => by rw [ht, hH]; rw [hH] at h1; exact hS.2.1 q h1 h2⟩
theorem xw_iret {v : Int32} (hexec : p.tables.exec = Jvm.exec) (hb : c.code = cc) (hr : meth.sig.returnType = some .int) (hlocks : meth.locks = false) (hH : s.heap = H0) (hS : va_S A H0 H locs) (h1 : cells ≤ mc) (h2 : slots ≤ ms) (hp : post (some (.int v)) H) (hdg : decode cc pc = .ok (.ireturn, 1)) : W p l e R s m args below meth c H locs cells slots (MQ below (xQ post A) args s mc ms A) (F0 m pc ls [.int v]) :=
  W.widen h1 h2 (W.iret hexec hb hr (fun t ht _ => xq_end hH hS hp t ht) hS.2.2 hdg hlocks)
theorem xw_zret {v : Int32} (hexec : p.tables.exec = Jvm.exec) (hb : c.code = cc) (hr : meth.sig.returnType = some .boolean) (hlocks : meth.locks = false) (hH : s.heap = H0) (hS : va_S A H0 H locs) (hn : narrow .boolean (.int v) = .int v) (h1 : cells ≤ mc) (h2 : slots ≤ ms) (hp : post (some (.int v)) H) (hdg : decode cc pc = .ok (.ireturn, 1)) : W p l e R s m args below meth c H locs cells slots (MQ below (xQ post A) args s mc ms A) (F0 m pc ls [.int v]) :=
  W.widen h1 h2 (W.zret hexec hb hr hn (fun t ht _ => xq_end hH hS hp t ht) hS.2.2 hdg hlocks)
theorem xw_lret {v : Int64} (hexec : p.tables.exec = Jvm.exec) (hb : c.code = cc) (hr : meth.sig.returnType = some .long) (hlocks : meth.locks = false) (hH : s.heap = H0) (hS : va_S A H0 H locs) (h1 : cells ≤ mc) (h2 : slots ≤ ms) (hp : post (some (.long v)) H) (hdg : decode cc pc = .ok (.lreturn, 1)) : W p l e R s m args below meth c H locs cells slots (MQ below (xQ post A) args s mc ms A) (F0 m pc ls [.long v]) :=
  W.widen h1 h2 (W.lret hexec hb hr (fun t ht _ => xq_end hH hS hp t ht) hS.2.2 hdg hlocks)
theorem xw_vret (hexec : p.tables.exec = Jvm.exec) (hb : c.code = cc) (hr : meth.sig.returnType = none) (hlocks : meth.locks = false) (hH : s.heap = H0) (hS : va_S A H0 H locs) (h1 : cells ≤ mc) (h2 : slots ≤ ms) (hp : post none H) (hdg : decode cc pc = .ok (.return_, 1)) : W p l e R s m args below meth c H locs cells slots (MQ below (xQ post A) args s mc ms A) (F0 m pc ls []) :=
  W.widen h1 h2 (W.vret hexec hb hr (fun t ht _ => xq_end hH hS hp t ht) hS.2.2 hdg hlocks)
theorem xw_aret {a : Nat} {rt : FieldType} (hexec : p.tables.exec = Jvm.exec) (hb : c.code = cc) (hr : meth.sig.returnType = some rt) (hrt : (∃ n, rt = .object n) ∨ ∃ t, rt = .array t) (hlocks : meth.locks = false) (hH : s.heap = H0) (hS : va_S A H0 H locs) (h1 : cells ≤ mc) (h2 : slots ≤ ms) (hp : post (some (.ref a)) H) (hdg : decode cc pc = .ok (.areturn, 1)) : W p l e R s m args below meth c H locs cells slots (MQ below (xQ post A) args s mc ms A) (F0 m pc ls [.ref a]) :=
  W.widen h1 h2 (W.aret hexec hb hr hrt (Or.inr ⟨a, rfl⟩) (fun t ht _ => xq_end hH hS hp t ht) hS.2.2 hdg hlocks)
/-- a value on the stack, written otherwise -/
theorem xt_i {v w : Int32} (h : v = w) (k : W p l e R s m args below meth c H locs cells slots Q (F0 m pc ls (.int w :: rest))) : W p l e R s m args below meth c H locs cells slots Q (F0 m pc ls (.int v :: rest)) := by rw [h]; exact k
theorem xt_l {v w : Int64} (h : v = w) (k : W p l e R s m args below meth c H locs cells slots Q (F0 m pc ls (.long w :: rest))) : W p l e R s m args below meth c H locs cells slots Q (F0 m pc ls (.long v :: rest)) := by rw [h]; exact k
theorem xt_d {v w : UInt64} (h : v = w) (k : W p l e R s m args below meth c H locs cells slots Q (F0 m pc ls (.double w :: rest))) : W p l e R s m args below meth c H locs cells slots Q (F0 m pc ls (.double v :: rest)) := by rw [h]; exact k
theorem xt_v {v w : Value} (h : v = w) (k : W p l e R s m args below meth c H locs cells slots Q (F0 m pc ls (w :: rest))) : W p l e R s m args below meth c H locs cells slots Q (F0 m pc ls (v :: rest)) := by rw [h]; exact k
/-- fields -/
theorem xw_get (hexec : p.tables.exec = Jvm.exec) (hb : c.code = cc) {own ref C : String} {T : u_T} {N ci index : Nat} (hts : ∀ w ∈ WG, w.before args s = true) (hown : s.vm.findClass own = some m.cls) (hE : xE D y s) (hP : xW D A ad ct H) (hin : ∀ w ∈ u_ws C T N, w ∈ WG) (lab : xL) {fs : List Value} (he : ct lab = some (.inr (ci, fs))) (hc : vwCl[ci]? = some (C, T, N)) (k : Nat) (hk : k < N) (hlink : Cond.fieldLink own index ref (T k).2.1 (T k).2.2.1 ∈ WG) (hsame : ∀ x, s.fieldFound? (T k).1 (T k).2.1 (T k).2.2.1 = some x → s.fieldFound? ref (T k).2.1 (T k).2.2.1 = some x) {v : Value} (hv : fs[k]? = some v) (hdg : decode cc pc = .ok (.getfield index, 3))
    (kk : W p l e R s m args below meth c H locs cells slots Q (F0 m (pc + 3) ls (v :: rest))) : W p l e R s m args below meth c H locs cells slots Q (F0 m pc ls (.ref (ad lab) :: rest)) :=
  va_get hexec hb hts hin hown hE.1 (hP.one he) 0 rfl hc k hk (hts _ hlink) hsame hv hdg kk
theorem xw_put (hexec : p.tables.exec = Jvm.exec) (hb : c.code = cc) {own ref C : String} {T : u_T} {N ci index : Nat} (hts : ∀ w ∈ WG, w.before args s = true) (hown : s.vm.findClass own = some m.cls) (hE : xE D y s) (hP : xW D A ad ct H) (hS0 : va_S A H0 H locs) (hin : ∀ w ∈ u_ws C T N, w ∈ WG) (ty0 : Nat → FieldType) (hty : ∀ k, k < N → parseFieldDescriptor (T k).2.2.1 = some (ty0 k)) (hnm : ∀ a, a < N → ∀ b, b < N → a ≠ b → (T a).2.1 ≠ (T b).2.1) (lab : xL) {fs : List Value} (he : ct lab = some (.inr (ci, fs))) (hc : vwCl[ci]? = some (C, T, N)) (k : Nat) (hk : k < N) (hlink : Cond.fieldLink own index ref (T k).2.1 (T k).2.2.1 ∈ WG) (hsame : ∀ x, s.fieldFound? (T k).1 (T k).2.1 (T k).2.2.1 = some x → s.fieldFound? ref (T k).2.1 (T k).2.2.1 = some x) (hfin : (T k).2.2.2 = false) {ty : FieldType} {v : Value} (hd : parseFieldDescriptor (T k).2.2.1 = some ty) (hn : narrow ty v = v) (hfit : fits ty v = true) (hl : k < fs.length) (hdg : decode cc pc = .ok (.putfield index, 3))
    (kk : ∀ (H1 : Heap) (locs1 : List Loc), xW D A ad (aw_up ct lab (.inr (ci, fs.set k v))) H1 → va_S A H0 H1 locs1 → W p l e R s m args below meth c H1 locs1 cells slots Q (F0 m (pc + 3) ls rest)) : W p l e R s m args below meth c H locs cells slots Q (F0 m pc ls (v :: .ref (ad lab) :: rest)) := by
  have hap := va_apart (own := own) hts hin ty0 hty hnm hE.1 hc
  obtain ⟨r, h1, cell, q1, q2, q3, q4⟩ := hP.1 _ _ he
  have hr : r = (C, T, N) := Option.some.inj (h1.symm.trans hc)
  subst hr
  obtain ⟨hS, hfc, kC, hkC, hkind⟩ := hE.1.1 ci _ hc
  obtain ⟨cf, kf, fi, f, hi, hsl⟩ := hS k hk
  have hlay := hts _ (hin _ (u_in_lay hk))
  unfold u_lay at hlay
  rw [if_neg (by rw [hfin]; decide)] at hlay
  have hst := (u_facts hfc hkC (u_lays hts hin hk) hi).1
  have h6 := u_store hfc hkC hkind hlay hi hd hn hfit
  refine W.putK hexec hb (f := f) ⟨hown, hts _ hlink, ⟨_, _, _, hsame _ hi⟩, hst⟩ (by rw [q2]; exact h6) q1 q3 (by rw [hsl]; exact k2_hasslot (q4 k hk)) rfl rfl hdg fun H' e1 e2 e3 => ?_
  rw [hsl] at e1 ⊢
  exact kk H' _ (hP.set he ⟨_, hc, t_OB.to (V := updV (vp_V fs) k v) ⟨_, e1, q2, q3, t_set q4 hap hk v⟩ (fun j _ => vp_updV_set hl v j)⟩ e2 e3) (hS0.put e2 e3 (hP.inA he))
/-- arrays -/
theorem xw_iald (hexec : p.tables.exec = Jvm.exec) (hb : c.code = cc) (hE : xE D y s) (hP : xW D A ad ct H) (lab : xL) {n : Nat} {f : Nat → Int32} (he : ct lab = some (.inl (y 0, n, .inl f))) {i : Nat} (hi : i < n) (hn : n < 2 ^ 31) (hdg : decode cc pc = .ok (.iaload, 1))
    (kk : W p l e R s m args below meth c H locs cells slots Q (F0 m (pc + 1) ls (.int (f i) :: rest))) : W p l e R s m args below meth c H locs cells slots Q (F0 m pc ls (.int (nI i) :: .ref (ad lab) :: rest)) :=
  va_iald hexec hb hE.1 (hP.one he) 0 0 rfl rfl (vp_in_nI hi hn) hdg (by rw [nI_clamp (by omega)]; exact kk)
theorem xw_zald (hexec : p.tables.exec = Jvm.exec) (hb : c.code = cc) (hE : xE D y s) (hP : xW D A ad ct H) (lab : xL) {n : Nat} {f : Nat → Int32} (he : ct lab = some (.inl (y 2, n, .inl f))) {i : Nat} (hi : i < n) (hn : n < 2 ^ 31) (hdg : decode cc pc = .ok (.baload, 1))
    (kk : W p l e R s m args below meth c H locs cells slots Q (F0 m (pc + 1) ls (.int (f i) :: rest))) : W p l e R s m args below meth c H locs cells slots Q (F0 m pc ls (.int (nI i) :: .ref (ad lab) :: rest)) :=
  va_zald hexec hb hE.1 (hP.one he) 0 2 rfl rfl (vp_in_nI hi hn) hdg (by rw [nI_clamp (by omega)]; exact kk)
theorem xw_lald (hexec : p.tables.exec = Jvm.exec) (hb : c.code = cc) (hE : xE D y s) (hP : xW D A ad ct H) (lab : xL) {n : Nat} {f : Nat → Int64} (he : ct lab = some (.inl (y 1, n, .inr (.inl f)))) {i : Nat} (hi : i < n) (hn : n < 2 ^ 31) (hdg : decode cc pc = .ok (.laload, 1))
    (kk : W p l e R s m args below meth c H locs cells slots Q (F0 m (pc + 1) ls (.long (f i) :: rest))) : W p l e R s m args below meth c H locs cells slots Q (F0 m pc ls (.int (nI i) :: .ref (ad lab) :: rest)) :=
  va_lald hexec hb hE.1 (hP.one he) 0 1 rfl rfl (vp_in_nI hi hn) hdg (by rw [nI_clamp (by omega)]; exact kk)
theorem xw_iast (hexec : p.tables.exec = Jvm.exec) (hb : c.code = cc) (hE : xE D y s) (hP : xW D A ad ct H) (hS : va_S A H0 H locs) (lab : xL) {n : Nat} {f : Nat → Int32} (he : ct lab = some (.inl (y 0, n, .inl f))) {i : Nat} (hi : i < n) (hn : n < 2 ^ 31) {x : Int32} (hdg : decode cc pc = .ok (.iastore, 1))
    (kk : ∀ (H1 : Heap) (locs1 : List Loc), xW D A ad (aw_up ct lab (.inl (y 0, n, .inl (upd f i x)))) H1 → va_S A H0 H1 locs1 → W p l e R s m args below meth c H1 locs1 cells slots Q (F0 m (pc + 1) ls rest)) : W p l e R s m args below meth c H locs cells slots Q (F0 m pc ls (.int x :: .int (nI i) :: .ref (ad lab) :: rest)) := by
  refine W.iast hexec hb (hP.1 _ _ he) ((hE.1.2 0 _ rfl).1 n (fun j => .int (f j))) (fun q => by cases q) (by show ¬ (nI i < 0 ∨ (arrV _ _ _).slots.size ≤ _); rw [arrV_size]; exact vp_in_nI hi hn) rfl rfl hdg fun H1 e z oq => ?_
  refine kk H1 _ (hP.set he ?_ z oq) (hS.put z oq (hP.inA he))
  show H1[ad lab]? = some (vp_cell _ _)
  rw [e, nI_clamp (by omega)]
  show some ((vp_cell (y 0) (n, .inl f)).setSlot i (.int x)) = _
  rw [vp_cell_i, vp_cell_i, arrV_store]
  congr 2
  funext q
  by_cases hq : q = i
  · subst hq
    simp [updV, upd]
  · simp [updV, upd, hq]
theorem xw_zast (hexec : p.tables.exec = Jvm.exec) (hb : c.code = cc) (hE : xE D y s) (hP : xW D A ad ct H) (hS : va_S A H0 H locs) (lab : xL) {n : Nat} {f : Nat → Int32} (he : ct lab = some (.inl (y 2, n, .inl f))) {i : Nat} (hi : i < n) (hn : n < 2 ^ 31) {x : Int32} (hx : narrow .boolean (.int x) = .int x) (hdg : decode cc pc = .ok (.bastore, 1))
    (kk : ∀ (H1 : Heap) (locs1 : List Loc), xW D A ad (aw_up ct lab (.inl (y 2, n, .inl (upd f i x)))) H1 → va_S A H0 H1 locs1 → W p l e R s m args below meth c H1 locs1 cells slots Q (F0 m (pc + 1) ls rest)) : W p l e R s m args below meth c H locs cells slots Q (F0 m pc ls (.int x :: .int (nI i) :: .ref (ad lab) :: rest)) := by
  refine W.zast hexec hb (hP.1 _ _ he) ((hE.1.2 2 _ rfl).1 n (fun j => .int (f j))) (fun q => by cases q) (by show ¬ (nI i < 0 ∨ (arrV _ _ _).slots.size ≤ _); rw [arrV_size]; exact vp_in_nI hi hn) rfl rfl hdg fun H1 e z oq => ?_
  refine kk H1 _ (hP.set he ?_ z oq) (hS.put z oq (hP.inA he))
  show H1[ad lab]? = some (vp_cell _ _)
  rw [e, nI_clamp (by omega)]
  show some ((vp_cell (y 2) (n, .inl f)).setSlot i (narrow .boolean (.int x))) = _
  rw [hx, vp_cell_i, vp_cell_i, arrV_store]
  congr 2
  funext q
  by_cases hq : q = i
  · subst hq
    simp [updV, upd]
  · simp [updV, upd, hq]
theorem xw_last (hexec : p.tables.exec = Jvm.exec) (hb : c.code = cc) (hE : xE D y s) (hP : xW D A ad ct H) (hS : va_S A H0 H locs) (lab : xL) {n : Nat} {f : Nat → Int64} (he : ct lab = some (.inl (y 1, n, .inr (.inl f)))) {i : Nat} (hi : i < n) (hn : n < 2 ^ 31) {x : Int64} (hdg : decode cc pc = .ok (.lastore, 1))
    (kk : ∀ (H1 : Heap) (locs1 : List Loc), xW D A ad (aw_up ct lab (.inl (y 1, n, .inr (.inl (vp_updL f i x))))) H1 → va_S A H0 H1 locs1 → W p l e R s m args below meth c H1 locs1 cells slots Q (F0 m (pc + 1) ls rest)) : W p l e R s m args below meth c H locs cells slots Q (F0 m pc ls (.long x :: .int (nI i) :: .ref (ad lab) :: rest)) := by
  refine W.last hexec hb (hP.1 _ _ he) ((hE.1.2 1 _ rfl).1 n (fun j => .long (f j))) (fun q => by cases q) (by show ¬ (nI i < 0 ∨ (arrV _ _ _).slots.size ≤ _); rw [arrV_size]; exact vp_in_nI hi hn) rfl rfl hdg fun H1 e z oq => ?_
  refine kk H1 _ (hP.set he ?_ z oq) (hS.put z oq (hP.inA he))
  show H1[ad lab]? = some (vp_cell _ _)
  rw [e, nI_clamp (by omega)]
  show some ((vp_cell (y 1) (n, .inr (.inl f))).setSlot i (.long x)) = _
  rw [vp_cell_l, vp_cell_l, arrV_store]
  congr 2
  funext q
  by_cases hq : q = i
  · subst hq
    simp [updV, vp_updL]
  · simp [updV, vp_updL, hq]
/-- calls -/
theorem xw_pre {av : List Value} (hE : xE D y s) : ∀ U : State, U.heap = H → s.WarmedH U.vm → xPc av D y H av.toArray U := fun U hU hW => ⟨rfl, hU, hE.moved hW⟩
theorem xw_cb {own : String} {index maxL n : Nat} {x : MethodName} {bytes : ByteArray} {ret : Option FieldType} {rm : Room} (hts : ∀ w ∈ WG, w.before args s = true) (hrc : rm.cells = mc) (hrs : rm.slots = ms) (hini : Cond.initialized x.cls ∈ WG) (hl : Cond.methodLink own index x ∈ WG) (hcode : Cond.code x bytes maxL ret ∈ WG) (hd : x.cls ≠ "java/lang/invoke/MethodHandle" ∧ x.cls ≠ "java/lang/invoke/VarHandle" ∧ (parseMethodDescriptor x.desc).map (fun d => d.parameters.length) = some n) (hR : rm.frames + 1 ≤ R.frames ∧ 8 + (maxL + 11) + rm.locals ≤ R.locals) : CallB R s args own index x bytes maxL ret (.code x bytes maxL ret :: WG) rm mc ms n :=
  callB_of n hts (WG_in (fun w h => h) hcode) rfl hrc hrs (hts _ hini) (hts _ hl) hd hR
theorem xw_go {As : List Value} {a : Array Value} {st0 : List Value} (hr : va_Run p l e R s m args below meth c H locs cells slots mc ms (F0 m pc ls st0) rest (xQ post A a) A) (hS : va_S A H0 H locs)
    (kk : ∀ (v : Option Value) (H1 : Heap) (locs1 : List Loc), post v H1 → va_S A H0 H1 locs1 → W p l e R s m args below meth c H1 locs1 (cells + mc) (slots + ms) Q (F0 m (pc + 3) ls (v.toList ++ rest))) : W p l e R s m args below meth c H locs cells slots Q (F0 m pc ls st0) := by
  intro T hT X
  obtain ⟨v, st₀, t, T', L, h0, X', hL, e1, e2, ⟨⟨r, hv, hp⟩, hz, hk⟩, st⟩ := hr T hT X
  cases hv
  rw [h0] at hz hk
  obtain ⟨t2, a1, b1⟩ := kk v T'.heap (locs ++ L) (by rw [e1]; exact hp)
    ⟨Nat.le_trans hS.1 (by rw [e1]; exact hz), fun q h1 h2 => by rw [e1, hk q (Nat.lt_of_lt_of_le h1 hS.1) h2]; exact hS.2.1 q h1 h2, fun q hq => by
      rcases List.mem_append.mp hq with h | h
      · exact hS.2.2 q h
      · exact hL q h⟩ T' rfl X'
  exact ⟨t2, st t2 a1, b1⟩
theorem xw_callV {own C : String} {index maxL nL n : Nat} {x : MethodName} {bytes : ByteArray} {ret : Option FieldType} {rm : Room} {b : Addr} {st0 : List Value} (As : List Value) (hM : Met l x (.code x bytes maxL ret :: WG) rm (xPc (.ref b :: As) D y H) (xQ post A) mc ms A) (hexec : p.tables.exec = Jvm.exec) (hb : c.code = cc) (hml : c.maxLocals = nL) (hown : s.vm.findClass own = some m.cls) (hts : ∀ w ∈ WG, w.before args s = true) (hE : xE D y s) (hS : va_S A H0 H locs) (hrecv : ∃ cellB : Cell, H[b]? = some cellB ∧ cellB.vm.isStatics = false ∧ s.vm.findClass C = some cellB.cls)
    (hrc : rm.cells = mc) (hrs : rm.slots = ms) (hini : Cond.initialized x.cls ∈ WG) (hl : Cond.methodLink own index x ∈ WG) (hcode : Cond.code x bytes maxL ret ∈ WG) (hin : Cond.instanceMethod x ∈ WG) (hsel : Cond.selects C x x ∈ WG) (hd : x.cls ≠ "java/lang/invoke/MethodHandle" ∧ x.cls ≠ "java/lang/invoke/VarHandle" ∧ (parseMethodDescriptor x.desc).map (fun d => d.parameters.length) = some n) (hn : As.length = n) (hR : rm.frames + 1 ≤ R.frames ∧ 8 + (maxL + 11) + rm.locals ≤ R.locals)
    (hsize : ls.size = nL) (hstack : st0 = As.reverse ++ .ref b :: rest) (hW : (rest.map fun v => v.category).sum ≤ 8) (hdg : decode cc pc = .ok (.invokevirtual index, 3)) (hf : cells + mc ≤ R.cells ∧ slots + ms ≤ R.slots)
    (kk : ∀ (v : Option Value) (H1 : Heap) (locs1 : List Loc), post v H1 → va_S A H0 H1 locs1 → W p l e R s m args below meth c H1 locs1 (cells + mc) (slots + ms) Q (F0 m (pc + 3) ls (v.toList ++ rest))) : W p l e R s m args below meth c H locs cells slots Q (F0 m pc ls st0) :=
  xw_go (As := As) (va_runV (rest := rest) ⟨hexec, hb, hml, hown, hts⟩ hM ⟨xw_cb hts hrc hrs hini hl hcode hd hR, hts _ hin, hts _ hsel⟩ ⟨xPc_blind, hrecv, xw_pre hE⟩ rfl hn hsize hstack (lv_room hW) hdg hf) hS kk
theorem xw_callS {own : String} {index maxL nL n : Nat} {x : MethodName} {bytes : ByteArray} {ret : Option FieldType} {rm : Room} {st0 : List Value} (As : List Value) (hM : Met l x (.code x bytes maxL ret :: WG) rm (xPc As D y H) (xQ post A) mc ms A) (hexec : p.tables.exec = Jvm.exec) (hb : c.code = cc) (hml : c.maxLocals = nL) (hown : s.vm.findClass own = some m.cls) (hts : ∀ w ∈ WG, w.before args s = true) (hE : xE D y s) (hS : va_S A H0 H locs)
    (hrc : rm.cells = mc) (hrs : rm.slots = ms) (hini : Cond.initialized x.cls ∈ WG) (hl : Cond.methodLink own index x ∈ WG) (hcode : Cond.code x bytes maxL ret ∈ WG) (hst : Cond.static x ∈ WG) (hd : x.cls ≠ "java/lang/invoke/MethodHandle" ∧ x.cls ≠ "java/lang/invoke/VarHandle" ∧ (parseMethodDescriptor x.desc).map (fun d => d.parameters.length) = some n) (hn : As.length = n) (hR : rm.frames + 1 ≤ R.frames ∧ 8 + (maxL + 11) + rm.locals ≤ R.locals)
    (hsize : ls.size = nL) (hstack : st0 = As.reverse ++ rest) (hW : (rest.map fun v => v.category).sum ≤ 8) (hdg : decode cc pc = .ok (.invokestatic index, 3)) (hf : cells + mc ≤ R.cells ∧ slots + ms ≤ R.slots)
    (kk : ∀ (v : Option Value) (H1 : Heap) (locs1 : List Loc), post v H1 → va_S A H0 H1 locs1 → W p l e R s m args below meth c H1 locs1 (cells + mc) (slots + ms) Q (F0 m (pc + 3) ls (v.toList ++ rest))) : W p l e R s m args below meth c H locs cells slots Q (F0 m pc ls st0) :=
  xw_go (As := As) (va_runS (rest := rest) ⟨hexec, hb, hml, hown, hts⟩ hM ⟨xw_cb hts hrc hrs hini hl hcode hd hR, hts _ hst⟩ ⟨xPc_blind, xw_pre hE⟩ rfl hn hsize hstack (lv_room hW) hdg hf) hS kk
theorem xw_recv {C : String} {T : u_T} {N ci : Nat} (hE : xE D y s) (hP : xW D A ad ct H) (lab : xL) {fs : List Value} (he : ct lab = some (.inr (ci, fs))) (hc : vwCl[ci]? = some (C, T, N)) : ∃ cellB : Cell, H[ad lab]? = some cellB ∧ cellB.vm.isStatics = false ∧ s.vm.findClass C = some cellB.cls := va_recv hE.1 (hP.one he) (q0 := 0) hc rfl
theorem xw_cast {own nm : String} {T : u_T} {N ci index : Nat} (hexec : p.tables.exec = Jvm.exec) (hb : c.code = cc) (hts : ∀ w ∈ WG, w.before args s = true) (hown : s.vm.findClass own = some m.cls) (hE : xE D y s) (hP : xW D A ad ct H) (lab : xL) {fs : List Value} (he : ct lab = some (.inr (ci, fs))) (hc : vwCl[ci]? = some (nm, T, N)) (hlink : Cond.classLink own index nm ∈ WG) (hdg : decode cc pc = .ok (.checkcast index, 3))
    (k : W p l e R s m args below meth c H locs cells slots Q (F0 m (pc + 3) ls (.ref (ad lab) :: rest))) : W p l e R s m args below meth c H locs cells slots Q (F0 m pc ls (.ref (ad lab) :: rest)) :=
  va_castS hexec hb hown (hts _ hlink) (hE.1.1 ci _ hc).2 (xw_recv hE hP lab he hc) hdg k
end XR
end
section
/-! THE WORLD: kinds 0..19 the bench, 20..39 the reference, 40.. the law's own rows. Written by wip/whole/tools/genrows.py. -/
/-- a circuit, as both sides hold it: how many nodes; isRail, potential; how many elements; isSource, a, b, size, isOn, toggles; the toggles' times, six places an element -/
abbrev xC : Type := Nat × (Nat → Int32) × (Nat → Int32) × Nat × (Nat → Int32) × (Nat → Int32) × (Nat → Int32) × (Nat → Int32) × (Nat → Int32) × (Nat → Int32) × (Nat → Int32)
def nN (z : xC) : Nat := z.1
def nR (z : xC) : Nat → Int32 := z.2.1
def nP (z : xC) : Nat → Int32 := z.2.2.1
def nE (z : xC) : Nat := z.2.2.2.1
def eS (z : xC) : Nat → Int32 := z.2.2.2.2.1
def eA (z : xC) : Nat → Int32 := z.2.2.2.2.2.1
def eB (z : xC) : Nat → Int32 := z.2.2.2.2.2.2.1
def eZ (z : xC) : Nat → Int32 := z.2.2.2.2.2.2.2.1
def eO (z : xC) : Nat → Int32 := z.2.2.2.2.2.2.2.2.1
def eT (z : xC) : Nat → Int32 := z.2.2.2.2.2.2.2.2.2.1
def tT (z : xC) : Nat → Int32 := z.2.2.2.2.2.2.2.2.2.2
def s_nN (z : xC) (v : Nat) : xC := (v, nR z, nP z, nE z, eS z, eA z, eB z, eZ z, eO z, eT z, tT z)
def s_nR (z : xC) (v : Nat → Int32) : xC := (nN z, v, nP z, nE z, eS z, eA z, eB z, eZ z, eO z, eT z, tT z)
def s_nP (z : xC) (v : Nat → Int32) : xC := (nN z, nR z, v, nE z, eS z, eA z, eB z, eZ z, eO z, eT z, tT z)
def s_nE (z : xC) (v : Nat) : xC := (nN z, nR z, nP z, v, eS z, eA z, eB z, eZ z, eO z, eT z, tT z)
def s_eS (z : xC) (v : Nat → Int32) : xC := (nN z, nR z, nP z, nE z, v, eA z, eB z, eZ z, eO z, eT z, tT z)
def s_eA (z : xC) (v : Nat → Int32) : xC := (nN z, nR z, nP z, nE z, eS z, v, eB z, eZ z, eO z, eT z, tT z)
def s_eB (z : xC) (v : Nat → Int32) : xC := (nN z, nR z, nP z, nE z, eS z, eA z, v, eZ z, eO z, eT z, tT z)
def s_eZ (z : xC) (v : Nat → Int32) : xC := (nN z, nR z, nP z, nE z, eS z, eA z, eB z, v, eO z, eT z, tT z)
def s_eO (z : xC) (v : Nat → Int32) : xC := (nN z, nR z, nP z, nE z, eS z, eA z, eB z, eZ z, v, eT z, tT z)
def s_eT (z : xC) (v : Nat → Int32) : xC := (nN z, nR z, nP z, nE z, eS z, eA z, eB z, eZ z, eO z, v, tT z)
def s_tT (z : xC) (v : Nat → Int32) : xC := (nN z, nR z, nP z, nE z, eS z, eA z, eB z, eZ z, eO z, eT z, v)
/-- the lists' own numbers: modCount, modCount, length of the data, length of the data -/
abbrev xM : Type := Int32 × Int32 × Nat × Nat
abbrev xr (f : Nat → Option Nat) : (Nat → Int32) ⊕ (Nat → Int64) ⊕ (Nat → UInt32) ⊕ (Nat → UInt64) ⊕ (Nat → Option Nat) := .inr (.inr (.inr (.inr f)))
def wB (y : Nat → ClassId) (ad : xL → Nat) (bl : xM) (z : xC) (g pl : Nat → Int32) (kn : Nat → Int64) (rw : Nat → Nat → Int64) (mi : Nat → Int64) (un : Int32) : Nat → Nat → Option va_E
  | 0, 0 => some (.inr (4, [.ref (ad (1, 0)), .ref (ad (3, 0)), .ref (ad (5, 0)), .ref (ad (6, 0))]))
  | 1, 0 => some (.inr (0, [.int bl.1, .ref (ad (2, 0)), .int (nI (nN z))]))
  | 2, 0 => if nN z = 0 then none else some (.inl (y 4, bl.2.2.1, xr (fun i => if i < nN z then some (ad (12, i)) else none)))
  | 3, 0 => some (.inr (0, [.int bl.2.1, .ref (ad (4, 0)), .int (nI (nE z))]))
  | 4, 0 => if nE z = 0 then none else some (.inl (y 4, bl.2.2.2, xr (fun i => if i < nE z then some (ad (13, i)) else none)))
  | 5, 0 => some (.inl (y 0, 8, .inl g))
  | 6, 0 => some (.inr (2, [.ref (ad (7, 0)), .ref (ad (8, 0)), .ref (ad (9, 0)), .ref (ad (11, 0)), .int un]))
  | 7, 0 => some (.inl (y 0, 8, .inl pl))
  | 8, 0 => some (.inl (y 1, 8, .inr (.inl kn)))
  | 9, 0 => some (.inl (y 5, 7, xr (fun i => if i < 7 then some (ad (10, i)) else none)))
  | 10, i => if i < 7 then some (.inl (y 1, 8, .inr (.inl (rw i)))) else none
  | 11, 0 => some (.inl (y 1, 256, .inr (.inl mi)))
  | 12, i => if i < nN z then some (.inr (3, [.int (nR z i), .int (nP z i)])) else none
  | 13, i => if i < nE z then some (.inr (1, [.int (eS z i), .int (eA z i), .int (eB z i), .int (eZ z i), .int (eO z i), .int (eT z i), .ref (ad (14, i))])) else none
  | 14, i => if i < nE z then some (.inl (y 0, 6, .inl (fun j => tT z (6 * i + j)))) else none
  | _, _ => none
/-- the law's own circuit: the rails' row, the elements' rows -/
def wH (y : Nat → ClassId) (ad : xL → Nat) (nr : Nat) (hr : Nat → Int32) (ne : Nat) (hk : Nat → Nat) (hw : Nat → Nat → Int32) : Nat → Nat → Option va_E
  | 0, 0 => some (.inr (5, [.ref (ad (21, 0)), .ref (ad (22, 0))]))
  | 1, 0 => some (.inl (y 0, nr, .inl hr))
  | 2, 0 => some (.inl (y 3, ne, xr (fun i => if i < ne then some (ad (23, i)) else none)))
  | 3, i => if i < ne then some (.inl (y 0, hk i, .inl (hw i))) else none
  | _, _ => none
/-- the law's three times -/
def wO (y : Nat → ClassId) (f : Nat → Int32) : Nat → Nat → Option va_E
  | 0, 0 => some (.inl (y 0, 3, .inl f))
  | _, _ => none
def wU (fB fR fO : Nat → Nat → Option va_E) : xL → Option va_E := fun q => if q.1 < 20 then fB q.1 q.2 else if q.1 < 40 then fR (q.1 - 20) q.2 else fO (q.1 - 40) q.2
theorem wU_B {fB fB' fR fO : Nat → Nat → Option va_E} {k i : Nat} {e : va_E} (hk : k < 20) (h : ∀ a b : Nat, ¬ (a = k ∧ b = i) → fB a b = fB' a b) (h2 : fB' k i = some e) : aw_up (wU fB fR fO) (k, i) e = wU fB' fR fO := by
  funext q
  obtain ⟨a, b⟩ := q
  by_cases hq : (a, b) = (k, i)
  · cases hq
    rw [aw_up_self]
    unfold wU
    rw [if_pos hk]
    exact h2.symm
  · rw [aw_up_ne hq]
    unfold wU
    by_cases ha : a < 20
    · rw [if_pos ha, if_pos ha]
      exact h a b (fun e => hq (by rw [e.1, e.2]))
    · rw [if_neg ha, if_neg ha]
theorem wU_R {fB fR fR' fO : Nat → Nat → Option va_E} {k i : Nat} {e : va_E} (hk : k < 20) (h : ∀ a b : Nat, ¬ (a = k ∧ b = i) → fR a b = fR' a b) (h2 : fR' k i = some e) : aw_up (wU fB fR fO) (k + 20, i) e = wU fB fR' fO := by
  funext q
  obtain ⟨a, b⟩ := q
  by_cases hq : (a, b) = (k + 20, i)
  · cases hq
    rw [aw_up_self]
    unfold wU
    rw [if_neg (show ¬ k + 20 < 20 by omega), if_pos (show k + 20 < 40 by omega), Nat.add_sub_cancel]
    exact h2.symm
  · rw [aw_up_ne hq]
    unfold wU
    by_cases ha : a < 20
    · rw [if_pos ha, if_pos ha]
    · rw [if_neg ha, if_neg ha]
      by_cases hb : a < 40
      · rw [if_pos hb, if_pos hb]
        refine h (a - 20) b (fun e => hq ?_)
        have e1 : a = k + 20 := by have := e.1; omega
        rw [e1, e.2]
      · rw [if_neg hb, if_neg hb]
theorem wU_O {fB fR fO fO' : Nat → Nat → Option va_E} {k i : Nat} {e : va_E} (h : ∀ a b : Nat, ¬ (a = k ∧ b = i) → fO a b = fO' a b) (h2 : fO' k i = some e) : aw_up (wU fB fR fO) (k + 40, i) e = wU fB fR fO' := by
  funext q
  obtain ⟨a, b⟩ := q
  by_cases hq : (a, b) = (k + 40, i)
  · cases hq
    rw [aw_up_self]
    unfold wU
    rw [if_neg (show ¬ k + 40 < 20 by omega), if_neg (show ¬ k + 40 < 40 by omega), Nat.add_sub_cancel]
    exact h2.symm
  · rw [aw_up_ne hq]
    unfold wU
    by_cases ha : a < 20
    · rw [if_pos ha, if_pos ha]
    · rw [if_neg ha, if_neg ha]
      by_cases hb : a < 40
      · rw [if_pos hb, if_pos hb]
      · rw [if_neg hb, if_neg hb]
        refine h (a - 40) b (fun e => hq ?_)
        have e1 : a = k + 40 := by have := e.1; omega
        rw [e1, e.2]
theorem iw_X0 : ∀ w ∈ u_ws RX0 TX0 7, w ∈ WG := by
  intro w hw
  obtain ⟨k, hk, rfl⟩ := List.mem_map.mp hw
  have hk := List.mem_range.mp hk
  match k, hk with
  | 0, _ => exact q_566
  | 1, _ => exact q_568
  | 2, _ => exact q_570
  | 3, _ => exact q_572
  | 4, _ => exact q_574
  | 5, _ => exact q_576
  | 6, _ => exact q_578
  | n + 7, h => exact absurd h (by omega)
theorem iw_X1 : ∀ w ∈ u_ws RX1 TX1 5, w ∈ WG := by
  intro w hw
  obtain ⟨k, hk, rfl⟩ := List.mem_map.mp hw
  have hk := List.mem_range.mp hk
  match k, hk with
  | 0, _ => exact q_89
  | 1, _ => exact q_91
  | 2, _ => exact q_93
  | 3, _ => exact q_95
  | 4, _ => exact q_97
  | n + 5, h => exact absurd h (by omega)
theorem iw_X2 : ∀ w ∈ u_ws RX2 TX2 2, w ∈ WG := by
  intro w hw
  obtain ⟨k, hk, rfl⟩ := List.mem_map.mp hw
  have hk := List.mem_range.mp hk
  match k, hk with
  | 0, _ => exact q_474
  | 1, _ => exact q_476
  | n + 2, h => exact absurd h (by omega)
theorem iw_X3 : ∀ w ∈ u_ws RX3 TX3 4, w ∈ WG := by
  intro w hw
  obtain ⟨k, hk, rfl⟩ := List.mem_map.mp hw
  have hk := List.mem_range.mp hk
  match k, hk with
  | 0, _ => exact q_106
  | 1, _ => exact q_108
  | 2, _ => exact q_110
  | 3, _ => exact q_112
  | n + 4, h => exact absurd h (by omega)
theorem iw_X4 : ∀ w ∈ u_ws RX4 TX4 2, w ∈ WG := by
  intro w hw
  obtain ⟨k, hk, rfl⟩ := List.mem_map.mp hw
  have hk := List.mem_range.mp hk
  match k, hk with
  | 0, _ => exact q_455
  | 1, _ => exact q_457
  | n + 2, h => exact absurd h (by omega)
theorem iw_Jx4a65c : ∀ w ∈ u_ws RJx4a65c TJx4a65c 3, w ∈ WG := by
  intro w hw
  obtain ⟨k, hk, rfl⟩ := List.mem_map.mp hw
  have hk := List.mem_range.mp hk
  match k, hk with
  | 0, _ => exact q_73
  | 1, _ => exact q_69
  | 2, _ => exact q_71
  | n + 3, h => exact absurd h (by omega)
section ROWS
variable {p : Program} {l : Launch} {e : Env} {R : Room} {s : State} {m : MethodId} {args : Array Value} {below : List Frame} {meth : Method} {c : Code} {H H0 : Heap} {locs : List Loc} {cells slots mc ms : Nat} {Q : State → Prop}
variable {cc : ByteArray} {pc index : Nat} {own : String} {ls : Array Slot} {rest : List Value} {D : va_G} {y : Nat → ClassId} {A : Nat → Prop} {ad : xL → Nat}
variable {bl : xM} {z : xC} {g pl : Nat → Int32} {kn mi : Nat → Int64} {rw : Nat → Nat → Int64} {un : Int32} {fB fR fO : Nat → Nat → Option va_E}
theorem xw_aald2 (hexec : p.tables.exec = Jvm.exec) (hb : c.code = cc) {ct : xL → Option va_E} (hE : xE D y s) (hP : xW D A ad ct H) (lab : xL) {n : Nat} {f : Nat → Option Nat} (he : ct lab = some (.inl (y 5, n, xr f))) {i v : Nat} (hv : f i = some v) (hi : i < n) (hn : n < 2 ^ 31) (hdg : decode cc pc = .ok (.aaload, 1))
    (kk : W p l e R s m args below meth c H locs cells slots Q (F0 m (pc + 1) ls (.ref v :: rest))) : W p l e R s m args below meth c H locs cells slots Q (F0 m pc ls (.int (nI i) :: .ref (ad lab) :: rest)) := by
  have hlt : (nI i).toNatClampNeg < n := by rw [nI_clamp (by omega)]; exact hi
  refine W.aald (v := .ref v) (ty := .array .long) hexec hb (hP.1 _ _ he) ((hE.1.2 5 _ rfl).1 n (fun j => va_rf (f j))) rfl (fun q => by cases q) (by show ¬ (_ ∨ (arrV _ _ _).slots.size ≤ _); rw [arrV_size]; exact vp_in_nI hi hn) ?_ rfl rfl hdg kk
  show (arrV _ _ _).slots[_]? = _
  rw [arrV_read _ _ hlt, nI_clamp (by omega), hv]
  rfl
theorem xw_aald4 (hexec : p.tables.exec = Jvm.exec) (hb : c.code = cc) {ct : xL → Option va_E} (hE : xE D y s) (hP : xW D A ad ct H) (lab : xL) {n : Nat} {f : Nat → Option Nat} (he : ct lab = some (.inl (y 4, n, xr f))) {i v : Nat} (hv : f i = some v) (hi : i < n) (hn : n < 2 ^ 31) (hdg : decode cc pc = .ok (.aaload, 1))
    (kk : W p l e R s m args below meth c H locs cells slots Q (F0 m (pc + 1) ls (.ref v :: rest))) : W p l e R s m args below meth c H locs cells slots Q (F0 m pc ls (.int (nI i) :: .ref (ad lab) :: rest)) := by
  have hlt : (nI i).toNatClampNeg < n := by rw [nI_clamp (by omega)]; exact hi
  refine W.aald (v := .ref v) (ty := .object "java/lang/Object") hexec hb (hP.1 _ _ he) ((hE.1.2 4 _ rfl).1 n (fun j => va_rf (f j))) rfl (fun q => by cases q) (by show ¬ (_ ∨ (arrV _ _ _).slots.size ≤ _); rw [arrV_size]; exact vp_in_nI hi hn) ?_ rfl rfl hdg kk
  show (arrV _ _ _).slots[_]? = _
  rw [arrV_read _ _ hlt, nI_clamp (by omega), hv]
  rfl
theorem xw_aald3 (hexec : p.tables.exec = Jvm.exec) (hb : c.code = cc) {ct : xL → Option va_E} (hE : xE D y s) (hP : xW D A ad ct H) (lab : xL) {n : Nat} {f : Nat → Option Nat} (he : ct lab = some (.inl (y 3, n, xr f))) {i v : Nat} (hv : f i = some v) (hi : i < n) (hn : n < 2 ^ 31) (hdg : decode cc pc = .ok (.aaload, 1))
    (kk : W p l e R s m args below meth c H locs cells slots Q (F0 m (pc + 1) ls (.ref v :: rest))) : W p l e R s m args below meth c H locs cells slots Q (F0 m pc ls (.int (nI i) :: .ref (ad lab) :: rest)) := by
  have hlt : (nI i).toNatClampNeg < n := by rw [nI_clamp (by omega)]; exact hi
  refine W.aald (v := .ref v) (ty := .array .int) hexec hb (hP.1 _ _ he) ((hE.1.2 3 _ rfl).1 n (fun j => va_rf (f j))) rfl (fun q => by cases q) (by show ¬ (_ ∨ (arrV _ _ _).slots.size ≤ _); rw [arrV_size]; exact vp_in_nI hi hn) ?_ rfl rfl hdg kk
  show (arrV _ _ _).slots[_]? = _
  rw [arrV_read _ _ hlt, nI_clamp (by omega), hv]
  rfl
theorem fg_X3_nodes (hexec : p.tables.exec = Jvm.exec) (hb : c.code = cc) (hts : ∀ w ∈ WG, w.before args s = true) (hown : s.vm.findClass own = some m.cls) (hE : xE D y s) (hP : xW D A ad (wU (wB y ad bl z g pl kn rw mi un) fR fO) H) (hlink : Cond.fieldLink own index "NetlistBench" "nodes" "Ljava/util/ArrayList;" ∈ WG) (hdg : decode cc pc = .ok (.getfield index, 3)) (kk : W p l e R s m args below meth c H locs cells slots Q (F0 m (pc + 3) ls (.ref (ad (1, 0)) :: rest))) : W p l e R s m args below meth c H locs cells slots Q (F0 m pc ls (.ref (ad (0, 0)) :: rest)) :=
  xw_get hexec hb hts hown hE hP iw_X3 (0, 0) rfl rfl 0 (by decide) hlink (fun x h => h) rfl hdg kk
theorem fg_X3_elements (hexec : p.tables.exec = Jvm.exec) (hb : c.code = cc) (hts : ∀ w ∈ WG, w.before args s = true) (hown : s.vm.findClass own = some m.cls) (hE : xE D y s) (hP : xW D A ad (wU (wB y ad bl z g pl kn rw mi un) fR fO) H) (hlink : Cond.fieldLink own index "NetlistBench" "elements" "Ljava/util/ArrayList;" ∈ WG) (hdg : decode cc pc = .ok (.getfield index, 3)) (kk : W p l e R s m args below meth c H locs cells slots Q (F0 m (pc + 3) ls (.ref (ad (3, 0)) :: rest))) : W p l e R s m args below meth c H locs cells slots Q (F0 m pc ls (.ref (ad (0, 0)) :: rest)) :=
  xw_get hexec hb hts hown hE hP iw_X3 (0, 0) rfl rfl 1 (by decide) hlink (fun x h => h) rfl hdg kk
theorem fg_X3_groups (hexec : p.tables.exec = Jvm.exec) (hb : c.code = cc) (hts : ∀ w ∈ WG, w.before args s = true) (hown : s.vm.findClass own = some m.cls) (hE : xE D y s) (hP : xW D A ad (wU (wB y ad bl z g pl kn rw mi un) fR fO) H) (hlink : Cond.fieldLink own index "NetlistBench" "groups" "[I" ∈ WG) (hdg : decode cc pc = .ok (.getfield index, 3)) (kk : W p l e R s m args below meth c H locs cells slots Q (F0 m (pc + 3) ls (.ref (ad (5, 0)) :: rest))) : W p l e R s m args below meth c H locs cells slots Q (F0 m pc ls (.ref (ad (0, 0)) :: rest)) :=
  xw_get hexec hb hts hown hE hP iw_X3 (0, 0) rfl rfl 2 (by decide) hlink (fun x h => h) rfl hdg kk
theorem fg_X3_equations (hexec : p.tables.exec = Jvm.exec) (hb : c.code = cc) (hts : ∀ w ∈ WG, w.before args s = true) (hown : s.vm.findClass own = some m.cls) (hE : xE D y s) (hP : xW D A ad (wU (wB y ad bl z g pl kn rw mi un) fR fO) H) (hlink : Cond.fieldLink own index "NetlistBench" "equations" "LNetlistBench$Equations;" ∈ WG) (hdg : decode cc pc = .ok (.getfield index, 3)) (kk : W p l e R s m args below meth c H locs cells slots Q (F0 m (pc + 3) ls (.ref (ad (6, 0)) :: rest))) : W p l e R s m args below meth c H locs cells slots Q (F0 m pc ls (.ref (ad (0, 0)) :: rest)) :=
  xw_get hexec hb hts hown hE hP iw_X3 (0, 0) rfl rfl 3 (by decide) hlink (fun x h => h) rfl hdg kk
theorem fg_X1_places (hexec : p.tables.exec = Jvm.exec) (hb : c.code = cc) (hts : ∀ w ∈ WG, w.before args s = true) (hown : s.vm.findClass own = some m.cls) (hE : xE D y s) (hP : xW D A ad (wU (wB y ad bl z g pl kn rw mi un) fR fO) H) (hlink : Cond.fieldLink own index "NetlistBench$Equations" "places" "[I" ∈ WG) (hdg : decode cc pc = .ok (.getfield index, 3)) (kk : W p l e R s m args below meth c H locs cells slots Q (F0 m (pc + 3) ls (.ref (ad (7, 0)) :: rest))) : W p l e R s m args below meth c H locs cells slots Q (F0 m pc ls (.ref (ad (6, 0)) :: rest)) :=
  xw_get hexec hb hts hown hE hP iw_X1 (6, 0) rfl rfl 0 (by decide) hlink (fun x h => h) rfl hdg kk
theorem fg_X1_known (hexec : p.tables.exec = Jvm.exec) (hb : c.code = cc) (hts : ∀ w ∈ WG, w.before args s = true) (hown : s.vm.findClass own = some m.cls) (hE : xE D y s) (hP : xW D A ad (wU (wB y ad bl z g pl kn rw mi un) fR fO) H) (hlink : Cond.fieldLink own index "NetlistBench$Equations" "known" "[J" ∈ WG) (hdg : decode cc pc = .ok (.getfield index, 3)) (kk : W p l e R s m args below meth c H locs cells slots Q (F0 m (pc + 3) ls (.ref (ad (8, 0)) :: rest))) : W p l e R s m args below meth c H locs cells slots Q (F0 m pc ls (.ref (ad (6, 0)) :: rest)) :=
  xw_get hexec hb hts hown hE hP iw_X1 (6, 0) rfl rfl 1 (by decide) hlink (fun x h => h) rfl hdg kk
theorem fg_X1_rows (hexec : p.tables.exec = Jvm.exec) (hb : c.code = cc) (hts : ∀ w ∈ WG, w.before args s = true) (hown : s.vm.findClass own = some m.cls) (hE : xE D y s) (hP : xW D A ad (wU (wB y ad bl z g pl kn rw mi un) fR fO) H) (hlink : Cond.fieldLink own index "NetlistBench$Equations" "rows" "[[J" ∈ WG) (hdg : decode cc pc = .ok (.getfield index, 3)) (kk : W p l e R s m args below meth c H locs cells slots Q (F0 m (pc + 3) ls (.ref (ad (9, 0)) :: rest))) : W p l e R s m args below meth c H locs cells slots Q (F0 m pc ls (.ref (ad (6, 0)) :: rest)) :=
  xw_get hexec hb hts hown hE hP iw_X1 (6, 0) rfl rfl 2 (by decide) hlink (fun x h => h) rfl hdg kk
theorem fg_X1_minors (hexec : p.tables.exec = Jvm.exec) (hb : c.code = cc) (hts : ∀ w ∈ WG, w.before args s = true) (hown : s.vm.findClass own = some m.cls) (hE : xE D y s) (hP : xW D A ad (wU (wB y ad bl z g pl kn rw mi un) fR fO) H) (hlink : Cond.fieldLink own index "NetlistBench$Equations" "minors" "[J" ∈ WG) (hdg : decode cc pc = .ok (.getfield index, 3)) (kk : W p l e R s m args below meth c H locs cells slots Q (F0 m (pc + 3) ls (.ref (ad (11, 0)) :: rest))) : W p l e R s m args below meth c H locs cells slots Q (F0 m pc ls (.ref (ad (6, 0)) :: rest)) :=
  xw_get hexec hb hts hown hE hP iw_X1 (6, 0) rfl rfl 3 (by decide) hlink (fun x h => h) rfl hdg kk
theorem fg_X1_unknowns (hexec : p.tables.exec = Jvm.exec) (hb : c.code = cc) (hts : ∀ w ∈ WG, w.before args s = true) (hown : s.vm.findClass own = some m.cls) (hE : xE D y s) (hP : xW D A ad (wU (wB y ad bl z g pl kn rw mi un) fR fO) H) (hlink : Cond.fieldLink own index "NetlistBench$Equations" "unknowns" "I" ∈ WG) (hdg : decode cc pc = .ok (.getfield index, 3)) (kk : W p l e R s m args below meth c H locs cells slots Q (F0 m (pc + 3) ls (.int un :: rest))) : W p l e R s m args below meth c H locs cells slots Q (F0 m pc ls (.ref (ad (6, 0)) :: rest)) :=
  xw_get hexec hb hts hown hE hP iw_X1 (6, 0) rfl rfl 4 (by decide) hlink (fun x h => h) rfl hdg kk
theorem fp_X1_unknowns (hexec : p.tables.exec = Jvm.exec) (hb : c.code = cc) (hts : ∀ w ∈ WG, w.before args s = true) (hown : s.vm.findClass own = some m.cls) (hE : xE D y s) (hS : va_S A H0 H locs) (hP : xW D A ad (wU (wB y ad bl z g pl kn rw mi un) fR fO) H) {v : Int32} (hlink : Cond.fieldLink own index "NetlistBench$Equations" "unknowns" "I" ∈ WG) (hdg : decode cc pc = .ok (.putfield index, 3)) (kk : ∀ (H1 : Heap) (locs1 : List Loc), xW D A ad (wU (wB y ad bl z g pl kn rw mi v) fR fO) H1 → va_S A H0 H1 locs1 → W p l e R s m args below meth c H1 locs1 cells slots Q (F0 m (pc + 3) ls (rest))) : W p l e R s m args below meth c H locs cells slots Q (F0 m pc ls (.int v :: .ref (ad (6, 0)) :: rest)) :=
  xw_put hexec hb hts hown hE hP hS iw_X1 tyX1 tyX1_ok nmX1 (6, 0) rfl rfl 4 (by decide) hlink (fun x h => h) rfl (ty := .int) rfl rfl rfl (Nat.le_of_ble_eq_true rfl) hdg (fun H1 locs1 h1 h2 => kk H1 locs1 (h1.ct (wU_B (by decide) (fun a b h => by rcases a with _ | _ | _ | _ | _ | _ | _ | _ | _ | _ | _ | _ | _ | _ | _ | a <;> first | rfl | (rcases b with _ | b <;> first | rfl | exact absurd ⟨rfl, rfl⟩ h)) rfl)) h2)
theorem fg_X2_isRail {i : Nat} (hi : i < nN z) (hexec : p.tables.exec = Jvm.exec) (hb : c.code = cc) (hts : ∀ w ∈ WG, w.before args s = true) (hown : s.vm.findClass own = some m.cls) (hE : xE D y s) (hP : xW D A ad (wU (wB y ad bl z g pl kn rw mi un) fR fO) H) (hlink : Cond.fieldLink own index "NetlistBench$Node" "isRail" "Z" ∈ WG) (hdg : decode cc pc = .ok (.getfield index, 3)) (kk : W p l e R s m args below meth c H locs cells slots Q (F0 m (pc + 3) ls (.int (nR z i) :: rest))) : W p l e R s m args below meth c H locs cells slots Q (F0 m pc ls (.ref (ad (12, i)) :: rest)) :=
  xw_get hexec hb hts hown hE hP iw_X2 (12, i) (if_pos hi) rfl 0 (by decide) hlink (fun x h => h) rfl hdg kk
theorem fp_X2_isRail {i : Nat} (hi : i < nN z) (hexec : p.tables.exec = Jvm.exec) (hb : c.code = cc) (hts : ∀ w ∈ WG, w.before args s = true) (hown : s.vm.findClass own = some m.cls) (hE : xE D y s) (hS : va_S A H0 H locs) (hP : xW D A ad (wU (wB y ad bl z g pl kn rw mi un) fR fO) H) {v : Int32} (hz : v = 0 ∨ v = 1) (hlink : Cond.fieldLink own index "NetlistBench$Node" "isRail" "Z" ∈ WG) (hdg : decode cc pc = .ok (.putfield index, 3)) (kk : ∀ (H1 : Heap) (locs1 : List Loc), xW D A ad (wU (wB y ad bl (s_nR z (upd (nR z) i v)) g pl kn rw mi un) fR fO) H1 → va_S A H0 H1 locs1 → W p l e R s m args below meth c H1 locs1 cells slots Q (F0 m (pc + 3) ls (rest))) : W p l e R s m args below meth c H locs cells slots Q (F0 m pc ls (.int v :: .ref (ad (12, i)) :: rest)) :=
  xw_put hexec hb hts hown hE hP hS iw_X2 tyX2 tyX2_ok nmX2 (12, i) (if_pos hi) rfl 0 (by decide) hlink (fun x h => h) rfl (ty := .boolean) rfl (by rcases hz with h | h <;> subst h <;> rfl) (by rcases hz with h | h <;> subst h <;> rfl) (Nat.le_of_ble_eq_true rfl) hdg (fun H1 locs1 h1 h2 => kk H1 locs1 (h1.ct (wU_B (by decide) (fun a b h => by rcases a with _ | _ | _ | _ | _ | _ | _ | _ | _ | _ | _ | _ | _ | _ | _ | a <;> first | rfl | (rcases b with _ | b <;> rfl) | (have hbi : b ≠ i := fun q => h ⟨rfl, q⟩; show (if _ then _ else none) = (if _ then _ else none); simp only [s_nR, nN, nR, nP, upd, if_neg hbi] <;> rfl)) (by show (if _ then _ else none) = _; rw [if_pos (show i < nN (s_nR z (upd (nR z) i v)) from hi)]; simp [s_nR, nN, nR, nP, upd]))) h2)
theorem fg_X2_railPotential {i : Nat} (hi : i < nN z) (hexec : p.tables.exec = Jvm.exec) (hb : c.code = cc) (hts : ∀ w ∈ WG, w.before args s = true) (hown : s.vm.findClass own = some m.cls) (hE : xE D y s) (hP : xW D A ad (wU (wB y ad bl z g pl kn rw mi un) fR fO) H) (hlink : Cond.fieldLink own index "NetlistBench$Node" "railPotential" "I" ∈ WG) (hdg : decode cc pc = .ok (.getfield index, 3)) (kk : W p l e R s m args below meth c H locs cells slots Q (F0 m (pc + 3) ls (.int (nP z i) :: rest))) : W p l e R s m args below meth c H locs cells slots Q (F0 m pc ls (.ref (ad (12, i)) :: rest)) :=
  xw_get hexec hb hts hown hE hP iw_X2 (12, i) (if_pos hi) rfl 1 (by decide) hlink (fun x h => h) rfl hdg kk
theorem fp_X2_railPotential {i : Nat} (hi : i < nN z) (hexec : p.tables.exec = Jvm.exec) (hb : c.code = cc) (hts : ∀ w ∈ WG, w.before args s = true) (hown : s.vm.findClass own = some m.cls) (hE : xE D y s) (hS : va_S A H0 H locs) (hP : xW D A ad (wU (wB y ad bl z g pl kn rw mi un) fR fO) H) {v : Int32} (hlink : Cond.fieldLink own index "NetlistBench$Node" "railPotential" "I" ∈ WG) (hdg : decode cc pc = .ok (.putfield index, 3)) (kk : ∀ (H1 : Heap) (locs1 : List Loc), xW D A ad (wU (wB y ad bl (s_nP z (upd (nP z) i v)) g pl kn rw mi un) fR fO) H1 → va_S A H0 H1 locs1 → W p l e R s m args below meth c H1 locs1 cells slots Q (F0 m (pc + 3) ls (rest))) : W p l e R s m args below meth c H locs cells slots Q (F0 m pc ls (.int v :: .ref (ad (12, i)) :: rest)) :=
  xw_put hexec hb hts hown hE hP hS iw_X2 tyX2 tyX2_ok nmX2 (12, i) (if_pos hi) rfl 1 (by decide) hlink (fun x h => h) rfl (ty := .int) rfl rfl rfl (Nat.le_of_ble_eq_true rfl) hdg (fun H1 locs1 h1 h2 => kk H1 locs1 (h1.ct (wU_B (by decide) (fun a b h => by rcases a with _ | _ | _ | _ | _ | _ | _ | _ | _ | _ | _ | _ | _ | _ | _ | a <;> first | rfl | (rcases b with _ | b <;> rfl) | (have hbi : b ≠ i := fun q => h ⟨rfl, q⟩; show (if _ then _ else none) = (if _ then _ else none); simp only [s_nP, nN, nR, nP, upd, if_neg hbi] <;> rfl)) (by show (if _ then _ else none) = _; rw [if_pos (show i < nN (s_nP z (upd (nP z) i v)) from hi)]; simp [s_nP, nN, nR, nP, upd]))) h2)
theorem fg_X0_isSource {i : Nat} (hi : i < nE z) (hexec : p.tables.exec = Jvm.exec) (hb : c.code = cc) (hts : ∀ w ∈ WG, w.before args s = true) (hown : s.vm.findClass own = some m.cls) (hE : xE D y s) (hP : xW D A ad (wU (wB y ad bl z g pl kn rw mi un) fR fO) H) (hlink : Cond.fieldLink own index "NetlistBench$Element" "isSource" "Z" ∈ WG) (hdg : decode cc pc = .ok (.getfield index, 3)) (kk : W p l e R s m args below meth c H locs cells slots Q (F0 m (pc + 3) ls (.int (eS z i) :: rest))) : W p l e R s m args below meth c H locs cells slots Q (F0 m pc ls (.ref (ad (13, i)) :: rest)) :=
  xw_get hexec hb hts hown hE hP iw_X0 (13, i) (if_pos hi) rfl 0 (by decide) hlink (fun x h => h) rfl hdg kk
theorem fg_X0_a {i : Nat} (hi : i < nE z) (hexec : p.tables.exec = Jvm.exec) (hb : c.code = cc) (hts : ∀ w ∈ WG, w.before args s = true) (hown : s.vm.findClass own = some m.cls) (hE : xE D y s) (hP : xW D A ad (wU (wB y ad bl z g pl kn rw mi un) fR fO) H) (hlink : Cond.fieldLink own index "NetlistBench$Element" "a" "I" ∈ WG) (hdg : decode cc pc = .ok (.getfield index, 3)) (kk : W p l e R s m args below meth c H locs cells slots Q (F0 m (pc + 3) ls (.int (eA z i) :: rest))) : W p l e R s m args below meth c H locs cells slots Q (F0 m pc ls (.ref (ad (13, i)) :: rest)) :=
  xw_get hexec hb hts hown hE hP iw_X0 (13, i) (if_pos hi) rfl 1 (by decide) hlink (fun x h => h) rfl hdg kk
theorem fg_X0_b {i : Nat} (hi : i < nE z) (hexec : p.tables.exec = Jvm.exec) (hb : c.code = cc) (hts : ∀ w ∈ WG, w.before args s = true) (hown : s.vm.findClass own = some m.cls) (hE : xE D y s) (hP : xW D A ad (wU (wB y ad bl z g pl kn rw mi un) fR fO) H) (hlink : Cond.fieldLink own index "NetlistBench$Element" "b" "I" ∈ WG) (hdg : decode cc pc = .ok (.getfield index, 3)) (kk : W p l e R s m args below meth c H locs cells slots Q (F0 m (pc + 3) ls (.int (eB z i) :: rest))) : W p l e R s m args below meth c H locs cells slots Q (F0 m pc ls (.ref (ad (13, i)) :: rest)) :=
  xw_get hexec hb hts hown hE hP iw_X0 (13, i) (if_pos hi) rfl 2 (by decide) hlink (fun x h => h) rfl hdg kk
theorem fg_X0_size {i : Nat} (hi : i < nE z) (hexec : p.tables.exec = Jvm.exec) (hb : c.code = cc) (hts : ∀ w ∈ WG, w.before args s = true) (hown : s.vm.findClass own = some m.cls) (hE : xE D y s) (hP : xW D A ad (wU (wB y ad bl z g pl kn rw mi un) fR fO) H) (hlink : Cond.fieldLink own index "NetlistBench$Element" "size" "I" ∈ WG) (hdg : decode cc pc = .ok (.getfield index, 3)) (kk : W p l e R s m args below meth c H locs cells slots Q (F0 m (pc + 3) ls (.int (eZ z i) :: rest))) : W p l e R s m args below meth c H locs cells slots Q (F0 m pc ls (.ref (ad (13, i)) :: rest)) :=
  xw_get hexec hb hts hown hE hP iw_X0 (13, i) (if_pos hi) rfl 3 (by decide) hlink (fun x h => h) rfl hdg kk
theorem fp_X0_size {i : Nat} (hi : i < nE z) (hexec : p.tables.exec = Jvm.exec) (hb : c.code = cc) (hts : ∀ w ∈ WG, w.before args s = true) (hown : s.vm.findClass own = some m.cls) (hE : xE D y s) (hS : va_S A H0 H locs) (hP : xW D A ad (wU (wB y ad bl z g pl kn rw mi un) fR fO) H) {v : Int32} (hlink : Cond.fieldLink own index "NetlistBench$Element" "size" "I" ∈ WG) (hdg : decode cc pc = .ok (.putfield index, 3)) (kk : ∀ (H1 : Heap) (locs1 : List Loc), xW D A ad (wU (wB y ad bl (s_eZ z (upd (eZ z) i v)) g pl kn rw mi un) fR fO) H1 → va_S A H0 H1 locs1 → W p l e R s m args below meth c H1 locs1 cells slots Q (F0 m (pc + 3) ls (rest))) : W p l e R s m args below meth c H locs cells slots Q (F0 m pc ls (.int v :: .ref (ad (13, i)) :: rest)) :=
  xw_put hexec hb hts hown hE hP hS iw_X0 tyX0 tyX0_ok nmX0 (13, i) (if_pos hi) rfl 3 (by decide) hlink (fun x h => h) rfl (ty := .int) rfl rfl rfl (Nat.le_of_ble_eq_true rfl) hdg (fun H1 locs1 h1 h2 => kk H1 locs1 (h1.ct (wU_B (by decide) (fun a b h => by rcases a with _ | _ | _ | _ | _ | _ | _ | _ | _ | _ | _ | _ | _ | _ | _ | a <;> first | rfl | (rcases b with _ | b <;> rfl) | (have hbi : b ≠ i := fun q => h ⟨rfl, q⟩; show (if _ then _ else none) = (if _ then _ else none); simp only [s_eZ, nE, eS, eA, eB, eZ, eO, eT, upd, if_neg hbi] <;> rfl)) (by show (if _ then _ else none) = _; rw [if_pos (show i < nE (s_eZ z (upd (eZ z) i v)) from hi)]; simp [s_eZ, nE, eS, eA, eB, eZ, eO, eT, upd]))) h2)
theorem fg_X0_startsOn {i : Nat} (hi : i < nE z) (hexec : p.tables.exec = Jvm.exec) (hb : c.code = cc) (hts : ∀ w ∈ WG, w.before args s = true) (hown : s.vm.findClass own = some m.cls) (hE : xE D y s) (hP : xW D A ad (wU (wB y ad bl z g pl kn rw mi un) fR fO) H) (hlink : Cond.fieldLink own index "NetlistBench$Element" "startsOn" "Z" ∈ WG) (hdg : decode cc pc = .ok (.getfield index, 3)) (kk : W p l e R s m args below meth c H locs cells slots Q (F0 m (pc + 3) ls (.int (eO z i) :: rest))) : W p l e R s m args below meth c H locs cells slots Q (F0 m pc ls (.ref (ad (13, i)) :: rest)) :=
  xw_get hexec hb hts hown hE hP iw_X0 (13, i) (if_pos hi) rfl 4 (by decide) hlink (fun x h => h) rfl hdg kk
theorem fp_X0_startsOn {i : Nat} (hi : i < nE z) (hexec : p.tables.exec = Jvm.exec) (hb : c.code = cc) (hts : ∀ w ∈ WG, w.before args s = true) (hown : s.vm.findClass own = some m.cls) (hE : xE D y s) (hS : va_S A H0 H locs) (hP : xW D A ad (wU (wB y ad bl z g pl kn rw mi un) fR fO) H) {v : Int32} (hz : v = 0 ∨ v = 1) (hlink : Cond.fieldLink own index "NetlistBench$Element" "startsOn" "Z" ∈ WG) (hdg : decode cc pc = .ok (.putfield index, 3)) (kk : ∀ (H1 : Heap) (locs1 : List Loc), xW D A ad (wU (wB y ad bl (s_eO z (upd (eO z) i v)) g pl kn rw mi un) fR fO) H1 → va_S A H0 H1 locs1 → W p l e R s m args below meth c H1 locs1 cells slots Q (F0 m (pc + 3) ls (rest))) : W p l e R s m args below meth c H locs cells slots Q (F0 m pc ls (.int v :: .ref (ad (13, i)) :: rest)) :=
  xw_put hexec hb hts hown hE hP hS iw_X0 tyX0 tyX0_ok nmX0 (13, i) (if_pos hi) rfl 4 (by decide) hlink (fun x h => h) rfl (ty := .boolean) rfl (by rcases hz with h | h <;> subst h <;> rfl) (by rcases hz with h | h <;> subst h <;> rfl) (Nat.le_of_ble_eq_true rfl) hdg (fun H1 locs1 h1 h2 => kk H1 locs1 (h1.ct (wU_B (by decide) (fun a b h => by rcases a with _ | _ | _ | _ | _ | _ | _ | _ | _ | _ | _ | _ | _ | _ | _ | a <;> first | rfl | (rcases b with _ | b <;> rfl) | (have hbi : b ≠ i := fun q => h ⟨rfl, q⟩; show (if _ then _ else none) = (if _ then _ else none); simp only [s_eO, nE, eS, eA, eB, eZ, eO, eT, upd, if_neg hbi] <;> rfl)) (by show (if _ then _ else none) = _; rw [if_pos (show i < nE (s_eO z (upd (eO z) i v)) from hi)]; simp [s_eO, nE, eS, eA, eB, eZ, eO, eT, upd]))) h2)
theorem fg_X0_toggles {i : Nat} (hi : i < nE z) (hexec : p.tables.exec = Jvm.exec) (hb : c.code = cc) (hts : ∀ w ∈ WG, w.before args s = true) (hown : s.vm.findClass own = some m.cls) (hE : xE D y s) (hP : xW D A ad (wU (wB y ad bl z g pl kn rw mi un) fR fO) H) (hlink : Cond.fieldLink own index "NetlistBench$Element" "toggles" "I" ∈ WG) (hdg : decode cc pc = .ok (.getfield index, 3)) (kk : W p l e R s m args below meth c H locs cells slots Q (F0 m (pc + 3) ls (.int (eT z i) :: rest))) : W p l e R s m args below meth c H locs cells slots Q (F0 m pc ls (.ref (ad (13, i)) :: rest)) :=
  xw_get hexec hb hts hown hE hP iw_X0 (13, i) (if_pos hi) rfl 5 (by decide) hlink (fun x h => h) rfl hdg kk
theorem fp_X0_toggles {i : Nat} (hi : i < nE z) (hexec : p.tables.exec = Jvm.exec) (hb : c.code = cc) (hts : ∀ w ∈ WG, w.before args s = true) (hown : s.vm.findClass own = some m.cls) (hE : xE D y s) (hS : va_S A H0 H locs) (hP : xW D A ad (wU (wB y ad bl z g pl kn rw mi un) fR fO) H) {v : Int32} (hlink : Cond.fieldLink own index "NetlistBench$Element" "toggles" "I" ∈ WG) (hdg : decode cc pc = .ok (.putfield index, 3)) (kk : ∀ (H1 : Heap) (locs1 : List Loc), xW D A ad (wU (wB y ad bl (s_eT z (upd (eT z) i v)) g pl kn rw mi un) fR fO) H1 → va_S A H0 H1 locs1 → W p l e R s m args below meth c H1 locs1 cells slots Q (F0 m (pc + 3) ls (rest))) : W p l e R s m args below meth c H locs cells slots Q (F0 m pc ls (.int v :: .ref (ad (13, i)) :: rest)) :=
  xw_put hexec hb hts hown hE hP hS iw_X0 tyX0 tyX0_ok nmX0 (13, i) (if_pos hi) rfl 5 (by decide) hlink (fun x h => h) rfl (ty := .int) rfl rfl rfl (Nat.le_of_ble_eq_true rfl) hdg (fun H1 locs1 h1 h2 => kk H1 locs1 (h1.ct (wU_B (by decide) (fun a b h => by rcases a with _ | _ | _ | _ | _ | _ | _ | _ | _ | _ | _ | _ | _ | _ | _ | a <;> first | rfl | (rcases b with _ | b <;> rfl) | (have hbi : b ≠ i := fun q => h ⟨rfl, q⟩; show (if _ then _ else none) = (if _ then _ else none); simp only [s_eT, nE, eS, eA, eB, eZ, eO, eT, upd, if_neg hbi] <;> rfl)) (by show (if _ then _ else none) = _; rw [if_pos (show i < nE (s_eT z (upd (eT z) i v)) from hi)]; simp [s_eT, nE, eS, eA, eB, eZ, eO, eT, upd]))) h2)
theorem fg_X0_times {i : Nat} (hi : i < nE z) (hexec : p.tables.exec = Jvm.exec) (hb : c.code = cc) (hts : ∀ w ∈ WG, w.before args s = true) (hown : s.vm.findClass own = some m.cls) (hE : xE D y s) (hP : xW D A ad (wU (wB y ad bl z g pl kn rw mi un) fR fO) H) (hlink : Cond.fieldLink own index "NetlistBench$Element" "times" "[I" ∈ WG) (hdg : decode cc pc = .ok (.getfield index, 3)) (kk : W p l e R s m args below meth c H locs cells slots Q (F0 m (pc + 3) ls (.ref (ad (14, i)) :: rest))) : W p l e R s m args below meth c H locs cells slots Q (F0 m pc ls (.ref (ad (13, i)) :: rest)) :=
  xw_get hexec hb hts hown hE hP iw_X0 (13, i) (if_pos hi) rfl 6 (by decide) hlink (fun x h => h) rfl hdg kk
theorem fg_AL_nodes_elementData (hexec : p.tables.exec = Jvm.exec) (hb : c.code = cc) (hts : ∀ w ∈ WG, w.before args s = true) (hown : s.vm.findClass own = some m.cls) (hE : xE D y s) (hP : xW D A ad (wU (wB y ad bl z g pl kn rw mi un) fR fO) H) (hlink : Cond.fieldLink own index "java/util/ArrayList" "elementData" "[Ljava/lang/Object;" ∈ WG) (hdg : decode cc pc = .ok (.getfield index, 3)) (kk : W p l e R s m args below meth c H locs cells slots Q (F0 m (pc + 3) ls (.ref (ad (2, 0)) :: rest))) : W p l e R s m args below meth c H locs cells slots Q (F0 m pc ls (.ref (ad (1, 0)) :: rest)) :=
  xw_get hexec hb hts hown hE hP iw_Jx4a65c (1, 0) rfl rfl 1 (by decide) hlink (fun x h => h) rfl hdg kk
theorem fg_AL_nodes_size (hexec : p.tables.exec = Jvm.exec) (hb : c.code = cc) (hts : ∀ w ∈ WG, w.before args s = true) (hown : s.vm.findClass own = some m.cls) (hE : xE D y s) (hP : xW D A ad (wU (wB y ad bl z g pl kn rw mi un) fR fO) H) (hlink : Cond.fieldLink own index "java/util/ArrayList" "size" "I" ∈ WG) (hdg : decode cc pc = .ok (.getfield index, 3)) (kk : W p l e R s m args below meth c H locs cells slots Q (F0 m (pc + 3) ls (.int (nI (nN z)) :: rest))) : W p l e R s m args below meth c H locs cells slots Q (F0 m pc ls (.ref (ad (1, 0)) :: rest)) :=
  xw_get hexec hb hts hown hE hP iw_Jx4a65c (1, 0) rfl rfl 2 (by decide) hlink (fun x h => h) rfl hdg kk
theorem fg_AL_elements_elementData (hexec : p.tables.exec = Jvm.exec) (hb : c.code = cc) (hts : ∀ w ∈ WG, w.before args s = true) (hown : s.vm.findClass own = some m.cls) (hE : xE D y s) (hP : xW D A ad (wU (wB y ad bl z g pl kn rw mi un) fR fO) H) (hlink : Cond.fieldLink own index "java/util/ArrayList" "elementData" "[Ljava/lang/Object;" ∈ WG) (hdg : decode cc pc = .ok (.getfield index, 3)) (kk : W p l e R s m args below meth c H locs cells slots Q (F0 m (pc + 3) ls (.ref (ad (4, 0)) :: rest))) : W p l e R s m args below meth c H locs cells slots Q (F0 m pc ls (.ref (ad (3, 0)) :: rest)) :=
  xw_get hexec hb hts hown hE hP iw_Jx4a65c (3, 0) rfl rfl 1 (by decide) hlink (fun x h => h) rfl hdg kk
theorem fg_AL_elements_size (hexec : p.tables.exec = Jvm.exec) (hb : c.code = cc) (hts : ∀ w ∈ WG, w.before args s = true) (hown : s.vm.findClass own = some m.cls) (hE : xE D y s) (hP : xW D A ad (wU (wB y ad bl z g pl kn rw mi un) fR fO) H) (hlink : Cond.fieldLink own index "java/util/ArrayList" "size" "I" ∈ WG) (hdg : decode cc pc = .ok (.getfield index, 3)) (kk : W p l e R s m args below meth c H locs cells slots Q (F0 m (pc + 3) ls (.int (nI (nE z)) :: rest))) : W p l e R s m args below meth c H locs cells slots Q (F0 m pc ls (.ref (ad (3, 0)) :: rest)) :=
  xw_get hexec hb hts hown hE hP iw_Jx4a65c (3, 0) rfl rfl 2 (by decide) hlink (fun x h => h) rfl hdg kk
theorem al_groups (hexec : p.tables.exec = Jvm.exec) (hb : c.code = cc) (hE : xE D y s) (hP : xW D A ad (wU (wB y ad bl z g pl kn rw mi un) fR fO) H) {j : Nat} (hj : j < 8) (hdg : decode cc pc = .ok (.iaload, 1)) (kk : W p l e R s m args below meth c H locs cells slots Q (F0 m (pc + 1) ls (.int (g j) :: rest))) : W p l e R s m args below meth c H locs cells slots Q (F0 m pc ls (.int (nI j) :: .ref (ad (5, 0)) :: rest)) :=
  xw_iald hexec hb hE hP (5, 0) rfl hj (by decide) hdg kk
theorem as_groups (hexec : p.tables.exec = Jvm.exec) (hb : c.code = cc) (hE : xE D y s) (hS : va_S A H0 H locs) (hP : xW D A ad (wU (wB y ad bl z g pl kn rw mi un) fR fO) H) {j : Nat} (hj : j < 8) {v : Int32} (hdg : decode cc pc = .ok (.iastore, 1)) (kk : ∀ (H1 : Heap) (locs1 : List Loc), xW D A ad (wU (wB y ad bl z (upd g j v) pl kn rw mi un) fR fO) H1 → va_S A H0 H1 locs1 → W p l e R s m args below meth c H1 locs1 cells slots Q (F0 m (pc + 1) ls (rest))) : W p l e R s m args below meth c H locs cells slots Q (F0 m pc ls (.int v :: .int (nI j) :: .ref (ad (5, 0)) :: rest)) :=
  xw_iast hexec hb hE hP hS (5, 0) rfl hj (by decide) hdg (fun H1 locs1 h1 h2 => kk H1 locs1 (h1.ct (wU_B (by decide) (fun a b h => by rcases a with _ | _ | _ | _ | _ | _ | _ | _ | _ | _ | _ | _ | _ | _ | _ | a <;> first | rfl | (rcases b with _ | b <;> first | rfl | exact absurd ⟨rfl, rfl⟩ h)) rfl)) h2)
theorem al_places (hexec : p.tables.exec = Jvm.exec) (hb : c.code = cc) (hE : xE D y s) (hP : xW D A ad (wU (wB y ad bl z g pl kn rw mi un) fR fO) H) {j : Nat} (hj : j < 8) (hdg : decode cc pc = .ok (.iaload, 1)) (kk : W p l e R s m args below meth c H locs cells slots Q (F0 m (pc + 1) ls (.int (pl j) :: rest))) : W p l e R s m args below meth c H locs cells slots Q (F0 m pc ls (.int (nI j) :: .ref (ad (7, 0)) :: rest)) :=
  xw_iald hexec hb hE hP (7, 0) rfl hj (by decide) hdg kk
theorem as_places (hexec : p.tables.exec = Jvm.exec) (hb : c.code = cc) (hE : xE D y s) (hS : va_S A H0 H locs) (hP : xW D A ad (wU (wB y ad bl z g pl kn rw mi un) fR fO) H) {j : Nat} (hj : j < 8) {v : Int32} (hdg : decode cc pc = .ok (.iastore, 1)) (kk : ∀ (H1 : Heap) (locs1 : List Loc), xW D A ad (wU (wB y ad bl z g (upd pl j v) kn rw mi un) fR fO) H1 → va_S A H0 H1 locs1 → W p l e R s m args below meth c H1 locs1 cells slots Q (F0 m (pc + 1) ls (rest))) : W p l e R s m args below meth c H locs cells slots Q (F0 m pc ls (.int v :: .int (nI j) :: .ref (ad (7, 0)) :: rest)) :=
  xw_iast hexec hb hE hP hS (7, 0) rfl hj (by decide) hdg (fun H1 locs1 h1 h2 => kk H1 locs1 (h1.ct (wU_B (by decide) (fun a b h => by rcases a with _ | _ | _ | _ | _ | _ | _ | _ | _ | _ | _ | _ | _ | _ | _ | a <;> first | rfl | (rcases b with _ | b <;> first | rfl | exact absurd ⟨rfl, rfl⟩ h)) rfl)) h2)
theorem al_known (hexec : p.tables.exec = Jvm.exec) (hb : c.code = cc) (hE : xE D y s) (hP : xW D A ad (wU (wB y ad bl z g pl kn rw mi un) fR fO) H) {j : Nat} (hj : j < 8) (hdg : decode cc pc = .ok (.laload, 1)) (kk : W p l e R s m args below meth c H locs cells slots Q (F0 m (pc + 1) ls (.long (kn j) :: rest))) : W p l e R s m args below meth c H locs cells slots Q (F0 m pc ls (.int (nI j) :: .ref (ad (8, 0)) :: rest)) :=
  xw_lald hexec hb hE hP (8, 0) rfl hj (by decide) hdg kk
theorem as_known (hexec : p.tables.exec = Jvm.exec) (hb : c.code = cc) (hE : xE D y s) (hS : va_S A H0 H locs) (hP : xW D A ad (wU (wB y ad bl z g pl kn rw mi un) fR fO) H) {j : Nat} (hj : j < 8) {v : Int64} (hdg : decode cc pc = .ok (.lastore, 1)) (kk : ∀ (H1 : Heap) (locs1 : List Loc), xW D A ad (wU (wB y ad bl z g pl (vp_updL kn j v) rw mi un) fR fO) H1 → va_S A H0 H1 locs1 → W p l e R s m args below meth c H1 locs1 cells slots Q (F0 m (pc + 1) ls (rest))) : W p l e R s m args below meth c H locs cells slots Q (F0 m pc ls (.long v :: .int (nI j) :: .ref (ad (8, 0)) :: rest)) :=
  xw_last hexec hb hE hP hS (8, 0) rfl hj (by decide) hdg (fun H1 locs1 h1 h2 => kk H1 locs1 (h1.ct (wU_B (by decide) (fun a b h => by rcases a with _ | _ | _ | _ | _ | _ | _ | _ | _ | _ | _ | _ | _ | _ | _ | a <;> first | rfl | (rcases b with _ | b <;> first | rfl | exact absurd ⟨rfl, rfl⟩ h)) rfl)) h2)
theorem al_minors (hexec : p.tables.exec = Jvm.exec) (hb : c.code = cc) (hE : xE D y s) (hP : xW D A ad (wU (wB y ad bl z g pl kn rw mi un) fR fO) H) {j : Nat} (hj : j < 256) (hdg : decode cc pc = .ok (.laload, 1)) (kk : W p l e R s m args below meth c H locs cells slots Q (F0 m (pc + 1) ls (.long (mi j) :: rest))) : W p l e R s m args below meth c H locs cells slots Q (F0 m pc ls (.int (nI j) :: .ref (ad (11, 0)) :: rest)) :=
  xw_lald hexec hb hE hP (11, 0) rfl hj (by decide) hdg kk
theorem as_minors (hexec : p.tables.exec = Jvm.exec) (hb : c.code = cc) (hE : xE D y s) (hS : va_S A H0 H locs) (hP : xW D A ad (wU (wB y ad bl z g pl kn rw mi un) fR fO) H) {j : Nat} (hj : j < 256) {v : Int64} (hdg : decode cc pc = .ok (.lastore, 1)) (kk : ∀ (H1 : Heap) (locs1 : List Loc), xW D A ad (wU (wB y ad bl z g pl kn rw (vp_updL mi j v) un) fR fO) H1 → va_S A H0 H1 locs1 → W p l e R s m args below meth c H1 locs1 cells slots Q (F0 m (pc + 1) ls (rest))) : W p l e R s m args below meth c H locs cells slots Q (F0 m pc ls (.long v :: .int (nI j) :: .ref (ad (11, 0)) :: rest)) :=
  xw_last hexec hb hE hP hS (11, 0) rfl hj (by decide) hdg (fun H1 locs1 h1 h2 => kk H1 locs1 (h1.ct (wU_B (by decide) (fun a b h => by rcases a with _ | _ | _ | _ | _ | _ | _ | _ | _ | _ | _ | _ | _ | _ | _ | a <;> first | rfl | (rcases b with _ | b <;> first | rfl | exact absurd ⟨rfl, rfl⟩ h)) rfl)) h2)
def u2 (rw : Nat → Nat → Int64) (i j : Nat) (v : Int64) : Nat → Nat → Int64 := fun a => if a = i then vp_updL (rw i) j v else rw a
theorem al_row {i : Nat} (hp : i < 7) (hexec : p.tables.exec = Jvm.exec) (hb : c.code = cc) (hE : xE D y s) (hP : xW D A ad (wU (wB y ad bl z g pl kn rw mi un) fR fO) H) {j : Nat} (hj : j < 8) (hdg : decode cc pc = .ok (.laload, 1)) (kk : W p l e R s m args below meth c H locs cells slots Q (F0 m (pc + 1) ls (.long (rw i j) :: rest))) : W p l e R s m args below meth c H locs cells slots Q (F0 m pc ls (.int (nI j) :: .ref (ad (10, i)) :: rest)) :=
  xw_lald hexec hb hE hP (10, i) (if_pos hp) hj (by decide) hdg kk
theorem as_row {i : Nat} (hp : i < 7) (hexec : p.tables.exec = Jvm.exec) (hb : c.code = cc) (hE : xE D y s) (hS : va_S A H0 H locs) (hP : xW D A ad (wU (wB y ad bl z g pl kn rw mi un) fR fO) H) {j : Nat} (hj : j < 8) {v : Int64} (hdg : decode cc pc = .ok (.lastore, 1)) (kk : ∀ (H1 : Heap) (locs1 : List Loc), xW D A ad (wU (wB y ad bl z g pl kn (u2 rw i j v) mi un) fR fO) H1 → va_S A H0 H1 locs1 → W p l e R s m args below meth c H1 locs1 cells slots Q (F0 m (pc + 1) ls (rest))) : W p l e R s m args below meth c H locs cells slots Q (F0 m pc ls (.long v :: .int (nI j) :: .ref (ad (10, i)) :: rest)) :=
  xw_last hexec hb hE hP hS (10, i) (if_pos hp) hj (by decide) hdg (fun H1 locs1 h1 h2 => kk H1 locs1 (h1.ct (wU_B (by decide) (fun a b h => by rcases a with _ | _ | _ | _ | _ | _ | _ | _ | _ | _ | _ | _ | _ | _ | _ | a <;> first | rfl | (rcases b with _ | b <;> rfl) | (have hbi : b ≠ i := fun q => h ⟨rfl, q⟩; show (if _ then _ else none) = (if _ then _ else none); simp only [u2, if_neg hbi])) (by show (if _ then _ else none) = _; rw [if_pos hp]; simp [u2]))) h2)
theorem al_times {i : Nat} (hp : i < nE z) (hexec : p.tables.exec = Jvm.exec) (hb : c.code = cc) (hE : xE D y s) (hP : xW D A ad (wU (wB y ad bl z g pl kn rw mi un) fR fO) H) {j : Nat} (hj : j < 6) (hdg : decode cc pc = .ok (.iaload, 1)) (kk : W p l e R s m args below meth c H locs cells slots Q (F0 m (pc + 1) ls (.int (tT z (6 * i + j)) :: rest))) : W p l e R s m args below meth c H locs cells slots Q (F0 m pc ls (.int (nI j) :: .ref (ad (14, i)) :: rest)) :=
  xw_iald (f := fun j => tT z (6 * i + j)) hexec hb hE hP (14, i) (if_pos hp) hj (by decide) hdg kk
theorem as_times {i : Nat} (hp : i < nE z) (hexec : p.tables.exec = Jvm.exec) (hb : c.code = cc) (hE : xE D y s) (hS : va_S A H0 H locs) (hP : xW D A ad (wU (wB y ad bl z g pl kn rw mi un) fR fO) H) {j : Nat} (hj : j < 6) {v : Int32} (hdg : decode cc pc = .ok (.iastore, 1)) (kk : ∀ (H1 : Heap) (locs1 : List Loc), xW D A ad (wU (wB y ad bl (s_tT z (upd (tT z) (6 * i + j) v)) g pl kn rw mi un) fR fO) H1 → va_S A H0 H1 locs1 → W p l e R s m args below meth c H1 locs1 cells slots Q (F0 m (pc + 1) ls (rest))) : W p l e R s m args below meth c H locs cells slots Q (F0 m pc ls (.int v :: .int (nI j) :: .ref (ad (14, i)) :: rest)) := by
  refine xw_iast (f := fun j => tT z (6 * i + j)) hexec hb hE hP hS (14, i) (if_pos hp) hj (by decide) hdg (fun H1 locs1 h1 h2 => kk H1 locs1 (h1.alike ?_) h2)
  intro q f hf
  obtain ⟨a, b⟩ := q
  by_cases h14 : a = 14
  · subst h14
    have hf' : (if b < nE z then some (Sum.inl (y 0, 6, .inl (fun c => upd (tT z) (6 * i + j) v (6 * b + c)))) else none : Option va_E) = some f := hf
    by_cases hbn : b < nE z
    · rw [if_pos hbn] at hf'
      cases hf'
      by_cases hbi : b = i
      · subst hbi
        exact ⟨_, aw_up_self, xW_i (fun c hc => by by_cases hcj : c = j <;> simp [upd, hcj])⟩
      · refine ⟨.inl (y 0, 6, .inl (fun c => tT z (6 * b + c))), ?_, xW_i (fun c hc => ?_)⟩
        · rw [aw_up_ne (by intro e; cases e; exact hbi rfl)]
          show (if b < nE z then _ else none) = _
          rw [if_pos hbn]
        · have hne : 6 * b + c ≠ 6 * i + j := by omega
          simp [upd, hne]
    · rw [if_neg hbn] at hf'
      cases hf'
  · refine ⟨f, ?_, fun h => h⟩
    rw [aw_up_ne (by intro e; cases e; exact h14 rfl), ← hf]
    unfold wU
    by_cases ha : a < 20
    · rw [if_pos ha, if_pos ha]
      rcases a with _ | _ | _ | _ | _ | _ | _ | _ | _ | _ | _ | _ | _ | _ | _ | a <;> first | rfl | (rcases b with _ | b <;> rfl) | exact absurd rfl h14
    · rw [if_neg ha, if_neg ha]
end ROWS
end
section
/-! numbers that are nI of a Nat, and the frame of a walk with its end named -/
theorem ni_lt {a b : Nat} (ha : a < 2 ^ 31) (hb : b < 2 ^ 31) (h : nI a < nI b) : a < b := (nI_ltI ha hb).mp h
theorem ni_nlt {a b : Nat} (ha : a < 2 ^ 31) (hb : b < 2 ^ 31) (h : ¬ nI a < nI b) : b ≤ a := Nat.le_of_not_lt (mt (nI_ltI ha hb).mpr h)
theorem ni_le {a b : Nat} (ha : a < 2 ^ 31) (hb : b < 2 ^ 31) (h : nI a ≤ nI b) : a ≤ b := (nI_leI ha hb).mp h
theorem ni_nle {a b : Nat} (ha : a < 2 ^ 31) (hb : b < 2 ^ 31) (h : ¬ nI a ≤ nI b) : b < a := Nat.lt_of_not_le (mt (nI_leI ha hb).mpr h)
theorem ni_eq {a b : Nat} (ha : a < 2 ^ 31) (hb : b < 2 ^ 31) (h : nI a = nI b) : a = b := (nI_eq ha hb).mp h
theorem ni_ne {a b : Nat} (ha : a < 2 ^ 31) (hb : b < 2 ^ 31) (h : ¬ nI a = nI b) : a ≠ b := mt (nI_eq ha hb).mpr h
theorem xM_go {l : Launch} {x : MethodName} {cc : ByteArray} {maxL : Nat} {ret : Option FieldType} {rm : Room} {av : List Value} {D : va_G} {y : Nat → ClassId} {H : Heap} {post : Option Value → Heap → Prop} {A : Nat → Prop} {mc ms : Nat}
    (hy : plainName x.cls = true) (hlen : (lg_sl av).length ≤ maxL)
    (body : ∀ (p : Program) (e : Env) (s : State) (m : MethodId) (args : Array Value) (below : List Frame) (meth : Method) (c : Code) (ls : Array Slot) (R : Room) (Q : State → Prop), p.tables.exec = Jvm.exec → c.code = cc → meth.sig.returnType = ret → meth.locks = false → c.maxLocals = maxL → s.vm.findClass x.cls = some m.cls → (∀ w ∈ WG, w.before args s = true) → s.heap = H → xE D y s → meth.name = x.name → R.frames = rm.frames → R.locals = rm.locals → R.cells = rm.cells → R.slots = rm.slots → Q = MQ below (xQ post A) args s mc ms A → va_S A H H [] → lv_has ls maxL (lv_args 0 av) →
      W p l e R s m args below meth c H [] 0 0 Q (F0 m 0 ls [])) : Met l x (.code x cc maxL ret :: WG) rm (xPc av D y H) (xQ post A) mc ms A :=
  xM_start hy hlen (fun p e s m below meth c ls a1 a2 a3 a4 a5 a6 a7 a8 a9 a10 a11 a12 => body p e s m av.toArray below meth c ls rm _ a1 a2 a3 a4 a5 a6 a7 a8 a9 a10 rfl rfl rfl rfl rfl a11 a12)
theorem xM_goF {l : Launch} {x : MethodName} {cc : ByteArray} {maxL : Nat} {ret : Option FieldType} {rm : Room} {av : List Value} {D : va_G} {y : Nat → ClassId} {H : Heap} {post : Option Value → Heap → Prop} {A : Nat → Prop} {mc ms : Nat}
    (hy : plainFor x = true) (hlen : (lg_sl av).length ≤ maxL)
    (body : ∀ (p : Program) (e : Env) (s : State) (m : MethodId) (args : Array Value) (below : List Frame) (meth : Method) (c : Code) (ls : Array Slot) (R : Room) (Q : State → Prop), p.tables.exec = Jvm.exec → c.code = cc → meth.sig.returnType = ret → meth.locks = false → c.maxLocals = maxL → s.vm.findClass x.cls = some m.cls → (∀ w ∈ WG, w.before args s = true) → s.heap = H → xE D y s → meth.name = x.name → R.frames = rm.frames → R.locals = rm.locals → R.cells = rm.cells → R.slots = rm.slots → Q = MQ below (xQ post A) args s mc ms A → va_S A H H [] → lv_has ls maxL (lv_args 0 av) →
      W p l e R s m args below meth c H [] 0 0 Q (F0 m 0 ls [])) : Met l x (.code x cc maxL ret :: WG) rm (xPc av D y H) (xQ post A) mc ms A :=
  xM_startF hy hlen (fun p e s m below meth c ls a1 a2 a3 a4 a5 a6 a7 a8 a9 a10 a11 a12 => body p e s m av.toArray below meth c ls rm _ a1 a2 a3 a4 a5 a6 a7 a8 a9 a10 rfl rfl rfl rfl rfl a11 a12)
section XE
variable {p : Program} {l : Launch} {e : Env} {R : Room} {s : State} {m : MethodId} {args : Array Value} {below : List Frame} {meth : Method} {c : Code} {H H0 : Heap} {locs : List Loc} {cells slots mc ms : Nat} {Q : State → Prop}
variable {cc : ByteArray} {pc : Nat} {ls : Array Slot} {rest : List Value} {D : va_G} {y : Nat → ClassId} {A : Nat → Prop} {post : Option Value → Heap → Prop}
theorem xe_iret {v : Int32} (hQ : Q = MQ below (xQ post A) args s mc ms A) (hexec : p.tables.exec = Jvm.exec) (hb : c.code = cc) (hr : meth.sig.returnType = some .int) (hlocks : meth.locks = false) (hH : s.heap = H0) (hS : va_S A H0 H locs) (h1 : cells ≤ mc) (h2 : slots ≤ ms) (hp : post (some (.int v)) H) (hdg : decode cc pc = .ok (.ireturn, 1)) : W p l e R s m args below meth c H locs cells slots Q (F0 m pc ls [.int v]) := by
  rw [hQ]; exact xw_iret hexec hb hr hlocks hH hS h1 h2 hp hdg
theorem xe_zret {v : Int32} (hQ : Q = MQ below (xQ post A) args s mc ms A) (hexec : p.tables.exec = Jvm.exec) (hb : c.code = cc) (hr : meth.sig.returnType = some .boolean) (hlocks : meth.locks = false) (hH : s.heap = H0) (hS : va_S A H0 H locs) (hz : v = 0 ∨ v = 1) (h1 : cells ≤ mc) (h2 : slots ≤ ms) (hp : post (some (.int v)) H) (hdg : decode cc pc = .ok (.ireturn, 1)) : W p l e R s m args below meth c H locs cells slots Q (F0 m pc ls [.int v]) := by
  rw [hQ]; exact xw_zret hexec hb hr hlocks hH hS (by rcases hz with h | h <;> subst h <;> rfl) h1 h2 hp hdg
theorem xe_lret {v : Int64} (hQ : Q = MQ below (xQ post A) args s mc ms A) (hexec : p.tables.exec = Jvm.exec) (hb : c.code = cc) (hr : meth.sig.returnType = some .long) (hlocks : meth.locks = false) (hH : s.heap = H0) (hS : va_S A H0 H locs) (h1 : cells ≤ mc) (h2 : slots ≤ ms) (hp : post (some (.long v)) H) (hdg : decode cc pc = .ok (.lreturn, 1)) : W p l e R s m args below meth c H locs cells slots Q (F0 m pc ls [.long v]) := by
  rw [hQ]; exact xw_lret hexec hb hr hlocks hH hS h1 h2 hp hdg
theorem xe_vret (hQ : Q = MQ below (xQ post A) args s mc ms A) (hexec : p.tables.exec = Jvm.exec) (hb : c.code = cc) (hr : meth.sig.returnType = none) (hlocks : meth.locks = false) (hH : s.heap = H0) (hS : va_S A H0 H locs) (h1 : cells ≤ mc) (h2 : slots ≤ ms) (hp : post none H) (hdg : decode cc pc = .ok (.return_, 1)) : W p l e R s m args below meth c H locs cells slots Q (F0 m pc ls []) := by
  rw [hQ]; exact xw_vret hexec hb hr hlocks hH hS h1 h2 hp hdg
theorem xe_aret {a : Nat} {rt : FieldType} (hQ : Q = MQ below (xQ post A) args s mc ms A) (hexec : p.tables.exec = Jvm.exec) (hb : c.code = cc) (hr : meth.sig.returnType = some rt) (hrt : (∃ n, rt = .object n) ∨ ∃ t, rt = .array t) (hlocks : meth.locks = false) (hH : s.heap = H0) (hS : va_S A H0 H locs) (h1 : cells ≤ mc) (h2 : slots ≤ ms) (hp : post (some (.ref a)) H) (hdg : decode cc pc = .ok (.areturn, 1)) : W p l e R s m args below meth c H locs cells slots Q (F0 m pc ls [.ref a]) := by
  rw [hQ]; exact xw_aret hexec hb hr hrt hlocks hH hS h1 h2 hp hdg
/-- a static method of the host, called from the nest -/
theorem xw_callSN {own host : String} {index maxL nL n : Nat} {x : MethodName} {bytes : ByteArray} {ret : Option FieldType} {rm : Room} {st0 : List Value} (As : List Value) (hM : Met l x (.code x bytes maxL ret :: WG) rm (xPc As D y H) (xQ post A) mc ms A) (hexec : p.tables.exec = Jvm.exec) (hb : c.code = cc) (hml : c.maxLocals = nL) (hown : s.vm.findClass own = some m.cls) (hts : ∀ w ∈ WG, w.before args s = true) (hE : xE D y s) (hS : va_S A H0 H locs)
    (hrc : rm.cells = mc) (hrs : rm.slots = ms) (hini : Cond.initialized x.cls ∈ WG) (hl : va_Nw (.methodLinkNest own index x host) s) (hcode : Cond.code x bytes maxL ret ∈ WG) (hst : Cond.static x ∈ WG) (hd : x.cls ≠ "java/lang/invoke/MethodHandle" ∧ x.cls ≠ "java/lang/invoke/VarHandle" ∧ (parseMethodDescriptor x.desc).map (fun d => d.parameters.length) = some n) (hn : As.length = n) (hR : rm.frames + 1 ≤ R.frames ∧ 8 + (maxL + 11) + rm.locals ≤ R.locals)
    (hsize : ls.size = nL) (hstack : st0 = As.reverse ++ rest) (hW : (rest.map fun v => v.category).sum ≤ 8) (hdg : decode cc pc = .ok (.invokestatic index, 3)) (hf : cells + mc ≤ R.cells ∧ slots + ms ≤ R.slots)
    (kk : ∀ (v : Option Value) (H1 : Heap) (locs1 : List Loc), post v H1 → va_S A H0 H1 locs1 → W p l e R s m args below meth c H1 locs1 (cells + mc) (slots + ms) Q (F0 m (pc + 3) ls (v.toList ++ rest))) : W p l e R s m args below meth c H locs cells slots Q (F0 m pc ls st0) :=
  xw_go (As := As) (va_runSN (rest := rest) ⟨hexec, hb, hml, hown, hts⟩ hM ⟨va_cnB n hts (WG_in (fun w h => h) hcode) rfl hrc hrs hl (hts _ hini) hd hR, hts _ hst, trivial⟩ ⟨xPc_blind, xw_pre hE⟩ rfl hn hsize hstack (lv_room hW) hdg hf) hS kk
end XE
section XP
variable {p : Program} {l : Launch} {e : Env} {R : Room} {s : State} {m : MethodId} {args : Array Value} {below : List Frame} {meth : Method} {c : Code} {H H0 : Heap} {locs : List Loc} {cells slots : Nat} {Q : State → Prop}
variable {cc : ByteArray} {pc : Nat} {ls : Array Slot} {rest : List Value} {D : va_G} {y : Nat → ClassId} {A : Nat → Prop} {ad : xL → Nat} {bl : xM} {z : xC} {g pl : Nat → Int32} {kn mi : Nat → Int64} {rw : Nat → Nat → Int64} {un : Int32} {fR fO : Nat → Nat → Option va_E}
theorem xr_nd {i : Nat} (hE : xE D y s) (hP : xW D A ad (wU (wB y ad bl z g pl kn rw mi un) fR fO) H) (hi : i < nN z) : ∃ cellB : Cell, H[ad (12, i)]? = some cellB ∧ cellB.vm.isStatics = false ∧ s.vm.findClass "NetlistBench$Node" = some cellB.cls := by
  have he : wU (wB y ad bl z g pl kn rw mi un) fR fO (12, i) = some (.inr (3, [.int (nR z i), .int (nP z i)])) := if_pos hi
  exact xw_recv hE hP (12, i) he rfl
theorem xr_el {i : Nat} (hE : xE D y s) (hP : xW D A ad (wU (wB y ad bl z g pl kn rw mi un) fR fO) H) (hi : i < nE z) : ∃ cellB : Cell, H[ad (13, i)]? = some cellB ∧ cellB.vm.isStatics = false ∧ s.vm.findClass "NetlistBench$Element" = some cellB.cls := by
  have he : wU (wB y ad bl z g pl kn rw mi un) fR fO (13, i) = some (.inr (1, [.int (eS z i), .int (eA z i), .int (eB z i), .int (eZ z i), .int (eO z i), .int (eT z i), .ref (ad (14, i))])) := if_pos hi
  exact xw_recv hE hP (13, i) he rfl
theorem xc_nd {own : String} {index i : Nat} (hexec : p.tables.exec = Jvm.exec) (hb : c.code = cc) (hts : ∀ w ∈ WG, w.before args s = true) (hown : s.vm.findClass own = some m.cls) (hE : xE D y s) (hP : xW D A ad (wU (wB y ad bl z g pl kn rw mi un) fR fO) H) (hi : i < nN z) (hlink : Cond.classLink own index "NetlistBench$Node" ∈ WG) (hdg : decode cc pc = .ok (.checkcast index, 3))
    (k : W p l e R s m args below meth c H locs cells slots Q (F0 m (pc + 3) ls (.ref (ad (12, i)) :: rest))) : W p l e R s m args below meth c H locs cells slots Q (F0 m pc ls (.ref (ad (12, i)) :: rest)) :=
  va_castS hexec hb hown (hts _ hlink) (hE.1.1 3 _ rfl).2 (xr_nd hE hP hi) hdg k
theorem xc_el {own : String} {index i : Nat} (hexec : p.tables.exec = Jvm.exec) (hb : c.code = cc) (hts : ∀ w ∈ WG, w.before args s = true) (hown : s.vm.findClass own = some m.cls) (hE : xE D y s) (hP : xW D A ad (wU (wB y ad bl z g pl kn rw mi un) fR fO) H) (hi : i < nE z) (hlink : Cond.classLink own index "NetlistBench$Element" ∈ WG) (hdg : decode cc pc = .ok (.checkcast index, 3))
    (k : W p l e R s m args below meth c H locs cells slots Q (F0 m (pc + 3) ls (.ref (ad (13, i)) :: rest))) : W p l e R s m args below meth c H locs cells slots Q (F0 m pc ls (.ref (ad (13, i)) :: rest)) :=
  va_castS hexec hb hown (hts _ hlink) (hE.1.1 1 _ rfl).2 (xr_el hE hP hi) hdg k
end XP
end
section
/-! what a circuit is: what its numbers keep to; when an element is on -/
def cA (z : xC) (i : Nat) : Nat := (eA z i).toNatClampNeg
def cB (z : xC) (i : Nat) : Nat := (eB z i).toNatClampNeg
def cT (z : xC) (i : Nat) : Nat := (eT z i).toNatClampNeg
def tmOk (z : xC) (i : Nat) : Prop := (∀ k, k < cT z i → (nI 1 ≤ tT z (6 * i + k) ∧ tT z (6 * i + k) ≤ nI 999)) ∧ ∀ k l, k < l → l < cT z i → tT z (6 * i + k) < tT z (6 * i + l)
def elOk (z : xC) (i : Nat) : Prop := (eS z i = 0 ∨ eS z i = 1) ∧ (eO z i = 0 ∨ eO z i = 1) ∧ (eA z i = nI (cA z i) ∧ cA z i < nN z) ∧ (eB z i = nI (cB z i) ∧ cB z i < nN z) ∧ cA z i ≠ cB z i ∧ (eT z i = nI (cT z i) ∧ cT z i ≤ 6) ∧ tmOk z i ∧ (eS z i = 0 → 1 ≤ (eZ z i).toInt ∧ (eZ z i).toInt ≤ 9) ∧ (eS z i = 1 → -99 ≤ (eZ z i).toInt ∧ (eZ z i).toInt ≤ 99)
def wf (z : xC) : Prop := nN z ≤ 8 ∧ nE z ≤ 20 ∧ (∀ i, i < nN z → (nR z i = 0 ∨ nR z i = 1) ∧ (nR z i = 1 → -99 ≤ (nP z i).toInt ∧ (nP z i).toInt ≤ 99)) ∧ ∀ i, i < nE z → elOk z i
theorem wf.N {z : xC} (h : wf z) : nN z ≤ 8 := h.1
theorem wf.E {z : xC} (h : wf z) : nE z ≤ 20 := h.2.1
theorem wf.r {z : xC} (h : wf z) {i : Nat} (hi : i < nN z) : nR z i = 0 ∨ nR z i = 1 := (h.2.2.1 i hi).1
theorem wf.el {z : xC} (h : wf z) {i : Nat} (hi : i < nE z) : elOk z i := h.2.2.2 i hi
theorem wf.s {z : xC} (h : wf z) {i : Nat} (hi : i < nE z) : eS z i = 0 ∨ eS z i = 1 := (h.el hi).1
theorem wf.o {z : xC} (h : wf z) {i : Nat} (hi : i < nE z) : eO z i = 0 ∨ eO z i = 1 := (h.el hi).2.1
theorem wf.a {z : xC} (h : wf z) {i : Nat} (hi : i < nE z) : eA z i = nI (cA z i) := (h.el hi).2.2.1.1
theorem wf.a8 {z : xC} (h : wf z) {i : Nat} (hi : i < nE z) : cA z i < nN z := (h.el hi).2.2.1.2
theorem wf.b {z : xC} (h : wf z) {i : Nat} (hi : i < nE z) : eB z i = nI (cB z i) := (h.el hi).2.2.2.1.1
theorem wf.b8 {z : xC} (h : wf z) {i : Nat} (hi : i < nE z) : cB z i < nN z := (h.el hi).2.2.2.1.2
theorem wf.t {z : xC} (h : wf z) {i : Nat} (hi : i < nE z) : eT z i = nI (cT z i) := (h.el hi).2.2.2.2.2.1.1
theorem wf.t6 {z : xC} (h : wf z) {i : Nat} (hi : i < nE z) : cT z i ≤ 6 := (h.el hi).2.2.2.2.2.1.2
/-- how many of the first k toggles are before t -/
def tb (z : xC) (i : Nat) (t : Int32) : Nat → Nat
  | 0 => 0
  | k + 1 => tb z i t k + (if t ≤ tT z (6 * i + k) then 0 else 1)
theorem tb_le (z : xC) (i : Nat) (t : Int32) : ∀ k, tb z i t k ≤ k
  | 0 => Nat.le_refl _
  | k + 1 => by
    have := tb_le z i t k
    unfold tb
    split <;> omega
theorem tb_s0 {z : xC} {i k : Nat} {t : Int32} (h : t ≤ tT z (6 * i + k)) : tb z i t (k + 1) = tb z i t k := by show tb z i t k + _ = _; rw [if_pos h]; rfl
theorem tb_s1 {z : xC} {i k : Nat} {t : Int32} (h : ¬ t ≤ tT z (6 * i + k)) : tb z i t (k + 1) = tb z i t k + 1 := by show tb z i t k + _ = _; rw [if_neg h]
/-- on at t, as 0 or 1 -/
def onI (z : xC) (i : Nat) (t : Int32) : Int32 := if eO z i = (if tb z i (t + nI 1) (cT z i) % 2 = 0 then nI 1 else nI 0) then nI 1 else nI 0
theorem onI_01 (z : xC) (i : Nat) (t : Int32) : onI z i t = 0 ∨ onI z i t = 1 := by
  unfold onI
  by_cases h : eO z i = (if tb z i (t + nI 1) (cT z i) % 2 = 0 then nI 1 else nI 0)
  · rw [if_pos h]; exact Or.inr rfl
  · rw [if_neg h]; exact Or.inl rfl
/-- toggleTime(k) -/
def tgt (z : xC) (i : Nat) (k : Int32) : Int32 := if k < 0 then -1 else if eT z i ≤ k then -1 else tT z (6 * i + k.toNatClampNeg)
def tgb (z : xC) (i : Nat) (t : Int32) : Int32 := tgt z i (nI (tb z i (t + nI 1) (cT z i)))
/-- what element() tells -/
def trt (z : xC) (i k : Nat) : Int32 := match k with
  | 0 => eS z i
  | 1 => eA z i
  | 2 => eB z i
  | 3 => eZ z i
  | 4 => eO z i
  | _ => eT z i
def bitI (x : Int32) (k : Nat) : Prop := ¬ (x >>> (nI k &&& 31)) &&& nI 1 = 0
end
section
set_option maxHeartbeats 4000000 in
set_option maxRecDepth 100000 in
theorem c_X0_togglesBefore (l : Launch) {D : va_G} {y : Nat → ClassId} {A : Nat → Prop} {ad : xL → Nat} {bl : xM} {z : xC} {g : Nat → Int32} {pl : Nat → Int32} {kn : Nat → Int64} {rw : Nat → Nat → Int64} {mi : Nat → Int64} {un : Int32} {fR fO : Nat → Nat → Option va_E} {Hs : Heap} (hP : xW D A ad (wU (wB y ad bl z g pl kn rw mi un) fR fO) Hs) (hw : wf z) {i : Nat} (hi : i < nE z) (t : Int32) : Met l yX0_togglesBefore (.code yX0_togglesBefore cX0_togglesBefore 4 (some .int) :: WG) { frames := 0, cells := 0, slots := 0, locals := 0 } (xPc [.ref (ad (13, i)), .int t] D y Hs) (xQ (fun v H1 => v = some (.int (nI (tb z i t (cT z i)))) ∧ Hs = H1) A) 0 0 A := by
  refine xM_go (by decide) (Nat.le_of_ble_eq_true rfl) (fun p e s m args below meth c ls R Q hx hb hr hlocks hml hown hts hH hE hnm hRf hRl hRc hRs hQ hS hl => ?_)
  have hRf : R.frames = 0 := hRf
  have hRl : R.locals = 0 := hRl
  have hRc : R.cells = 0 := hRc
  have hRs : R.slots = 0 := hRs
  have hl : lv_has ls 4 [(0, .ref (ad (13, i))), (1, .int t)] := hl
  have hN := hw.N
  have hE20 := hw.E
  have ht := hw.t hi
  have ht6 := hw.t6 hi
  refine lv_iconst (v := nI 0) hx hb dX0_togglesBefore_0 (by decide) ?_
  refine lv_istore_n (lv' := [(2, .int (nI 0)), (0, .ref (ad (13, i))), (1, .int t)]) hx hb dX0_togglesBefore_1 rfl hl (by decide) rfl (fun ls hl => ?_)
  refine lv_iconst (v := nI 0) hx hb dX0_togglesBefore_2 (by decide) ?_
  refine lv_istore_n (lv' := [(3, .int (nI 0)), (2, .int (nI 0)), (0, .ref (ad (13, i))), (1, .int t)]) hx hb dX0_togglesBefore_3 rfl hl (by decide) rfl (fun ls hl => ?_)
  have K4 : ∀ (nn : Nat), ∀ (k : Nat), (k ≤ cT z i) → cT z i - k < nn → ∀ (locs : List Loc) (ls : Array Slot), va_S A Hs Hs locs → lv_has ls 4 [(3, .int (nI k)), (2, .int (nI (tb z i t k))), (1, .int t), (0, .ref (ad (13, i)))] → W p l e R s m args below meth c Hs locs 0 0 Q (F0 m 4 ls []) := by
    intro nn
    induction nn with
    | zero => intro k hk h; exact absurd h (Nat.not_lt_zero _)
    | succ nn ih4 =>
      intro k hk hn4 locs ls hS hl
      refine lv_iload_n hx hb dX0_togglesBefore_4 rfl (lv_at hl 0 rfl) ?_
      refine lv_aload_n hx hb dX0_togglesBefore_5 rfl (lv_at hl 3 rfl) ?_
      refine fg_X0_toggles (i := i) (by first | assumption | omega) hx hb hts hown hE hP q_563 dX0_togglesBefore_6 ?_
      refine xt_i (w := nI (cT z i)) (ht) ?_
      refine lv_icmp_ge (tgt := 31) hx hb dX0_togglesBefore_9 (by decide) (fun c9 => ?_) (fun c9 => ?_)
      · skip
        have c9 := ni_le (a := (cT z i)) (b := k) (by omega) (by omega) c9
        refine lv_iload_n hx hb dX0_togglesBefore_31 rfl (lv_at hl 1 rfl) ?_
        exact xe_iret hQ hx hb hr hlocks hH hS (Nat.le_refl _) (Nat.le_refl _) (⟨by rw [show k = cT z i by omega], rfl⟩) dX0_togglesBefore_32
      · skip
        have c9 := ni_nle (a := (cT z i)) (b := k) (by omega) (by omega) c9
        refine lv_aload_n hx hb dX0_togglesBefore_12 rfl (lv_at hl 3 rfl) ?_
        refine fg_X0_times (i := i) (by first | assumption | omega) hx hb hts hown hE hP q_565 dX0_togglesBefore_13 ?_
        refine lv_iload_n hx hb dX0_togglesBefore_16 rfl (lv_at hl 0 rfl) ?_
        refine al_times (i := i) (by first | assumption | omega) hx hb hE hP (j := k) (by omega) dX0_togglesBefore_17 ?_
        refine lv_iload_n hx hb dX0_togglesBefore_18 rfl (lv_at hl 2 rfl) ?_
        refine lv_icmp_ge (tgt := 25) hx hb dX0_togglesBefore_19 (by decide) (fun c19 => ?_) (fun c19 => ?_)
        · skip
          rw [show tb z i t k = tb z i t (k + 1) from (tb_s0 c19).symm] at hl
          refine lv_iinc (v := nI (k + 1)) (lv' := [(3, .int (nI (k + 1))), (2, .int (nI (tb z i t (k + 1)))), (1, .int t), (0, .ref (ad (13, i)))]) hx hb dX0_togglesBefore_25 hl (k := 0) rfl (nI_1 _) (by decide) rfl (fun ls hl => ?_)
          refine lv_goto (tgt := 4) hx hb dX0_togglesBefore_28 (by decide) ?_
          exact ih4 (k + 1) (by omega) (by omega) _ _ hS (lv_sub hl [0, 1, 2, 3] rfl)
        · skip
          refine lv_iinc (v := nI (tb z i t (k + 1))) (lv' := [(2, .int (nI (tb z i t (k + 1)))), (3, .int (nI k)), (1, .int t), (0, .ref (ad (13, i)))]) hx hb dX0_togglesBefore_22 hl (k := 1) rfl (by rw [tb_s1 c19]; exact nI_1 _) (by decide) rfl (fun ls hl => ?_)
          refine lv_iinc (v := nI (k + 1)) (lv' := [(3, .int (nI (k + 1))), (2, .int (nI (tb z i t (k + 1)))), (1, .int t), (0, .ref (ad (13, i)))]) hx hb dX0_togglesBefore_25 hl (k := 1) rfl (nI_1 _) (by decide) rfl (fun ls hl => ?_)
          refine lv_goto (tgt := 4) hx hb dX0_togglesBefore_28 (by decide) ?_
          exact ih4 (k + 1) (by omega) (by omega) _ _ hS (lv_sub hl [0, 1, 2, 3] rfl)
  exact K4 _ 0 (by omega) (Nat.lt_succ_self _) _ _ hS (lv_sub hl [0, 1, 3, 2] rfl)

set_option maxHeartbeats 4000000 in
set_option maxRecDepth 100000 in
theorem c_X0_runsAt (l : Launch) {D : va_G} {y : Nat → ClassId} {A : Nat → Prop} {ad : xL → Nat} {bl : xM} {z : xC} {g : Nat → Int32} {pl : Nat → Int32} {kn : Nat → Int64} {rw : Nat → Nat → Int64} {mi : Nat → Int64} {un : Int32} {fR fO : Nat → Nat → Option va_E} {Hs : Heap} (hP : xW D A ad (wU (wB y ad bl z g pl kn rw mi un) fR fO) Hs) (hw : wf z) {i : Nat} (hi : i < nE z) (t : Int32) : Met l yX0_runsAt (.code yX0_runsAt cX0_runsAt 2 (some .boolean) :: WG) { frames := 1, cells := 0, slots := 0, locals := 23 } (xPc [.ref (ad (13, i)), .int t] D y Hs) (xQ (fun v H1 => v = some (.int (onI z i t)) ∧ Hs = H1) A) 0 0 A := by
  refine xM_go (by decide) (Nat.le_of_ble_eq_true rfl) (fun p e s m args below meth c ls R Q hx hb hr hlocks hml hown hts hH hE hnm hRf hRl hRc hRs hQ hS hl => ?_)
  have hRf : R.frames = 1 := hRf
  have hRl : R.locals = 23 := hRl
  have hRc : R.cells = 0 := hRc
  have hRs : R.slots = 0 := hRs
  have hl : lv_has ls 2 [(0, .ref (ad (13, i))), (1, .int t)] := hl
  have hN := hw.N
  have hE20 := hw.E
  have ht := hw.t hi
  have ht6 := hw.t6 hi
  have hb6 := tb_le z i (t + nI 1) (cT z i)
  refine lv_aload_n hx hb dX0_runsAt_0 rfl (lv_at hl 0 rfl) ?_
  refine fg_X0_startsOn (i := i) (by first | assumption | omega) hx hb hts hown hE hP q_561 dX0_runsAt_1 ?_
  refine lv_aload_n hx hb dX0_runsAt_4 rfl (lv_at hl 0 rfl) ?_
  refine lv_iload_n hx hb dX0_runsAt_5 rfl (lv_at hl 1 rfl) ?_
  refine lv_iconst (v := nI 1) hx hb dX0_runsAt_6 (by decide) ?_
  refine lv_iadd hx hb dX0_runsAt_7 ?_
  refine xw_callV (C := "NetlistBench$Element") (n := 1) [.int (t + (nI 1))] (c_X0_togglesBefore l hP hw hi (t + nI 1)) hx hb hml hown hts hE hS (xr_el hE hP (by first | assumption | omega)) rfl rfl q_40 q_250 q_254 q_252 q_4 (by decide) rfl ⟨by rw [hRf]; decide, by rw [hRl]; decide⟩ hl.1 rfl (Nat.le_of_ble_eq_true rfl) dX0_runsAt_8 ⟨by rw [hRc]; decide, by rw [hRs]; decide⟩ (fun v H1 locs hp hS => ?_)
  obtain ⟨hv, hh⟩ := hp; subst hv; subst hh
  refine lv_iconst (v := nI 2) hx hb dX0_runsAt_11 (by decide) ?_
  refine lv_irem hx hb dX0_runsAt_12 (by decide) ?_
  refine xt_i (w := nI (tb z i (t + nI 1) (cT z i) % 2)) (pk_rem (by omega) (by decide) (by decide)) ?_
  refine lv_if_ne (tgt := 20) hx hb dX0_runsAt_13 (by decide) (fun c13 => ?_) (fun c13 => ?_)
  · skip
    have c13 := ni_ne (a := (tb z i (t + nI 1) (cT z i) % 2)) (b := 0) (by omega) (by omega) c13
    refine lv_iconst (v := nI 0) hx hb dX0_runsAt_20 (by decide) ?_
    refine lv_icmp_ne (tgt := 28) hx hb dX0_runsAt_21 (by decide) (fun c21 => ?_) (fun c21 => ?_)
    · skip
      refine lv_iconst (v := nI 0) hx hb dX0_runsAt_28 (by decide) ?_
      exact xe_zret hQ hx hb hr hlocks hH hS (by first | assumption | decide | omega) (Nat.le_refl _) (Nat.le_refl _) (⟨by simp [onI, c13, c21], rfl⟩) dX0_runsAt_29
    · skip
      refine lv_iconst (v := nI 1) hx hb dX0_runsAt_24 (by decide) ?_
      refine lv_goto (tgt := 29) hx hb dX0_runsAt_25 (by decide) ?_
      exact xe_zret hQ hx hb hr hlocks hH hS (by first | assumption | decide | omega) (Nat.le_refl _) (Nat.le_refl _) (⟨by simp [onI, c13, c21], rfl⟩) dX0_runsAt_29
  · skip
    have c13 := ni_eq (a := (tb z i (t + nI 1) (cT z i) % 2)) (b := 0) (by omega) (by omega) c13
    refine lv_iconst (v := nI 1) hx hb dX0_runsAt_16 (by decide) ?_
    refine lv_goto (tgt := 21) hx hb dX0_runsAt_17 (by decide) ?_
    refine lv_icmp_ne (tgt := 28) hx hb dX0_runsAt_21 (by decide) (fun c21 => ?_) (fun c21 => ?_)
    · skip
      refine lv_iconst (v := nI 0) hx hb dX0_runsAt_28 (by decide) ?_
      exact xe_zret hQ hx hb hr hlocks hH hS (by first | assumption | decide | omega) (Nat.le_refl _) (Nat.le_refl _) (⟨by simp [onI, c13, c21], rfl⟩) dX0_runsAt_29
    · skip
      refine lv_iconst (v := nI 1) hx hb dX0_runsAt_24 (by decide) ?_
      refine lv_goto (tgt := 29) hx hb dX0_runsAt_25 (by decide) ?_
      exact xe_zret hQ hx hb hr hlocks hH hS (by first | assumption | decide | omega) (Nat.le_refl _) (Nat.le_refl _) (⟨by simp [onI, c13, c21], rfl⟩) dX0_runsAt_29

set_option maxHeartbeats 4000000 in
set_option maxRecDepth 100000 in
theorem c_X0_hasToggle (l : Launch) {D : va_G} {y : Nat → ClassId} {A : Nat → Prop} {ad : xL → Nat} {bl : xM} {z : xC} {g : Nat → Int32} {pl : Nat → Int32} {kn : Nat → Int64} {rw : Nat → Nat → Int64} {mi : Nat → Int64} {un : Int32} {fR fO : Nat → Nat → Option va_E} {Hs : Heap} (hP : xW D A ad (wU (wB y ad bl z g pl kn rw mi un) fR fO) Hs) (hw : wf z) {i : Nat} (hi : i < nE z) (t : Int32) : Met l yX0_hasToggle (.code yX0_hasToggle cX0_hasToggle 2 (some .boolean) :: WG) { frames := 1, cells := 0, slots := 0, locals := 23 } (xPc [.ref (ad (13, i)), .int t] D y Hs) (xQ (fun v H1 => v = some (.int (if tb z i t (cT z i) < tb z i (t + nI 1) (cT z i) then nI 1 else nI 0)) ∧ Hs = H1) A) 0 0 A := by
  refine xM_go (by decide) (Nat.le_of_ble_eq_true rfl) (fun p e s m args below meth c ls R Q hx hb hr hlocks hml hown hts hH hE hnm hRf hRl hRc hRs hQ hS hl => ?_)
  have hRf : R.frames = 1 := hRf
  have hRl : R.locals = 23 := hRl
  have hRc : R.cells = 0 := hRc
  have hRs : R.slots = 0 := hRs
  have hl : lv_has ls 2 [(0, .ref (ad (13, i))), (1, .int t)] := hl
  have hN := hw.N
  have hE20 := hw.E
  have ht := hw.t hi
  have ht6 := hw.t6 hi
  have hb5 := tb_le z i t (cT z i)
  have hb6 := tb_le z i (t + nI 1) (cT z i)
  refine lv_aload_n hx hb dX0_hasToggle_0 rfl (lv_at hl 0 rfl) ?_
  refine lv_iload_n hx hb dX0_hasToggle_1 rfl (lv_at hl 1 rfl) ?_
  refine xw_callV (C := "NetlistBench$Element") (n := 1) [.int t] (c_X0_togglesBefore l hP hw hi t) hx hb hml hown hts hE hS (xr_el hE hP (by first | assumption | omega)) rfl rfl q_40 q_250 q_254 q_252 q_4 (by decide) rfl ⟨by rw [hRf]; decide, by rw [hRl]; decide⟩ hl.1 rfl (Nat.le_of_ble_eq_true rfl) dX0_hasToggle_2 ⟨by rw [hRc]; decide, by rw [hRs]; decide⟩ (fun v H1 locs hp hS => ?_)
  obtain ⟨hv, hh⟩ := hp; subst hv; subst hh
  refine lv_aload_n hx hb dX0_hasToggle_5 rfl (lv_at hl 0 rfl) ?_
  refine lv_iload_n hx hb dX0_hasToggle_6 rfl (lv_at hl 1 rfl) ?_
  refine lv_iconst (v := nI 1) hx hb dX0_hasToggle_7 (by decide) ?_
  refine lv_iadd hx hb dX0_hasToggle_8 ?_
  refine xw_callV (C := "NetlistBench$Element") (n := 1) [.int (t + (nI 1))] (c_X0_togglesBefore l hP hw hi (t + nI 1)) hx hb hml hown hts hE hS (xr_el hE hP (by first | assumption | omega)) rfl rfl q_40 q_250 q_254 q_252 q_4 (by decide) rfl ⟨by rw [hRf]; decide, by rw [hRl]; decide⟩ hl.1 rfl (Nat.le_of_ble_eq_true rfl) dX0_hasToggle_9 ⟨by rw [hRc]; decide, by rw [hRs]; decide⟩ (fun v H1 locs hp hS => ?_)
  obtain ⟨hv, hh⟩ := hp; subst hv; subst hh
  refine lv_icmp_ge (tgt := 19) hx hb dX0_hasToggle_12 (by decide) (fun c12 => ?_) (fun c12 => ?_)
  · skip
    have c12 := ni_le (a := (tb z i (t + nI 1) (cT z i))) (b := (tb z i t (cT z i))) (by omega) (by omega) c12
    refine lv_iconst (v := nI 0) hx hb dX0_hasToggle_19 (by decide) ?_
    exact xe_zret hQ hx hb hr hlocks hH hS (by first | assumption | decide | omega) (Nat.le_refl _) (Nat.le_refl _) (⟨by simp; omega, rfl⟩) dX0_hasToggle_20
  · skip
    have c12 := ni_nle (a := (tb z i (t + nI 1) (cT z i))) (b := (tb z i t (cT z i))) (by omega) (by omega) c12
    refine lv_iconst (v := nI 1) hx hb dX0_hasToggle_15 (by decide) ?_
    refine lv_goto (tgt := 20) hx hb dX0_hasToggle_16 (by decide) ?_
    exact xe_zret hQ hx hb hr hlocks hH hS (by first | assumption | decide | omega) (Nat.le_refl _) (Nat.le_refl _) (⟨by simp; omega, rfl⟩) dX0_hasToggle_20

set_option maxHeartbeats 4000000 in
set_option maxRecDepth 100000 in
theorem c_X0_toggleTime (l : Launch) {D : va_G} {y : Nat → ClassId} {A : Nat → Prop} {ad : xL → Nat} {bl : xM} {z : xC} {g : Nat → Int32} {pl : Nat → Int32} {kn : Nat → Int64} {rw : Nat → Nat → Int64} {mi : Nat → Int64} {un : Int32} {fR fO : Nat → Nat → Option va_E} {Hs : Heap} (hP : xW D A ad (wU (wB y ad bl z g pl kn rw mi un) fR fO) Hs) (hw : wf z) {i : Nat} (hi : i < nE z) (k : Int32) : Met l yX0_toggleTime (.code yX0_toggleTime cX0_toggleTime 2 (some .int) :: WG) { frames := 0, cells := 0, slots := 0, locals := 0 } (xPc [.ref (ad (13, i)), .int k] D y Hs) (xQ (fun v H1 => v = some (.int (tgt z i k)) ∧ Hs = H1) A) 0 0 A := by
  refine xM_go (by decide) (Nat.le_of_ble_eq_true rfl) (fun p e s m args below meth c ls R Q hx hb hr hlocks hml hown hts hH hE hnm hRf hRl hRc hRs hQ hS hl => ?_)
  have hRf : R.frames = 0 := hRf
  have hRl : R.locals = 0 := hRl
  have hRc : R.cells = 0 := hRc
  have hRs : R.slots = 0 := hRs
  have hl : lv_has ls 2 [(0, .ref (ad (13, i))), (1, .int k)] := hl
  have hN := hw.N
  have hE20 := hw.E
  have ht := hw.t hi
  have ht6 := hw.t6 hi
  refine lv_iload_n hx hb dX0_toggleTime_0 rfl (lv_at hl 1 rfl) ?_
  refine lv_if_lt (tgt := 21) hx hb dX0_toggleTime_1 (by decide) (fun c1 => ?_) (fun c1 => ?_)
  · skip
    refine lv_iconst (v := (-1)) hx hb dX0_toggleTime_21 (by decide) ?_
    exact xe_iret hQ hx hb hr hlocks hH hS (Nat.le_refl _) (Nat.le_refl _) (⟨by first | (simp [tgt, c1]; done) | (rw [ht] at c9; simp [tgt, c1, ht, c9]; done), rfl⟩) dX0_toggleTime_22
  · skip
    refine lv_iload_n hx hb dX0_toggleTime_4 rfl (lv_at hl 1 rfl) ?_
    refine lv_aload_n hx hb dX0_toggleTime_5 rfl (lv_at hl 0 rfl) ?_
    refine fg_X0_toggles (i := i) (by first | assumption | omega) hx hb hts hown hE hP q_563 dX0_toggleTime_6 ?_
    refine lv_icmp_ge (tgt := 21) hx hb dX0_toggleTime_9 (by decide) (fun c9 => ?_) (fun c9 => ?_)
    · skip
      refine lv_iconst (v := (-1)) hx hb dX0_toggleTime_21 (by decide) ?_
      exact xe_iret hQ hx hb hr hlocks hH hS (Nat.le_refl _) (Nat.le_refl _) (⟨by first | (simp [tgt, c1]; done) | (rw [ht] at c9; simp [tgt, c1, ht, c9]; done), rfl⟩) dX0_toggleTime_22
    · skip
      obtain ⟨j, hj, rfl⟩ := nI_of c1
      rw [ht] at c9
      have hj6 := ni_nle (by omega) (by omega) c9
      refine lv_aload_n hx hb dX0_toggleTime_12 rfl (lv_at hl 0 rfl) ?_
      refine fg_X0_times (i := i) (by first | assumption | omega) hx hb hts hown hE hP q_565 dX0_toggleTime_13 ?_
      refine lv_iload_n hx hb dX0_toggleTime_16 rfl (lv_at hl 1 rfl) ?_
      refine al_times (i := i) (by first | assumption | omega) hx hb hE hP (j := j) (by omega) dX0_toggleTime_17 ?_
      refine lv_goto (tgt := 22) hx hb dX0_toggleTime_18 (by decide) ?_
      exact xe_iret hQ hx hb hr hlocks hH hS (Nat.le_refl _) (Nat.le_refl _) (⟨by simp [tgt, c1, ht, c9, nI_clamp hj], rfl⟩) dX0_toggleTime_22

set_option maxHeartbeats 4000000 in
set_option maxRecDepth 100000 in
theorem c_X0_toggleBehind (l : Launch) {D : va_G} {y : Nat → ClassId} {A : Nat → Prop} {ad : xL → Nat} {bl : xM} {z : xC} {g : Nat → Int32} {pl : Nat → Int32} {kn : Nat → Int64} {rw : Nat → Nat → Int64} {mi : Nat → Int64} {un : Int32} {fR fO : Nat → Nat → Option va_E} {Hs : Heap} (hP : xW D A ad (wU (wB y ad bl z g pl kn rw mi un) fR fO) Hs) (hw : wf z) {i : Nat} (hi : i < nE z) (t : Int32) : Met l yX0_toggleBehind (.code yX0_toggleBehind cX0_toggleBehind 2 (some .int) :: WG) { frames := 1, cells := 0, slots := 0, locals := 23 } (xPc [.ref (ad (13, i)), .int t] D y Hs) (xQ (fun v H1 => v = some (.int (tgb z i t)) ∧ Hs = H1) A) 0 0 A := by
  refine xM_go (by decide) (Nat.le_of_ble_eq_true rfl) (fun p e s m args below meth c ls R Q hx hb hr hlocks hml hown hts hH hE hnm hRf hRl hRc hRs hQ hS hl => ?_)
  have hRf : R.frames = 1 := hRf
  have hRl : R.locals = 23 := hRl
  have hRc : R.cells = 0 := hRc
  have hRs : R.slots = 0 := hRs
  have hl : lv_has ls 2 [(0, .ref (ad (13, i))), (1, .int t)] := hl
  have hN := hw.N
  have hE20 := hw.E
  have ht := hw.t hi
  have ht6 := hw.t6 hi
  refine lv_aload_n hx hb dX0_toggleBehind_0 rfl (lv_at hl 0 rfl) ?_
  refine lv_aload_n hx hb dX0_toggleBehind_1 rfl (lv_at hl 0 rfl) ?_
  refine lv_iload_n hx hb dX0_toggleBehind_2 rfl (lv_at hl 1 rfl) ?_
  refine lv_iconst (v := nI 1) hx hb dX0_toggleBehind_3 (by decide) ?_
  refine lv_iadd hx hb dX0_toggleBehind_4 ?_
  refine xw_callV (C := "NetlistBench$Element") (n := 1) [.int (t + (nI 1))] (c_X0_togglesBefore l hP hw hi (t + nI 1)) hx hb hml hown hts hE hS (xr_el hE hP (by first | assumption | omega)) rfl rfl q_40 q_250 q_254 q_252 q_4 (by decide) rfl ⟨by rw [hRf]; decide, by rw [hRl]; decide⟩ hl.1 rfl (Nat.le_of_ble_eq_true rfl) dX0_toggleBehind_5 ⟨by rw [hRc]; decide, by rw [hRs]; decide⟩ (fun v H1 locs hp hS => ?_)
  obtain ⟨hv, hh⟩ := hp; subst hv; subst hh
  refine xw_callV (C := "NetlistBench$Element") (n := 1) [.int (nI (tb z i (t + nI 1) (cT z i)))] (c_X0_toggleTime l hP hw hi (nI (tb z i (t + nI 1) (cT z i)))) hx hb hml hown hts hE hS (xr_el hE hP (by first | assumption | omega)) rfl rfl q_40 q_399 q_402 q_400 q_401 (by decide) rfl ⟨by rw [hRf]; decide, by rw [hRl]; decide⟩ hl.1 rfl (Nat.le_of_ble_eq_true rfl) dX0_toggleBehind_8 ⟨by rw [hRc]; decide, by rw [hRs]; decide⟩ (fun v H1 locs hp hS => ?_)
  obtain ⟨hv, hh⟩ := hp; subst hv; subst hh
  exact xe_iret hQ hx hb hr hlocks hH hS (Nat.le_refl _) (Nat.le_refl _) (⟨rfl, rfl⟩) dX0_toggleBehind_11

set_option maxHeartbeats 4000000 in
set_option maxRecDepth 100000 in
theorem c_X3_contains (l : Launch) {D : va_G} {y : Nat → ClassId} {A : Nat → Prop}  {Hs : Heap} (x : Int32) (k : Nat) : Met l yX3_contains (.code yX3_contains cX3_contains 2 (some .boolean) :: WG) { frames := 0, cells := 0, slots := 0, locals := 0 } (xPc [.int x, .int (nI k)] D y Hs) (xQ (fun v H1 => v = some (.int (if x >>> (nI k &&& 31) &&& nI 1 = 0 then nI 0 else nI 1)) ∧ Hs = H1) A) 0 0 A := by
  refine xM_go (by decide) (Nat.le_of_ble_eq_true rfl) (fun p e s m args below meth c ls R Q hx hb hr hlocks hml hown hts hH hE hnm hRf hRl hRc hRs hQ hS hl => ?_)
  have hRf : R.frames = 0 := hRf
  have hRl : R.locals = 0 := hRl
  have hRc : R.cells = 0 := hRc
  have hRs : R.slots = 0 := hRs
  have hl : lv_has ls 2 [(0, .int x), (1, .int (nI k))] := hl
  refine lv_iload_n hx hb dX3_contains_0 rfl (lv_at hl 0 rfl) ?_
  refine lv_iload_n hx hb dX3_contains_1 rfl (lv_at hl 1 rfl) ?_
  refine lv_ishr hx hb dX3_contains_2 ?_
  refine lv_iconst (v := nI 1) hx hb dX3_contains_3 (by decide) ?_
  refine lv_iand hx hb dX3_contains_4 ?_
  refine lv_if_eq (tgt := 12) hx hb dX3_contains_5 (by decide) (fun c5 => ?_) (fun c5 => ?_)
  · skip
    refine lv_iconst (v := nI 0) hx hb dX3_contains_12 (by decide) ?_
    exact xe_zret hQ hx hb hr hlocks hH hS (by first | assumption | decide | omega) (Nat.le_refl _) (Nat.le_refl _) (⟨by simp [c5], rfl⟩) dX3_contains_13
  · skip
    refine lv_iconst (v := nI 1) hx hb dX3_contains_8 (by decide) ?_
    refine lv_goto (tgt := 13) hx hb dX3_contains_9 (by decide) ?_
    exact xe_zret hQ hx hb hr hlocks hH hS (by first | assumption | decide | omega) (Nat.le_refl _) (Nat.le_refl _) (⟨by simp [c5], rfl⟩) dX3_contains_13
end
section
/-! the equations: masks, minors -/
def pop (M : Nat) : Nat := M % 2 + M / 2 % 2 + M / 4 % 2 + M / 8 % 2 + M / 16 % 2 + M / 32 % 2 + M / 64 % 2 + M / 128 % 2
theorem m_all : ∀ n, n < 8 → nI 1 <<< ((nI (n + 1)) &&& 31) - nI 1 = nI (2 ^ (n + 1) - 1) := by decide +kernel
theorem m_x : ∀ n, n < 8 → ∀ k, k < 8 → k ≤ n → nI (2 ^ (n + 1) - 1) ^^^ (nI 1 <<< (nI k &&& 31)) = nI (2 ^ (n + 1) - 1 - 2 ^ k) := by decide +kernel
theorem m_bit : ∀ M, M < 256 → ∀ k, k < 8 → ((nI M >>> (nI k &&& 31)) &&& nI 1 = 0 ↔ M / 2 ^ k % 2 = 0) := by decide +kernel
theorem m_xor : ∀ M, M < 256 → ∀ k, k < 8 → M / 2 ^ k % 2 = 1 → nI M ^^^ (nI 1 <<< (nI k &&& 31)) = nI (M - 2 ^ k) ∧ 2 ^ k ≤ M := by decide +kernel
/-- Integer.bitCount, as its code reckons -/
def bc1 (x : Int32) : Int32 := x - (((x.toUInt32 >>> ((nI 1).toUInt32 &&& Int32.toUInt32 31)).toInt32) &&& nI 1431655765)
def bc2 (x : Int32) : Int32 := (x &&& nI 858993459) + (((x.toUInt32 >>> ((nI 2).toUInt32 &&& Int32.toUInt32 31)).toInt32) &&& nI 858993459)
def bc4 (x : Int32) : Int32 := (x + (x.toUInt32 >>> ((nI 4).toUInt32 &&& Int32.toUInt32 31)).toInt32) &&& nI 252645135
def bc8 (x : Int32) : Int32 := x + (x.toUInt32 >>> ((nI 8).toUInt32 &&& Int32.toUInt32 31)).toInt32
def bc16 (x : Int32) : Int32 := x + (x.toUInt32 >>> ((nI 16).toUInt32 &&& Int32.toUInt32 31)).toInt32
def bcF (x : Int32) : Int32 := bc16 (bc8 (bc4 (bc2 (bc1 x)))) &&& nI 63
theorem bc_pop : ∀ M, M < 256 → bcF (nI M) = nI (pop M) := by decide +kernel
theorem pop_le : ∀ M, M < 256 → pop M ≤ 8 ∧ (0 < M → 0 < pop M) := by decide +kernel
theorem pop_n : ∀ n, n < 8 → ∀ M, M < 2 ^ (n + 1) - 1 → pop M ≤ n := by decide +kernel
/-- what expand() adds up over the columns below k -/
def ex (rw : Nat → Nat → Int64) (mi : Nat → Int64) (r M : Nat) : Nat → Int64 → Int32 → Int64
  | 0, s, _ => s
  | k + 1, s, g => if M / 2 ^ k % 2 = 0 then ex rw mi r M k s g else ex rw mi r M k (s + g.toInt64 * rw r k * mi (M - 2 ^ k)) (-g)
theorem ex_0 {rw : Nat → Nat → Int64} {mi : Nat → Int64} {r M k : Nat} {s : Int64} {g : Int32} (h : M / 2 ^ k % 2 = 0) : ex rw mi r M (k + 1) s g = ex rw mi r M k s g := by show (if _ then _ else _) = _; rw [if_pos h]
theorem ex_1 {rw : Nat → Nat → Int64} {mi : Nat → Int64} {r M k : Nat} {s : Int64} {g : Int32} (h : ¬ M / 2 ^ k % 2 = 0) : ex rw mi r M (k + 1) s g = ex rw mi r M k (s + g.toInt64 * rw r k * mi (M - 2 ^ k)) (-g) := by show (if _ then _ else _) = _; rw [if_neg h]
theorem ex_congr {rw : Nat → Nat → Int64} {mi mj : Nat → Int64} {r M : Nat} (h : ∀ j, j < M → mi j = mj j) : ∀ (k : Nat) (s : Int64) (g : Int32), ex rw mi r M k s g = ex rw mj r M k s g
  | 0, _, _ => rfl
  | k + 1, s, g => by
    by_cases hb : M / 2 ^ k % 2 = 0
    · rw [ex_0 hb, ex_0 hb]; exact ex_congr h k s g
    · rw [ex_1 hb, ex_1 hb]
      have hM : 0 < M := by
        rcases Nat.eq_zero_or_pos M with e | e
        · subst e; simp at hb
        · exact e
      have hp : 0 < 2 ^ k := Nat.pow_pos (by decide)
      rw [h (M - 2 ^ k) (by omega)]
      exact ex_congr h k _ _
def dmF (rw : Nat → Nat → Int64) (n : Nat) : Nat → Nat → Int64
  | 0, _ => 1
  | f + 1, M => if M = 0 then 1 else ex rw (dmF rw n f) (pop M - 1) M (n + 1) 0 1
/-- the determinant of the first rows in the columns M -/
def dm (rw : Nat → Nat → Int64) (n M : Nat) : Int64 := dmF rw n M M
theorem dmF_0 (rw : Nat → Nat → Int64) (n f : Nat) : dmF rw n f 0 = 1 := by cases f <;> rfl
theorem dmF_s (rw : Nat → Nat → Int64) (n f K : Nat) : dmF rw n (f + 1) (K + 1) = ex rw (dmF rw n f) (pop (K + 1) - 1) (K + 1) (n + 1) 0 1 := rfl
theorem dmF_st (rw : Nat → Nat → Int64) (n : Nat) : ∀ f f' M, M ≤ f → M ≤ f' → dmF rw n f M = dmF rw n f' M := by
  intro f
  induction f with
  | zero => intro f' M h h'
            have : M = 0 := by omega
            subst this; rw [dmF_0, dmF_0]
  | succ f ih =>
    intro f' M h h'
    rcases Nat.eq_zero_or_pos M with e | e
    · subst e; rw [dmF_0, dmF_0]
    · obtain ⟨K, rfl⟩ : ∃ K, M = K + 1 := ⟨M - 1, by omega⟩
      obtain ⟨f2, rfl⟩ : ∃ K, f' = K + 1 := ⟨f' - 1, by omega⟩
      rw [dmF_s, dmF_s]
      exact ex_congr (fun j hj => ih f2 j (by omega) (by omega)) _ _ _
theorem dm_0 (rw : Nat → Nat → Int64) (n : Nat) : dm rw n 0 = 1 := rfl
theorem dm_s (rw : Nat → Nat → Int64) (n : Nat) {mi : Nat → Int64} {M : Nat} (h0 : 0 < M) (h : ∀ j, j < M → mi j = dm rw n j) : ex rw mi (pop M - 1) M (n + 1) 0 1 = dm rw n M := by
  obtain ⟨K, rfl⟩ : ∃ K, M = K + 1 := ⟨M - 1, by omega⟩
  unfold dm
  rw [dmF_s]
  exact ex_congr (fun j hj => by rw [h j hj]; exact dmF_st rw n j K j (by omega) (by omega)) _ _ _
def skS (pl : Nat → Int32) (n i : Nat) : (Nat → Int32) × Nat := if n < 7 then (upd pl i (nI n), n + 1) else (pl, n)
def clN (x : Int32) : Nat := x.toNatClampNeg
def upV (pl : Nat → Int32) (kn mi : Nat → Int64) (n j : Nat) : Int64 := if pl j < 0 then kn j * mi (2 ^ n - 1) else if (n - 1 - clN (pl j)) % 2 = 0 then mi (2 ^ (n + 1) - 1 - 2 ^ clN (pl j)) else -mi (2 ^ (n + 1) - 1 - 2 ^ clN (pl j))
def brR (rw : Nat → Nat → Int64) (pl : Nat → Int32) (n j : Nat) (x : Int64) : Nat → Nat → Int64 := if pl j < 0 then rw else u2 rw (clN (pl j)) n (rw (clN (pl j)) n + x)
def lkR (rw : Nat → Nat → Int64) (pl : Nat → Int32) (kn : Nat → Int64) (n f t : Nat) (x : Int64) : Nat → Nat → Int64 :=
  if pl f < 0 then rw else
  if pl t < 0 then u2 (u2 rw (clN (pl f)) (clN (pl f)) (rw (clN (pl f)) (clN (pl f)) + x)) (clN (pl f)) n (u2 rw (clN (pl f)) (clN (pl f)) (rw (clN (pl f)) (clN (pl f)) + x) (clN (pl f)) n + x * kn t)
  else u2 (u2 rw (clN (pl f)) (clN (pl f)) (rw (clN (pl f)) (clN (pl f)) + x)) (clN (pl f)) (clN (pl t)) (u2 rw (clN (pl f)) (clN (pl f)) (rw (clN (pl f)) (clN (pl f)) + x) (clN (pl f)) (clN (pl t)) - x)
/-- places: none, or one below n -/
def plOk (pl : Nat → Int32) (n : Nat) : Prop := ∀ j, j < 8 → pl j < 0 ∨ ∃ k, k < n ∧ pl j = nI k
theorem plOk.at {pl : Nat → Int32} {n j : Nat} (h : plOk pl n) (hj : j < 8) (h0 : ¬ pl j < 0) (hn : n ≤ 8) : ∃ k, k < n ∧ pl j = nI k ∧ clN (pl j) = k := by
  rcases h j hj with e | ⟨k, hk, e⟩
  · exact absurd e h0
  · exact ⟨k, hk, e, by rw [e]; exact nI_clamp (by omega)⟩
theorem upd_all {f : Nat → Int32} {i : Nat} {v : Int32} (h : ∀ j, j < i → f j = v) : ∀ j, j < i + 1 → upd f i v j = v := fun j hj => by
  by_cases e : j = i
  · simp [upd, e]
  · simp [upd, e]; exact h j (by omega)
theorem updL_all {f : Nat → Int64} {i : Nat} {v : Int64} (h : ∀ j, j < i → f j = v) : ∀ j, j < i + 1 → vp_updL f i v j = v := fun j hj => by
  by_cases e : j = i
  · simp [vp_updL, e]
  · simp [vp_updL, e]; exact h j (by omega)
theorem no_lt {P : Nat → Prop} : ∀ j, j < 0 → P j := fun j h => absurd h (Nat.not_lt_zero _)
theorem u2_rows {rw : Nat → Nat → Int64} {r k : Nat} {v : Int64} (h : ∀ i, i < r → ∀ j, j < 8 → rw i j = 0) : ∀ i, i < r → ∀ j, j < 8 → u2 rw r k v i j = 0 := fun i hi j hj => by
  have e : i ≠ r := by omega
  simp [u2, e]; exact h i hi j hj
theorem u2_row {rw : Nat → Nat → Int64} {r k : Nat} {v : Int64} (h : ∀ j, j < k → rw r j = v) : ∀ j, j < k + 1 → u2 rw r k v r j = v := fun j hj => by
  by_cases e : j = k
  · simp [u2, vp_updL, e]
  · simp [u2, vp_updL, e]; exact h j (by omega)
theorem rows_s {rw : Nat → Nat → Int64} {r : Nat} (h : ∀ i, i < r → ∀ j, j < 8 → rw i j = 0) (h2 : ∀ j, j < 8 → rw r j = 0) : ∀ i, i < r + 1 → ∀ j, j < 8 → rw i j = 0 := fun i hi j hj => by
  by_cases e : i = r
  · rw [e]; exact h2 j hj
  · exact h i (by omega) j hj
theorem dm_init {rw : Nat → Nat → Int64} {n : Nat} {mi : Nat → Int64} : ∀ j, j < 1 → vp_updL mi 0 1 j = dm rw n j := fun j h => by
  have e : j = 0 := by omega
  subst e; rfl
theorem dm_tab {rw : Nat → Nat → Int64} {n c : Nat} {mi : Nat → Int64} (h0 : 0 < c) (h : ∀ j, j < c → mi j = dm rw n j) : ∀ j, j < c + 1 → vp_updL mi c (ex rw mi (pop c - 1) c (n + 1) 0 1) j = dm rw n j := fun j hj => by
  by_cases e : j = c
  · subst e; simp [vp_updL]; exact dm_s rw n h0 h
  · simp [vp_updL, e]; exact h j (by omega)
section WV
variable {D : va_G} {y : Nat → ClassId} {A : Nat → Prop} {ad : xL → Nat} {bl : xM} {z : xC} {g g' pl pl' : Nat → Int32} {kn kn' mi mi' : Nat → Int64} {rw rw' : Nat → Nat → Int64} {un : Int32} {fR fO : Nat → Nat → Option va_E} {H : Heap}
/-- arrays of the world, by what they hold within their lengths -/
theorem xW.cB {fB fB' : Nat → Nat → Option va_E} (h : xW D A ad (wU fB fR fO) H) (e : ∀ (a b : Nat) (f : va_E), fB' a b = some f → ∃ g, fB a b = some g ∧ (va_at D vwCl (ad (a, b), g) H → va_at D vwCl (ad (a, b), f) H)) : xW D A ad (wU fB' fR fO) H := by
  refine h.alike (fun q f hf => ?_)
  obtain ⟨a, b⟩ := q
  unfold wU at hf ⊢
  by_cases ha : a < 20
  · rw [if_pos ha] at hf ⊢; exact e a b f hf
  · rw [if_neg ha] at hf ⊢; exact ⟨f, hf, fun k => k⟩
theorem xW_gg (h : xW D A ad (wU (wB y ad bl z g pl kn rw mi un) fR fO) H) (e : ∀ j, j < 8 → g j = g' j) : xW D A ad (wU (wB y ad bl z g' pl kn rw mi un) fR fO) H := by
  refine h.cB (fun a b f hf => ?_)
  by_cases hq : a = 5 ∧ b = 0
  · obtain ⟨rfl, rfl⟩ := hq; cases hf; exact ⟨_, rfl, xW_i e⟩
  · refine ⟨f, ?_, fun k => k⟩
    rw [← hf]
    rcases a with _ | _ | _ | _ | _ | _ | _ | _ | _ | _ | _ | _ | _ | _ | _ | a <;> first | rfl | (rcases b with _ | b <;> first | rfl | exact absurd ⟨rfl, rfl⟩ hq)
theorem xW_pl (h : xW D A ad (wU (wB y ad bl z g pl kn rw mi un) fR fO) H) (e : ∀ j, j < 8 → pl j = pl' j) : xW D A ad (wU (wB y ad bl z g pl' kn rw mi un) fR fO) H := by
  refine h.cB (fun a b f hf => ?_)
  by_cases hq : a = 7 ∧ b = 0
  · obtain ⟨rfl, rfl⟩ := hq; cases hf; exact ⟨_, rfl, xW_i e⟩
  · refine ⟨f, ?_, fun k => k⟩
    rw [← hf]
    rcases a with _ | _ | _ | _ | _ | _ | _ | _ | _ | _ | _ | _ | _ | _ | _ | a <;> first | rfl | (rcases b with _ | b <;> first | rfl | exact absurd ⟨rfl, rfl⟩ hq)
theorem xW_kn (h : xW D A ad (wU (wB y ad bl z g pl kn rw mi un) fR fO) H) (e : ∀ j, j < 8 → kn j = kn' j) : xW D A ad (wU (wB y ad bl z g pl kn' rw mi un) fR fO) H := by
  refine h.cB (fun a b f hf => ?_)
  by_cases hq : a = 8 ∧ b = 0
  · obtain ⟨rfl, rfl⟩ := hq; cases hf; exact ⟨_, rfl, xW_l e⟩
  · refine ⟨f, ?_, fun k => k⟩
    rw [← hf]
    rcases a with _ | _ | _ | _ | _ | _ | _ | _ | _ | _ | _ | _ | _ | _ | _ | a <;> first | rfl | (rcases b with _ | b <;> first | rfl | exact absurd ⟨rfl, rfl⟩ hq)
theorem xW_rw (h : xW D A ad (wU (wB y ad bl z g pl kn rw mi un) fR fO) H) (e : ∀ i, i < 7 → ∀ j, j < 8 → rw i j = rw' i j) : xW D A ad (wU (wB y ad bl z g pl kn rw' mi un) fR fO) H := by
  refine h.cB (fun a b f hf => ?_)
  by_cases hq : a = 10
  · subst hq
    have hf' : (if b < 7 then some (Sum.inl (y 1, 8, .inr (.inl (rw' b)))) else none : Option va_E) = some f := hf
    by_cases hb : b < 7
    · rw [if_pos hb] at hf'; cases hf'; exact ⟨_, if_pos hb, xW_l (e b hb)⟩
    · rw [if_neg hb] at hf'; cases hf'
  · refine ⟨f, ?_, fun k => k⟩
    rw [← hf]
    rcases a with _ | _ | _ | _ | _ | _ | _ | _ | _ | _ | _ | _ | _ | _ | _ | a <;> first | rfl | (rcases b with _ | b <;> rfl) | exact absurd rfl hq
end WV
end
section
set_option maxHeartbeats 4000000 in
set_option maxRecDepth 100000 in
theorem c_J6_bitCount_0f7a4 (l : Launch) {D : va_G} {y : Nat → ClassId} {A : Nat → Prop}  {Hs : Heap} (x : Int32) : Met l yJ6_bitCount_0f7a4 (.code yJ6_bitCount_0f7a4 cJ6_bitCount_0f7a4 1 (some .int) :: WG) { frames := 0, cells := 0, slots := 0, locals := 0 } (xPc [.int x] D y Hs) (xQ (fun v H1 => v = some (.int (bcF x)) ∧ Hs = H1) A) 0 0 A := by
  refine xM_go (by decide) (Nat.le_of_ble_eq_true rfl) (fun p e s m args below meth c ls R Q hx hb hr hlocks hml hown hts hH hE hnm hRf hRl hRc hRs hQ hS hl => ?_)
  have hRf : R.frames = 0 := hRf
  have hRl : R.locals = 0 := hRl
  have hRc : R.cells = 0 := hRc
  have hRs : R.slots = 0 := hRs
  have hl : lv_has ls 1 [(0, .int x)] := hl
  refine lv_iload_n hx hb dJ6_bitCount_0f7a4_0 rfl (lv_at hl 0 rfl) ?_
  refine lv_iload_n hx hb dJ6_bitCount_0f7a4_1 rfl (lv_at hl 0 rfl) ?_
  refine lv_iconst (v := nI 1) hx hb dJ6_bitCount_0f7a4_2 (by decide) ?_
  refine lv_iushr (v := (x.toUInt32 >>> ((nI 1).toUInt32 &&& Int32.toUInt32 31)).toInt32) hx hb dJ6_bitCount_0f7a4_3 rfl ?_
  refine lv_ldcw hx hb hown (hts _ q_334) dJ6_bitCount_0f7a4_4 ?_
  refine lv_iand hx hb dJ6_bitCount_0f7a4_7 ?_
  refine lv_isub hx hb dJ6_bitCount_0f7a4_8 ?_
  refine xt_i (w := bc1 x) (rfl) ?_
  refine lv_istore_n (lv' := [(0, .int (bc1 x))]) hx hb dJ6_bitCount_0f7a4_9 rfl hl (by decide) rfl (fun ls hl => ?_)
  refine lv_iload_n hx hb dJ6_bitCount_0f7a4_10 rfl (lv_at hl 0 rfl) ?_
  refine lv_ldcw hx hb hown (hts _ q_335) dJ6_bitCount_0f7a4_11 ?_
  refine lv_iand hx hb dJ6_bitCount_0f7a4_14 ?_
  refine lv_iload_n hx hb dJ6_bitCount_0f7a4_15 rfl (lv_at hl 0 rfl) ?_
  refine lv_iconst (v := nI 2) hx hb dJ6_bitCount_0f7a4_16 (by decide) ?_
  refine lv_iushr (v := ((bc1 x).toUInt32 >>> ((nI 2).toUInt32 &&& Int32.toUInt32 31)).toInt32) hx hb dJ6_bitCount_0f7a4_17 rfl ?_
  refine lv_ldcw hx hb hown (hts _ q_335) dJ6_bitCount_0f7a4_18 ?_
  refine lv_iand hx hb dJ6_bitCount_0f7a4_21 ?_
  refine lv_iadd hx hb dJ6_bitCount_0f7a4_22 ?_
  refine xt_i (w := bc2 (bc1 x)) (rfl) ?_
  refine lv_istore_n (lv' := [(0, .int (bc2 (bc1 x)))]) hx hb dJ6_bitCount_0f7a4_23 rfl hl (by decide) rfl (fun ls hl => ?_)
  refine lv_iload_n hx hb dJ6_bitCount_0f7a4_24 rfl (lv_at hl 0 rfl) ?_
  refine lv_iload_n hx hb dJ6_bitCount_0f7a4_25 rfl (lv_at hl 0 rfl) ?_
  refine lv_iconst (v := nI 4) hx hb dJ6_bitCount_0f7a4_26 (by decide) ?_
  refine lv_iushr (v := ((bc2 (bc1 x)).toUInt32 >>> ((nI 4).toUInt32 &&& Int32.toUInt32 31)).toInt32) hx hb dJ6_bitCount_0f7a4_27 rfl ?_
  refine lv_iadd hx hb dJ6_bitCount_0f7a4_28 ?_
  refine lv_ldcw hx hb hown (hts _ q_336) dJ6_bitCount_0f7a4_29 ?_
  refine lv_iand hx hb dJ6_bitCount_0f7a4_32 ?_
  refine xt_i (w := bc4 (bc2 (bc1 x))) (rfl) ?_
  refine lv_istore_n (lv' := [(0, .int (bc4 (bc2 (bc1 x))))]) hx hb dJ6_bitCount_0f7a4_33 rfl hl (by decide) rfl (fun ls hl => ?_)
  refine lv_iload_n hx hb dJ6_bitCount_0f7a4_34 rfl (lv_at hl 0 rfl) ?_
  refine lv_iload_n hx hb dJ6_bitCount_0f7a4_35 rfl (lv_at hl 0 rfl) ?_
  refine lv_bipush (v := nI 8) hx hb dJ6_bitCount_0f7a4_36 (by decide) ?_
  refine lv_iushr (v := ((bc4 (bc2 (bc1 x))).toUInt32 >>> ((nI 8).toUInt32 &&& Int32.toUInt32 31)).toInt32) hx hb dJ6_bitCount_0f7a4_38 rfl ?_
  refine lv_iadd hx hb dJ6_bitCount_0f7a4_39 ?_
  refine xt_i (w := bc8 (bc4 (bc2 (bc1 x)))) (rfl) ?_
  refine lv_istore_n (lv' := [(0, .int (bc8 (bc4 (bc2 (bc1 x)))))]) hx hb dJ6_bitCount_0f7a4_40 rfl hl (by decide) rfl (fun ls hl => ?_)
  refine lv_iload_n hx hb dJ6_bitCount_0f7a4_41 rfl (lv_at hl 0 rfl) ?_
  refine lv_iload_n hx hb dJ6_bitCount_0f7a4_42 rfl (lv_at hl 0 rfl) ?_
  refine lv_bipush (v := nI 16) hx hb dJ6_bitCount_0f7a4_43 (by decide) ?_
  refine lv_iushr (v := ((bc8 (bc4 (bc2 (bc1 x)))).toUInt32 >>> ((nI 16).toUInt32 &&& Int32.toUInt32 31)).toInt32) hx hb dJ6_bitCount_0f7a4_45 rfl ?_
  refine lv_iadd hx hb dJ6_bitCount_0f7a4_46 ?_
  refine xt_i (w := bc16 (bc8 (bc4 (bc2 (bc1 x))))) (rfl) ?_
  refine lv_istore_n (lv' := [(0, .int (bc16 (bc8 (bc4 (bc2 (bc1 x))))))]) hx hb dJ6_bitCount_0f7a4_47 rfl hl (by decide) rfl (fun ls hl => ?_)
  refine lv_iload_n hx hb dJ6_bitCount_0f7a4_48 rfl (lv_at hl 0 rfl) ?_
  refine lv_bipush (v := nI 63) hx hb dJ6_bitCount_0f7a4_49 (by decide) ?_
  refine lv_iand hx hb dJ6_bitCount_0f7a4_51 ?_
  exact xe_iret hQ hx hb hr hlocks hH hS (Nat.le_refl _) (Nat.le_refl _) (⟨rfl, rfl⟩) dJ6_bitCount_0f7a4_52

set_option maxHeartbeats 4000000 in
set_option maxRecDepth 100000 in
theorem c_X1_allColumns (l : Launch) {D : va_G} {y : Nat → ClassId} {A : Nat → Prop} {ad : xL → Nat} {n : Nat} {bl : xM} {z : xC} {g : Nat → Int32} {pl : Nat → Int32} {kn : Nat → Int64} {rw : Nat → Nat → Int64} {mi : Nat → Int64} {fR fO : Nat → Nat → Option va_E} {Hs : Heap} (hP : xW D A ad (wU (wB y ad bl z g pl kn rw mi (nI n)) fR fO) Hs) (hn : n < 8) : Met l yX1_allColumns (.code yX1_allColumns cX1_allColumns 1 (some .int) :: WG) { frames := 0, cells := 0, slots := 0, locals := 0 } (xPc [.ref (ad (6, 0))] D y Hs) (xQ (fun v H1 => v = some (.int (nI (2 ^ (n + 1) - 1))) ∧ Hs = H1) A) 0 0 A := by
  refine xM_go (by decide) (Nat.le_of_ble_eq_true rfl) (fun p e s m args below meth c ls R Q hx hb hr hlocks hml hown hts hH hE hnm hRf hRl hRc hRs hQ hS hl => ?_)
  have hRf : R.frames = 0 := hRf
  have hRl : R.locals = 0 := hRl
  have hRc : R.cells = 0 := hRc
  have hRs : R.slots = 0 := hRs
  have hl : lv_has ls 1 [(0, .ref (ad (6, 0)))] := hl
  refine lv_iconst (v := nI 1) hx hb dX1_allColumns_0 (by decide) ?_
  refine lv_aload_n hx hb dX1_allColumns_1 rfl (lv_at hl 0 rfl) ?_
  refine fg_X1_unknowns hx hb hts hown hE hP q_88 dX1_allColumns_2 ?_
  refine lv_iconst (v := nI 1) hx hb dX1_allColumns_5 (by decide) ?_
  refine lv_iadd hx hb dX1_allColumns_6 ?_
  refine xt_i (nI_add n 1) ?_
  refine lv_ishl hx hb dX1_allColumns_7 ?_
  refine lv_iconst (v := nI 1) hx hb dX1_allColumns_8 (by decide) ?_
  refine lv_isub hx hb dX1_allColumns_9 ?_
  refine xt_i (w := nI (2 ^ (n + 1) - 1)) (m_all n hn) ?_
  exact xe_iret hQ hx hb hr hlocks hH hS (Nat.le_refl _) (Nat.le_refl _) (⟨rfl, rfl⟩) dX1_allColumns_10

set_option maxHeartbeats 4000000 in
set_option maxRecDepth 100000 in
theorem c_X1_lower (l : Launch) {D : va_G} {y : Nat → ClassId} {A : Nat → Prop} {ad : xL → Nat} {n : Nat} {bl : xM} {z : xC} {g : Nat → Int32} {pl : Nat → Int32} {kn : Nat → Int64} {rw : Nat → Nat → Int64} {mi : Nat → Int64} {fR fO : Nat → Nat → Option va_E} {Hs : Heap} (hP : xW D A ad (wU (wB y ad bl z g pl kn rw mi (nI n)) fR fO) Hs) (hn : n < 8) : Met l yX1_lower (.code yX1_lower cX1_lower 1 (some .long) :: WG) { frames := 1, cells := 0, slots := 0, locals := 20 } (xPc [.ref (ad (6, 0))] D y Hs) (xQ (fun v H1 => v = some (.long (mi (2 ^ n - 1))) ∧ Hs = H1) A) 0 0 A := by
  refine xM_go (by decide) (Nat.le_of_ble_eq_true rfl) (fun p e s m args below meth c ls R Q hx hb hr hlocks hml hown hts hH hE hnm hRf hRl hRc hRs hQ hS hl => ?_)
  have hRf : R.frames = 1 := hRf
  have hRl : R.locals = 20 := hRl
  have hRc : R.cells = 0 := hRc
  have hRs : R.slots = 0 := hRs
  have hl : lv_has ls 1 [(0, .ref (ad (6, 0)))] := hl
  have hp1 : 2 ^ (n + 1) ≤ 2 ^ 8 := Nat.pow_le_pow_right (by decide) (by omega)
  have hp0 : 2 ^ (n + 1) - 1 - 2 ^ n = 2 ^ n - 1 := by rw [Nat.pow_succ]; omega
  refine lv_aload_n hx hb dX1_lower_0 rfl (lv_at hl 0 rfl) ?_
  refine fg_X1_minors hx hb hts hown hE hP q_87 dX1_lower_1 ?_
  refine lv_aload_n hx hb dX1_lower_4 rfl (lv_at hl 0 rfl) ?_
  refine xw_callV (C := "NetlistBench$Equations") (n := 0) [] (c_X1_allColumns l hP hn) hx hb hml hown hts hE hS (xw_recv hE hP (6, 0) rfl rfl) rfl rfl q_25 q_323 q_326 q_325 q_10 (by decide) rfl ⟨by rw [hRf]; decide, by rw [hRl]; decide⟩ hl.1 rfl (Nat.le_of_ble_eq_true rfl) dX1_lower_5 ⟨by rw [hRc]; decide, by rw [hRs]; decide⟩ (fun v H1 locs hp hS => ?_)
  obtain ⟨hv, hh⟩ := hp; subst hv; subst hh
  refine lv_iconst (v := nI 1) hx hb dX1_lower_8 (by decide) ?_
  refine lv_aload_n hx hb dX1_lower_9 rfl (lv_at hl 0 rfl) ?_
  refine fg_X1_unknowns hx hb hts hown hE hP q_88 dX1_lower_10 ?_
  refine lv_ishl hx hb dX1_lower_13 ?_
  refine lv_ixor hx hb dX1_lower_14 ?_
  refine xt_i (w := nI (2 ^ n - 1)) (by rw [m_x n hn n hn (Nat.le_refl _), hp0]) ?_
  refine al_minors hx hb hE hP (j := 2 ^ n - 1) (by omega) dX1_lower_15 ?_
  exact xe_lret hQ hx hb hr hlocks hH hS (Nat.le_refl _) (Nat.le_refl _) (⟨rfl, rfl⟩) dX1_lower_16

set_option maxHeartbeats 4000000 in
set_option maxRecDepth 100000 in
theorem c_X1_upper (l : Launch) {D : va_G} {y : Nat → ClassId} {A : Nat → Prop} {ad : xL → Nat} {n : Nat} {bl : xM} {z : xC} {g : Nat → Int32} {pl : Nat → Int32} {kn : Nat → Int64} {rw : Nat → Nat → Int64} {mi : Nat → Int64} {fR fO : Nat → Nat → Option va_E} {Hs : Heap} (hP : xW D A ad (wU (wB y ad bl z g pl kn rw mi (nI n)) fR fO) Hs) (hn : n < 8) (hpl : plOk pl n) {j : Nat} (hj : j < 8) : Met l yX1_upper (.code yX1_upper cX1_upper 5 (some .long) :: WG) { frames := 2, cells := 0, slots := 0, locals := 40 } (xPc [.ref (ad (6, 0)), .int (nI j)] D y Hs) (xQ (fun v H1 => v = some (.long (upV pl kn mi n j)) ∧ Hs = H1) A) 0 0 A := by
  refine xM_go (by decide) (Nat.le_of_ble_eq_true rfl) (fun p e s m args below meth c ls R Q hx hb hr hlocks hml hown hts hH hE hnm hRf hRl hRc hRs hQ hS hl => ?_)
  have hRf : R.frames = 2 := hRf
  have hRl : R.locals = 40 := hRl
  have hRc : R.cells = 0 := hRc
  have hRs : R.slots = 0 := hRs
  have hl : lv_has ls 5 [(0, .ref (ad (6, 0))), (1, .int (nI j))] := hl
  have hp1 : 2 ^ (n + 1) ≤ 2 ^ 8 := Nat.pow_le_pow_right (by decide) (by omega)
  refine lv_aload_n hx hb dX1_upper_0 rfl (lv_at hl 0 rfl) ?_
  refine fg_X1_places hx hb hts hown hE hP q_84 dX1_upper_1 ?_
  refine lv_iload_n hx hb dX1_upper_4 rfl (lv_at hl 1 rfl) ?_
  refine al_places hx hb hE hP (j := j) (by omega) dX1_upper_5 ?_
  refine lv_istore_n (lv' := [(2, .int (pl j)), (0, .ref (ad (6, 0))), (1, .int (nI j))]) hx hb dX1_upper_6 rfl hl (by decide) rfl (fun ls hl => ?_)
  refine lv_iload_n hx hb dX1_upper_7 rfl (lv_at hl 0 rfl) ?_
  refine lv_if_ge (tgt := 23) hx hb dX1_upper_8 (by decide) (fun c8 => ?_) (fun c8 => ?_)
  · skip
    have c9 : ¬ pl j < 0 := Int32.not_lt.mpr c8
    obtain ⟨k, hk, ek, ck⟩ := hpl.at hj c9 (by omega)
    rw [ek] at hl
    have hq1 : 2 ^ k ≤ 2 ^ n := Nat.pow_le_pow_right (by decide) (by omega)
    have hq2 : 0 < 2 ^ k := Nat.pow_pos (by decide)
    refine lv_aload_n hx hb dX1_upper_23 rfl (lv_at hl 1 rfl) ?_
    refine fg_X1_minors hx hb hts hown hE hP q_87 dX1_upper_24 ?_
    refine lv_aload_n hx hb dX1_upper_27 rfl (lv_at hl 1 rfl) ?_
    refine xw_callV (C := "NetlistBench$Equations") (n := 0) [] (c_X1_allColumns l hP hn) hx hb hml hown hts hE hS (xw_recv hE hP (6, 0) rfl rfl) rfl rfl q_25 q_323 q_326 q_325 q_10 (by decide) rfl ⟨by rw [hRf]; decide, by rw [hRl]; decide⟩ hl.1 rfl (Nat.le_of_ble_eq_true rfl) dX1_upper_28 ⟨by rw [hRc]; decide, by rw [hRs]; decide⟩ (fun v H1 locs hp hS => ?_)
    obtain ⟨hv, hh⟩ := hp; subst hv; subst hh
    refine lv_iconst (v := nI 1) hx hb dX1_upper_31 (by decide) ?_
    refine lv_iload_n hx hb dX1_upper_32 rfl (lv_at hl 0 rfl) ?_
    refine lv_ishl hx hb dX1_upper_33 ?_
    refine lv_ixor hx hb dX1_upper_34 ?_
    refine xt_i (w := nI (2 ^ (n + 1) - 1 - 2 ^ k)) (m_x n hn k (by omega) (by omega)) ?_
    refine al_minors hx hb hE hP (j := 2 ^ (n + 1) - 1 - 2 ^ k) (by omega) dX1_upper_35 ?_
    refine lv_lstore_n (lv' := [(3, .long (mi (2 ^ (n + 1) - 1 - 2 ^ k))), (2, .int (nI k)), (0, .ref (ad (6, 0))), (1, .int (nI j))]) hx hb dX1_upper_36 rfl hl (by decide) rfl (fun ls hl => ?_)
    refine lv_aload_n hx hb dX1_upper_37 rfl (lv_at hl 2 rfl) ?_
    refine fg_X1_unknowns hx hb hts hown hE hP q_88 dX1_upper_38 ?_
    refine lv_iconst (v := nI 1) hx hb dX1_upper_41 (by decide) ?_
    refine lv_isub hx hb dX1_upper_42 ?_
    refine xt_i (w := nI (n - 1)) (pk_sub (by omega)) ?_
    refine lv_iload_n hx hb dX1_upper_43 rfl (lv_at hl 1 rfl) ?_
    refine lv_isub hx hb dX1_upper_44 ?_
    refine xt_i (w := nI (n - 1 - k)) (pk_sub (by omega)) ?_
    refine lv_iconst (v := nI 2) hx hb dX1_upper_45 (by decide) ?_
    refine lv_irem hx hb dX1_upper_46 (by decide) ?_
    refine xt_i (w := nI ((n - 1 - k) % 2)) (pk_rem (by omega) (by decide) (by decide)) ?_
    refine lv_if_ne (tgt := 54) hx hb dX1_upper_47 (by decide) (fun c47 => ?_) (fun c47 => ?_)
    · skip
      have c47 := ni_ne (a := ((n - 1 - k) % 2)) (b := 0) (by omega) (by omega) c47
      refine lv_lload_n hx hb dX1_upper_54 rfl (lv_at hl 0 rfl) ?_
      refine lv_lneg hx hb dX1_upper_55 ?_
      exact xe_lret hQ hx hb hr hlocks hH hS (Nat.le_refl _) (Nat.le_refl _) (⟨by unfold upV; rw [if_neg c9, ck, if_neg c47], rfl⟩) dX1_upper_56
    · skip
      have c47 := ni_eq (a := ((n - 1 - k) % 2)) (b := 0) (by omega) (by omega) c47
      refine lv_lload_n hx hb dX1_upper_50 rfl (lv_at hl 0 rfl) ?_
      refine lv_goto (tgt := 56) hx hb dX1_upper_51 (by decide) ?_
      exact xe_lret hQ hx hb hr hlocks hH hS (Nat.le_refl _) (Nat.le_refl _) (⟨by unfold upV; rw [if_neg c9, ck, if_pos c47], rfl⟩) dX1_upper_56
  · skip
    have c9 : pl j < 0 := Int32.not_le.mp c8
    refine lv_aload_n hx hb dX1_upper_11 rfl (lv_at hl 1 rfl) ?_
    refine fg_X1_known hx hb hts hown hE hP q_85 dX1_upper_12 ?_
    refine lv_iload_n hx hb dX1_upper_15 rfl (lv_at hl 2 rfl) ?_
    refine al_known hx hb hE hP (j := j) (by omega) dX1_upper_16 ?_
    refine lv_aload_n hx hb dX1_upper_17 rfl (lv_at hl 1 rfl) ?_
    refine xw_callV (C := "NetlistBench$Equations") (n := 0) [] (c_X1_lower l hP hn) hx hb hml hown hts hE hS (xw_recv hE hP (6, 0) rfl rfl) rfl rfl q_25 q_350 q_345 q_343 q_344 (by decide) rfl ⟨by rw [hRf]; decide, by rw [hRl]; decide⟩ hl.1 rfl (Nat.le_of_ble_eq_true rfl) dX1_upper_18 ⟨by rw [hRc]; decide, by rw [hRs]; decide⟩ (fun v H1 locs hp hS => ?_)
    obtain ⟨hv, hh⟩ := hp; subst hv; subst hh
    refine lv_lmul hx hb dX1_upper_21 ?_
    exact xe_lret hQ hx hb hr hlocks hH hS (Nat.le_refl _) (Nat.le_refl _) (⟨by simp only [upV, if_pos c9], rfl⟩) dX1_upper_22

set_option maxHeartbeats 4000000 in
set_option maxRecDepth 100000 in
theorem c_X1_fix (l : Launch) {D : va_G} {y : Nat → ClassId} {A : Nat → Prop} {ad : xL → Nat} {bl : xM} {z : xC} {g : Nat → Int32} {pl : Nat → Int32} {kn : Nat → Int64} {rw : Nat → Nat → Int64} {mi : Nat → Int64} {un : Int32} {fR fO : Nat → Nat → Option va_E} {Hs : Heap} (hP : xW D A ad (wU (wB y ad bl z g pl kn rw mi un) fR fO) Hs) {j : Nat} (hj : j < 8) (x : Int64) : Met l yX1_fix (.code yX1_fix cX1_fix 4 none :: WG) { frames := 0, cells := 0, slots := 0, locals := 0 } (xPc [.ref (ad (6, 0)), .int (nI j), .long x] D y Hs) (xQ (fun v H1 => v = none ∧ xW D A ad (wU (wB y ad bl z g pl (vp_updL kn j x) rw mi un) fR fO) H1) A) 0 0 A := by
  refine xM_go (by decide) (Nat.le_of_ble_eq_true rfl) (fun p e s m args below meth c ls R Q hx hb hr hlocks hml hown hts hH hE hnm hRf hRl hRc hRs hQ hS hl => ?_)
  have hRf : R.frames = 0 := hRf
  have hRl : R.locals = 0 := hRl
  have hRc : R.cells = 0 := hRc
  have hRs : R.slots = 0 := hRs
  have hl : lv_has ls 4 [(0, .ref (ad (6, 0))), (1, .int (nI j)), (2, .long x)] := hl
  refine lv_aload_n hx hb dX1_fix_0 rfl (lv_at hl 0 rfl) ?_
  refine fg_X1_known hx hb hts hown hE hP q_85 dX1_fix_1 ?_
  refine lv_iload_n hx hb dX1_fix_4 rfl (lv_at hl 1 rfl) ?_
  refine lv_lload_n hx hb dX1_fix_5 rfl (lv_at hl 2 rfl) ?_
  refine as_known hx hb hE hS hP (j := j) (by omega) dX1_fix_6 (fun H locs hP hS => ?_)
  exact xe_vret hQ hx hb hr hlocks hH hS (Nat.le_refl _) (Nat.le_refl _) (⟨rfl, hP⟩) dX1_fix_7

set_option maxHeartbeats 4000000 in
set_option maxRecDepth 100000 in
theorem c_X1_seek (l : Launch) {D : va_G} {y : Nat → ClassId} {A : Nat → Prop} {ad : xL → Nat} {n : Nat} {bl : xM} {z : xC} {g : Nat → Int32} {pl : Nat → Int32} {kn : Nat → Int64} {rw : Nat → Nat → Int64} {mi : Nat → Int64} {fR fO : Nat → Nat → Option va_E} {Hs : Heap} (hP : xW D A ad (wU (wB y ad bl z g pl kn rw mi (nI n)) fR fO) Hs) (hn : n ≤ 7) {j : Nat} (hj : j < 8) : Met l yX1_seek (.code yX1_seek cX1_seek 2 none :: WG) { frames := 0, cells := 0, slots := 0, locals := 0 } (xPc [.ref (ad (6, 0)), .int (nI j)] D y Hs) (xQ (fun v H1 => v = none ∧ xW D A ad (wU (wB y ad bl z g ((skS pl n j).1) kn rw mi (nI (skS pl n j).2)) fR fO) H1) A) 0 0 A := by
  refine xM_go (by decide) (Nat.le_of_ble_eq_true rfl) (fun p e s m args below meth c ls R Q hx hb hr hlocks hml hown hts hH hE hnm hRf hRl hRc hRs hQ hS hl => ?_)
  have hRf : R.frames = 0 := hRf
  have hRl : R.locals = 0 := hRl
  have hRc : R.cells = 0 := hRc
  have hRs : R.slots = 0 := hRs
  have hl : lv_has ls 2 [(0, .ref (ad (6, 0))), (1, .int (nI j))] := hl
  refine lv_aload_n hx hb dX1_seek_0 rfl (lv_at hl 0 rfl) ?_
  refine fg_X1_unknowns hx hb hts hown hE hP q_88 dX1_seek_1 ?_
  refine lv_bipush (v := nI 7) hx hb dX1_seek_4 (by decide) ?_
  refine lv_icmp_ge (tgt := 29) hx hb dX1_seek_6 (by decide) (fun c6 => ?_) (fun c6 => ?_)
  · skip
    have c6 := ni_le (a := 7) (b := n) (by omega) (by omega) c6
    exact xe_vret hQ hx hb hr hlocks hH hS (Nat.le_refl _) (Nat.le_refl _) (⟨rfl, hP.ct (by rw [skS, if_neg (by omega)])⟩) dX1_seek_29
  · skip
    have c6 := ni_nle (a := 7) (b := n) (by omega) (by omega) c6
    refine lv_aload_n hx hb dX1_seek_9 rfl (lv_at hl 0 rfl) ?_
    refine fg_X1_places hx hb hts hown hE hP q_84 dX1_seek_10 ?_
    refine lv_iload_n hx hb dX1_seek_13 rfl (lv_at hl 1 rfl) ?_
    refine lv_aload_n hx hb dX1_seek_14 rfl (lv_at hl 0 rfl) ?_
    refine fg_X1_unknowns hx hb hts hown hE hP q_88 dX1_seek_15 ?_
    refine as_places hx hb hE hS hP (j := j) (by omega) dX1_seek_18 (fun H locs hP hS => ?_)
    refine lv_aload_n hx hb dX1_seek_19 rfl (lv_at hl 0 rfl) ?_
    refine lv_dup hx hb dX1_seek_20 rfl ?_
    refine fg_X1_unknowns hx hb hts hown hE hP q_88 dX1_seek_21 ?_
    refine lv_iconst (v := nI 1) hx hb dX1_seek_24 (by decide) ?_
    refine lv_iadd hx hb dX1_seek_25 ?_
    refine xt_i (nI_add n 1) ?_
    refine fp_X1_unknowns hx hb hts hown hE hS hP q_88 dX1_seek_26 (fun H locs hP hS => ?_)
    exact xe_vret hQ hx hb hr hlocks hH hS (Nat.le_refl _) (Nat.le_refl _) (⟨rfl, hP.ct (by rw [skS, if_pos (by omega)])⟩) dX1_seek_29

set_option maxHeartbeats 4000000 in
set_option maxRecDepth 100000 in
theorem c_X1_bring (l : Launch) {D : va_G} {y : Nat → ClassId} {A : Nat → Prop} {ad : xL → Nat} {n : Nat} {bl : xM} {z : xC} {g : Nat → Int32} {pl : Nat → Int32} {kn : Nat → Int64} {rw : Nat → Nat → Int64} {mi : Nat → Int64} {fR fO : Nat → Nat → Option va_E} {Hs : Heap} (hP : xW D A ad (wU (wB y ad bl z g pl kn rw mi (nI n)) fR fO) Hs) (hn : n < 8) (hpl : plOk pl n) {j : Nat} (hj : j < 8) (x : Int64) : Met l yX1_bring (.code yX1_bring cX1_bring 5 none :: WG) { frames := 0, cells := 0, slots := 0, locals := 0 } (xPc [.ref (ad (6, 0)), .int (nI j), .long x] D y Hs) (xQ (fun v H1 => v = none ∧ xW D A ad (wU (wB y ad bl z g pl kn (brR rw pl n j x) mi (nI n)) fR fO) H1) A) 0 0 A := by
  refine xM_go (by decide) (Nat.le_of_ble_eq_true rfl) (fun p e s m args below meth c ls R Q hx hb hr hlocks hml hown hts hH hE hnm hRf hRl hRc hRs hQ hS hl => ?_)
  have hRf : R.frames = 0 := hRf
  have hRl : R.locals = 0 := hRl
  have hRc : R.cells = 0 := hRc
  have hRs : R.slots = 0 := hRs
  have hl : lv_has ls 5 [(0, .ref (ad (6, 0))), (1, .int (nI j)), (2, .long x)] := hl
  refine lv_aload_n hx hb dX1_bring_0 rfl (lv_at hl 0 rfl) ?_
  refine fg_X1_places hx hb hts hown hE hP q_84 dX1_bring_1 ?_
  refine lv_iload_n hx hb dX1_bring_4 rfl (lv_at hl 1 rfl) ?_
  refine al_places hx hb hE hP (j := j) (by omega) dX1_bring_5 ?_
  refine lv_istore (lv' := [(4, .int (pl j)), (0, .ref (ad (6, 0))), (1, .int (nI j)), (2, .long x)]) hx hb dX1_bring_6 hl (by decide) rfl (fun ls hl => ?_)
  refine lv_iload hx hb dX1_bring_8 (lv_at hl 0 rfl) ?_
  refine lv_if_lt (tgt := 29) hx hb dX1_bring_10 (by decide) (fun c10 => ?_) (fun c10 => ?_)
  · skip
    exact xe_vret hQ hx hb hr hlocks hH hS (Nat.le_refl _) (Nat.le_refl _) (⟨rfl, by unfold brR; rw [if_pos c10]; exact hP⟩) dX1_bring_29
  · skip
    obtain ⟨k, hk, ek, ck⟩ := hpl.at hj c10 (by omega)
    rw [ek] at hl
    refine lv_aload_n hx hb dX1_bring_13 rfl (lv_at hl 1 rfl) ?_
    refine fg_X1_rows hx hb hts hown hE hP q_86 dX1_bring_14 ?_
    refine lv_iload hx hb dX1_bring_17 (lv_at hl 0 rfl) ?_
    refine xw_aald2 hx hb hE hP (9, 0) rfl (i := k) (v := ad (10, k)) (if_pos (by omega)) (by omega) (by omega) dX1_bring_19 ?_
    refine lv_aload_n hx hb dX1_bring_20 rfl (lv_at hl 1 rfl) ?_
    refine fg_X1_unknowns hx hb hts hown hE hP q_88 dX1_bring_21 ?_
    refine lv_dup2_11 hx hb dX1_bring_24 rfl rfl ?_
    refine al_row (i := k) (by omega) hx hb hE hP (j := n) (by omega) dX1_bring_25 ?_
    refine lv_lload_n hx hb dX1_bring_26 rfl (lv_at hl 3 rfl) ?_
    refine lv_ladd hx hb dX1_bring_27 ?_
    refine as_row (i := k) (by omega) hx hb hE hS hP (j := n) (by omega) dX1_bring_28 (fun H locs hP hS => ?_)
    exact xe_vret hQ hx hb hr hlocks hH hS (Nat.le_refl _) (Nat.le_refl _) (⟨rfl, by unfold brR; rw [if_neg c10, ck]; exact hP⟩) dX1_bring_29

set_option maxHeartbeats 4000000 in
set_option maxRecDepth 100000 in
theorem c_X1_linkOneWay (l : Launch) {D : va_G} {y : Nat → ClassId} {A : Nat → Prop} {ad : xL → Nat} {n : Nat} {bl : xM} {z : xC} {g : Nat → Int32} {pl : Nat → Int32} {kn : Nat → Int64} {rw : Nat → Nat → Int64} {mi : Nat → Int64} {fR fO : Nat → Nat → Option va_E} {Hs : Heap} (hP : xW D A ad (wU (wB y ad bl z g pl kn rw mi (nI n)) fR fO) Hs) (hn : n < 8) (hpl : plOk pl n) {f t : Nat} (hf : f < 8) (ht : t < 8) (x : Int64) : Met l yX1_linkOneWay (.code yX1_linkOneWay cX1_linkOneWay 7 none :: WG) { frames := 0, cells := 0, slots := 0, locals := 0 } (xPc [.ref (ad (6, 0)), .int (nI f), .int (nI t), .long x] D y Hs) (xQ (fun v H1 => v = none ∧ xW D A ad (wU (wB y ad bl z g pl kn (lkR rw pl kn n f t x) mi (nI n)) fR fO) H1) A) 0 0 A := by
  refine xM_go (by decide) (Nat.le_of_ble_eq_true rfl) (fun p e s m args below meth c ls R Q hx hb hr hlocks hml hown hts hH hE hnm hRf hRl hRc hRs hQ hS hl => ?_)
  have hRf : R.frames = 0 := hRf
  have hRl : R.locals = 0 := hRl
  have hRc : R.cells = 0 := hRc
  have hRs : R.slots = 0 := hRs
  have hl : lv_has ls 7 [(0, .ref (ad (6, 0))), (1, .int (nI f)), (2, .int (nI t)), (3, .long x)] := hl
  refine lv_aload_n hx hb dX1_linkOneWay_0 rfl (lv_at hl 0 rfl) ?_
  refine fg_X1_places hx hb hts hown hE hP q_84 dX1_linkOneWay_1 ?_
  refine lv_iload_n hx hb dX1_linkOneWay_4 rfl (lv_at hl 1 rfl) ?_
  refine al_places hx hb hE hP (j := f) (by omega) dX1_linkOneWay_5 ?_
  refine lv_istore (lv' := [(5, .int (pl f)), (0, .ref (ad (6, 0))), (1, .int (nI f)), (2, .int (nI t)), (3, .long x)]) hx hb dX1_linkOneWay_6 hl (by decide) rfl (fun ls hl => ?_)
  refine lv_iload hx hb dX1_linkOneWay_8 (lv_at hl 0 rfl) ?_
  refine lv_if_ge (tgt := 14) hx hb dX1_linkOneWay_10 (by decide) (fun c10 => ?_) (fun c10 => ?_)
  · skip
    have d10 : ¬ pl f < 0 := Int32.not_lt.mpr c10
    obtain ⟨k, hk, ek, ck⟩ := hpl.at hf d10 (by omega)
    rw [ek] at hl
    refine lv_aload_n hx hb dX1_linkOneWay_14 rfl (lv_at hl 1 rfl) ?_
    refine fg_X1_rows hx hb hts hown hE hP q_86 dX1_linkOneWay_15 ?_
    refine lv_iload hx hb dX1_linkOneWay_18 (lv_at hl 0 rfl) ?_
    refine xw_aald2 hx hb hE hP (9, 0) rfl (i := k) (v := ad (10, k)) (if_pos (by omega)) (by omega) (by omega) dX1_linkOneWay_20 ?_
    refine lv_iload hx hb dX1_linkOneWay_21 (lv_at hl 0 rfl) ?_
    refine lv_dup2_11 hx hb dX1_linkOneWay_23 rfl rfl ?_
    refine al_row (i := k) (by omega) hx hb hE hP (j := k) (by omega) dX1_linkOneWay_24 ?_
    refine lv_lload_n hx hb dX1_linkOneWay_25 rfl (lv_at hl 4 rfl) ?_
    refine lv_ladd hx hb dX1_linkOneWay_26 ?_
    refine as_row (i := k) (by omega) hx hb hE hS hP (j := k) (by omega) dX1_linkOneWay_27 (fun H locs hP hS => ?_)
    refine lv_aload_n hx hb dX1_linkOneWay_28 rfl (lv_at hl 1 rfl) ?_
    refine fg_X1_places hx hb hts hown hE hP q_84 dX1_linkOneWay_29 ?_
    refine lv_iload_n hx hb dX1_linkOneWay_32 rfl (lv_at hl 3 rfl) ?_
    refine al_places hx hb hE hP (j := t) (by omega) dX1_linkOneWay_33 ?_
    refine lv_istore (lv' := [(6, .int (pl t)), (5, .int (nI k)), (0, .ref (ad (6, 0))), (1, .int (nI f)), (2, .int (nI t)), (3, .long x)]) hx hb dX1_linkOneWay_34 hl (by decide) rfl (fun ls hl => ?_)
    refine lv_iload hx hb dX1_linkOneWay_36 (lv_at hl 0 rfl) ?_
    refine lv_if_lt (tgt := 58) hx hb dX1_linkOneWay_38 (by decide) (fun c38 => ?_) (fun c38 => ?_)
    · skip
      refine lv_aload_n hx hb dX1_linkOneWay_58 rfl (lv_at hl 2 rfl) ?_
      refine fg_X1_rows hx hb hts hown hE hP q_86 dX1_linkOneWay_59 ?_
      refine lv_iload hx hb dX1_linkOneWay_62 (lv_at hl 1 rfl) ?_
      refine xw_aald2 hx hb hE hP (9, 0) rfl (i := k) (v := ad (10, k)) (if_pos (by omega)) (by omega) (by omega) dX1_linkOneWay_64 ?_
      refine lv_aload_n hx hb dX1_linkOneWay_65 rfl (lv_at hl 2 rfl) ?_
      refine fg_X1_unknowns hx hb hts hown hE hP q_88 dX1_linkOneWay_66 ?_
      refine lv_dup2_11 hx hb dX1_linkOneWay_69 rfl rfl ?_
      refine al_row (i := k) (by omega) hx hb hE hP (j := n) (by omega) dX1_linkOneWay_70 ?_
      refine lv_lload_n hx hb dX1_linkOneWay_71 rfl (lv_at hl 5 rfl) ?_
      refine lv_aload_n hx hb dX1_linkOneWay_72 rfl (lv_at hl 2 rfl) ?_
      refine fg_X1_known hx hb hts hown hE hP q_85 dX1_linkOneWay_73 ?_
      refine lv_iload_n hx hb dX1_linkOneWay_76 rfl (lv_at hl 4 rfl) ?_
      refine al_known hx hb hE hP (j := t) (by omega) dX1_linkOneWay_77 ?_
      refine lv_lmul hx hb dX1_linkOneWay_78 ?_
      refine lv_ladd hx hb dX1_linkOneWay_79 ?_
      refine as_row (i := k) (by omega) hx hb hE hS hP (j := n) (by omega) dX1_linkOneWay_80 (fun H locs hP hS => ?_)
      exact xe_vret hQ hx hb hr hlocks hH hS (Nat.le_refl _) (Nat.le_refl _) (⟨rfl, by unfold lkR; rw [if_neg d10, if_pos c38, ck]; exact hP⟩) dX1_linkOneWay_81
    · skip
      obtain ⟨k2, hk2, ek2, ck2⟩ := hpl.at ht c38 (by omega)
      rw [ek2] at hl
      refine lv_aload_n hx hb dX1_linkOneWay_41 rfl (lv_at hl 2 rfl) ?_
      refine fg_X1_rows hx hb hts hown hE hP q_86 dX1_linkOneWay_42 ?_
      refine lv_iload hx hb dX1_linkOneWay_45 (lv_at hl 1 rfl) ?_
      refine xw_aald2 hx hb hE hP (9, 0) rfl (i := k) (v := ad (10, k)) (if_pos (by omega)) (by omega) (by omega) dX1_linkOneWay_47 ?_
      refine lv_iload hx hb dX1_linkOneWay_48 (lv_at hl 0 rfl) ?_
      refine lv_dup2_11 hx hb dX1_linkOneWay_50 rfl rfl ?_
      refine al_row (i := k) (by omega) hx hb hE hP (j := k2) (by omega) dX1_linkOneWay_51 ?_
      refine lv_lload_n hx hb dX1_linkOneWay_52 rfl (lv_at hl 5 rfl) ?_
      refine lv_lsub hx hb dX1_linkOneWay_53 ?_
      refine as_row (i := k) (by omega) hx hb hE hS hP (j := k2) (by omega) dX1_linkOneWay_54 (fun H locs hP hS => ?_)
      refine lv_goto (tgt := 81) hx hb dX1_linkOneWay_55 (by decide) ?_
      exact xe_vret hQ hx hb hr hlocks hH hS (Nat.le_refl _) (Nat.le_refl _) (⟨rfl, by unfold lkR; rw [if_neg d10, if_neg c38, ck, ck2]; exact hP⟩) dX1_linkOneWay_81
  · skip
    have d10 : pl f < 0 := Int32.not_le.mp c10
    exact xe_vret hQ hx hb hr hlocks hH hS (Nat.le_refl _) (Nat.le_refl _) (⟨rfl, by unfold lkR; rw [if_pos d10]; exact hP⟩) dX1_linkOneWay_13

set_option maxHeartbeats 4000000 in
set_option maxRecDepth 100000 in
theorem c_X1_link (l : Launch) {D : va_G} {y : Nat → ClassId} {A : Nat → Prop} {ad : xL → Nat} {n : Nat} {bl : xM} {z : xC} {g : Nat → Int32} {pl : Nat → Int32} {kn : Nat → Int64} {rw : Nat → Nat → Int64} {mi : Nat → Int64} {fR fO : Nat → Nat → Option va_E} {Hs : Heap} (hP : xW D A ad (wU (wB y ad bl z g pl kn rw mi (nI n)) fR fO) Hs) (hn : n < 8) (hpl : plOk pl n) {a b : Nat} (ha : a < 8) (hb8 : b < 8) (x : Int64) : Met l yX1_link (.code yX1_link cX1_link 5 none :: WG) { frames := 1, cells := 0, slots := 0, locals := 26 } (xPc [.ref (ad (6, 0)), .int (nI a), .int (nI b), .long x] D y Hs) (xQ (fun v H1 => v = none ∧ xW D A ad (wU (wB y ad bl z g pl kn (lkR (lkR rw pl kn n a b x) pl kn n b a x) mi (nI n)) fR fO) H1) A) 0 0 A := by
  refine xM_go (by decide) (Nat.le_of_ble_eq_true rfl) (fun p e s m args below meth c ls R Q hx hb hr hlocks hml hown hts hH hE hnm hRf hRl hRc hRs hQ hS hl => ?_)
  have hRf : R.frames = 1 := hRf
  have hRl : R.locals = 26 := hRl
  have hRc : R.cells = 0 := hRc
  have hRs : R.slots = 0 := hRs
  have hl : lv_has ls 5 [(0, .ref (ad (6, 0))), (1, .int (nI a)), (2, .int (nI b)), (3, .long x)] := hl
  refine lv_aload_n hx hb dX1_link_0 rfl (lv_at hl 0 rfl) ?_
  refine lv_iload_n hx hb dX1_link_1 rfl (lv_at hl 1 rfl) ?_
  refine lv_iload_n hx hb dX1_link_2 rfl (lv_at hl 2 rfl) ?_
  refine lv_lload_n hx hb dX1_link_3 rfl (lv_at hl 3 rfl) ?_
  refine xw_callV (C := "NetlistBench$Equations") (n := 3) [.int (nI a), .int (nI b), .long x] (c_X1_linkOneWay l hP hn hpl ha hb8 x) hx hb hml hown hts hE hS (xw_recv hE hP (6, 0) rfl rfl) rfl rfl q_25 q_315 q_318 q_317 q_9 (by decide) rfl ⟨by rw [hRf]; decide, by rw [hRl]; decide⟩ hl.1 rfl (Nat.le_of_ble_eq_true rfl) dX1_link_4 ⟨by rw [hRc]; decide, by rw [hRs]; decide⟩ (fun v H1 locs hp hS => ?_)
  obtain ⟨hv, hP⟩ := hp; subst hv
  generalize H1 = H at hP hS ⊢
  refine lv_aload_n hx hb dX1_link_7 rfl (lv_at hl 0 rfl) ?_
  refine lv_iload_n hx hb dX1_link_8 rfl (lv_at hl 2 rfl) ?_
  refine lv_iload_n hx hb dX1_link_9 rfl (lv_at hl 1 rfl) ?_
  refine lv_lload_n hx hb dX1_link_10 rfl (lv_at hl 3 rfl) ?_
  refine xw_callV (C := "NetlistBench$Equations") (n := 3) [.int (nI b), .int (nI a), .long x] (c_X1_linkOneWay l hP hn hpl hb8 ha x) hx hb hml hown hts hE hS (xw_recv hE hP (6, 0) rfl rfl) rfl rfl q_25 q_315 q_318 q_317 q_9 (by decide) rfl ⟨by rw [hRf]; decide, by rw [hRl]; decide⟩ hl.1 rfl (Nat.le_of_ble_eq_true rfl) dX1_link_11 ⟨by rw [hRc]; decide, by rw [hRs]; decide⟩ (fun v H1 locs hp hS => ?_)
  obtain ⟨hv, hP⟩ := hp; subst hv
  generalize H1 = H at hP hS ⊢
  exact xe_vret hQ hx hb hr hlocks hH hS (Nat.le_refl _) (Nat.le_refl _) (⟨rfl, hP⟩) dX1_link_14

set_option maxHeartbeats 4000000 in
set_option maxRecDepth 100000 in
theorem c_X1_clear (l : Launch) {D : va_G} {y : Nat → ClassId} {A : Nat → Prop} {ad : xL → Nat} {bl : xM} {z : xC} {g : Nat → Int32} {pl : Nat → Int32} {kn : Nat → Int64} {rw : Nat → Nat → Int64} {mi : Nat → Int64} {un : Int32} {fR fO : Nat → Nat → Option va_E} {Hs : Heap} (hP : xW D A ad (wU (wB y ad bl z g pl kn rw mi un) fR fO) Hs)  : Met l yX1_clear (.code yX1_clear cX1_clear 3 none :: WG) { frames := 0, cells := 0, slots := 0, locals := 0 } (xPc [.ref (ad (6, 0))] D y Hs) (xQ (fun v H1 => v = none ∧ xW D A ad (wU (wB y ad bl z g ((fun _ => -1)) ((fun _ => 0)) ((fun _ _ => 0)) mi (nI 0)) fR fO) H1) A) 0 0 A := by
  refine xM_go (by decide) (Nat.le_of_ble_eq_true rfl) (fun p e s m args below meth c ls R Q hx hb hr hlocks hml hown hts hH hE hnm hRf hRl hRc hRs hQ hS hl => ?_)
  have hRf : R.frames = 0 := hRf
  have hRl : R.locals = 0 := hRl
  have hRc : R.cells = 0 := hRc
  have hRs : R.slots = 0 := hRs
  have hl : lv_has ls 3 [(0, .ref (ad (6, 0)))] := hl
  refine lv_aload_n hx hb dX1_clear_0 rfl (lv_at hl 0 rfl) ?_
  refine lv_iconst (v := nI 0) hx hb dX1_clear_1 (by decide) ?_
  refine fp_X1_unknowns hx hb hts hown hE hS hP q_88 dX1_clear_2 (fun H locs hP hS => ?_)
  refine lv_iconst (v := nI 0) hx hb dX1_clear_5 (by decide) ?_
  refine lv_istore_n (lv' := [(1, .int (nI 0)), (0, .ref (ad (6, 0)))]) hx hb dX1_clear_6 rfl hl (by decide) rfl (fun ls hl => ?_)
  have K7 : ∀ (nn : Nat), ∀ (i : Nat) (pl : Nat → Int32) (kn : Nat → Int64), (i ≤ 8) → (∀ j, j < i → pl j = -1) → (∀ j, j < i → kn j = 0) → 8 - i < nn → ∀ (H : Heap) (locs : List Loc) (ls : Array Slot), xW D A ad (wU (wB y ad bl z g pl kn rw mi (nI 0)) fR fO) H → va_S A Hs H locs → lv_has ls 3 [(1, .int (nI i)), (0, .ref (ad (6, 0)))] → W p l e R s m args below meth c H locs 0 0 Q (F0 m 7 ls []) := by
    intro nn
    induction nn with
    | zero => intro i pl kn hi hp hk h; exact absurd h (Nat.not_lt_zero _)
    | succ nn ih7 =>
      intro i pl kn hi hp hk hn7 H locs ls hP hS hl
      refine lv_iload_n hx hb dX1_clear_7 rfl (lv_at hl 0 rfl) ?_
      refine lv_bipush (v := nI 8) hx hb dX1_clear_8 (by decide) ?_
      refine lv_icmp_ge (tgt := 33) hx hb dX1_clear_10 (by decide) (fun c10 => ?_) (fun c10 => ?_)
      · skip
        have c10 := ni_le (a := 8) (b := i) (by omega) (by omega) c10
        refine lv_iconst (v := nI 0) hx hb dX1_clear_33 (by decide) ?_
        refine lv_istore_n (lv' := [(1, .int (nI 0)), (0, .ref (ad (6, 0)))]) hx hb dX1_clear_34 rfl hl (by decide) rfl (fun ls hl => ?_)
        have K35 : ∀ (nn : Nat), ∀ (r : Nat) (rw : Nat → Nat → Int64), (r ≤ 7) → (∀ i, i < r → ∀ j, j < 8 → rw i j = 0) → 7 - r < nn → ∀ (H : Heap) (locs : List Loc) (ls : Array Slot), xW D A ad (wU (wB y ad bl z g pl kn rw mi (nI 0)) fR fO) H → va_S A Hs H locs → lv_has ls 3 [(1, .int (nI r)), (0, .ref (ad (6, 0)))] → W p l e R s m args below meth c H locs 0 0 Q (F0 m 35 ls []) := by
          intro nn
          induction nn with
          | zero => intro r rw hr7 hw h; exact absurd h (Nat.not_lt_zero _)
          | succ nn ih35 =>
            intro r rw hr7 hw hn35 H locs ls hP hS hl
            refine lv_iload_n hx hb dX1_clear_35 rfl (lv_at hl 0 rfl) ?_
            refine lv_bipush (v := nI 7) hx hb dX1_clear_36 (by decide) ?_
            refine lv_icmp_ge (tgt := 70) hx hb dX1_clear_38 (by decide) (fun c38 => ?_) (fun c38 => ?_)
            · skip
              have c38 := ni_le (a := 7) (b := r) (by omega) (by omega) c38
              exact xe_vret hQ hx hb hr hlocks hH hS (Nat.le_refl _) (Nat.le_refl _) (⟨rfl, xW_rw (xW_kn (xW_pl hP (fun j h => hp j (by omega))) (fun j h => hk j (by omega))) (fun i h j hj => hw i (by omega) j hj)⟩) dX1_clear_70
            · skip
              have c38 := ni_nle (a := 7) (b := r) (by omega) (by omega) c38
              refine lv_iconst (v := nI 0) hx hb dX1_clear_41 (by decide) ?_
              refine lv_istore_n (lv' := [(2, .int (nI 0)), (1, .int (nI r)), (0, .ref (ad (6, 0)))]) hx hb dX1_clear_42 rfl hl (by decide) rfl (fun ls hl => ?_)
              have K43 : ∀ (nn : Nat), ∀ (k : Nat) (rw : Nat → Nat → Int64), (k ≤ 8) → (∀ i, i < r → ∀ j, j < 8 → rw i j = 0) → (∀ j, j < k → rw r j = 0) → 8 - k < nn → ∀ (H : Heap) (locs : List Loc) (ls : Array Slot), xW D A ad (wU (wB y ad bl z g pl kn rw mi (nI 0)) fR fO) H → va_S A Hs H locs → lv_has ls 3 [(2, .int (nI k)), (1, .int (nI r)), (0, .ref (ad (6, 0)))] → W p l e R s m args below meth c H locs 0 0 Q (F0 m 43 ls []) := by
                intro nn
                induction nn with
                | zero => intro k rw hk8 hw hv h; exact absurd h (Nat.not_lt_zero _)
                | succ nn ih43 =>
                  intro k rw hk8 hw hv hn43 H locs ls hP hS hl
                  refine lv_iload_n hx hb dX1_clear_43 rfl (lv_at hl 0 rfl) ?_
                  refine lv_bipush (v := nI 7) hx hb dX1_clear_44 (by decide) ?_
                  refine lv_icmp_gt (tgt := 64) hx hb dX1_clear_46 (by decide) (fun c46 => ?_) (fun c46 => ?_)
                  · skip
                    have c46 := ni_lt (a := 7) (b := k) (by omega) (by omega) c46
                    refine lv_iinc (v := nI (r + 1)) (lv' := [(1, .int (nI (r + 1))), (2, .int (nI k)), (0, .ref (ad (6, 0)))]) hx hb dX1_clear_64 hl (k := 1) rfl (nI_1 _) (by decide) rfl (fun ls hl => ?_)
                    refine lv_goto (tgt := 35) hx hb dX1_clear_67 (by decide) ?_
                    exact ih35 (r + 1) rw (by omega) (rows_s hw (fun j hj => hv j (by omega))) (by omega) _ _ _ hP hS (lv_sub hl [0, 2] rfl)
                  · skip
                    have c46 := ni_nlt (a := 7) (b := k) (by omega) (by omega) c46
                    refine lv_aload_n hx hb dX1_clear_49 rfl (lv_at hl 2 rfl) ?_
                    refine fg_X1_rows hx hb hts hown hE hP q_86 dX1_clear_50 ?_
                    refine lv_iload_n hx hb dX1_clear_53 rfl (lv_at hl 1 rfl) ?_
                    refine xw_aald2 hx hb hE hP (9, 0) rfl (i := r) (v := ad (10, r)) (if_pos (by omega)) (by omega) (by omega) dX1_clear_54 ?_
                    refine lv_iload_n hx hb dX1_clear_55 rfl (lv_at hl 0 rfl) ?_
                    refine lv_lconst (v := 0) hx hb dX1_clear_56 (by decide) ?_
                    refine as_row (i := r) (by omega) hx hb hE hS hP (j := k) (by omega) dX1_clear_57 (fun H locs hP hS => ?_)
                    refine lv_iinc (v := nI (k + 1)) (lv' := [(2, .int (nI (k + 1))), (1, .int (nI r)), (0, .ref (ad (6, 0)))]) hx hb dX1_clear_58 hl (k := 0) rfl (nI_1 _) (by decide) rfl (fun ls hl => ?_)
                    refine lv_goto (tgt := 43) hx hb dX1_clear_61 (by decide) ?_
                    exact ih43 (k + 1) (u2 rw r k 0) (by omega) (u2_rows hw) (u2_row hv) (by omega) _ _ _ hP hS (lv_sub hl [0, 1, 2] rfl)
              exact K43 _ 0 rw (by omega) hw no_lt (Nat.lt_succ_self _) _ _ _ hP hS (lv_sub hl [0, 1, 2] rfl)
        exact K35 _ 0 rw (by omega) no_lt (Nat.lt_succ_self _) _ _ _ hP hS (lv_sub hl [0, 1] rfl)
      · skip
        have c10 := ni_nle (a := 8) (b := i) (by omega) (by omega) c10
        refine lv_aload_n hx hb dX1_clear_13 rfl (lv_at hl 1 rfl) ?_
        refine fg_X1_places hx hb hts hown hE hP q_84 dX1_clear_14 ?_
        refine lv_iload_n hx hb dX1_clear_17 rfl (lv_at hl 0 rfl) ?_
        refine lv_iconst (v := (-1)) hx hb dX1_clear_18 (by decide) ?_
        refine as_places hx hb hE hS hP (j := i) (by omega) dX1_clear_19 (fun H locs hP hS => ?_)
        refine lv_aload_n hx hb dX1_clear_20 rfl (lv_at hl 1 rfl) ?_
        refine fg_X1_known hx hb hts hown hE hP q_85 dX1_clear_21 ?_
        refine lv_iload_n hx hb dX1_clear_24 rfl (lv_at hl 0 rfl) ?_
        refine lv_lconst (v := 0) hx hb dX1_clear_25 (by decide) ?_
        refine as_known hx hb hE hS hP (j := i) (by omega) dX1_clear_26 (fun H locs hP hS => ?_)
        refine lv_iinc (v := nI (i + 1)) (lv' := [(1, .int (nI (i + 1))), (0, .ref (ad (6, 0)))]) hx hb dX1_clear_27 hl (k := 0) rfl (nI_1 _) (by decide) rfl (fun ls hl => ?_)
        refine lv_goto (tgt := 7) hx hb dX1_clear_30 (by decide) ?_
        exact ih7 (i + 1) (upd pl i (-1)) (vp_updL kn i 0) (by omega) (upd_all hp) (updL_all hk) (by omega) _ _ _ hP hS (lv_sub hl [0, 1] rfl)
  exact K7 _ 0 pl kn (by omega) no_lt no_lt (Nat.lt_succ_self _) _ _ _ hP hS (lv_sub hl [0, 1] rfl)

set_option maxHeartbeats 4000000 in
set_option maxRecDepth 100000 in
theorem c_X1_expand (l : Launch) {D : va_G} {y : Nat → ClassId} {A : Nat → Prop} {ad : xL → Nat} {n : Nat} {bl : xM} {z : xC} {g : Nat → Int32} {pl : Nat → Int32} {kn : Nat → Int64} {rw : Nat → Nat → Int64} {mi : Nat → Int64} {fR fO : Nat → Nat → Option va_E} {Hs : Heap} (hP : xW D A ad (wU (wB y ad bl z g pl kn rw mi (nI n)) fR fO) Hs) (hn : n < 8) {M : Nat} (hM0 : 0 < M) (hM : M < 2 ^ (n + 1) - 1) : Met l yX1_expand (.code yX1_expand cX1_expand 7 (some .long) :: WG) { frames := 1, cells := 0, slots := 0, locals := 21 } (xPc [.ref (ad (6, 0)), .int (nI M)] D y Hs) (xQ (fun v H1 => v = some (.long (ex rw mi (pop M - 1) M (n + 1) 0 1)) ∧ Hs = H1) A) 0 0 A := by
  refine xM_go (by decide) (Nat.le_of_ble_eq_true rfl) (fun p e s m args below meth c ls R Q hx hb hr hlocks hml hown hts hH hE hnm hRf hRl hRc hRs hQ hS hl => ?_)
  have hRf : R.frames = 1 := hRf
  have hRl : R.locals = 21 := hRl
  have hRc : R.cells = 0 := hRc
  have hRs : R.slots = 0 := hRs
  have hl : lv_has ls 7 [(0, .ref (ad (6, 0))), (1, .int (nI M))] := hl
  have hp1 : 2 ^ (n + 1) ≤ 2 ^ 8 := Nat.pow_le_pow_right (by decide) (by omega)
  have hpp := pop_le M (by omega)
  have hpn := pop_n n hn M hM
  refine lv_iload_n hx hb dX1_expand_0 rfl (lv_at hl 1 rfl) ?_
  refine xw_callS (n := 1) [.int (nI M)] (c_J6_bitCount_0f7a4 l (nI M)) hx hb hml hown hts hE hS rfl rfl q_41 q_331 q_333 q_332 (by decide) rfl ⟨by rw [hRf]; decide, by rw [hRl]; decide⟩ hl.1 rfl (Nat.le_of_ble_eq_true rfl) dX1_expand_1 ⟨by rw [hRc]; decide, by rw [hRs]; decide⟩ (fun v H1 locs hp hS => ?_)
  obtain ⟨hv, hh⟩ := hp; subst hv; subst hh
  refine xt_i (w := nI (pop M)) (bc_pop M (by omega)) ?_
  refine lv_iconst (v := nI 1) hx hb dX1_expand_4 (by decide) ?_
  refine lv_isub hx hb dX1_expand_5 ?_
  refine xt_i (w := nI (pop M - 1)) (pk_sub (by omega)) ?_
  refine lv_istore_n (lv' := [(2, .int (nI (pop M - 1))), (0, .ref (ad (6, 0))), (1, .int (nI M))]) hx hb dX1_expand_6 rfl hl (by decide) rfl (fun ls hl => ?_)
  refine lv_lconst (v := 0) hx hb dX1_expand_7 (by decide) ?_
  refine lv_lstore_n (lv' := [(3, .long 0), (2, .int (nI (pop M - 1))), (0, .ref (ad (6, 0))), (1, .int (nI M))]) hx hb dX1_expand_8 rfl hl (by decide) rfl (fun ls hl => ?_)
  refine lv_iconst (v := nI 1) hx hb dX1_expand_9 (by decide) ?_
  refine lv_istore (lv' := [(5, .int (nI 1)), (3, .long 0), (2, .int (nI (pop M - 1))), (0, .ref (ad (6, 0))), (1, .int (nI M))]) hx hb dX1_expand_10 hl (by decide) rfl (fun ls hl => ?_)
  refine lv_aload_n hx hb dX1_expand_12 rfl (lv_at hl 3 rfl) ?_
  refine fg_X1_unknowns hx hb hts hown hE hP q_88 dX1_expand_13 ?_
  refine lv_istore (lv' := [(6, .int (nI n)), (5, .int (nI 1)), (3, .long 0), (2, .int (nI (pop M - 1))), (0, .ref (ad (6, 0))), (1, .int (nI M))]) hx hb dX1_expand_16 hl (by decide) rfl (fun ls hl => ?_)
  have K18 : ∀ (nn : Nat), ∀ (k : Nat) (col : Int32) (sm : Int64) (sg : Int32), (k ≤ n + 1) → (col = nI k + Int32.ofInt (-1)) → (ex rw mi (pop M - 1) M k sm sg = ex rw mi (pop M - 1) M (n + 1) 0 1) → k < nn → ∀ (locs : List Loc) (ls : Array Slot), va_S A Hs Hs locs → lv_has ls 7 [(6, .int col), (5, .int sg), (3, .long sm), (2, .int (nI (pop M - 1))), (1, .int (nI M)), (0, .ref (ad (6, 0)))] → W p l e R s m args below meth c Hs locs 0 0 Q (F0 m 18 ls []) := by
    intro nn
    induction nn with
    | zero => intro k col sm sg hk hcol hex h; exact absurd h (Nat.not_lt_zero _)
    | succ nn ih18 =>
      intro k col sm sg hk hcol hex hn18 locs ls hS hl
      refine lv_iload hx hb dX1_expand_18 (lv_at hl 0 rfl) ?_
      refine lv_if_lt (tgt := 71) hx hb dX1_expand_20 (by decide) (fun c20 => ?_) (fun c20 => ?_)
      · skip
        have hk0 : k = 0 := by
          rcases k with _ | k
          · rfl
          · rw [hcol, show nI (k + 1) + Int32.ofInt (-1) = nI k from pk_m1 k] at c20; exact absurd c20 (nI_pos (by omega))
        subst hk0
        refine lv_lload_n hx hb dX1_expand_71 rfl (lv_at hl 2 rfl) ?_
        exact xe_lret hQ hx hb hr hlocks hH hS (Nat.le_refl _) (Nat.le_refl _) (⟨by rw [← hex]; rfl, rfl⟩) dX1_expand_72
      · skip
        obtain ⟨k, rfl⟩ : ∃ k2, k = k2 + 1 := by
          rcases k with _ | k
          · exact absurd (by rw [hcol]; decide) c20
          · exact ⟨k, rfl⟩
        have hcol : col = nI k := hcol.trans (pk_m1 k)
        subst hcol
        refine lv_iload_n hx hb dX1_expand_23 rfl (lv_at hl 4 rfl) ?_
        refine lv_iload hx hb dX1_expand_24 (lv_at hl 0 rfl) ?_
        refine xw_callSN (n := 2) [.int (nI M), .int (nI k)] (c_X3_contains l (nI M) k) hx hb hml hown hts hE hS rfl rfl q_21 hE.2 q_261 q_260 (by decide) rfl ⟨by rw [hRf]; decide, by rw [hRl]; decide⟩ hl.1 rfl (Nat.le_of_ble_eq_true rfl) dX1_expand_26 ⟨by rw [hRc]; decide, by rw [hRs]; decide⟩ (fun v H1 locs hp hS => ?_)
        obtain ⟨hv, hh⟩ := hp; subst hv; subst hh
        refine lv_if_eq (tgt := 65) hx hb dX1_expand_29 (by decide) (fun c29 => ?_) (fun c29 => ?_)
        · skip
          have hb0 : M / 2 ^ k % 2 = 0 := (m_bit M (by omega) k (by omega)).mp (by
            by_cases hh : nI M >>> (nI k &&& 31) &&& nI 1 = 0
            · exact hh
            · rw [if_neg hh] at c29; exact absurd c29 (by decide))
          rw [ex_0 hb0] at hex
          refine lv_iinc (v := nI k + Int32.ofInt (-1)) (lv' := [(6, .int (nI k + Int32.ofInt (-1))), (5, .int sg), (3, .long sm), (2, .int (nI (pop M - 1))), (1, .int (nI M)), (0, .ref (ad (6, 0)))]) hx hb dX1_expand_65 hl (k := 0) rfl (rfl) (by decide) rfl (fun ls hl => ?_)
          refine lv_goto (tgt := 18) hx hb dX1_expand_68 (by decide) ?_
          exact ih18 k (nI k + Int32.ofInt (-1)) sm sg (by omega) rfl hex (by omega) _ _ hS (lv_sub hl [0, 1, 2, 3, 4, 5] rfl)
        · skip
          have hb1 : ¬ M / 2 ^ k % 2 = 0 := fun h0 => c29 (by rw [if_pos ((m_bit M (by omega) k (by omega)).mpr h0)]; rfl)
          rw [ex_1 hb1] at hex
          refine lv_lload_n hx hb dX1_expand_32 rfl (lv_at hl 2 rfl) ?_
          refine lv_iload hx hb dX1_expand_33 (lv_at hl 1 rfl) ?_
          refine lv_i2l (v := sg.toInt64) hx hb dX1_expand_35 rfl ?_
          refine lv_aload_n hx hb dX1_expand_36 rfl (lv_at hl 5 rfl) ?_
          refine fg_X1_rows hx hb hts hown hE hP q_86 dX1_expand_37 ?_
          refine lv_iload_n hx hb dX1_expand_40 rfl (lv_at hl 3 rfl) ?_
          refine xw_aald2 hx hb hE hP (9, 0) rfl (i := pop M - 1) (v := ad (10, pop M - 1)) (if_pos (by omega)) (by omega) (by omega) dX1_expand_41 ?_
          refine lv_iload hx hb dX1_expand_42 (lv_at hl 0 rfl) ?_
          refine al_row (i := pop M - 1) (by omega) hx hb hE hP (j := k) (by omega) dX1_expand_44 ?_
          refine lv_lmul hx hb dX1_expand_45 ?_
          refine lv_aload_n hx hb dX1_expand_46 rfl (lv_at hl 5 rfl) ?_
          refine fg_X1_minors hx hb hts hown hE hP q_87 dX1_expand_47 ?_
          refine lv_iload_n hx hb dX1_expand_50 rfl (lv_at hl 4 rfl) ?_
          refine lv_iconst (v := nI 1) hx hb dX1_expand_51 (by decide) ?_
          refine lv_iload hx hb dX1_expand_52 (lv_at hl 0 rfl) ?_
          refine lv_ishl hx hb dX1_expand_54 ?_
          refine lv_ixor hx hb dX1_expand_55 ?_
          refine xt_i (w := nI (M - 2 ^ k)) ((m_xor M (by omega) k (by omega) (by omega)).1) ?_
          refine al_minors hx hb hE hP (j := M - 2 ^ k) (Nat.lt_of_le_of_lt (Nat.sub_le _ _) (by omega)) dX1_expand_56 ?_
          refine lv_lmul hx hb dX1_expand_57 ?_
          refine lv_ladd hx hb dX1_expand_58 ?_
          refine lv_lstore_n (lv' := [(3, .long (sm + ((sg.toInt64 * (rw (pop M - 1) k)) * (mi (M - 2 ^ k))))), (6, .int (nI k)), (5, .int sg), (2, .int (nI (pop M - 1))), (1, .int (nI M)), (0, .ref (ad (6, 0)))]) hx hb dX1_expand_59 rfl hl (by decide) rfl (fun ls hl => ?_)
          refine lv_iload hx hb dX1_expand_60 (lv_at hl 2 rfl) ?_
          refine lv_ineg hx hb dX1_expand_62 ?_
          refine lv_istore (lv' := [(5, .int (-sg)), (3, .long (sm + ((sg.toInt64 * (rw (pop M - 1) k)) * (mi (M - 2 ^ k))))), (6, .int (nI k)), (2, .int (nI (pop M - 1))), (1, .int (nI M)), (0, .ref (ad (6, 0)))]) hx hb dX1_expand_63 hl (by decide) rfl (fun ls hl => ?_)
          refine lv_iinc (v := nI k + Int32.ofInt (-1)) (lv' := [(6, .int (nI k + Int32.ofInt (-1))), (5, .int (-sg)), (3, .long (sm + ((sg.toInt64 * (rw (pop M - 1) k)) * (mi (M - 2 ^ k))))), (2, .int (nI (pop M - 1))), (1, .int (nI M)), (0, .ref (ad (6, 0)))]) hx hb dX1_expand_65 hl (k := 2) rfl (rfl) (by decide) rfl (fun ls hl => ?_)
          refine lv_goto (tgt := 18) hx hb dX1_expand_68 (by decide) ?_
          exact ih18 k (nI k + Int32.ofInt (-1)) (sm + ((sg.toInt64 * (rw (pop M - 1) k)) * (mi (M - 2 ^ k)))) (-sg) (by omega) rfl hex (by omega) _ _ hS (lv_sub hl [0, 1, 2, 3, 4, 5] rfl)
  exact K18 _ (n + 1) (nI n) 0 1 (by omega) ((pk_m1 n).symm) rfl (Nat.lt_succ_self _) _ _ hS (lv_sub hl [0, 1, 2, 3, 5, 4] rfl)

set_option maxHeartbeats 4000000 in
set_option maxRecDepth 100000 in
theorem c_X1_solve (l : Launch) {D : va_G} {y : Nat → ClassId} {A : Nat → Prop} {ad : xL → Nat} {n : Nat} {bl : xM} {z : xC} {g : Nat → Int32} {pl : Nat → Int32} {kn : Nat → Int64} {rw : Nat → Nat → Int64} {mi : Nat → Int64} {fR fO : Nat → Nat → Option va_E} {Hs : Heap} (hP : xW D A ad (wU (wB y ad bl z g pl kn rw mi (nI n)) fR fO) Hs) (hn : n < 8) : Met l yX1_solve (.code yX1_solve cX1_solve 3 none :: WG) { frames := 2, cells := 0, slots := 0, locals := 47 } (xPc [.ref (ad (6, 0))] D y Hs) (xQ (fun v H1 => v = none ∧ ∃ mi' : Nat → Int64, (∀ M, M < 2 ^ (n + 1) - 1 → mi' M = dm rw n M) ∧ xW D A ad (wU (wB y ad bl z g pl kn rw mi' (nI n)) fR fO) H1) A) 0 0 A := by
  refine xM_go (by decide) (Nat.le_of_ble_eq_true rfl) (fun p e s m args below meth c ls R Q hx hb hr hlocks hml hown hts hH hE hnm hRf hRl hRc hRs hQ hS hl => ?_)
  have hRf : R.frames = 2 := hRf
  have hRl : R.locals = 47 := hRl
  have hRc : R.cells = 0 := hRc
  have hRs : R.slots = 0 := hRs
  have hl : lv_has ls 3 [(0, .ref (ad (6, 0)))] := hl
  have hp1 : 2 ^ (n + 1) ≤ 2 ^ 8 := Nat.pow_le_pow_right (by decide) (by omega)
  have hp2 : 2 ≤ 2 ^ (n + 1) := Nat.le_trans (by decide : 2 ≤ 2 ^ 1) (Nat.pow_le_pow_right (by decide) (by omega))
  refine lv_aload_n hx hb dX1_solve_0 rfl (lv_at hl 0 rfl) ?_
  refine xw_callV (C := "NetlistBench$Equations") (n := 0) [] (c_X1_allColumns l hP hn) hx hb hml hown hts hE hS (xw_recv hE hP (6, 0) rfl rfl) rfl rfl q_25 q_323 q_326 q_325 q_10 (by decide) rfl ⟨by rw [hRf]; decide, by rw [hRl]; decide⟩ hl.1 rfl (Nat.le_of_ble_eq_true rfl) dX1_solve_1 ⟨by rw [hRc]; decide, by rw [hRs]; decide⟩ (fun v H1 locs hp hS => ?_)
  obtain ⟨hv, hh⟩ := hp; subst hv; subst hh
  refine lv_istore_n (lv' := [(1, .int (nI (2 ^ (n + 1) - 1))), (0, .ref (ad (6, 0)))]) hx hb dX1_solve_4 rfl hl (by decide) rfl (fun ls hl => ?_)
  refine lv_aload_n hx hb dX1_solve_5 rfl (lv_at hl 1 rfl) ?_
  refine fg_X1_minors hx hb hts hown hE hP q_87 dX1_solve_6 ?_
  refine lv_iconst (v := nI 0) hx hb dX1_solve_9 (by decide) ?_
  refine lv_lconst (v := 1) hx hb dX1_solve_10 (by decide) ?_
  refine as_minors hx hb hE hS hP (j := 0) (by omega) dX1_solve_11 (fun H locs hP hS => ?_)
  refine lv_iconst (v := nI 1) hx hb dX1_solve_12 (by decide) ?_
  refine lv_istore_n (lv' := [(2, .int (nI 1)), (1, .int (nI (2 ^ (n + 1) - 1))), (0, .ref (ad (6, 0)))]) hx hb dX1_solve_13 rfl hl (by decide) rfl (fun ls hl => ?_)
  have K14 : ∀ (nn : Nat), ∀ (c1 : Nat) (mi : Nat → Int64), (0 < c1) → (c1 ≤ 2 ^ (n + 1) - 1) → (∀ j, j < c1 → mi j = dm rw n j) → 2 ^ (n + 1) - c1 < nn → ∀ (H : Heap) (locs : List Loc) (ls : Array Slot), xW D A ad (wU (wB y ad bl z g pl kn rw mi (nI n)) fR fO) H → va_S A Hs H locs → lv_has ls 3 [(2, .int (nI c1)), (1, .int (nI (2 ^ (n + 1) - 1))), (0, .ref (ad (6, 0)))] → W p l e R s m args below meth c H locs 0 0 Q (F0 m 14 ls []) := by
    intro nn
    induction nn with
    | zero => intro c1 mi hc1 hc2 hmi h; exact absurd h (Nat.not_lt_zero _)
    | succ nn ih14 =>
      intro c1 mi hc1 hc2 hmi hn14 H locs ls hP hS hl
      refine lv_iload_n hx hb dX1_solve_14 rfl (lv_at hl 0 rfl) ?_
      refine lv_iload_n hx hb dX1_solve_15 rfl (lv_at hl 1 rfl) ?_
      refine lv_icmp_ge (tgt := 36) hx hb dX1_solve_16 (by decide) (fun c16 => ?_) (fun c16 => ?_)
      · skip
        have c16 := ni_le (a := (2 ^ (n + 1) - 1)) (b := c1) (by omega) (by omega) c16
        exact xe_vret hQ hx hb hr hlocks hH hS (Nat.le_refl _) (Nat.le_refl _) (⟨rfl, mi, (fun M h => hmi M (by omega)), hP⟩) dX1_solve_36
      · skip
        have c16 := ni_nle (a := (2 ^ (n + 1) - 1)) (b := c1) (by omega) (by omega) c16
        refine lv_aload_n hx hb dX1_solve_19 rfl (lv_at hl 2 rfl) ?_
        refine fg_X1_minors hx hb hts hown hE hP q_87 dX1_solve_20 ?_
        refine lv_iload_n hx hb dX1_solve_23 rfl (lv_at hl 0 rfl) ?_
        refine lv_aload_n hx hb dX1_solve_24 rfl (lv_at hl 2 rfl) ?_
        refine lv_iload_n hx hb dX1_solve_25 rfl (lv_at hl 0 rfl) ?_
        refine xw_callV (C := "NetlistBench$Equations") (n := 1) [.int (nI c1)] (c_X1_expand l hP hn (M := c1) hc1 (by omega)) hx hb hml hown hts hE hS (xw_recv hE hP (6, 0) rfl rfl) rfl rfl q_25 q_327 q_330 q_329 q_11 (by decide) rfl ⟨by rw [hRf]; decide, by rw [hRl]; decide⟩ hl.1 rfl (Nat.le_of_ble_eq_true rfl) dX1_solve_26 ⟨by rw [hRc]; decide, by rw [hRs]; decide⟩ (fun v H1 locs hp hS => ?_)
        obtain ⟨hv, hh⟩ := hp; subst hv; subst hh
        refine as_minors hx hb hE hS hP (j := c1) (by omega) dX1_solve_29 (fun H locs hP hS => ?_)
        refine lv_iinc (v := nI (c1 + 1)) (lv' := [(2, .int (nI (c1 + 1))), (1, .int (nI (2 ^ (n + 1) - 1))), (0, .ref (ad (6, 0)))]) hx hb dX1_solve_30 hl (k := 0) rfl (nI_1 _) (by decide) rfl (fun ls hl => ?_)
        refine lv_goto (tgt := 14) hx hb dX1_solve_33 (by decide) ?_
        exact ih14 (c1 + 1) (vp_updL mi c1 (ex rw mi (pop c1 - 1) c1 (n + 1) 0 1)) (by omega) (by omega) (dm_tab hc1 hmi) (by omega) _ _ _ hP hS (lv_sub hl [0, 1, 2] rfl)
  exact K14 _ 1 (vp_updL mi 0 1) (by omega) (by omega) dm_init (Nat.lt_succ_self _) _ _ _ hP hS (lv_sub hl [0, 1, 2] rfl)
end
section
/-! the bench's own reckoning, as its loops go -/
def bOk (bl : xM) (z : xC) : Prop := wf z ∧ nN z ≤ bl.2.2.1 ∧ nE z ≤ bl.2.2.2 ∧ bl.2.2.1 ≤ 1000 ∧ bl.2.2.2 ≤ 1000
theorem bOk.w {bl : xM} {z : xC} (h : bOk bl z) : wf z := h.1
/-- Euclid, k steps at most -/
def gcdS : Nat → Int64 → Int64 → Int64
  | 0, a, _ => a
  | k + 1, a, b => if b = 0 then a else gcdS k b (a - a / b * b)
def absL (x : Int64) : Int64 := if 0 ≤ x then x else -x
def ptF (u w : Int64) (b : Int32) : Int64 := if 1 < gcdS 200 (absL u) w then (if b = 0 then w else u) / gcdS 200 (absL u) w else (if b = 0 then w else u)
def cmpL (x y : Int64) : Int32 := if y ≤ x then (if x = y then nI 0 else nI 1) else -1
def fdL (x y : Int64) : Int64 := if 0 ≤ x ^^^ y then x / y else if x / y * y = x then x / y else x / y - 1
def fmL (x y : Int64) : Int64 := if 0 ≤ x ^^^ y then x - x / y * y else if x - x / y * y = 0 then x - x / y * y else x - x / y * y + y
/-- compareFractions, k steps at most -/
def cfS : Nat → Int64 → Int64 → Int64 → Int64 → Int32 → Int32
  | 0, _, u, _, v, sg => if u = v then nI 0 else if u = 0 then sg else -sg
  | k + 1, a, u, b, v, sg => if u = 0 then (if u = v then nI 0 else if u = 0 then sg else -sg) else if v = 0 then (if u = v then nI 0 else if u = 0 then sg else -sg) else
    if cmpL (fdL a u) (fdL b v) = 0 then cfS k u (fmL a u) v (fmL b v) (-sg) else sg * cmpL (fdL a u) (fdL b v)
def dg (d x : Int64) : Int64 := d * 31 + x
/-- what hangs together: masks by node, after i elements -/
def joinF (m : Nat → Nat) (S : Nat) : Nat → Nat := fun j => if S / 2 ^ j % 2 = 0 then m j else S
def gpS (z : xC) (t : Int32) : Nat → Nat → Nat
  | 0 => fun j => 2 ^ j
  | i + 1 => if eS z i = 0 ∧ ¬ onI z i t = 0 then joinF (gpS z t i) (gpS z t i (cA z i) ||| gpS z t i (cB z i)) else gpS z t i
theorem gp_lt (z : xC) (hw : wf z) (t : Int32) : ∀ i, i ≤ nE z → ∀ j, j < 8 → gpS z t i j < 256
  | 0, _, j, hj => by
    show 2 ^ j < 2 ^ 8
    exact Nat.pow_lt_pow_right (by decide) hj
  | i + 1, h, j, hj => by
    have ha := gp_lt z hw t i (by omega) (cA z i) (by have := hw.a8 (i := i) (by omega); have := hw.N; omega)
    have hb := gp_lt z hw t i (by omega) (cB z i) (by have := hw.b8 (i := i) (by omega); have := hw.N; omega)
    have hor : gpS z t i (cA z i) ||| gpS z t i (cB z i) < 2 ^ 8 := Nat.or_lt_two_pow ha hb
    unfold gpS
    split
    · unfold joinF
      split
      · exact gp_lt z hw t i (by omega) j hj
      · exact hor
    · exact gp_lt z hw t i (by omega) j hj
def gM (z : xC) (t : Int32) : Nat → Nat := gpS z t (nE z)
theorem gM_lt {z : xC} (hw : wf z) (t : Int32) {j : Nat} (hj : j < 8) : gM z t j < 256 := gp_lt z hw t (nE z) (Nat.le_refl _) j hj
theorem m_or : ∀ a, a < 256 → ∀ b, b < 256 → nI a ||| nI b = nI (a ||| b) := by
  intro a ha b hb
  apply Int32.toBitVec_inj.mp
  show BitVec.ofNat 32 a ||| BitVec.ofNat 32 b = BitVec.ofNat 32 (a ||| b)
  rw [BitVec.ofNat_or]
theorem m_pow : ∀ j, j < 8 → nI 1 <<< (nI j &&& 31) = nI (2 ^ j) := by decide +kernel
/-- no rail among the first o nodes is in the mask -/
def aflB (z : xC) (M : Nat) : Nat → Bool
  | 0 => true
  | o + 1 => aflB z M o && (nR z o == 0 || M / 2 ^ o % 2 == 0)
theorem aflB_s1 {z : xC} {M o : Nat} (h : aflB z M o = true) (h2 : nR z o = 0 ∨ M / 2 ^ o % 2 = 0) : aflB z M (o + 1) = true := by
  show (aflB z M o && _) = true
  rw [h]
  rcases h2 with e | e <;> simp [e]
theorem aflB_s0 {z : xC} {M o : Nat} (h1 : ¬ nR z o = 0) (h2 : ¬ M / 2 ^ o % 2 = 0) : ∀ n, o < n → aflB z M n = false
  | 0, h => absurd h (Nat.not_lt_zero _)
  | n + 1, h => by
    show (aflB z M n && _) = false
    by_cases e : o = n
    · subst e; simp [h1, h2]
    · rw [aflB_s0 h1 h2 n (by omega)]; rfl
def aflI (z : xC) (M : Nat) : Int32 := if aflB z M (nN z) = true then nI 1 else nI 0
theorem aflI_01 (z : xC) (M : Nat) : aflI z M = 0 ∨ aflI z M = 1 := by
  unfold aflI
  by_cases h : aflB z M (nN z) = true
  · rw [if_pos h]; exact Or.inr rfl
  · rw [if_neg h]; exact Or.inl rfl
/-- places, known potentials, how many are sought, after i nodes -/
def stS (z : xC) (M : Nat → Nat) : Nat → (Nat → Int32) × (Nat → Int64) × Nat
  | 0 => (fun _ => -1, fun _ => 0, 0)
  | i + 1 => if nR z i = 0 then (if aflI z (M i) = 0 then ((skS (stS z M i).1 (stS z M i).2.2 i).1, (stS z M i).2.1, (skS (stS z M i).1 (stS z M i).2.2 i).2) else stS z M i)
      else ((stS z M i).1, vp_updL (stS z M i).2.1 i (nP z i).toInt64, (stS z M i).2.2)
theorem skS_le {pl : Nat → Int32} {n i : Nat} (h : n ≤ 7) : (skS pl n i).2 ≤ 7 := by unfold skS; split <;> simp <;> omega
theorem skS_ok {pl : Nat → Int32} {n i : Nat} (h : plOk pl n) : plOk (skS pl n i).1 (skS pl n i).2 := by
  unfold skS
  split
  · intro j hj
    by_cases e : j = i
    · exact Or.inr ⟨n, Nat.lt_succ_self _, by simp [upd, e]⟩
    · rcases h j hj with a | ⟨k, hk, a⟩
      · exact Or.inl (by simp [upd, e]; exact a)
      · exact Or.inr ⟨k, Nat.lt_succ_of_lt hk, by simp [upd, e]; exact a⟩
  · exact h
theorem plOk_0 {n : Nat} : plOk (fun _ => -1) n := fun _ _ => Or.inl (by show (-1 : Int32) < 0; decide)
theorem stS_le (z : xC) (M : Nat → Nat) : ∀ i, (stS z M i).2.2 ≤ 7 ∧ plOk (stS z M i).1 (stS z M i).2.2
  | 0 => ⟨by show 0 ≤ 7; omega, plOk_0⟩
  | i + 1 => by
    have h := stS_le z M i
    unfold stS
    split
    · split
      · exact ⟨skS_le h.1, skS_ok h.2⟩
      · exact h
    · exact h
/-- the rows: what sources bring, what conductors link -/
def brS (z : xC) (t : Int32) (pl : Nat → Int32) (n : Nat) : Nat → Nat → Nat → Int64
  | 0 => fun _ _ => 0
  | i + 1 => if eS z i = 0 then brS z t pl n i else if onI z i t = 0 then brS z t pl n i else brR (brR (brS z t pl n i) pl n (cA z i) (-(eZ z i)).toInt64) pl n (cB z i) (eZ z i).toInt64
def cdS (z : xC) (t : Int32) (pl : Nat → Int32) (kn : Nat → Int64) (n : Nat) (rw : Nat → Nat → Int64) : Nat → Nat → Nat → Int64
  | 0 => rw
  | i + 1 => if eS z i = 0 then (if onI z i t = 0 then cdS z t pl kn n rw i else lkR (lkR (cdS z t pl kn n rw i) pl kn n (cA z i) (cB z i) (eZ z i).toInt64) pl kn n (cB z i) (cA z i) (eZ z i).toInt64) else cdS z t pl kn n rw i
def sP (z : xC) (t : Int32) : Nat → Int32 := (stS z (gM z t) (nN z)).1
def sK (z : xC) (t : Int32) : Nat → Int64 := (stS z (gM z t) (nN z)).2.1
def sN (z : xC) (t : Int32) : Nat := (stS z (gM z t) (nN z)).2.2
def sR (z : xC) (t : Int32) : Nat → Nat → Int64 := cdS z t (sP z t) (sK z t) (sN z t) (brS z t (sP z t) (sN z t) (nE z)) (nE z)
def sG (z : xC) (t : Int32) : Nat → Int32 := fun j => nI (gM z t j)
theorem sN_le (z : xC) (t : Int32) : sN z t ≤ 7 := (stS_le z (gM z t) (nN z)).1
theorem sP_ok (z : xC) (t : Int32) : plOk (sP z t) (sN z t) := (stS_le z (gM z t) (nN z)).2
def miOk (mi : Nat → Int64) (rw : Nat → Nat → Int64) (n : Nat) : Prop := ∀ M, M < 2 ^ (n + 1) - 1 → mi M = dm rw n M
/-- for a resistance: the nodes that hang together with b, but b -/
def drS (M b : Nat) : Nat → (Nat → Int32) × Nat
  | 0 => (fun _ => -1, 0)
  | i + 1 => if i = b then drS M b i else if M / 2 ^ i % 2 = 0 then drS M b i else skS (drS M b i).1 (drS M b i).2 i
theorem drS_le (M b : Nat) : ∀ i, (drS M b i).2 ≤ 7 ∧ plOk (drS M b i).1 (drS M b i).2
  | 0 => ⟨by show 0 ≤ 7; omega, plOk_0⟩
  | i + 1 => by
    have h := drS_le M b i
    unfold drS
    split
    · exact h
    · split
      · exact h
      · exact ⟨skS_le h.1, skS_ok h.2⟩
def dP (z : xC) (t : Int32) (b : Nat) : Nat → Int32 := (drS (gM z t b) b (nN z)).1
def dN (z : xC) (t : Int32) (b : Nat) : Nat := (drS (gM z t b) b (nN z)).2
def dR (z : xC) (t : Int32) (a b : Nat) : Nat → Nat → Int64 := cdS z t (dP z t b) (fun _ => 0) (dN z t b) (brR (fun _ _ => 0) (dP z t b) (dN z t b) a 1) (nE z)
/-- the first toggle behind t -/
def ftS (z : xC) (t : Int32) : Nat → Int32
  | 0 => -1
  | i + 1 => if tgb z i t < 0 then ftS z t i else if ftS z t i < 0 then tgb z i t else if ftS z t i ≤ tgb z i t then ftS z t i else tgb z i t
def crS (z : xC) : Nat → Nat
  | 0 => 0
  | i + 1 => crS z i + (if nR z i = 0 then 0 else 1)
theorem crS_le (z : xC) : ∀ i, crS z i ≤ i
  | 0 => Nat.le_refl _
  | i + 1 => by
    have := crS_le z i
    unfold crS
    split <;> omega
def ctS (z : xC) : Nat → Nat
  | 0 => 0
  | i + 1 => ctS z i + cT z i
theorem ctS_le (z : xC) (hw : wf z) : ∀ i, i ≤ nE z → ctS z i ≤ 6 * i
  | 0, _ => Nat.le_refl _
  | i + 1, h => by
    have h1 := ctS_le z hw i (by omega)
    have h2 := hw.t6 (i := i) (by omega)
    unfold ctS
    omega
def cnt (z : xC) (k : Nat) : Nat := match k with
  | 0 => nN z
  | 1 => nE z
  | 2 => crS z (nN z)
  | _ => ctS z (nE z)
/-- the checksum -/
def dgT (z : xC) (i : Nat) (d : Int64) : Nat → Int64
  | 0 => d
  | k + 1 => dg (dgT z i d k) (trt z i k).toInt64
def dgM (z : xC) (i : Nat) (d : Int64) : Nat → Int64
  | 0 => d
  | k + 1 => dg (dgM z i d k) (tT z (6 * i + k)).toInt64
def dgE (z : xC) (d : Int64) : Nat → Int64
  | 0 => d
  | i + 1 => dgM z i (dgT z i (dgE z d i) 6) (cT z i)
def dgC (z : xC) (d : Int64) : Nat → Int64
  | 0 => d
  | k + 1 => dg (dgC z d k) (nI (cnt z k)).toInt64
def dgN (z : xC) (d : Int64) : Nat → Int64
  | 0 => d
  | i + 1 => dg (dgN z d i) (if nR z i = 0 then 0 else 1)
def dgA (z : xC) (d : Int64) : Int64 := dgE z (dgN z (dgC z d 4) (nN z)) (nE z)
def den (z : xC) (t : Int32) : Int64 := dm (sR z t) (sN z t) (2 ^ sN z t - 1)
def num (z : xC) (t : Int32) (j : Nat) : Int64 := upV (sP z t) (sK z t) (dm (sR z t) (sN z t)) (sN z t) j
def dgP (z : xC) (t : Int32) (d : Int64) : Nat → Int64
  | 0 => d
  | i + 1 => if aflI z (gM z t i) = 0 then dg (dg (dgP z t d i) (ptF (num z t i) (den z t) 1)) (ptF (num z t i) (den z t) 0) else dg (dgP z t d i) (-1)
theorem upV_dm {pl : Nat → Int32} {kn mi : Nat → Int64} {rw : Nat → Nat → Int64} {n j : Nat} (hm : miOk mi rw n) (hpl : plOk pl n) (hj : j < 8) (hn : n ≤ 7) : upV pl kn mi n j = upV pl kn (dm rw n) n j := by
  have e0 : mi (2 ^ n - 1) = dm rw n (2 ^ n - 1) := hm _ (by
    have : 0 < 2 ^ n := Nat.pow_pos (by decide)
    rw [Nat.pow_succ]; omega)
  unfold upV
  by_cases h : pl j < 0
  · rw [if_pos h, if_pos h, e0]
  · obtain ⟨k, hk, ek, ck⟩ := hpl.at hj h (by omega)
    have e1 : mi (2 ^ (n + 1) - 1 - 2 ^ clN (pl j)) = dm rw n (2 ^ (n + 1) - 1 - 2 ^ clN (pl j)) := hm _ (by
      have h1 : 0 < 2 ^ clN (pl j) := Nat.pow_pos (by decide)
      have h2 : 2 ^ clN (pl j) ≤ 2 ^ n := Nat.pow_le_pow_right (by decide) (by omega)
      have h3 : 2 ^ (n + 1) = 2 ^ n * 2 := Nat.pow_succ ..
      omega)
    rw [if_neg h, if_neg h, e1]
theorem den_dm {mi : Nat → Int64} {rw : Nat → Nat → Int64} {n : Nat} (hm : miOk mi rw n) : mi (2 ^ n - 1) = dm rw n (2 ^ n - 1) := hm _ (by
  have : 0 < 2 ^ n := Nat.pow_pos (by decide)
  rw [Nat.pow_succ]; omega)
section RX
variable {p : Program} {l : Launch} {e : Env} {R : Room} {s : State} {m : MethodId} {args : Array Value} {below : List Frame} {meth : Method} {c : Code} {H H0 : Heap} {locs : List Loc} {cells slots : Nat} {Q : State → Prop}
variable {cc : ByteArray} {pc : Nat} {ls : Array Slot} {rest : List Value} {D : va_G} {y : Nat → ClassId} {A : Nat → Prop} {ad : xL → Nat} {bl : xM} {z : xC} {g pl : Nat → Int32} {kn mi : Nat → Int64} {rw : Nat → Nat → Int64} {un : Int32} {fR fO : Nat → Nat → Option va_E}
theorem al_nodes (hexec : p.tables.exec = Jvm.exec) (hb : c.code = cc) (hE : xE D y s) (hP : xW D A ad (wU (wB y ad bl z g pl kn rw mi un) fR fO) H) {i : Nat} (hi : i < nN z) (hc : nN z ≤ bl.2.2.1 ∧ bl.2.2.1 ≤ 1000) (hdg : decode cc pc = .ok (.aaload, 1))
    (kk : W p l e R s m args below meth c H locs cells slots Q (F0 m (pc + 1) ls (.ref (ad (12, i)) :: rest))) : W p l e R s m args below meth c H locs cells slots Q (F0 m pc ls (.int (nI i) :: .ref (ad (2, 0)) :: rest)) := by
  have he : wU (wB y ad bl z g pl kn rw mi un) fR fO (2, 0) = some (.inl (y 4, bl.2.2.1, xr (fun i => if i < nN z then some (ad (12, i)) else none))) := by
    show (if nN z = 0 then _ else _) = _
    exact if_neg (by omega)
  exact xw_aald4 hexec hb hE hP (2, 0) he (if_pos hi) (by omega) (by omega) hdg kk
theorem al_elements (hexec : p.tables.exec = Jvm.exec) (hb : c.code = cc) (hE : xE D y s) (hP : xW D A ad (wU (wB y ad bl z g pl kn rw mi un) fR fO) H) {i : Nat} (hi : i < nE z) (hc : nE z ≤ bl.2.2.2 ∧ bl.2.2.2 ≤ 1000) (hdg : decode cc pc = .ok (.aaload, 1))
    (kk : W p l e R s m args below meth c H locs cells slots Q (F0 m (pc + 1) ls (.ref (ad (13, i)) :: rest))) : W p l e R s m args below meth c H locs cells slots Q (F0 m pc ls (.int (nI i) :: .ref (ad (4, 0)) :: rest)) := by
  have he : wU (wB y ad bl z g pl kn rw mi un) fR fO (4, 0) = some (.inl (y 4, bl.2.2.2, xr (fun i => if i < nE z then some (ad (13, i)) else none))) := by
    show (if nE z = 0 then _ else _) = _
    exact if_neg (by omega)
  exact xw_aald4 hexec hb hE hP (4, 0) he (if_pos hi) (by omega) (by omega) hdg kk
end RX
end
section
/-! steps of the loops that reckon masks -/
theorem join_a {g g2 : Nat → Int32} {S k : Nat} (hg : ∀ j, g2 j = if j < k ∧ ¬ S / 2 ^ j % 2 = 0 then nI S else g j) (c : S / 2 ^ k % 2 = 0) (j : Nat) : g2 j = if j < k + 1 ∧ ¬ S / 2 ^ j % 2 = 0 then nI S else g j := by
  rw [hg j]
  by_cases e : j = k
  · subst e; simp [c]
  · by_cases h : j < k
    · have : j < k + 1 := by omega
      simp [h, this]
    · have : ¬ j < k + 1 := by omega
      simp [h, this]
theorem join_b {g g2 : Nat → Int32} {S k : Nat} (hg : ∀ j, g2 j = if j < k ∧ ¬ S / 2 ^ j % 2 = 0 then nI S else g j) (c : ¬ S / 2 ^ k % 2 = 0) (j : Nat) : upd g2 k (nI S) j = if j < k + 1 ∧ ¬ S / 2 ^ j % 2 = 0 then nI S else g j := by
  by_cases e : j = k
  · subst e; simp [upd, c]
  · simp only [upd, if_neg e, hg j]
    by_cases h : j < k
    · have : j < k + 1 := by omega
      simp [h, this]
    · have : ¬ j < k + 1 := by omega
      simp [h, this]
theorem join_c {g : Nat → Int32} {S k j : Nat} (h : j < k) : (if j < k ∧ ¬ S / 2 ^ j % 2 = 0 then nI S else g j) = if S / 2 ^ j % 2 = 0 then g j else nI S := by
  by_cases e : S / 2 ^ j % 2 = 0 <;> simp [h, e]
theorem grp_a {g2 : Nat → Int32} {k : Nat} (hg : ∀ j, j < k → g2 j = nI (2 ^ j)) : ∀ j, j < k + 1 → upd g2 k (nI (2 ^ k)) j = nI (2 ^ j) := fun j hj => by
  by_cases e : j = k
  · subst e; simp [upd]
  · simp [upd, e]; exact hg j (by omega)
theorem grp_0 {z : xC} {t : Int32} {i : Nat} (c : ¬ eS z i = 0) : gpS z t (i + 1) = gpS z t i := by
  show (if _ then _ else _) = _
  rw [if_neg (fun h => c h.1)]
theorem grp_1 {z : xC} {t : Int32} {i : Nat} (c : eS z i = 0) (d : onI z i t = 0) : gpS z t (i + 1) = gpS z t i := by
  show (if _ then _ else _) = _
  rw [if_neg (fun h => h.2 d)]
theorem grp_3 {z : xC} {t : Int32} {i : Nat} (c : eS z i = 0) (d : ¬ onI z i t = 0) : gpS z t (i + 1) = joinF (gpS z t i) (gpS z t i (cA z i) ||| gpS z t i (cB z i)) := by
  show (if _ then _ else _) = _
  rw [if_pos ⟨c, d⟩]
theorem grp_2 {z : xC} {t : Int32} {i : Nat} (c : eS z i = 0) (d : ¬ onI z i t = 0) : (fun j => nI (gpS z t (i + 1) j)) = fun j => if (gpS z t i (cA z i) ||| gpS z t i (cB z i)) / 2 ^ j % 2 = 0 then (fun j => nI (gpS z t i j)) j else nI (gpS z t i (cA z i) ||| gpS z t i (cB z i)) := by
  rw [grp_3 c d]
  funext j
  unfold joinF
  by_cases h : (gpS z t i (cA z i) ||| gpS z t i (cB z i)) / 2 ^ j % 2 = 0 <;> simp [h]
theorem cfS_z {k : Nat} {a u b v : Int64} {sg : Int32} (h : u = 0 ∨ v = 0) : cfS k a u b v sg = if u = v then nI 0 else if u = 0 then sg else -sg := by
  cases k with
  | zero => rfl
  | succ k =>
    unfold cfS
    rcases h with h | h
    · rw [if_pos h]
    · by_cases e : u = 0
      · rw [if_pos e]
      · rw [if_neg e, if_pos h]
theorem cfS_s {k : Nat} {a u b v : Int64} {sg : Int32} (hu : ¬ u = 0) (hv : ¬ v = 0) (h : cmpL (fdL a u) (fdL b v) = 0) : cfS (k + 1) a u b v sg = cfS k u (fmL a u) v (fmL b v) (-sg) := by
  rw [cfS, if_neg hu, if_neg hv, if_pos h]
theorem cfS_t {k : Nat} {a u b v : Int64} {sg : Int32} (hu : ¬ u = 0) (hv : ¬ v = 0) (h : ¬ cmpL (fdL a u) (fdL b v) = 0) : cfS (k + 1) a u b v sg = sg * cmpL (fdL a u) (fdL b v) := by
  rw [cfS, if_neg hu, if_neg hv, if_neg h]
theorem cfS_eq {k : Nat} {a u b v : Int64} {sg : Int32} (hu : ¬ u = 0) (hv : ¬ v = 0) (h : fdL a u = fdL b v) : cfS (k + 1) a u b v sg = cfS k u (fmL a u) v (fmL b v) (-sg) :=
  cfS_s hu hv (by rw [cmpL, if_pos (by rw [h]; exact Int64.le_refl _), if_pos h]; rfl)
theorem cfS_gt {k : Nat} {a u b v : Int64} {sg : Int32} (hu : ¬ u = 0) (hv : ¬ v = 0) (h : ¬ fdL a u ≤ fdL b v) : cfS (k + 1) a u b v sg = sg := by
  have c : cmpL (fdL a u) (fdL b v) = 1 := by
    rw [cmpL, if_pos (Int64.le_of_lt (Int64.not_le.mp h)), if_neg (fun e => h (by rw [e]; exact Int64.le_refl _))]; rfl
  rw [cfS_t hu hv (by rw [c]; decide), c]; exact Int32.mul_one sg
theorem cfS_lt {k : Nat} {a u b v : Int64} {sg : Int32} (hu : ¬ u = 0) (hv : ¬ v = 0) (g : ¬ fdL a u = fdL b v) (h : fdL a u ≤ fdL b v) : cfS (k + 1) a u b v sg = -sg := by
  have c : cmpL (fdL a u) (fdL b v) = -1 := by
    rw [cmpL, if_neg (fun e => g (Int64.le_antisymm h e))]
  rw [cfS_t hu hv (by rw [c]; decide), c]; exact (Int32.mul_neg sg 1).trans (congrArg _ (Int32.mul_one sg))
theorem m_bitF {M k : Nat} (hM : M < 256) (hk : k < 8) (h : ¬ (if nI M >>> (nI k &&& 31) &&& nI 1 = 0 then nI 0 else nI 1) = 0) : ¬ M / 2 ^ k % 2 = 0 := fun h0 => h (by rw [if_pos ((m_bit M hM k hk).mpr h0)]; rfl)
theorem m_bitT {M k : Nat} (hM : M < 256) (hk : k < 8) (h : (if nI M >>> (nI k &&& 31) &&& nI 1 = 0 then nI 0 else nI 1) = 0) : M / 2 ^ k % 2 = 0 := (m_bit M hM k hk).mp (by
  by_cases hh : nI M >>> (nI k &&& 31) &&& nI 1 = 0
  · exact hh
  · rw [if_neg hh] at h; exact absurd h (by decide))
theorem stS_r {z : xC} {M : Nat → Nat} {i : Nat} (h : ¬ nR z i = 0) : stS z M (i + 1) = ((stS z M i).1, vp_updL (stS z M i).2.1 i (nP z i).toInt64, (stS z M i).2.2) := by rw [stS, if_neg h]
theorem stS_f {z : xC} {M : Nat → Nat} {i : Nat} (h : nR z i = 0) (h2 : ¬ aflI z (M i) = 0) : stS z M (i + 1) = stS z M i := by rw [stS, if_pos h, if_neg h2]
theorem stS_s {z : xC} {M : Nat → Nat} {i : Nat} (h : nR z i = 0) (h2 : aflI z (M i) = 0) : stS z M (i + 1) = ((skS (stS z M i).1 (stS z M i).2.2 i).1, (stS z M i).2.1, (skS (stS z M i).1 (stS z M i).2.2 i).2) := by rw [stS, if_pos h, if_pos h2]
theorem drS_b {M b i : Nat} (h : i = b) : drS M b (i + 1) = drS M b i := by rw [drS, if_pos h]
theorem drS_o {M b i : Nat} (h : i ≠ b) (h2 : M / 2 ^ i % 2 = 0) : drS M b (i + 1) = drS M b i := by rw [drS, if_neg h, if_pos h2]
theorem drS_s {M b i : Nat} (h : i ≠ b) (h2 : ¬ M / 2 ^ i % 2 = 0) : drS M b (i + 1) = skS (drS M b i).1 (drS M b i).2 i := by rw [drS, if_neg h, if_neg h2]
theorem brS_0 {z : xC} {t : Int32} {pl : Nat → Int32} {n i : Nat} (h : eS z i = 0) : brS z t pl n (i + 1) = brS z t pl n i := by rw [brS, if_pos h]
theorem brS_1 {z : xC} {t : Int32} {pl : Nat → Int32} {n i : Nat} (h : ¬ eS z i = 0) (h2 : onI z i t = 0) : brS z t pl n (i + 1) = brS z t pl n i := by rw [brS, if_neg h, if_pos h2]
theorem brS_2 {z : xC} {t : Int32} {pl : Nat → Int32} {n i : Nat} (h : ¬ eS z i = 0) (h2 : ¬ onI z i t = 0) : brS z t pl n (i + 1) = brR (brR (brS z t pl n i) pl n (cA z i) (-(eZ z i)).toInt64) pl n (cB z i) (eZ z i).toInt64 := by rw [brS, if_neg h, if_neg h2]
theorem cdS_0 {z : xC} {t : Int32} {pl : Nat → Int32} {kn : Nat → Int64} {n i : Nat} {rw : Nat → Nat → Int64} (h : ¬ eS z i = 0) : cdS z t pl kn n rw (i + 1) = cdS z t pl kn n rw i := by rw [cdS, if_neg h]
theorem cdS_1 {z : xC} {t : Int32} {pl : Nat → Int32} {kn : Nat → Int64} {n i : Nat} {rw : Nat → Nat → Int64} (h : eS z i = 0) (h2 : onI z i t = 0) : cdS z t pl kn n rw (i + 1) = cdS z t pl kn n rw i := by rw [cdS, if_pos h, if_pos h2]
theorem cdS_2 {z : xC} {t : Int32} {pl : Nat → Int32} {kn : Nat → Int64} {n i : Nat} {rw : Nat → Nat → Int64} (h : eS z i = 0) (h2 : ¬ onI z i t = 0) : cdS z t pl kn n rw (i + 1) = lkR (lkR (cdS z t pl kn n rw i) pl kn n (cA z i) (cB z i) (eZ z i).toInt64) pl kn n (cB z i) (cA z i) (eZ z i).toInt64 := by rw [cdS, if_pos h, if_neg h2]
theorem ftS_0 {z : xC} {t : Int32} {i : Nat} (h : tgb z i t < 0) : ftS z t (i + 1) = ftS z t i := by rw [ftS, if_pos h]
theorem ftS_1 {z : xC} {t : Int32} {i : Nat} (h : ¬ tgb z i t < 0) (h2 : ftS z t i < 0) : ftS z t (i + 1) = tgb z i t := by rw [ftS, if_neg h, if_pos h2]
theorem ftS_2 {z : xC} {t : Int32} {i : Nat} (h : ¬ tgb z i t < 0) (h2 : ¬ ftS z t i < 0) (h3 : ftS z t i ≤ tgb z i t) : ftS z t (i + 1) = ftS z t i := by rw [ftS, if_neg h, if_neg h2, if_pos h3]
theorem ftS_3 {z : xC} {t : Int32} {i : Nat} (h : ¬ tgb z i t < 0) (h2 : ¬ ftS z t i < 0) (h3 : ¬ ftS z t i ≤ tgb z i t) : ftS z t (i + 1) = tgb z i t := by rw [ftS, if_neg h, if_neg h2, if_neg h3]
theorem crS_0 {z : xC} {i : Nat} (h : nR z i = 0) : crS z (i + 1) = crS z i := by rw [crS, if_pos h]; rfl
theorem crS_1 {z : xC} {i : Nat} (h : ¬ nR z i = 0) : crS z (i + 1) = crS z i + 1 := by rw [crS, if_neg h]
theorem dgN_0 {z : xC} {d : Int64} {i : Nat} (h : nR z i = 0) : dgN z d (i + 1) = dg (dgN z d i) 0 := by rw [dgN, if_pos h]
theorem dgN_1 {z : xC} {d : Int64} {i : Nat} (h : ¬ nR z i = 0) : dgN z d (i + 1) = dg (dgN z d i) 1 := by rw [dgN, if_neg h]
theorem dgP_0 {z : xC} {t : Int32} {d : Int64} {i : Nat} (h : aflI z (gM z t i) = 0) : dgP z t d (i + 1) = dg (dg (dgP z t d i) (ptF (num z t i) (den z t) 1)) (ptF (num z t i) (den z t) 0) := by rw [dgP, if_pos h]
theorem dgP_1 {z : xC} {t : Int32} {d : Int64} {i : Nat} (h : ¬ aflI z (gM z t i) = 0) : dgP z t d (i + 1) = dg (dgP z t d i) (-1) := by rw [dgP, if_neg h]
/-- what an element that is on takes out of a node, over the common denominator -/
def flw (z : xC) (N : Nat → Int64) (d : Int64) (i j : Nat) : Int64 := if ¬ j = cA z i ∧ ¬ j = cB z i then 0 else
  if j = cA z i then (if eS z i = 0 then (eZ z i).toInt64 * (N (cA z i) - N (cB z i)) else (eZ z i).toInt64 * d)
  else -(if eS z i = 0 then (eZ z i).toInt64 * (N (cA z i) - N (cB z i)) else (eZ z i).toInt64 * d)
/-- no earlier node that does not float has the same numerator -/
def lvF (z : xC) (M : Nat → Nat) (N : Nat → Int64) (j : Nat) : Nat → Bool
  | 0 => true
  | o + 1 => lvF z M N j o && (!(aflI z (M o) == 0) || !(N o == N j))
theorem lvF_1 {z : xC} {M : Nat → Nat} {N : Nat → Int64} {j o : Nat} (h : lvF z M N j o = true) (h2 : ¬ aflI z (M o) = 0 ∨ ¬ N o = N j) : lvF z M N j (o + 1) = true := by
  rw [lvF, h]
  rcases h2 with e | e <;> simp [e]
theorem lvF_0 {z : xC} {M : Nat → Nat} {N : Nat → Int64} {j o : Nat} (h1 : aflI z (M o) = 0) (h2 : N o = N j) : ∀ n, o < n → lvF z M N j n = false
  | 0, h => absurd h (Nat.not_lt_zero _)
  | n + 1, h => by
    rw [lvF]
    by_cases e : o = n
    · subst e; simp [h1, h2]
    · rw [lvF_0 h1 h2 n (by omega)]; rfl
/-- the bench stands over the circuit z, its rows hold something -/
def xB (D : va_G) (A : Nat → Prop) (y : Nat → ClassId) (ad : xL → Nat) (bl : xM) (z : xC) (fR fO : Nat → Nat → Option va_E) (H : Heap) : Prop := ∃ (g pl : Nat → Int32) (kn : Nat → Int64) (rw : Nat → Nat → Int64) (mi : Nat → Int64) (un : Int32), xW D A ad (wU (wB y ad bl z g pl kn rw mi un) fR fO) H
theorem xW.B {D : va_G} {A : Nat → Prop} {y : Nat → ClassId} {ad : xL → Nat} {bl : xM} {z : xC} {g pl : Nat → Int32} {kn mi : Nat → Int64} {rw : Nat → Nat → Int64} {un : Int32} {fR fO : Nat → Nat → Option va_E} {H : Heap} (h : xW D A ad (wU (wB y ad bl z g pl kn rw mi un) fR fO) H) : xB D A y ad bl z fR fO H := ⟨g, pl, kn, rw, mi, un, h⟩
theorem flw_0 {z : xC} {N : Nat → Int64} {d : Int64} {i j : Nat} (h : ¬ j = cA z i ∧ ¬ j = cB z i) : flw z N d i j = 0 := by rw [flw, if_pos h]
theorem flw_1 {z : xC} {N : Nat → Int64} {d : Int64} {i j : Nat} (h : ¬ (¬ j = cA z i ∧ ¬ j = cB z i)) (h2 : j = cA z i) : flw z N d i j = if eS z i = 0 then (eZ z i).toInt64 * (N (cA z i) - N (cB z i)) else (eZ z i).toInt64 * d := by rw [flw, if_neg h, if_pos h2]
theorem flw_2 {z : xC} {N : Nat → Int64} {d : Int64} {i j : Nat} (h : ¬ (¬ j = cA z i ∧ ¬ j = cB z i)) (h2 : ¬ j = cA z i) : flw z N d i j = -(if eS z i = 0 then (eZ z i).toInt64 * (N (cA z i) - N (cB z i)) else (eZ z i).toInt64 * d) := by rw [flw, if_neg h, if_neg h2]
/-- the feed: what all elements that are on take out of the node -/
def fdS (z : xC) (t : Int32) (N : Nat → Int64) (d : Int64) (j : Nat) : Nat → Int64
  | 0 => 0
  | i + 1 => if onI z i t = 0 then fdS z t N d j i else fdS z t N d j i + flw z N d i j
theorem fdS_0 {z : xC} {t : Int32} {N : Nat → Int64} {d : Int64} {j i : Nat} (h : onI z i t = 0) : fdS z t N d j (i + 1) = fdS z t N d j i := by rw [fdS, if_pos h]
theorem fdS_1 {z : xC} {t : Int32} {N : Nat → Int64} {d : Int64} {j i : Nat} (h : ¬ onI z i t = 0) : fdS z t N d j (i + 1) = fdS z t N d j i + flw z N d i j := by rw [fdS, if_neg h]
def dgAll (z : xC) : Int64 := if ftS z (nI 0) (nE z) < 0 then dgP z (nI 0) (dgA z 409) (nN z) else dgP z (ftS z (nI 0) (nE z)) (dgP z (nI 0) (dgA z 409) (nN z)) (nN z)
end
section
set_option maxHeartbeats 4000000 in
set_option maxRecDepth 100000 in
theorem c_J9_abs_067f4 (l : Launch) {D : va_G} {y : Nat → ClassId} {A : Nat → Prop}  {Hs : Heap} (x : Int64) : Met l yJ9_abs_067f4 (.code yJ9_abs_067f4 cJ9_abs_067f4 2 (some .long) :: WG) { frames := 0, cells := 0, slots := 0, locals := 0 } (xPc [.long x] D y Hs) (xQ (fun v H1 => v = some (.long (absL x)) ∧ Hs = H1) A) 0 0 A := by
  refine xM_goF (by decide +kernel) (Nat.le_of_ble_eq_true rfl) (fun p e s m args below meth c ls R Q hx hb hr hlocks hml hown hts hH hE hnm hRf hRl hRc hRs hQ hS hl => ?_)
  have hRf : R.frames = 0 := hRf
  have hRl : R.locals = 0 := hRl
  have hRc : R.cells = 0 := hRc
  have hRs : R.slots = 0 := hRs
  have hl : lv_has ls 2 [(0, .long x)] := hl
  refine lv_lload_n hx hb dJ9_abs_067f4_0 rfl (lv_at hl 0 rfl) ?_
  refine lv_lconst (v := 0) hx hb dJ9_abs_067f4_1 (by decide) ?_
  refine W.lcmp hx hb dJ9_abs_067f4_2 ?_
  refine lv_if_ge (tgt := 11) hx hb dJ9_abs_067f4_3 (by decide) (fun c3 => ?_) (fun c3 => ?_)
  · skip
    have c3 := (lg_cmp_ge _ _).mp c3
    refine lv_lload_n hx hb dJ9_abs_067f4_11 rfl (lv_at hl 0 rfl) ?_
    exact xe_lret hQ hx hb hr hlocks hH hS (Nat.le_refl _) (Nat.le_refl _) (⟨by unfold absL; rw [if_pos c3], rfl⟩) dJ9_abs_067f4_12
  · skip
    have c3 := mt (lg_cmp_ge _ _).mpr c3
    refine lv_lload_n hx hb dJ9_abs_067f4_6 rfl (lv_at hl 0 rfl) ?_
    refine lv_lneg hx hb dJ9_abs_067f4_7 ?_
    refine lv_goto (tgt := 12) hx hb dJ9_abs_067f4_8 (by decide) ?_
    exact xe_lret hQ hx hb hr hlocks hH hS (Nat.le_refl _) (Nat.le_refl _) (⟨by unfold absL; rw [if_neg c3], rfl⟩) dJ9_abs_067f4_12

set_option maxHeartbeats 4000000 in
set_option maxRecDepth 100000 in
theorem c_J9_floorDiv_f86c9 (l : Launch) {D : va_G} {y : Nat → ClassId} {A : Nat → Prop}  {Hs : Heap} (a b : Int64) (hb0 : ¬ b = 0) : Met l yJ9_floorDiv_f86c9 (.code yJ9_floorDiv_f86c9 cJ9_floorDiv_f86c9 6 (some .long) :: WG) { frames := 0, cells := 0, slots := 0, locals := 0 } (xPc [.long a, .long b] D y Hs) (xQ (fun v H1 => v = some (.long (fdL a b)) ∧ Hs = H1) A) 0 0 A := by
  refine xM_goF (by decide +kernel) (Nat.le_of_ble_eq_true rfl) (fun p e s m args below meth c ls R Q hx hb hr hlocks hml hown hts hH hE hnm hRf hRl hRc hRs hQ hS hl => ?_)
  have hRf : R.frames = 0 := hRf
  have hRl : R.locals = 0 := hRl
  have hRc : R.cells = 0 := hRc
  have hRs : R.slots = 0 := hRs
  have hl : lv_has ls 6 [(0, .long a), (2, .long b)] := hl
  refine lv_lload_n hx hb dJ9_floorDiv_f86c9_0 rfl (lv_at hl 0 rfl) ?_
  refine lv_lload_n hx hb dJ9_floorDiv_f86c9_1 rfl (lv_at hl 1 rfl) ?_
  refine lv_ldiv hx hb dJ9_floorDiv_f86c9_2 (hb0) ?_
  refine lv_lstore (lv' := [(4, .long (a / b)), (0, .long a), (2, .long b)]) hx hb dJ9_floorDiv_f86c9_3 hl (by decide) rfl (fun ls hl => ?_)
  refine lv_lload_n hx hb dJ9_floorDiv_f86c9_5 rfl (lv_at hl 1 rfl) ?_
  refine lv_lload_n hx hb dJ9_floorDiv_f86c9_6 rfl (lv_at hl 2 rfl) ?_
  refine lv_lxor hx hb dJ9_floorDiv_f86c9_7 ?_
  refine lv_lconst (v := 0) hx hb dJ9_floorDiv_f86c9_8 (by decide) ?_
  refine W.lcmp hx hb dJ9_floorDiv_f86c9_9 ?_
  refine lv_if_ge (tgt := 27) hx hb dJ9_floorDiv_f86c9_10 (by decide) (fun c10 => ?_) (fun c10 => ?_)
  · skip
    have c10 := (lg_cmp_ge _ _).mp c10
    refine lv_lload hx hb dJ9_floorDiv_f86c9_27 (lv_at hl 0 rfl) ?_
    exact xe_lret hQ hx hb hr hlocks hH hS (Nat.le_refl _) (Nat.le_refl _) (⟨by unfold fdL; first | (rw [if_pos c10]; done) | (rw [if_neg c10, if_pos c19]; done), rfl⟩) dJ9_floorDiv_f86c9_29
  · skip
    have c10 := mt (lg_cmp_ge _ _).mpr c10
    refine lv_lload hx hb dJ9_floorDiv_f86c9_13 (lv_at hl 0 rfl) ?_
    refine lv_lload_n hx hb dJ9_floorDiv_f86c9_15 rfl (lv_at hl 2 rfl) ?_
    refine lv_lmul hx hb dJ9_floorDiv_f86c9_16 ?_
    refine lv_lload_n hx hb dJ9_floorDiv_f86c9_17 rfl (lv_at hl 1 rfl) ?_
    refine W.lcmp hx hb dJ9_floorDiv_f86c9_18 ?_
    refine lv_if_eq (tgt := 27) hx hb dJ9_floorDiv_f86c9_19 (by decide) (fun c19 => ?_) (fun c19 => ?_)
    · skip
      have c19 := (lg_cmp_eq _ _).mp c19
      refine lv_lload hx hb dJ9_floorDiv_f86c9_27 (lv_at hl 0 rfl) ?_
      exact xe_lret hQ hx hb hr hlocks hH hS (Nat.le_refl _) (Nat.le_refl _) (⟨by unfold fdL; first | (rw [if_pos c10]; done) | (rw [if_neg c10, if_pos c19]; done), rfl⟩) dJ9_floorDiv_f86c9_29
    · skip
      have c19 := mt (lg_cmp_eq _ _).mpr c19
      refine lv_lload hx hb dJ9_floorDiv_f86c9_22 (lv_at hl 0 rfl) ?_
      refine lv_lconst (v := 1) hx hb dJ9_floorDiv_f86c9_24 (by decide) ?_
      refine lv_lsub hx hb dJ9_floorDiv_f86c9_25 ?_
      exact xe_lret hQ hx hb hr hlocks hH hS (Nat.le_refl _) (Nat.le_refl _) (⟨by unfold fdL; rw [if_neg c10, if_neg c19], rfl⟩) dJ9_floorDiv_f86c9_26

set_option maxHeartbeats 4000000 in
set_option maxRecDepth 100000 in
theorem c_J9_floorMod_f86c9 (l : Launch) {D : va_G} {y : Nat → ClassId} {A : Nat → Prop}  {Hs : Heap} (a b : Int64) (hb0 : ¬ b = 0) : Met l yJ9_floorMod_f86c9 (.code yJ9_floorMod_f86c9 cJ9_floorMod_f86c9 6 (some .long) :: WG) { frames := 0, cells := 0, slots := 0, locals := 0 } (xPc [.long a, .long b] D y Hs) (xQ (fun v H1 => v = some (.long (fmL a b)) ∧ Hs = H1) A) 0 0 A := by
  refine xM_goF (by decide +kernel) (Nat.le_of_ble_eq_true rfl) (fun p e s m args below meth c ls R Q hx hb hr hlocks hml hown hts hH hE hnm hRf hRl hRc hRs hQ hS hl => ?_)
  have hRf : R.frames = 0 := hRf
  have hRl : R.locals = 0 := hRl
  have hRc : R.cells = 0 := hRc
  have hRs : R.slots = 0 := hRs
  have hl : lv_has ls 6 [(0, .long a), (2, .long b)] := hl
  refine lv_lload_n hx hb dJ9_floorMod_f86c9_0 rfl (lv_at hl 0 rfl) ?_
  refine lv_lload_n hx hb dJ9_floorMod_f86c9_1 rfl (lv_at hl 1 rfl) ?_
  refine lv_lrem hx hb dJ9_floorMod_f86c9_2 (hb0) ?_
  refine lv_lstore (lv' := [(4, .long (a - a / b * b)), (0, .long a), (2, .long b)]) hx hb dJ9_floorMod_f86c9_3 hl (by decide) rfl (fun ls hl => ?_)
  refine lv_lload_n hx hb dJ9_floorMod_f86c9_5 rfl (lv_at hl 1 rfl) ?_
  refine lv_lload_n hx hb dJ9_floorMod_f86c9_6 rfl (lv_at hl 2 rfl) ?_
  refine lv_lxor hx hb dJ9_floorMod_f86c9_7 ?_
  refine lv_lconst (v := 0) hx hb dJ9_floorMod_f86c9_8 (by decide) ?_
  refine W.lcmp hx hb dJ9_floorMod_f86c9_9 ?_
  refine lv_if_ge (tgt := 25) hx hb dJ9_floorMod_f86c9_10 (by decide) (fun c10 => ?_) (fun c10 => ?_)
  · skip
    have c10 := (lg_cmp_ge _ _).mp c10
    refine lv_lload hx hb dJ9_floorMod_f86c9_25 (lv_at hl 0 rfl) ?_
    exact xe_lret hQ hx hb hr hlocks hH hS (Nat.le_refl _) (Nat.le_refl _) (⟨by unfold fmL; first | (rw [if_pos c10]; done) | (rw [if_neg c10, if_pos c17]; done), rfl⟩) dJ9_floorMod_f86c9_27
  · skip
    have c10 := mt (lg_cmp_ge _ _).mpr c10
    refine lv_lload hx hb dJ9_floorMod_f86c9_13 (lv_at hl 0 rfl) ?_
    refine lv_lconst (v := 0) hx hb dJ9_floorMod_f86c9_15 (by decide) ?_
    refine W.lcmp hx hb dJ9_floorMod_f86c9_16 ?_
    refine lv_if_eq (tgt := 25) hx hb dJ9_floorMod_f86c9_17 (by decide) (fun c17 => ?_) (fun c17 => ?_)
    · skip
      have c17 := (lg_cmp_eq _ _).mp c17
      refine lv_lload hx hb dJ9_floorMod_f86c9_25 (lv_at hl 0 rfl) ?_
      exact xe_lret hQ hx hb hr hlocks hH hS (Nat.le_refl _) (Nat.le_refl _) (⟨by unfold fmL; first | (rw [if_pos c10]; done) | (rw [if_neg c10, if_pos c17]; done), rfl⟩) dJ9_floorMod_f86c9_27
    · skip
      have c17 := mt (lg_cmp_eq _ _).mpr c17
      refine lv_lload hx hb dJ9_floorMod_f86c9_20 (lv_at hl 0 rfl) ?_
      refine lv_lload_n hx hb dJ9_floorMod_f86c9_22 rfl (lv_at hl 2 rfl) ?_
      refine lv_ladd hx hb dJ9_floorMod_f86c9_23 ?_
      exact xe_lret hQ hx hb hr hlocks hH hS (Nat.le_refl _) (Nat.le_refl _) (⟨by unfold fmL; rw [if_neg c10, if_neg c17], rfl⟩) dJ9_floorMod_f86c9_24

set_option maxHeartbeats 4000000 in
set_option maxRecDepth 100000 in
theorem c_J3_checkIndex_8e157 (l : Launch) {D : va_G} {y : Nat → ClassId} {A : Nat → Prop}  {Hs : Heap} {i k : Nat} (hi : i < k) (hk : k < 1000) : Met l yJ3_checkIndex_8e157 (.code yJ3_checkIndex_8e157 cJ3_checkIndex_8e157 3 (some .int) :: WG) { frames := 0, cells := 0, slots := 0, locals := 0 } (xPc [.int (nI i), .int (nI k), .null] D y Hs) (xQ (fun v H1 => v = some (.int (nI i)) ∧ Hs = H1) A) 0 0 A := by
  refine xM_go (by decide) (Nat.le_of_ble_eq_true rfl) (fun p e s m args below meth c ls R Q hx hb hr hlocks hml hown hts hH hE hnm hRf hRl hRc hRs hQ hS hl => ?_)
  have hRf : R.frames = 0 := hRf
  have hRl : R.locals = 0 := hRl
  have hRc : R.cells = 0 := hRc
  have hRs : R.slots = 0 := hRs
  have hl : lv_has ls 3 [(0, .int (nI i)), (1, .int (nI k)), (2, .null)] := hl
  refine lv_iload_n hx hb dJ3_checkIndex_8e157_0 rfl (lv_at hl 0 rfl) ?_
  refine lv_if_lt (tgt := 9) hx hb dJ3_checkIndex_8e157_1 (by decide) (fun c1 => ?_) (fun c1 => ?_)
  · skip
    have c1 := ni_lt (a := i) (b := 0) (by omega) (by omega) c1
    exfalso; omega
  · skip
    have c1 := ni_nlt (a := i) (b := 0) (by omega) (by omega) c1
    refine lv_iload_n hx hb dJ3_checkIndex_8e157_4 rfl (lv_at hl 0 rfl) ?_
    refine lv_iload_n hx hb dJ3_checkIndex_8e157_5 rfl (lv_at hl 1 rfl) ?_
    refine lv_icmp_lt (tgt := 16) hx hb dJ3_checkIndex_8e157_6 (by decide) (fun c6 => ?_) (fun c6 => ?_)
    · skip
      have c6 := ni_lt (a := i) (b := k) (by omega) (by omega) c6
      refine lv_iload_n hx hb dJ3_checkIndex_8e157_16 rfl (lv_at hl 0 rfl) ?_
      exact xe_iret hQ hx hb hr hlocks hH hS (Nat.le_refl _) (Nat.le_refl _) (⟨rfl, rfl⟩) dJ3_checkIndex_8e157_17
    · skip
      have c6 := ni_nlt (a := i) (b := k) (by omega) (by omega) c6
      exfalso; omega

set_option maxHeartbeats 4000000 in
set_option maxRecDepth 100000 in
theorem c_J15_checkIndex_7cf53 (l : Launch) {D : va_G} {y : Nat → ClassId} {A : Nat → Prop}  {Hs : Heap} {i k : Nat} (hi : i < k) (hk : k < 1000) : Met l yJ15_checkIndex_7cf53 (.code yJ15_checkIndex_7cf53 cJ15_checkIndex_7cf53 2 (some .int) :: WG) { frames := 1, cells := 0, slots := 0, locals := 22 } (xPc [.int (nI i), .int (nI k)] D y Hs) (xQ (fun v H1 => v = some (.int (nI i)) ∧ Hs = H1) A) 0 0 A := by
  refine xM_go (by decide) (Nat.le_of_ble_eq_true rfl) (fun p e s m args below meth c ls R Q hx hb hr hlocks hml hown hts hH hE hnm hRf hRl hRc hRs hQ hS hl => ?_)
  have hRf : R.frames = 1 := hRf
  have hRl : R.locals = 22 := hRl
  have hRc : R.cells = 0 := hRc
  have hRs : R.slots = 0 := hRs
  have hl : lv_has ls 2 [(0, .int (nI i)), (1, .int (nI k))] := hl
  refine lv_iload_n hx hb dJ15_checkIndex_7cf53_0 rfl (lv_at hl 0 rfl) ?_
  refine lv_iload_n hx hb dJ15_checkIndex_7cf53_1 rfl (lv_at hl 1 rfl) ?_
  refine lv_null hx hb dJ15_checkIndex_7cf53_2 ?_
  refine xw_callS (n := 3) [.int (nI i), .int (nI k), .null] (c_J3_checkIndex_8e157 l hi hk) hx hb hml hown hts hE hS rfl rfl q_39 q_202 q_204 q_203 (by decide) rfl ⟨by rw [hRf]; decide, by rw [hRl]; decide⟩ hl.1 rfl (Nat.le_of_ble_eq_true rfl) dJ15_checkIndex_7cf53_3 ⟨by rw [hRc]; decide, by rw [hRs]; decide⟩ (fun v H1 locs hp hS => ?_)
  obtain ⟨hv, hh⟩ := hp; subst hv; subst hh
  exact xe_iret hQ hx hb hr hlocks hH hS (Nat.le_refl _) (Nat.le_refl _) (⟨rfl, rfl⟩) dJ15_checkIndex_7cf53_6

set_option maxHeartbeats 4000000 in
set_option maxRecDepth 100000 in
theorem c_size_nodes (l : Launch) {D : va_G} {y : Nat → ClassId} {A : Nat → Prop} {ad : xL → Nat} {bl : xM} {z : xC} {g : Nat → Int32} {pl : Nat → Int32} {kn : Nat → Int64} {rw : Nat → Nat → Int64} {mi : Nat → Int64} {un : Int32} {fR fO : Nat → Nat → Option va_E} {Hs : Heap} (hP : xW D A ad (wU (wB y ad bl z g pl kn rw mi un) fR fO) Hs)  : Met l yJx4a65c_size_8abf5 (.code yJx4a65c_size_8abf5 cJx4a65c_size_8abf5 1 (some .int) :: WG) { frames := 0, cells := 0, slots := 0, locals := 0 } (xPc [.ref (ad (1, 0))] D y Hs) (xQ (fun v H1 => v = some (.int (nI (nN z))) ∧ Hs = H1) A) 0 0 A := by
  refine xM_go (by decide) (Nat.le_of_ble_eq_true rfl) (fun p e s m args below meth c ls R Q hx hb hr hlocks hml hown hts hH hE hnm hRf hRl hRc hRs hQ hS hl => ?_)
  have hRf : R.frames = 0 := hRf
  have hRl : R.locals = 0 := hRl
  have hRc : R.cells = 0 := hRc
  have hRs : R.slots = 0 := hRs
  have hl : lv_has ls 1 [(0, .ref (ad (1, 0)))] := hl
  refine lv_aload_n hx hb dJx4a65c_size_8abf5_0 rfl (lv_at hl 0 rfl) ?_
  refine fg_AL_nodes_size hx hb hts hown hE hP q_65 dJx4a65c_size_8abf5_1 ?_
  exact xe_iret hQ hx hb hr hlocks hH hS (Nat.le_refl _) (Nat.le_refl _) (⟨rfl, rfl⟩) dJx4a65c_size_8abf5_4

set_option maxHeartbeats 4000000 in
set_option maxRecDepth 100000 in
theorem c_elData_nodes (l : Launch) {D : va_G} {y : Nat → ClassId} {A : Nat → Prop} {ad : xL → Nat} {bl : xM} {z : xC} {g : Nat → Int32} {pl : Nat → Int32} {kn : Nat → Int64} {rw : Nat → Nat → Int64} {mi : Nat → Int64} {un : Int32} {fR fO : Nat → Nat → Option va_E} {Hs : Heap} (hP : xW D A ad (wU (wB y ad bl z g pl kn rw mi un) fR fO) Hs) (hz : bOk bl z) {i : Nat} (hi : i < nN z) : Met l yJx4a65c_elementData_915e3 (.code yJx4a65c_elementData_915e3 cJx4a65c_elementData_915e3 2 (some (.object "java/lang/Object")) :: WG) { frames := 0, cells := 0, slots := 0, locals := 0 } (xPc [.ref (ad (1, 0)), .int (nI i)] D y Hs) (xQ (fun v H1 => v = some (.ref (ad (12, i))) ∧ Hs = H1) A) 0 0 A := by
  refine xM_go (by decide) (Nat.le_of_ble_eq_true rfl) (fun p e s m args below meth c ls R Q hx hb hr hlocks hml hown hts hH hE hnm hRf hRl hRc hRs hQ hS hl => ?_)
  have hRf : R.frames = 0 := hRf
  have hRl : R.locals = 0 := hRl
  have hRc : R.cells = 0 := hRc
  have hRs : R.slots = 0 := hRs
  have hl : lv_has ls 2 [(0, .ref (ad (1, 0))), (1, .int (nI i))] := hl
  have hN := hz.w.N
  have hE20 := hz.w.E
  refine lv_aload_n hx hb dJx4a65c_elementData_915e3_0 rfl (lv_at hl 0 rfl) ?_
  refine fg_AL_nodes_elementData hx hb hts hown hE hP q_64 dJx4a65c_elementData_915e3_1 ?_
  refine lv_iload_n hx hb dJx4a65c_elementData_915e3_4 rfl (lv_at hl 1 rfl) ?_
  refine al_nodes hx hb hE hP (i := i) (by omega) ⟨hz.2.1, hz.2.2.2.1⟩ dJx4a65c_elementData_915e3_5 ?_
  exact xe_aret hQ hx hb hr (Or.inl ⟨_, rfl⟩) hlocks hH hS (Nat.le_refl _) (Nat.le_refl _) (⟨rfl, rfl⟩) dJx4a65c_elementData_915e3_6

set_option maxHeartbeats 4000000 in
set_option maxRecDepth 100000 in
theorem c_get_nodes (l : Launch) {D : va_G} {y : Nat → ClassId} {A : Nat → Prop} {ad : xL → Nat} {bl : xM} {z : xC} {g : Nat → Int32} {pl : Nat → Int32} {kn : Nat → Int64} {rw : Nat → Nat → Int64} {mi : Nat → Int64} {un : Int32} {fR fO : Nat → Nat → Option va_E} {Hs : Heap} (hP : xW D A ad (wU (wB y ad bl z g pl kn rw mi un) fR fO) Hs) (hz : bOk bl z) {i : Nat} (hi : i < nN z) : Met l yJx4a65c_get_915e3 (.code yJx4a65c_get_915e3 cJx4a65c_get_915e3 2 (some (.object "java/lang/Object")) :: WG) { frames := 2, cells := 0, slots := 0, locals := 43 } (xPc [.ref (ad (1, 0)), .int (nI i)] D y Hs) (xQ (fun v H1 => v = some (.ref (ad (12, i))) ∧ Hs = H1) A) 0 0 A := by
  refine xM_go (by decide) (Nat.le_of_ble_eq_true rfl) (fun p e s m args below meth c ls R Q hx hb hr hlocks hml hown hts hH hE hnm hRf hRl hRc hRs hQ hS hl => ?_)
  have hRf : R.frames = 2 := hRf
  have hRl : R.locals = 43 := hRl
  have hRc : R.cells = 0 := hRc
  have hRs : R.slots = 0 := hRs
  have hl : lv_has ls 2 [(0, .ref (ad (1, 0))), (1, .int (nI i))] := hl
  have hN := hz.w.N
  have hE20 := hz.w.E
  refine lv_iload_n hx hb dJx4a65c_get_915e3_0 rfl (lv_at hl 1 rfl) ?_
  refine lv_aload_n hx hb dJx4a65c_get_915e3_1 rfl (lv_at hl 0 rfl) ?_
  refine fg_AL_nodes_size hx hb hts hown hE hP q_65 dJx4a65c_get_915e3_2 ?_
  refine xw_callS (n := 2) [.int (nI i), .int (nI (nN z))] (c_J15_checkIndex_7cf53 l hi (by omega)) hx hb hml hown hts hE hS rfl rfl q_38 q_199 q_201 q_200 (by decide) rfl ⟨by rw [hRf]; decide, by rw [hRl]; decide⟩ hl.1 rfl (Nat.le_of_ble_eq_true rfl) dJx4a65c_get_915e3_5 ⟨by rw [hRc]; decide, by rw [hRs]; decide⟩ (fun v H1 locs hp hS => ?_)
  obtain ⟨hv, hh⟩ := hp; subst hv; subst hh
  refine lv_pop hx hb dJx4a65c_get_915e3_8 rfl ?_
  refine lv_aload_n hx hb dJx4a65c_get_915e3_9 rfl (lv_at hl 0 rfl) ?_
  refine lv_iload_n hx hb dJx4a65c_get_915e3_10 rfl (lv_at hl 1 rfl) ?_
  refine xw_callV (C := "java/util/ArrayList") (n := 1) [.int (nI i)] (c_elData_nodes l hP hz hi) hx hb hml hown hts hE hS (xw_recv hE hP (1, 0) rfl rfl) rfl rfl q_24 q_205 q_208 q_206 q_207 (by decide) rfl ⟨by rw [hRf]; decide, by rw [hRl]; decide⟩ hl.1 rfl (Nat.le_of_ble_eq_true rfl) dJx4a65c_get_915e3_11 ⟨by rw [hRc]; decide, by rw [hRs]; decide⟩ (fun v H1 locs hp hS => ?_)
  obtain ⟨hv, hh⟩ := hp; subst hv; subst hh
  exact xe_aret hQ hx hb hr (Or.inl ⟨_, rfl⟩) hlocks hH hS (Nat.le_refl _) (Nat.le_refl _) (⟨rfl, rfl⟩) dJx4a65c_get_915e3_14

set_option maxHeartbeats 4000000 in
set_option maxRecDepth 100000 in
theorem c_size_elements (l : Launch) {D : va_G} {y : Nat → ClassId} {A : Nat → Prop} {ad : xL → Nat} {bl : xM} {z : xC} {g : Nat → Int32} {pl : Nat → Int32} {kn : Nat → Int64} {rw : Nat → Nat → Int64} {mi : Nat → Int64} {un : Int32} {fR fO : Nat → Nat → Option va_E} {Hs : Heap} (hP : xW D A ad (wU (wB y ad bl z g pl kn rw mi un) fR fO) Hs)  : Met l yJx4a65c_size_8abf5 (.code yJx4a65c_size_8abf5 cJx4a65c_size_8abf5 1 (some .int) :: WG) { frames := 0, cells := 0, slots := 0, locals := 0 } (xPc [.ref (ad (3, 0))] D y Hs) (xQ (fun v H1 => v = some (.int (nI (nE z))) ∧ Hs = H1) A) 0 0 A := by
  refine xM_go (by decide) (Nat.le_of_ble_eq_true rfl) (fun p e s m args below meth c ls R Q hx hb hr hlocks hml hown hts hH hE hnm hRf hRl hRc hRs hQ hS hl => ?_)
  have hRf : R.frames = 0 := hRf
  have hRl : R.locals = 0 := hRl
  have hRc : R.cells = 0 := hRc
  have hRs : R.slots = 0 := hRs
  have hl : lv_has ls 1 [(0, .ref (ad (3, 0)))] := hl
  refine lv_aload_n hx hb dJx4a65c_size_8abf5_0 rfl (lv_at hl 0 rfl) ?_
  refine fg_AL_elements_size hx hb hts hown hE hP q_65 dJx4a65c_size_8abf5_1 ?_
  exact xe_iret hQ hx hb hr hlocks hH hS (Nat.le_refl _) (Nat.le_refl _) (⟨rfl, rfl⟩) dJx4a65c_size_8abf5_4

set_option maxHeartbeats 4000000 in
set_option maxRecDepth 100000 in
theorem c_elData_elements (l : Launch) {D : va_G} {y : Nat → ClassId} {A : Nat → Prop} {ad : xL → Nat} {bl : xM} {z : xC} {g : Nat → Int32} {pl : Nat → Int32} {kn : Nat → Int64} {rw : Nat → Nat → Int64} {mi : Nat → Int64} {un : Int32} {fR fO : Nat → Nat → Option va_E} {Hs : Heap} (hP : xW D A ad (wU (wB y ad bl z g pl kn rw mi un) fR fO) Hs) (hz : bOk bl z) {i : Nat} (hi : i < nE z) : Met l yJx4a65c_elementData_915e3 (.code yJx4a65c_elementData_915e3 cJx4a65c_elementData_915e3 2 (some (.object "java/lang/Object")) :: WG) { frames := 0, cells := 0, slots := 0, locals := 0 } (xPc [.ref (ad (3, 0)), .int (nI i)] D y Hs) (xQ (fun v H1 => v = some (.ref (ad (13, i))) ∧ Hs = H1) A) 0 0 A := by
  refine xM_go (by decide) (Nat.le_of_ble_eq_true rfl) (fun p e s m args below meth c ls R Q hx hb hr hlocks hml hown hts hH hE hnm hRf hRl hRc hRs hQ hS hl => ?_)
  have hRf : R.frames = 0 := hRf
  have hRl : R.locals = 0 := hRl
  have hRc : R.cells = 0 := hRc
  have hRs : R.slots = 0 := hRs
  have hl : lv_has ls 2 [(0, .ref (ad (3, 0))), (1, .int (nI i))] := hl
  have hN := hz.w.N
  have hE20 := hz.w.E
  refine lv_aload_n hx hb dJx4a65c_elementData_915e3_0 rfl (lv_at hl 0 rfl) ?_
  refine fg_AL_elements_elementData hx hb hts hown hE hP q_64 dJx4a65c_elementData_915e3_1 ?_
  refine lv_iload_n hx hb dJx4a65c_elementData_915e3_4 rfl (lv_at hl 1 rfl) ?_
  refine al_elements hx hb hE hP (i := i) (by omega) ⟨hz.2.2.1, hz.2.2.2.2⟩ dJx4a65c_elementData_915e3_5 ?_
  exact xe_aret hQ hx hb hr (Or.inl ⟨_, rfl⟩) hlocks hH hS (Nat.le_refl _) (Nat.le_refl _) (⟨rfl, rfl⟩) dJx4a65c_elementData_915e3_6

set_option maxHeartbeats 4000000 in
set_option maxRecDepth 100000 in
theorem c_get_elements (l : Launch) {D : va_G} {y : Nat → ClassId} {A : Nat → Prop} {ad : xL → Nat} {bl : xM} {z : xC} {g : Nat → Int32} {pl : Nat → Int32} {kn : Nat → Int64} {rw : Nat → Nat → Int64} {mi : Nat → Int64} {un : Int32} {fR fO : Nat → Nat → Option va_E} {Hs : Heap} (hP : xW D A ad (wU (wB y ad bl z g pl kn rw mi un) fR fO) Hs) (hz : bOk bl z) {i : Nat} (hi : i < nE z) : Met l yJx4a65c_get_915e3 (.code yJx4a65c_get_915e3 cJx4a65c_get_915e3 2 (some (.object "java/lang/Object")) :: WG) { frames := 2, cells := 0, slots := 0, locals := 43 } (xPc [.ref (ad (3, 0)), .int (nI i)] D y Hs) (xQ (fun v H1 => v = some (.ref (ad (13, i))) ∧ Hs = H1) A) 0 0 A := by
  refine xM_go (by decide) (Nat.le_of_ble_eq_true rfl) (fun p e s m args below meth c ls R Q hx hb hr hlocks hml hown hts hH hE hnm hRf hRl hRc hRs hQ hS hl => ?_)
  have hRf : R.frames = 2 := hRf
  have hRl : R.locals = 43 := hRl
  have hRc : R.cells = 0 := hRc
  have hRs : R.slots = 0 := hRs
  have hl : lv_has ls 2 [(0, .ref (ad (3, 0))), (1, .int (nI i))] := hl
  have hN := hz.w.N
  have hE20 := hz.w.E
  refine lv_iload_n hx hb dJx4a65c_get_915e3_0 rfl (lv_at hl 1 rfl) ?_
  refine lv_aload_n hx hb dJx4a65c_get_915e3_1 rfl (lv_at hl 0 rfl) ?_
  refine fg_AL_elements_size hx hb hts hown hE hP q_65 dJx4a65c_get_915e3_2 ?_
  refine xw_callS (n := 2) [.int (nI i), .int (nI (nE z))] (c_J15_checkIndex_7cf53 l hi (by omega)) hx hb hml hown hts hE hS rfl rfl q_38 q_199 q_201 q_200 (by decide) rfl ⟨by rw [hRf]; decide, by rw [hRl]; decide⟩ hl.1 rfl (Nat.le_of_ble_eq_true rfl) dJx4a65c_get_915e3_5 ⟨by rw [hRc]; decide, by rw [hRs]; decide⟩ (fun v H1 locs hp hS => ?_)
  obtain ⟨hv, hh⟩ := hp; subst hv; subst hh
  refine lv_pop hx hb dJx4a65c_get_915e3_8 rfl ?_
  refine lv_aload_n hx hb dJx4a65c_get_915e3_9 rfl (lv_at hl 0 rfl) ?_
  refine lv_iload_n hx hb dJx4a65c_get_915e3_10 rfl (lv_at hl 1 rfl) ?_
  refine xw_callV (C := "java/util/ArrayList") (n := 1) [.int (nI i)] (c_elData_elements l hP hz hi) hx hb hml hown hts hE hS (xw_recv hE hP (3, 0) rfl rfl) rfl rfl q_24 q_205 q_208 q_206 q_207 (by decide) rfl ⟨by rw [hRf]; decide, by rw [hRl]; decide⟩ hl.1 rfl (Nat.le_of_ble_eq_true rfl) dJx4a65c_get_915e3_11 ⟨by rw [hRc]; decide, by rw [hRs]; decide⟩ (fun v H1 locs hp hS => ?_)
  obtain ⟨hv, hh⟩ := hp; subst hv; subst hh
  exact xe_aret hQ hx hb hr (Or.inl ⟨_, rfl⟩) hlocks hH hS (Nat.le_refl _) (Nat.le_refl _) (⟨rfl, rfl⟩) dJx4a65c_get_915e3_14
end
section
set_option maxHeartbeats 4000000 in
set_option maxRecDepth 100000 in
theorem c_X3_commonDivisor (l : Launch) {D : va_G} {y : Nat → ClassId} {A : Nat → Prop}  {Hs : Heap} (a b : Int64) : Met l yX3_commonDivisor (.code yX3_commonDivisor cX3_commonDivisor 11 (some .long) :: WG) { frames := 0, cells := 0, slots := 0, locals := 0 } (xPc [.long a, .long b] D y Hs) (xQ (fun v H1 => v = some (.long (gcdS 200 a b)) ∧ Hs = H1) A) 0 0 A := by
  refine xM_go (by decide) (Nat.le_of_ble_eq_true rfl) (fun p e s m args below meth c ls R Q hx hb hr hlocks hml hown hts hH hE hnm hRf hRl hRc hRs hQ hS hl => ?_)
  have hRf : R.frames = 0 := hRf
  have hRl : R.locals = 0 := hRl
  have hRc : R.cells = 0 := hRc
  have hRs : R.slots = 0 := hRs
  have hl : lv_has ls 11 [(0, .long a), (2, .long b)] := hl
  refine lv_lload_n hx hb dX3_commonDivisor_0 rfl (lv_at hl 0 rfl) ?_
  refine lv_lstore (lv' := [(4, .long a), (0, .long a), (2, .long b)]) hx hb dX3_commonDivisor_1 hl (by decide) rfl (fun ls hl => ?_)
  refine lv_lload_n hx hb dX3_commonDivisor_3 rfl (lv_at hl 2 rfl) ?_
  refine lv_lstore (lv' := [(6, .long b), (4, .long a), (0, .long a), (2, .long b)]) hx hb dX3_commonDivisor_4 hl (by decide) rfl (fun ls hl => ?_)
  refine lv_iconst (v := nI 0) hx hb dX3_commonDivisor_6 (by decide) ?_
  refine lv_istore (lv' := [(8, .int (nI 0)), (6, .long b), (4, .long a), (0, .long a), (2, .long b)]) hx hb dX3_commonDivisor_7 hl (by decide) rfl (fun ls hl => ?_)
  have K9 : ∀ (nn : Nat), ∀ (k : Nat) (u w : Int64), (k ≤ 200) → (gcdS (200 - k) u w = gcdS 200 a b) → 200 - k < nn → ∀ (locs : List Loc) (ls : Array Slot), va_S A Hs Hs locs → lv_has ls 11 [(8, .int (nI k)), (6, .long w), (4, .long u), (2, .long b), (0, .long a)] → W p l e R s m args below meth c Hs locs 0 0 Q (F0 m 9 ls []) := by
    intro nn
    induction nn with
    | zero => intro k u w hk hg h; exact absurd h (Nat.not_lt_zero _)
    | succ nn ih9 =>
      intro k u w hk hg hn9 locs ls hS hl
      refine lv_iload hx hb dX3_commonDivisor_9 (lv_at hl 0 rfl) ?_
      refine lv_sipush (v := nI 200) hx hb dX3_commonDivisor_11 (by decide) ?_
      refine lv_icmp_ge (tgt := 45) hx hb dX3_commonDivisor_14 (by decide) (fun c14 => ?_) (fun c14 => ?_)
      · skip
        have c14 := ni_le (a := 200) (b := k) (by omega) (by omega) c14
        refine lv_lload hx hb dX3_commonDivisor_45 (lv_at hl 2 rfl) ?_
        exact xe_lret hQ hx hb hr hlocks hH hS (Nat.le_refl _) (Nat.le_refl _) (⟨by rw [← hg]; first | (rw [show 200 - k = 0 by omega]; rfl) | (rw [show 200 - k = (200 - (k + 1)) + 1 by omega]; show _ = some (Value.long (if _ then _ else _)); rw [if_pos c21]), rfl⟩) dX3_commonDivisor_47
      · skip
        have c14 := ni_nle (a := 200) (b := k) (by omega) (by omega) c14
        refine lv_lload hx hb dX3_commonDivisor_17 (lv_at hl 1 rfl) ?_
        refine lv_lconst (v := 0) hx hb dX3_commonDivisor_19 (by decide) ?_
        refine W.lcmp hx hb dX3_commonDivisor_20 ?_
        refine lv_if_eq (tgt := 45) hx hb dX3_commonDivisor_21 (by decide) (fun c21 => ?_) (fun c21 => ?_)
        · skip
          have c21 := (lg_cmp_eq _ _).mp c21
          refine lv_lload hx hb dX3_commonDivisor_45 (lv_at hl 2 rfl) ?_
          exact xe_lret hQ hx hb hr hlocks hH hS (Nat.le_refl _) (Nat.le_refl _) (⟨by rw [← hg]; first | (rw [show 200 - k = 0 by omega]; rfl) | (rw [show 200 - k = (200 - (k + 1)) + 1 by omega]; show _ = some (Value.long (if _ then _ else _)); rw [if_pos c21]), rfl⟩) dX3_commonDivisor_47
        · skip
          have c21 := mt (lg_cmp_eq _ _).mpr c21
          refine lv_lload hx hb dX3_commonDivisor_24 (lv_at hl 2 rfl) ?_
          refine lv_lload hx hb dX3_commonDivisor_26 (lv_at hl 1 rfl) ?_
          refine lv_lrem hx hb dX3_commonDivisor_28 (c21) ?_
          refine lv_lstore (lv' := [(9, .long (u - u / w * w)), (8, .int (nI k)), (6, .long w), (4, .long u), (2, .long b), (0, .long a)]) hx hb dX3_commonDivisor_29 hl (by decide) rfl (fun ls hl => ?_)
          refine lv_lload hx hb dX3_commonDivisor_31 (lv_at hl 2 rfl) ?_
          refine lv_lstore (lv' := [(4, .long w), (9, .long (u - u / w * w)), (8, .int (nI k)), (6, .long w), (2, .long b), (0, .long a)]) hx hb dX3_commonDivisor_33 hl (by decide) rfl (fun ls hl => ?_)
          refine lv_lload hx hb dX3_commonDivisor_35 (lv_at hl 1 rfl) ?_
          refine lv_lstore (lv' := [(6, .long (u - u / w * w)), (4, .long w), (9, .long (u - u / w * w)), (8, .int (nI k)), (2, .long b), (0, .long a)]) hx hb dX3_commonDivisor_37 hl (by decide) rfl (fun ls hl => ?_)
          refine lv_iinc (v := nI (k + 1)) (lv' := [(8, .int (nI (k + 1))), (6, .long (u - u / w * w)), (4, .long w), (9, .long (u - u / w * w)), (2, .long b), (0, .long a)]) hx hb dX3_commonDivisor_39 hl (k := 3) rfl (nI_1 _) (by decide) rfl (fun ls hl => ?_)
          refine lv_goto (tgt := 9) hx hb dX3_commonDivisor_42 (by decide) ?_
          exact ih9 (k + 1) w (u - u / w * w) (by omega) (by rw [← hg, show 200 - k = (200 - (k + 1)) + 1 by omega]; show _ = (if _ then _ else _); rw [if_neg c21]) (by omega) _ _ hS (lv_sub hl [0, 1, 2, 4, 5] rfl)
  exact K9 _ 0 a b (by omega) rfl (Nat.lt_succ_self _) _ _ hS (lv_sub hl [0, 1, 2, 4, 3] rfl)

set_option maxHeartbeats 4000000 in
set_option maxRecDepth 100000 in
theorem c_X3_partOf (l : Launch) {D : va_G} {y : Nat → ClassId} {A : Nat → Prop}  {Hs : Heap} (u w : Int64) (f : Int32) : Met l yX3_partOf (.code yX3_partOf cX3_partOf 9 (some .long) :: WG) { frames := 1, cells := 0, slots := 0, locals := 30 } (xPc [.long u, .long w, .int f] D y Hs) (xQ (fun v H1 => v = some (.long (ptF u w f)) ∧ Hs = H1) A) 0 0 A := by
  refine xM_go (by decide) (Nat.le_of_ble_eq_true rfl) (fun p e s m args below meth c ls R Q hx hb hr hlocks hml hown hts hH hE hnm hRf hRl hRc hRs hQ hS hl => ?_)
  have hRf : R.frames = 1 := hRf
  have hRl : R.locals = 30 := hRl
  have hRc : R.cells = 0 := hRc
  have hRs : R.slots = 0 := hRs
  have hl : lv_has ls 9 [(0, .long u), (2, .long w), (4, .int f)] := hl
  refine lv_iload hx hb dX3_partOf_0 (lv_at hl 2 rfl) ?_
  refine lv_if_eq (tgt := 9) hx hb dX3_partOf_2 (by decide) (fun c2 => ?_) (fun c2 => ?_)
  · skip
    refine lv_lload_n hx hb dX3_partOf_9 rfl (lv_at hl 1 rfl) ?_
    refine lv_lstore (lv' := [(5, .long w), (0, .long u), (2, .long w), (4, .int f)]) hx hb dX3_partOf_10 hl (by decide) rfl (fun ls hl => ?_)
    refine lv_lload_n hx hb dX3_partOf_12 rfl (lv_at hl 1 rfl) ?_
    refine xw_callS (n := 1) [.long u] (c_J9_abs_067f4 l u) hx hb hml hown hts hE hS rfl rfl q_33 q_354 q_356 q_355 (by decide) rfl ⟨by rw [hRf]; decide, by rw [hRl]; decide⟩ hl.1 rfl (Nat.le_of_ble_eq_true rfl) dX3_partOf_13 ⟨by rw [hRc]; decide, by rw [hRs]; decide⟩ (fun v H1 locs hp hS => ?_)
    obtain ⟨hv, hh⟩ := hp; subst hv; subst hh
    refine lv_lload_n hx hb dX3_partOf_16 rfl (lv_at hl 2 rfl) ?_
    refine xw_callS (n := 2) [.long (absL u), .long w] (c_X3_commonDivisor l (absL u) w) hx hb hml hown hts hE hS rfl rfl q_21 q_357 q_359 q_358 (by decide) rfl ⟨by rw [hRf]; decide, by rw [hRl]; decide⟩ hl.1 rfl (Nat.le_of_ble_eq_true rfl) dX3_partOf_17 ⟨by rw [hRc]; decide, by rw [hRs]; decide⟩ (fun v H1 locs hp hS => ?_)
    obtain ⟨hv, hh⟩ := hp; subst hv; subst hh
    refine lv_lstore (lv' := [(7, .long (gcdS 200 (absL u) w)), (5, .long w), (0, .long u), (2, .long w), (4, .int f)]) hx hb dX3_partOf_20 hl (by decide) rfl (fun ls hl => ?_)
    refine lv_lload hx hb dX3_partOf_22 (lv_at hl 0 rfl) ?_
    refine lv_lconst (v := 1) hx hb dX3_partOf_24 (by decide) ?_
    refine W.lcmp hx hb dX3_partOf_25 ?_
    refine lv_if_le (tgt := 37) hx hb dX3_partOf_26 (by decide) (fun c26 => ?_) (fun c26 => ?_)
    · skip
      have c26 := (lg_cmp_le _ _).mp c26
      refine lv_lload hx hb dX3_partOf_37 (lv_at hl 1 rfl) ?_
      exact xe_lret hQ hx hb hr hlocks hH hS (Nat.le_refl _) (Nat.le_refl _) (⟨by unfold ptF; rw [if_neg (Int64.not_lt.mpr c26)]; first | (rw [if_pos c2]; done) | (rw [if_neg c2]; done), rfl⟩) dX3_partOf_39
    · skip
      have c26 := mt (lg_cmp_le _ _).mpr c26
      refine lv_lload hx hb dX3_partOf_29 (lv_at hl 1 rfl) ?_
      refine lv_lload hx hb dX3_partOf_31 (lv_at hl 0 rfl) ?_
      refine lv_ldiv hx hb dX3_partOf_33 (fun h0 => c26 (by rw [h0]; decide)) ?_
      refine lv_goto (tgt := 39) hx hb dX3_partOf_34 (by decide) ?_
      exact xe_lret hQ hx hb hr hlocks hH hS (Nat.le_refl _) (Nat.le_refl _) (⟨by unfold ptF; rw [if_pos (Int64.not_le.mp c26)]; first | (rw [if_pos c2]; done) | (rw [if_neg c2]; done), rfl⟩) dX3_partOf_39
  · skip
    refine lv_lload_n hx hb dX3_partOf_5 rfl (lv_at hl 0 rfl) ?_
    refine lv_goto (tgt := 10) hx hb dX3_partOf_6 (by decide) ?_
    refine lv_lstore (lv' := [(5, .long u), (0, .long u), (2, .long w), (4, .int f)]) hx hb dX3_partOf_10 hl (by decide) rfl (fun ls hl => ?_)
    refine lv_lload_n hx hb dX3_partOf_12 rfl (lv_at hl 1 rfl) ?_
    refine xw_callS (n := 1) [.long u] (c_J9_abs_067f4 l u) hx hb hml hown hts hE hS rfl rfl q_33 q_354 q_356 q_355 (by decide) rfl ⟨by rw [hRf]; decide, by rw [hRl]; decide⟩ hl.1 rfl (Nat.le_of_ble_eq_true rfl) dX3_partOf_13 ⟨by rw [hRc]; decide, by rw [hRs]; decide⟩ (fun v H1 locs hp hS => ?_)
    obtain ⟨hv, hh⟩ := hp; subst hv; subst hh
    refine lv_lload_n hx hb dX3_partOf_16 rfl (lv_at hl 2 rfl) ?_
    refine xw_callS (n := 2) [.long (absL u), .long w] (c_X3_commonDivisor l (absL u) w) hx hb hml hown hts hE hS rfl rfl q_21 q_357 q_359 q_358 (by decide) rfl ⟨by rw [hRf]; decide, by rw [hRl]; decide⟩ hl.1 rfl (Nat.le_of_ble_eq_true rfl) dX3_partOf_17 ⟨by rw [hRc]; decide, by rw [hRs]; decide⟩ (fun v H1 locs hp hS => ?_)
    obtain ⟨hv, hh⟩ := hp; subst hv; subst hh
    refine lv_lstore (lv' := [(7, .long (gcdS 200 (absL u) w)), (5, .long u), (0, .long u), (2, .long w), (4, .int f)]) hx hb dX3_partOf_20 hl (by decide) rfl (fun ls hl => ?_)
    refine lv_lload hx hb dX3_partOf_22 (lv_at hl 0 rfl) ?_
    refine lv_lconst (v := 1) hx hb dX3_partOf_24 (by decide) ?_
    refine W.lcmp hx hb dX3_partOf_25 ?_
    refine lv_if_le (tgt := 37) hx hb dX3_partOf_26 (by decide) (fun c26 => ?_) (fun c26 => ?_)
    · skip
      have c26 := (lg_cmp_le _ _).mp c26
      refine lv_lload hx hb dX3_partOf_37 (lv_at hl 1 rfl) ?_
      exact xe_lret hQ hx hb hr hlocks hH hS (Nat.le_refl _) (Nat.le_refl _) (⟨by unfold ptF; rw [if_neg (Int64.not_lt.mpr c26)]; first | (rw [if_pos c2]; done) | (rw [if_neg c2]; done), rfl⟩) dX3_partOf_39
    · skip
      have c26 := mt (lg_cmp_le _ _).mpr c26
      refine lv_lload hx hb dX3_partOf_29 (lv_at hl 1 rfl) ?_
      refine lv_lload hx hb dX3_partOf_31 (lv_at hl 0 rfl) ?_
      refine lv_ldiv hx hb dX3_partOf_33 (fun h0 => c26 (by rw [h0]; decide)) ?_
      refine lv_goto (tgt := 39) hx hb dX3_partOf_34 (by decide) ?_
      exact xe_lret hQ hx hb hr hlocks hH hS (Nat.le_refl _) (Nat.le_refl _) (⟨by unfold ptF; rw [if_pos (Int64.not_le.mp c26)]; first | (rw [if_pos c2]; done) | (rw [if_neg c2]; done), rfl⟩) dX3_partOf_39

set_option maxHeartbeats 4000000 in
set_option maxRecDepth 100000 in
theorem c_X3_compareFractions (l : Launch) {D : va_G} {y : Nat → ClassId} {A : Nat → Prop}  {Hs : Heap} (a u b w : Int64) : Met l yX3_compareFractions (.code yX3_compareFractions cX3_compareFractions 26 (some .int) :: WG) { frames := 1, cells := 0, slots := 0, locals := 25 } (xPc [.long a, .long u, .long b, .long w] D y Hs) (xQ (fun v H1 => v = some (.int (cfS 200 a u b w 1)) ∧ Hs = H1) A) 0 0 A := by
  refine xM_go (by decide) (Nat.le_of_ble_eq_true rfl) (fun p e s m args below meth c ls R Q hx hb hr hlocks hml hown hts hH hE hnm hRf hRl hRc hRs hQ hS hl => ?_)
  have hRf : R.frames = 1 := hRf
  have hRl : R.locals = 25 := hRl
  have hRc : R.cells = 0 := hRc
  have hRs : R.slots = 0 := hRs
  have hl : lv_has ls 26 [(0, .long a), (2, .long u), (4, .long b), (6, .long w)] := hl
  refine lv_lload_n hx hb dX3_compareFractions_0 rfl (lv_at hl 0 rfl) ?_
  refine lv_lstore (lv' := [(8, .long a), (0, .long a), (2, .long u), (4, .long b), (6, .long w)]) hx hb dX3_compareFractions_1 hl (by decide) rfl (fun ls hl => ?_)
  refine lv_lload_n hx hb dX3_compareFractions_3 rfl (lv_at hl 2 rfl) ?_
  refine lv_lstore (lv' := [(10, .long u), (8, .long a), (0, .long a), (2, .long u), (4, .long b), (6, .long w)]) hx hb dX3_compareFractions_4 hl (by decide) rfl (fun ls hl => ?_)
  refine lv_lload hx hb dX3_compareFractions_6 (lv_at hl 4 rfl) ?_
  refine lv_lstore (lv' := [(12, .long b), (10, .long u), (8, .long a), (0, .long a), (2, .long u), (4, .long b), (6, .long w)]) hx hb dX3_compareFractions_8 hl (by decide) rfl (fun ls hl => ?_)
  refine lv_lload hx hb dX3_compareFractions_10 (lv_at hl 6 rfl) ?_
  refine lv_lstore (lv' := [(14, .long w), (12, .long b), (10, .long u), (8, .long a), (0, .long a), (2, .long u), (4, .long b), (6, .long w)]) hx hb dX3_compareFractions_12 hl (by decide) rfl (fun ls hl => ?_)
  refine lv_iconst (v := nI 1) hx hb dX3_compareFractions_14 (by decide) ?_
  refine lv_istore (lv' := [(16, .int (nI 1)), (14, .long w), (12, .long b), (10, .long u), (8, .long a), (0, .long a), (2, .long u), (4, .long b), (6, .long w)]) hx hb dX3_compareFractions_15 hl (by decide) rfl (fun ls hl => ?_)
  refine lv_iconst (v := nI 0) hx hb dX3_compareFractions_17 (by decide) ?_
  refine lv_istore (lv' := [(17, .int (nI 0)), (16, .int (nI 1)), (14, .long w), (12, .long b), (10, .long u), (8, .long a), (0, .long a), (2, .long u), (4, .long b), (6, .long w)]) hx hb dX3_compareFractions_18 hl (by decide) rfl (fun ls hl => ?_)
  have K20 : ∀ (nn : Nat), ∀ (k : Nat) (a2 u2 b2 w2 : Int64) (sg : Int32), (k ≤ 200) → (cfS (200 - k) a2 u2 b2 w2 sg = cfS 200 a u b w 1) → 200 - k < nn → ∀ (locs : List Loc) (ls : Array Slot), va_S A Hs Hs locs → lv_has ls 26 [(17, .int (nI k)), (16, .int sg), (14, .long w2), (12, .long b2), (10, .long u2), (8, .long a2)] → W p l e R s m args below meth c Hs locs 0 0 Q (F0 m 20 ls []) := by
    intro nn
    induction nn with
    | zero => intro k a2 u2 b2 w2 sg hk hc h; exact absurd h (Nat.not_lt_zero _)
    | succ nn ih20 =>
      intro k a2 u2 b2 w2 sg hk hc hn20 locs ls hS hl
      refine lv_iload hx hb dX3_compareFractions_20 (lv_at hl 0 rfl) ?_
      refine lv_sipush (v := nI 200) hx hb dX3_compareFractions_22 (by decide) ?_
      refine lv_icmp_ge (tgt := 130) hx hb dX3_compareFractions_25 (by decide) (fun c25 => ?_) (fun c25 => ?_)
      · skip
        have c25 := ni_le (a := 200) (b := k) (by omega) (by omega) c25
        have K130 : ∀ (u2 w2 : Int64) (sg : Int32), ((if u2 = w2 then nI 0 else if u2 = 0 then sg else -sg) = cfS 200 a u b w 1) → ∀ (locs : List Loc) (ls : Array Slot), va_S A Hs Hs locs → lv_has ls 26 [(16, .int sg), (14, .long w2), (10, .long u2)] → W p l e R s m args below meth c Hs locs 0 0 Q (F0 m 130 ls []) := by
          intro u2 w2 sg hc locs ls hS hl
          refine lv_lload hx hb dX3_compareFractions_130 (lv_at hl 2 rfl) ?_
          refine lv_lload hx hb dX3_compareFractions_132 (lv_at hl 1 rfl) ?_
          refine W.lcmp hx hb dX3_compareFractions_134 ?_
          refine lv_if_ne (tgt := 140) hx hb dX3_compareFractions_135 (by decide) (fun c135 => ?_) (fun c135 => ?_)
          · skip
            have c135 := mt (lg_cmp_eq _ _).mpr c135
            refine lv_lload hx hb dX3_compareFractions_140 (lv_at hl 2 rfl) ?_
            refine lv_lconst (v := 0) hx hb dX3_compareFractions_142 (by decide) ?_
            refine W.lcmp hx hb dX3_compareFractions_143 ?_
            refine lv_if_ne (tgt := 152) hx hb dX3_compareFractions_144 (by decide) (fun c144 => ?_) (fun c144 => ?_)
            · skip
              have c144 := mt (lg_cmp_eq _ _).mpr c144
              refine lv_iload hx hb dX3_compareFractions_152 (lv_at hl 0 rfl) ?_
              refine lv_ineg hx hb dX3_compareFractions_154 ?_
              exact xe_iret hQ hx hb hr hlocks hH hS (Nat.le_refl _) (Nat.le_refl _) (⟨by rw [← hc, if_neg c135, if_neg c144], rfl⟩) dX3_compareFractions_155
            · skip
              have c144 := (lg_cmp_eq _ _).mp c144
              refine lv_iload hx hb dX3_compareFractions_147 (lv_at hl 0 rfl) ?_
              refine lv_goto (tgt := 155) hx hb dX3_compareFractions_149 (by decide) ?_
              exact xe_iret hQ hx hb hr hlocks hH hS (Nat.le_refl _) (Nat.le_refl _) (⟨by rw [← hc, if_neg c135, if_pos c144], rfl⟩) dX3_compareFractions_155
          · skip
            have c135 := (lg_cmp_eq _ _).mp c135
            refine lv_iconst (v := nI 0) hx hb dX3_compareFractions_138 (by decide) ?_
            exact xe_iret hQ hx hb hr hlocks hH hS (Nat.le_refl _) (Nat.le_refl _) (⟨by rw [← hc, if_pos c135], rfl⟩) dX3_compareFractions_139
        exact K130 u2 w2 sg (by rw [← hc]; first | (rw [show 200 - k = 0 by omega]; rfl) | exact (cfS_z (Or.inl c32)).symm | exact (cfS_z (Or.inr c39)).symm) _ _ hS (lv_sub hl [1, 2, 4] rfl)
      · skip
        have c25 := ni_nle (a := 200) (b := k) (by omega) (by omega) c25
        refine lv_lload hx hb dX3_compareFractions_28 (lv_at hl 4 rfl) ?_
        refine lv_lconst (v := 0) hx hb dX3_compareFractions_30 (by decide) ?_
        refine W.lcmp hx hb dX3_compareFractions_31 ?_
        refine lv_if_eq (tgt := 130) hx hb dX3_compareFractions_32 (by decide) (fun c32 => ?_) (fun c32 => ?_)
        · skip
          have c32 := (lg_cmp_eq _ _).mp c32
          have K130 : ∀ (u2 w2 : Int64) (sg : Int32), ((if u2 = w2 then nI 0 else if u2 = 0 then sg else -sg) = cfS 200 a u b w 1) → ∀ (locs : List Loc) (ls : Array Slot), va_S A Hs Hs locs → lv_has ls 26 [(16, .int sg), (14, .long w2), (10, .long u2)] → W p l e R s m args below meth c Hs locs 0 0 Q (F0 m 130 ls []) := by
            intro u2 w2 sg hc locs ls hS hl
            refine lv_lload hx hb dX3_compareFractions_130 (lv_at hl 2 rfl) ?_
            refine lv_lload hx hb dX3_compareFractions_132 (lv_at hl 1 rfl) ?_
            refine W.lcmp hx hb dX3_compareFractions_134 ?_
            refine lv_if_ne (tgt := 140) hx hb dX3_compareFractions_135 (by decide) (fun c135 => ?_) (fun c135 => ?_)
            · skip
              have c135 := mt (lg_cmp_eq _ _).mpr c135
              refine lv_lload hx hb dX3_compareFractions_140 (lv_at hl 2 rfl) ?_
              refine lv_lconst (v := 0) hx hb dX3_compareFractions_142 (by decide) ?_
              refine W.lcmp hx hb dX3_compareFractions_143 ?_
              refine lv_if_ne (tgt := 152) hx hb dX3_compareFractions_144 (by decide) (fun c144 => ?_) (fun c144 => ?_)
              · skip
                have c144 := mt (lg_cmp_eq _ _).mpr c144
                refine lv_iload hx hb dX3_compareFractions_152 (lv_at hl 0 rfl) ?_
                refine lv_ineg hx hb dX3_compareFractions_154 ?_
                exact xe_iret hQ hx hb hr hlocks hH hS (Nat.le_refl _) (Nat.le_refl _) (⟨by rw [← hc, if_neg c135, if_neg c144], rfl⟩) dX3_compareFractions_155
              · skip
                have c144 := (lg_cmp_eq _ _).mp c144
                refine lv_iload hx hb dX3_compareFractions_147 (lv_at hl 0 rfl) ?_
                refine lv_goto (tgt := 155) hx hb dX3_compareFractions_149 (by decide) ?_
                exact xe_iret hQ hx hb hr hlocks hH hS (Nat.le_refl _) (Nat.le_refl _) (⟨by rw [← hc, if_neg c135, if_pos c144], rfl⟩) dX3_compareFractions_155
            · skip
              have c135 := (lg_cmp_eq _ _).mp c135
              refine lv_iconst (v := nI 0) hx hb dX3_compareFractions_138 (by decide) ?_
              exact xe_iret hQ hx hb hr hlocks hH hS (Nat.le_refl _) (Nat.le_refl _) (⟨by rw [← hc, if_pos c135], rfl⟩) dX3_compareFractions_139
          exact K130 u2 w2 sg (by rw [← hc]; first | (rw [show 200 - k = 0 by omega]; rfl) | exact (cfS_z (Or.inl c32)).symm | exact (cfS_z (Or.inr c39)).symm) _ _ hS (lv_sub hl [1, 2, 4] rfl)
        · skip
          have c32 := mt (lg_cmp_eq _ _).mpr c32
          refine lv_lload hx hb dX3_compareFractions_35 (lv_at hl 2 rfl) ?_
          refine lv_lconst (v := 0) hx hb dX3_compareFractions_37 (by decide) ?_
          refine W.lcmp hx hb dX3_compareFractions_38 ?_
          refine lv_if_eq (tgt := 130) hx hb dX3_compareFractions_39 (by decide) (fun c39 => ?_) (fun c39 => ?_)
          · skip
            have c39 := (lg_cmp_eq _ _).mp c39
            have K130 : ∀ (u2 w2 : Int64) (sg : Int32), ((if u2 = w2 then nI 0 else if u2 = 0 then sg else -sg) = cfS 200 a u b w 1) → ∀ (locs : List Loc) (ls : Array Slot), va_S A Hs Hs locs → lv_has ls 26 [(16, .int sg), (14, .long w2), (10, .long u2)] → W p l e R s m args below meth c Hs locs 0 0 Q (F0 m 130 ls []) := by
              intro u2 w2 sg hc locs ls hS hl
              refine lv_lload hx hb dX3_compareFractions_130 (lv_at hl 2 rfl) ?_
              refine lv_lload hx hb dX3_compareFractions_132 (lv_at hl 1 rfl) ?_
              refine W.lcmp hx hb dX3_compareFractions_134 ?_
              refine lv_if_ne (tgt := 140) hx hb dX3_compareFractions_135 (by decide) (fun c135 => ?_) (fun c135 => ?_)
              · skip
                have c135 := mt (lg_cmp_eq _ _).mpr c135
                refine lv_lload hx hb dX3_compareFractions_140 (lv_at hl 2 rfl) ?_
                refine lv_lconst (v := 0) hx hb dX3_compareFractions_142 (by decide) ?_
                refine W.lcmp hx hb dX3_compareFractions_143 ?_
                refine lv_if_ne (tgt := 152) hx hb dX3_compareFractions_144 (by decide) (fun c144 => ?_) (fun c144 => ?_)
                · skip
                  have c144 := mt (lg_cmp_eq _ _).mpr c144
                  refine lv_iload hx hb dX3_compareFractions_152 (lv_at hl 0 rfl) ?_
                  refine lv_ineg hx hb dX3_compareFractions_154 ?_
                  exact xe_iret hQ hx hb hr hlocks hH hS (Nat.le_refl _) (Nat.le_refl _) (⟨by rw [← hc, if_neg c135, if_neg c144], rfl⟩) dX3_compareFractions_155
                · skip
                  have c144 := (lg_cmp_eq _ _).mp c144
                  refine lv_iload hx hb dX3_compareFractions_147 (lv_at hl 0 rfl) ?_
                  refine lv_goto (tgt := 155) hx hb dX3_compareFractions_149 (by decide) ?_
                  exact xe_iret hQ hx hb hr hlocks hH hS (Nat.le_refl _) (Nat.le_refl _) (⟨by rw [← hc, if_neg c135, if_pos c144], rfl⟩) dX3_compareFractions_155
              · skip
                have c135 := (lg_cmp_eq _ _).mp c135
                refine lv_iconst (v := nI 0) hx hb dX3_compareFractions_138 (by decide) ?_
                exact xe_iret hQ hx hb hr hlocks hH hS (Nat.le_refl _) (Nat.le_refl _) (⟨by rw [← hc, if_pos c135], rfl⟩) dX3_compareFractions_139
            exact K130 u2 w2 sg (by rw [← hc]; first | (rw [show 200 - k = 0 by omega]; rfl) | exact (cfS_z (Or.inl c32)).symm | exact (cfS_z (Or.inr c39)).symm) _ _ hS (lv_sub hl [1, 2, 4] rfl)
          · skip
            have c39 := mt (lg_cmp_eq _ _).mpr c39
            refine lv_lload hx hb dX3_compareFractions_42 (lv_at hl 5 rfl) ?_
            refine lv_lload hx hb dX3_compareFractions_44 (lv_at hl 4 rfl) ?_
            refine xw_callS (n := 2) [.long a2, .long u2] (c_J9_floorDiv_f86c9 l a2 u2 c32) hx hb hml hown hts hE hS rfl rfl q_33 q_385 q_387 q_386 (by decide) rfl ⟨by rw [hRf]; decide, by rw [hRl]; decide⟩ hl.1 rfl (Nat.le_of_ble_eq_true rfl) dX3_compareFractions_46 ⟨by rw [hRc]; decide, by rw [hRs]; decide⟩ (fun v H1 locs hp hS => ?_)
            obtain ⟨hv, hh⟩ := hp; subst hv; subst hh
            refine lv_lstore (lv' := [(18, .long (fdL a2 u2)), (17, .int (nI k)), (16, .int sg), (14, .long w2), (12, .long b2), (10, .long u2), (8, .long a2)]) hx hb dX3_compareFractions_49 hl (by decide) rfl (fun ls hl => ?_)
            refine lv_lload hx hb dX3_compareFractions_51 (lv_at hl 4 rfl) ?_
            refine lv_lload hx hb dX3_compareFractions_53 (lv_at hl 3 rfl) ?_
            refine xw_callS (n := 2) [.long b2, .long w2] (c_J9_floorDiv_f86c9 l b2 w2 c39) hx hb hml hown hts hE hS rfl rfl q_33 q_385 q_387 q_386 (by decide) rfl ⟨by rw [hRf]; decide, by rw [hRl]; decide⟩ hl.1 rfl (Nat.le_of_ble_eq_true rfl) dX3_compareFractions_55 ⟨by rw [hRc]; decide, by rw [hRs]; decide⟩ (fun v H1 locs hp hS => ?_)
            obtain ⟨hv, hh⟩ := hp; subst hv; subst hh
            refine lv_lstore (lv' := [(20, .long (fdL b2 w2)), (18, .long (fdL a2 u2)), (17, .int (nI k)), (16, .int sg), (14, .long w2), (12, .long b2), (10, .long u2), (8, .long a2)]) hx hb dX3_compareFractions_58 hl (by decide) rfl (fun ls hl => ?_)
            refine lv_lload hx hb dX3_compareFractions_60 (lv_at hl 1 rfl) ?_
            refine lv_lload hx hb dX3_compareFractions_62 (lv_at hl 0 rfl) ?_
            refine W.lcmp hx hb dX3_compareFractions_64 ?_
            refine lv_if_eq (tgt := 85) hx hb dX3_compareFractions_65 (by decide) (fun c65 => ?_) (fun c65 => ?_)
            · skip
              have c65 := (lg_cmp_eq _ _).mp c65
              refine lv_lload hx hb dX3_compareFractions_85 (lv_at hl 7 rfl) ?_
              refine lv_lload hx hb dX3_compareFractions_87 (lv_at hl 6 rfl) ?_
              refine xw_callS (n := 2) [.long a2, .long u2] (c_J9_floorMod_f86c9 l a2 u2 c32) hx hb hml hown hts hE hS rfl rfl q_33 q_388 q_390 q_389 (by decide) rfl ⟨by rw [hRf]; decide, by rw [hRl]; decide⟩ hl.1 rfl (Nat.le_of_ble_eq_true rfl) dX3_compareFractions_89 ⟨by rw [hRc]; decide, by rw [hRs]; decide⟩ (fun v H1 locs hp hS => ?_)
              obtain ⟨hv, hh⟩ := hp; subst hv; subst hh
              refine lv_lstore (lv' := [(22, .long (fmL a2 u2)), (20, .long (fdL b2 w2)), (18, .long (fdL a2 u2)), (17, .int (nI k)), (16, .int sg), (14, .long w2), (12, .long b2), (10, .long u2), (8, .long a2)]) hx hb dX3_compareFractions_92 hl (by decide) rfl (fun ls hl => ?_)
              refine lv_lload hx hb dX3_compareFractions_94 (lv_at hl 6 rfl) ?_
              refine lv_lload hx hb dX3_compareFractions_96 (lv_at hl 5 rfl) ?_
              refine xw_callS (n := 2) [.long b2, .long w2] (c_J9_floorMod_f86c9 l b2 w2 c39) hx hb hml hown hts hE hS rfl rfl q_33 q_388 q_390 q_389 (by decide) rfl ⟨by rw [hRf]; decide, by rw [hRl]; decide⟩ hl.1 rfl (Nat.le_of_ble_eq_true rfl) dX3_compareFractions_98 ⟨by rw [hRc]; decide, by rw [hRs]; decide⟩ (fun v H1 locs hp hS => ?_)
              obtain ⟨hv, hh⟩ := hp; subst hv; subst hh
              refine lv_lstore (lv' := [(24, .long (fmL b2 w2)), (22, .long (fmL a2 u2)), (20, .long (fdL b2 w2)), (18, .long (fdL a2 u2)), (17, .int (nI k)), (16, .int sg), (14, .long w2), (12, .long b2), (10, .long u2), (8, .long a2)]) hx hb dX3_compareFractions_101 hl (by decide) rfl (fun ls hl => ?_)
              refine lv_lload hx hb dX3_compareFractions_103 (lv_at hl 8 rfl) ?_
              refine lv_lstore (lv' := [(8, .long u2), (24, .long (fmL b2 w2)), (22, .long (fmL a2 u2)), (20, .long (fdL b2 w2)), (18, .long (fdL a2 u2)), (17, .int (nI k)), (16, .int sg), (14, .long w2), (12, .long b2), (10, .long u2)]) hx hb dX3_compareFractions_105 hl (by decide) rfl (fun ls hl => ?_)
              refine lv_lload hx hb dX3_compareFractions_107 (lv_at hl 2 rfl) ?_
              refine lv_lstore (lv' := [(10, .long (fmL a2 u2)), (8, .long u2), (24, .long (fmL b2 w2)), (22, .long (fmL a2 u2)), (20, .long (fdL b2 w2)), (18, .long (fdL a2 u2)), (17, .int (nI k)), (16, .int sg), (14, .long w2), (12, .long b2)]) hx hb dX3_compareFractions_109 hl (by decide) rfl (fun ls hl => ?_)
              refine lv_lload hx hb dX3_compareFractions_111 (lv_at hl 8 rfl) ?_
              refine lv_lstore (lv' := [(12, .long w2), (10, .long (fmL a2 u2)), (8, .long u2), (24, .long (fmL b2 w2)), (22, .long (fmL a2 u2)), (20, .long (fdL b2 w2)), (18, .long (fdL a2 u2)), (17, .int (nI k)), (16, .int sg), (14, .long w2)]) hx hb dX3_compareFractions_113 hl (by decide) rfl (fun ls hl => ?_)
              refine lv_lload hx hb dX3_compareFractions_115 (lv_at hl 3 rfl) ?_
              refine lv_lstore (lv' := [(14, .long (fmL b2 w2)), (12, .long w2), (10, .long (fmL a2 u2)), (8, .long u2), (24, .long (fmL b2 w2)), (22, .long (fmL a2 u2)), (20, .long (fdL b2 w2)), (18, .long (fdL a2 u2)), (17, .int (nI k)), (16, .int sg)]) hx hb dX3_compareFractions_117 hl (by decide) rfl (fun ls hl => ?_)
              refine lv_iload hx hb dX3_compareFractions_119 (lv_at hl 9 rfl) ?_
              refine lv_ineg hx hb dX3_compareFractions_121 ?_
              refine lv_istore (lv' := [(16, .int (-sg)), (14, .long (fmL b2 w2)), (12, .long w2), (10, .long (fmL a2 u2)), (8, .long u2), (24, .long (fmL b2 w2)), (22, .long (fmL a2 u2)), (20, .long (fdL b2 w2)), (18, .long (fdL a2 u2)), (17, .int (nI k))]) hx hb dX3_compareFractions_122 hl (by decide) rfl (fun ls hl => ?_)
              refine lv_iinc (v := nI (k + 1)) (lv' := [(17, .int (nI (k + 1))), (16, .int (-sg)), (14, .long (fmL b2 w2)), (12, .long w2), (10, .long (fmL a2 u2)), (8, .long u2), (24, .long (fmL b2 w2)), (22, .long (fmL a2 u2)), (20, .long (fdL b2 w2)), (18, .long (fdL a2 u2))]) hx hb dX3_compareFractions_124 hl (k := 9) rfl (nI_1 _) (by decide) rfl (fun ls hl => ?_)
              refine lv_goto (tgt := 20) hx hb dX3_compareFractions_127 (by decide) ?_
              exact ih20 (k + 1) u2 (fmL a2 u2) w2 (fmL b2 w2) (-sg) (by omega) (by rw [← hc, show 200 - k = (200 - (k + 1)) + 1 by omega]; exact (cfS_eq c32 c39 c65).symm) (by omega) _ _ hS (lv_sub hl [0, 1, 2, 3, 4, 5] rfl)
            · skip
              have c65 := mt (lg_cmp_eq _ _).mpr c65
              refine lv_lload hx hb dX3_compareFractions_68 (lv_at hl 1 rfl) ?_
              refine lv_lload hx hb dX3_compareFractions_70 (lv_at hl 0 rfl) ?_
              refine W.lcmp hx hb dX3_compareFractions_72 ?_
              refine lv_if_le (tgt := 81) hx hb dX3_compareFractions_73 (by decide) (fun c73 => ?_) (fun c73 => ?_)
              · skip
                have c73 := (lg_cmp_le _ _).mp c73
                refine lv_iload hx hb dX3_compareFractions_81 (lv_at hl 3 rfl) ?_
                refine lv_ineg hx hb dX3_compareFractions_83 ?_
                exact xe_iret hQ hx hb hr hlocks hH hS (Nat.le_refl _) (Nat.le_refl _) (⟨by rw [← hc, show 200 - k = (200 - (k + 1)) + 1 by omega]; rw [cfS_lt c32 c39 c65 c73], rfl⟩) dX3_compareFractions_84
              · skip
                have c73 := mt (lg_cmp_le _ _).mpr c73
                refine lv_iload hx hb dX3_compareFractions_76 (lv_at hl 3 rfl) ?_
                refine lv_goto (tgt := 84) hx hb dX3_compareFractions_78 (by decide) ?_
                exact xe_iret hQ hx hb hr hlocks hH hS (Nat.le_refl _) (Nat.le_refl _) (⟨by rw [← hc, show 200 - k = (200 - (k + 1)) + 1 by omega]; rw [cfS_gt c32 c39 c73], rfl⟩) dX3_compareFractions_84
  exact K20 _ 0 a u b w 1 (by omega) rfl (Nat.lt_succ_self _) _ _ hS (lv_sub hl [0, 1, 2, 3, 4, 5] rfl)

set_option maxHeartbeats 4000000 in
set_option maxRecDepth 100000 in
theorem c_X3_join (l : Launch) {D : va_G} {y : Nat → ClassId} {A : Nat → Prop} {ad : xL → Nat} {bl : xM} {z : xC} {g : Nat → Int32} {pl : Nat → Int32} {kn : Nat → Int64} {rw : Nat → Nat → Int64} {mi : Nat → Int64} {un : Int32} {fR fO : Nat → Nat → Option va_E} {Hs : Heap} (hP : xW D A ad (wU (wB y ad bl z g pl kn rw mi un) fR fO) Hs) {S : Nat} (hS8 : S < 256) : Met l yX3_join (.code yX3_join cX3_join 3 none :: WG) { frames := 1, cells := 0, slots := 0, locals := 21 } (xPc [.ref (ad (0, 0)), .int (nI S)] D y Hs) (xQ (fun v H1 => v = none ∧ xW D A ad (wU (wB y ad bl z ((fun j => if S / 2 ^ j % 2 = 0 then g j else nI S)) pl kn rw mi un) fR fO) H1) A) 0 0 A := by
  refine xM_go (by decide) (Nat.le_of_ble_eq_true rfl) (fun p e s m args below meth c ls R Q hx hb hr hlocks hml hown hts hH hE hnm hRf hRl hRc hRs hQ hS hl => ?_)
  have hRf : R.frames = 1 := hRf
  have hRl : R.locals = 21 := hRl
  have hRc : R.cells = 0 := hRc
  have hRs : R.slots = 0 := hRs
  have hl : lv_has ls 3 [(0, .ref (ad (0, 0))), (1, .int (nI S))] := hl
  refine lv_iconst (v := nI 0) hx hb dX3_join_0 (by decide) ?_
  refine lv_istore_n (lv' := [(2, .int (nI 0)), (0, .ref (ad (0, 0))), (1, .int (nI S))]) hx hb dX3_join_1 rfl hl (by decide) rfl (fun ls hl => ?_)
  have K2 : ∀ (nn : Nat), ∀ (k : Nat) (g2 : Nat → Int32), (k ≤ 8) → (∀ j, g2 j = if j < k ∧ ¬ S / 2 ^ j % 2 = 0 then nI S else g j) → 8 - k < nn → ∀ (H : Heap) (locs : List Loc) (ls : Array Slot), xW D A ad (wU (wB y ad bl z g2 pl kn rw mi un) fR fO) H → va_S A Hs H locs → lv_has ls 3 [(2, .int (nI k)), (1, .int (nI S)), (0, .ref (ad (0, 0)))] → W p l e R s m args below meth c H locs 0 0 Q (F0 m 2 ls []) := by
    intro nn
    induction nn with
    | zero => intro k g2 hk hg h; exact absurd h (Nat.not_lt_zero _)
    | succ nn ih2 =>
      intro k g2 hk hg hn2 H locs ls hP hS hl
      refine lv_iload_n hx hb dX3_join_2 rfl (lv_at hl 0 rfl) ?_
      refine lv_bipush (v := nI 8) hx hb dX3_join_3 (by decide) ?_
      refine lv_icmp_ge (tgt := 29) hx hb dX3_join_5 (by decide) (fun c5 => ?_) (fun c5 => ?_)
      · skip
        have c5 := ni_le (a := 8) (b := k) (by omega) (by omega) c5
        exact xe_vret hQ hx hb hr hlocks hH hS (Nat.le_refl _) (Nat.le_refl _) (⟨rfl, xW_gg hP (fun j hj => by rw [hg j]; exact join_c (by omega))⟩) dX3_join_29
      · skip
        have c5 := ni_nle (a := 8) (b := k) (by omega) (by omega) c5
        refine lv_iload_n hx hb dX3_join_8 rfl (lv_at hl 1 rfl) ?_
        refine lv_iload_n hx hb dX3_join_9 rfl (lv_at hl 0 rfl) ?_
        refine xw_callS (n := 2) [.int (nI S), .int (nI k)] (c_X3_contains l (nI S) k) hx hb hml hown hts hE hS rfl rfl q_21 q_259 q_261 q_260 (by decide) rfl ⟨by rw [hRf]; decide, by rw [hRl]; decide⟩ hl.1 rfl (Nat.le_of_ble_eq_true rfl) dX3_join_10 ⟨by rw [hRc]; decide, by rw [hRs]; decide⟩ (fun v H1 locs hp hS => ?_)
        obtain ⟨hv, hh⟩ := hp; subst hv; subst hh
        refine lv_if_eq (tgt := 23) hx hb dX3_join_13 (by decide) (fun c13 => ?_) (fun c13 => ?_)
        · skip
          have c13 : S / 2 ^ k % 2 = 0 := (m_bit S hS8 k (by omega)).mp (by
            by_cases hh : nI S >>> (nI k &&& 31) &&& nI 1 = 0
            · exact hh
            · rw [if_neg hh] at c13; exact absurd c13 (by decide))
          refine lv_iinc (v := nI (k + 1)) (lv' := [(2, .int (nI (k + 1))), (1, .int (nI S)), (0, .ref (ad (0, 0)))]) hx hb dX3_join_23 hl (k := 0) rfl (nI_1 _) (by decide) rfl (fun ls hl => ?_)
          refine lv_goto (tgt := 2) hx hb dX3_join_26 (by decide) ?_
          exact ih2 (k + 1) g2 (by omega) (fun j => by first | exact join_a hg c13 j | exact join_b hg c13 j) (by omega) _ _ _ hP hS (lv_sub hl [0, 1, 2] rfl)
        · skip
          have c13 : ¬ S / 2 ^ k % 2 = 0 := fun h0 => c13 (by rw [if_pos ((m_bit S hS8 k (by omega)).mpr h0)]; rfl)
          refine lv_aload_n hx hb dX3_join_16 rfl (lv_at hl 2 rfl) ?_
          refine fg_X3_groups hx hb hts hown hE hP q_104 dX3_join_17 ?_
          refine lv_iload_n hx hb dX3_join_20 rfl (lv_at hl 0 rfl) ?_
          refine lv_iload_n hx hb dX3_join_21 rfl (lv_at hl 1 rfl) ?_
          refine as_groups hx hb hE hS hP (j := k) (by omega) dX3_join_22 (fun H locs hP hS => ?_)
          refine lv_iinc (v := nI (k + 1)) (lv' := [(2, .int (nI (k + 1))), (1, .int (nI S)), (0, .ref (ad (0, 0)))]) hx hb dX3_join_23 hl (k := 0) rfl (nI_1 _) (by decide) rfl (fun ls hl => ?_)
          refine lv_goto (tgt := 2) hx hb dX3_join_26 (by decide) ?_
          exact ih2 (k + 1) (upd g2 k (nI S)) (by omega) (fun j => by first | exact join_a hg c13 j | exact join_b hg c13 j) (by omega) _ _ _ hP hS (lv_sub hl [0, 1, 2] rfl)
  exact K2 _ 0 g (by omega) (fun j => by simp) (Nat.lt_succ_self _) _ _ _ hP hS (lv_sub hl [0, 2, 1] rfl)

set_option maxHeartbeats 4000000 in
set_option maxRecDepth 100000 in
theorem c_X3_group (l : Launch) {D : va_G} {y : Nat → ClassId} {A : Nat → Prop} {ad : xL → Nat} {bl : xM} {z : xC} {g : Nat → Int32} {pl : Nat → Int32} {kn : Nat → Int64} {rw : Nat → Nat → Int64} {mi : Nat → Int64} {un : Int32} {fR fO : Nat → Nat → Option va_E} {Hs : Heap} (hP : xW D A ad (wU (wB y ad bl z g pl kn rw mi un) fR fO) Hs) (hz : bOk bl z) (t : Int32) : Met l yX3_group (.code yX3_group cX3_group 4 none :: WG) { frames := 3, cells := 0, slots := 0, locals := 64 } (xPc [.ref (ad (0, 0)), .int t] D y Hs) (xQ (fun v H1 => v = none ∧ xW D A ad (wU (wB y ad bl z ((sG z t)) pl kn rw mi un) fR fO) H1) A) 0 0 A := by
  refine xM_go (by decide) (Nat.le_of_ble_eq_true rfl) (fun p e s m args below meth c ls R Q hx hb hr hlocks hml hown hts hH hE hnm hRf hRl hRc hRs hQ hS hl => ?_)
  have hRf : R.frames = 3 := hRf
  have hRl : R.locals = 64 := hRl
  have hRc : R.cells = 0 := hRc
  have hRs : R.slots = 0 := hRs
  have hl : lv_has ls 4 [(0, .ref (ad (0, 0))), (1, .int t)] := hl
  have hw := hz.w
  have hN := hw.N
  have hE20 := hw.E
  refine lv_iconst (v := nI 0) hx hb dX3_group_0 (by decide) ?_
  refine lv_istore_n (lv' := [(2, .int (nI 0)), (0, .ref (ad (0, 0))), (1, .int t)]) hx hb dX3_group_1 rfl hl (by decide) rfl (fun ls hl => ?_)
  have K2 : ∀ (nn : Nat), ∀ (k : Nat) (g2 : Nat → Int32), (k ≤ 8) → (∀ j, j < k → g2 j = nI (2 ^ j)) → 8 - k < nn → ∀ (H : Heap) (locs : List Loc) (ls : Array Slot), xW D A ad (wU (wB y ad bl z g2 pl kn rw mi un) fR fO) H → va_S A Hs H locs → lv_has ls 4 [(2, .int (nI k)), (1, .int t), (0, .ref (ad (0, 0)))] → W p l e R s m args below meth c H locs 0 0 Q (F0 m 2 ls []) := by
    intro nn
    induction nn with
    | zero => intro k g2 hk hg h; exact absurd h (Nat.not_lt_zero _)
    | succ nn ih2 =>
      intro k g2 hk hg hn2 H locs ls hP hS hl
      refine lv_iload_n hx hb dX3_group_2 rfl (lv_at hl 0 rfl) ?_
      refine lv_bipush (v := nI 8) hx hb dX3_group_3 (by decide) ?_
      refine lv_icmp_ge (tgt := 23) hx hb dX3_group_5 (by decide) (fun c5 => ?_) (fun c5 => ?_)
      · skip
        have c5 := ni_le (a := 8) (b := k) (by omega) (by omega) c5
        refine lv_iconst (v := nI 0) hx hb dX3_group_23 (by decide) ?_
        refine lv_istore_n (lv' := [(2, .int (nI 0)), (1, .int t), (0, .ref (ad (0, 0)))]) hx hb dX3_group_24 rfl hl (by decide) rfl (fun ls hl => ?_)
        have K25 : ∀ (nn : Nat), ∀ (i : Nat), (i ≤ nE z) → nE z - i < nn → ∀ (H : Heap) (locs : List Loc) (ls : Array Slot), xW D A ad (wU (wB y ad bl z ((fun j => nI (gpS z t i j))) pl kn rw mi un) fR fO) H → va_S A Hs H locs → lv_has ls 4 [(2, .int (nI i)), (1, .int t), (0, .ref (ad (0, 0)))] → W p l e R s m args below meth c H locs 0 0 Q (F0 m 25 ls []) := by
          intro nn
          induction nn with
          | zero => intro i hi h; exact absurd h (Nat.not_lt_zero _)
          | succ nn ih25 =>
            intro i hi hn25 H locs ls hP hS hl
            refine lv_iload_n hx hb dX3_group_25 rfl (lv_at hl 0 rfl) ?_
            refine lv_aload_n hx hb dX3_group_26 rfl (lv_at hl 2 rfl) ?_
            refine fg_X3_elements hx hb hts hown hE hP q_103 dX3_group_27 ?_
            refine xw_callV (C := "java/util/ArrayList") (n := 0) [] (c_size_elements l hP ) hx hb hml hown hts hE hS (xw_recv hE hP (3, 0) rfl rfl) rfl rfl q_24 q_123 q_126 q_124 q_125 (by decide) rfl ⟨by rw [hRf]; decide, by rw [hRl]; decide⟩ hl.1 rfl (Nat.le_of_ble_eq_true rfl) dX3_group_30 ⟨by rw [hRc]; decide, by rw [hRs]; decide⟩ (fun v H1 locs hp hS => ?_)
            obtain ⟨hv, hh⟩ := hp; subst hv; subst hh
            refine lv_icmp_ge (tgt := 92) hx hb dX3_group_33 (by decide) (fun c33 => ?_) (fun c33 => ?_)
            · skip
              have c33 := ni_le (a := (nE z)) (b := i) (by omega) (by omega) c33
              exact xe_vret hQ hx hb hr hlocks hH hS (Nat.le_refl _) (Nat.le_refl _) (⟨rfl, hP.ct (by rw [show i = nE z by omega]; rfl)⟩) dX3_group_92
            · skip
              have c33 := ni_nle (a := (nE z)) (b := i) (by omega) (by omega) c33
              refine lv_aload_n hx hb dX3_group_36 rfl (lv_at hl 2 rfl) ?_
              refine fg_X3_elements hx hb hts hown hE hP q_103 dX3_group_37 ?_
              refine lv_iload_n hx hb dX3_group_40 rfl (lv_at hl 0 rfl) ?_
              refine xw_callV (C := "java/util/ArrayList") (n := 1) [.int (nI i)] (c_get_elements l hP hz (by omega)) hx hb hml hown hts hE hS (xw_recv hE hP (3, 0) rfl rfl) rfl rfl q_24 q_195 q_198 q_196 q_197 (by decide) rfl ⟨by rw [hRf]; decide, by rw [hRl]; decide⟩ hl.1 rfl (Nat.le_of_ble_eq_true rfl) dX3_group_41 ⟨by rw [hRc]; decide, by rw [hRs]; decide⟩ (fun v H1 locs hp hS => ?_)
              obtain ⟨hv, hh⟩ := hp; subst hv; subst hh
              refine xc_el (i := i) hx hb hts hown hE hP (by first | assumption | omega) q_209 dX3_group_44 ?_
              have ha8 := hw.a8 (i := i) (by omega)
              have hb8 := hw.b8 (i := i) (by omega)
              refine lv_astore_n (lv' := [(3, .ref (ad (13, i))), (2, .int (nI i)), (1, .int t), (0, .ref (ad (0, 0)))]) hx hb dX3_group_47 rfl hl (by decide) rfl (fun ls hl => ?_)
              refine lv_aload_n hx hb dX3_group_48 rfl (lv_at hl 0 rfl) ?_
              refine fg_X0_isSource (i := i) (by first | assumption | omega) hx hb hts hown hE hP q_554 dX3_group_49 ?_
              refine lv_if_ne (tgt := 86) hx hb dX3_group_52 (by decide) (fun c52 => ?_) (fun c52 => ?_)
              · skip
                refine lv_iinc (v := nI (i + 1)) (lv' := [(2, .int (nI (i + 1))), (3, .ref (ad (13, i))), (1, .int t), (0, .ref (ad (0, 0)))]) hx hb dX3_group_86 hl (k := 1) rfl (nI_1 _) (by decide) rfl (fun ls hl => ?_)
                refine lv_goto (tgt := 25) hx hb dX3_group_89 (by decide) ?_
                exact ih25 (i + 1) (by omega) (by omega) _ _ _ (hP.ct (by first | rw [grp_0 c52] | rw [grp_1 hs0 c60] | rw [grp_2 hs0 c60])) hS (lv_sub hl [0, 2, 3] rfl)
              · skip
                have hs0 := c52
                refine lv_aload_n hx hb dX3_group_55 rfl (lv_at hl 0 rfl) ?_
                refine lv_iload_n hx hb dX3_group_56 rfl (lv_at hl 2 rfl) ?_
                refine xw_callV (C := "NetlistBench$Element") (n := 1) [.int t] (c_X0_runsAt l hP hw (by omega) t) hx hb hml hown hts hE hS (xr_el hE hP (by first | assumption | omega)) rfl rfl q_40 q_246 q_249 q_247 q_248 (by decide) rfl ⟨by rw [hRf]; decide, by rw [hRl]; decide⟩ hl.1 rfl (Nat.le_of_ble_eq_true rfl) dX3_group_57 ⟨by rw [hRc]; decide, by rw [hRs]; decide⟩ (fun v H1 locs hp hS => ?_)
                obtain ⟨hv, hh⟩ := hp; subst hv; subst hh
                refine lv_if_eq (tgt := 86) hx hb dX3_group_60 (by decide) (fun c60 => ?_) (fun c60 => ?_)
                · skip
                  refine lv_iinc (v := nI (i + 1)) (lv' := [(2, .int (nI (i + 1))), (3, .ref (ad (13, i))), (1, .int t), (0, .ref (ad (0, 0)))]) hx hb dX3_group_86 hl (k := 1) rfl (nI_1 _) (by decide) rfl (fun ls hl => ?_)
                  refine lv_goto (tgt := 25) hx hb dX3_group_89 (by decide) ?_
                  exact ih25 (i + 1) (by omega) (by omega) _ _ _ (hP.ct (by first | rw [grp_0 c52] | rw [grp_1 hs0 c60] | rw [grp_2 hs0 c60])) hS (lv_sub hl [0, 2, 3] rfl)
                · skip
                  refine lv_aload_n hx hb dX3_group_63 rfl (lv_at hl 3 rfl) ?_
                  refine lv_aload_n hx hb dX3_group_64 rfl (lv_at hl 3 rfl) ?_
                  refine fg_X3_groups hx hb hts hown hE hP q_104 dX3_group_65 ?_
                  refine lv_aload_n hx hb dX3_group_68 rfl (lv_at hl 0 rfl) ?_
                  refine fg_X0_a (i := i) (by first | assumption | omega) hx hb hts hown hE hP q_556 dX3_group_69 ?_
                  refine xt_i (w := nI (cA z i)) (hw.a (by omega)) ?_
                  refine al_groups hx hb hE hP (j := cA z i) (by omega) dX3_group_72 ?_
                  refine xt_i (w := nI (gpS z t i (cA z i))) (rfl) ?_
                  refine lv_aload_n hx hb dX3_group_73 rfl (lv_at hl 3 rfl) ?_
                  refine fg_X3_groups hx hb hts hown hE hP q_104 dX3_group_74 ?_
                  refine lv_aload_n hx hb dX3_group_77 rfl (lv_at hl 0 rfl) ?_
                  refine fg_X0_b (i := i) (by first | assumption | omega) hx hb hts hown hE hP q_558 dX3_group_78 ?_
                  refine xt_i (w := nI (cB z i)) (hw.b (by omega)) ?_
                  refine al_groups hx hb hE hP (j := cB z i) (by omega) dX3_group_81 ?_
                  refine xt_i (w := nI (gpS z t i (cB z i))) (rfl) ?_
                  refine lv_ior hx hb dX3_group_82 ?_
                  refine xt_i (w := nI (gpS z t i (cA z i) ||| gpS z t i (cB z i))) (m_or _ (gp_lt z hw t i (by omega) _ (by omega)) _ (gp_lt z hw t i (by omega) _ (by omega))) ?_
                  refine xw_callV (C := "NetlistBench") (n := 1) [.int (nI (gpS z t i (cA z i) ||| gpS z t i (cB z i)))] (c_X3_join l hP (Nat.or_lt_two_pow (n := 8) (gp_lt z hw t i (by omega) _ (by omega)) (gp_lt z hw t i (by omega) _ (by omega)))) hx hb hml hown hts hE hS (xw_recv hE hP (0, 0) rfl rfl) rfl rfl q_21 q_255 q_258 q_257 q_5 (by decide) rfl ⟨by rw [hRf]; decide, by rw [hRl]; decide⟩ hl.1 rfl (Nat.le_of_ble_eq_true rfl) dX3_group_83 ⟨by rw [hRc]; decide, by rw [hRs]; decide⟩ (fun v H1 locs hp hS => ?_)
                  obtain ⟨hv, hP⟩ := hp; subst hv
                  generalize H1 = H at hP hS ⊢
                  refine lv_iinc (v := nI (i + 1)) (lv' := [(2, .int (nI (i + 1))), (3, .ref (ad (13, i))), (1, .int t), (0, .ref (ad (0, 0)))]) hx hb dX3_group_86 hl (k := 1) rfl (nI_1 _) (by decide) rfl (fun ls hl => ?_)
                  refine lv_goto (tgt := 25) hx hb dX3_group_89 (by decide) ?_
                  exact ih25 (i + 1) (by omega) (by omega) _ _ _ (hP.ct (by first | rw [grp_0 c52] | rw [grp_1 hs0 c60] | rw [grp_2 hs0 c60])) hS (lv_sub hl [0, 2, 3] rfl)
        exact K25 _ 0 (by omega) (Nat.lt_succ_self _) _ _ _ (xW_gg hP (fun j hj => hg j (by omega))) hS (lv_sub hl [0, 1, 2] rfl)
      · skip
        have c5 := ni_nle (a := 8) (b := k) (by omega) (by omega) c5
        refine lv_aload_n hx hb dX3_group_8 rfl (lv_at hl 2 rfl) ?_
        refine fg_X3_groups hx hb hts hown hE hP q_104 dX3_group_9 ?_
        refine lv_iload_n hx hb dX3_group_12 rfl (lv_at hl 0 rfl) ?_
        refine lv_iconst (v := nI 1) hx hb dX3_group_13 (by decide) ?_
        refine lv_iload_n hx hb dX3_group_14 rfl (lv_at hl 0 rfl) ?_
        refine lv_ishl hx hb dX3_group_15 ?_
        refine xt_i (w := nI (2 ^ k)) (m_pow k (by omega)) ?_
        refine as_groups hx hb hE hS hP (j := k) (by omega) dX3_group_16 (fun H locs hP hS => ?_)
        refine lv_iinc (v := nI (k + 1)) (lv' := [(2, .int (nI (k + 1))), (1, .int t), (0, .ref (ad (0, 0)))]) hx hb dX3_group_17 hl (k := 0) rfl (nI_1 _) (by decide) rfl (fun ls hl => ?_)
        refine lv_goto (tgt := 2) hx hb dX3_group_20 (by decide) ?_
        exact ih2 (k + 1) (upd g2 k (nI (2 ^ k))) (by omega) (grp_a hg) (by omega) _ _ _ hP hS (lv_sub hl [0, 1, 2] rfl)
  exact K2 _ 0 g (by omega) no_lt (Nat.lt_succ_self _) _ _ _ hP hS (lv_sub hl [0, 2, 1] rfl)
end
section
set_option maxHeartbeats 4000000 in
set_option maxRecDepth 100000 in
theorem c_X3_isAfloat (l : Launch) {D : va_G} {y : Nat → ClassId} {A : Nat → Prop} {ad : xL → Nat} {bl : xM} {z : xC} {g : Nat → Int32} {pl : Nat → Int32} {kn : Nat → Int64} {rw : Nat → Nat → Int64} {mi : Nat → Int64} {un : Int32} {fR fO : Nat → Nat → Option va_E} {Hs : Heap} (hP : xW D A ad (wU (wB y ad bl z g pl kn rw mi un) fR fO) Hs) {m8 : Nat → Nat} (hg : g = fun j => nI (m8 j)) (hm : ∀ j, j < 8 → m8 j < 256) (hz : bOk bl z) {j : Nat} (hj : j < 8) : Met l yX3_isAfloat (.code yX3_isAfloat cX3_isAfloat 3 (some .boolean) :: WG) { frames := 3, cells := 0, slots := 0, locals := 64 } (xPc [.ref (ad (0, 0)), .int (nI j)] D y Hs) (xQ (fun v H1 => v = some (.int (aflI z (m8 j))) ∧ Hs = H1) A) 0 0 A := by
  refine xM_go (by decide) (Nat.le_of_ble_eq_true rfl) (fun p e s m args below meth c ls R Q hx hb hr hlocks hml hown hts hH hE hnm hRf hRl hRc hRs hQ hS hl => ?_)
  have hRf : R.frames = 3 := hRf
  have hRl : R.locals = 64 := hRl
  have hRc : R.cells = 0 := hRc
  have hRs : R.slots = 0 := hRs
  have hl : lv_has ls 3 [(0, .ref (ad (0, 0))), (1, .int (nI j))] := hl
  have hw := hz.w
  have hN := hw.N
  have hE20 := hw.E
  subst hg
  have hmj := hm j hj
  refine lv_iconst (v := nI 0) hx hb dX3_isAfloat_0 (by decide) ?_
  refine lv_istore_n (lv' := [(2, .int (nI 0)), (0, .ref (ad (0, 0))), (1, .int (nI j))]) hx hb dX3_isAfloat_1 rfl hl (by decide) rfl (fun ls hl => ?_)
  have K2 : ∀ (nn : Nat), ∀ (o : Nat), (o ≤ nN z) → (aflB z (m8 j) o = true) → nN z - o < nn → ∀ (locs : List Loc) (ls : Array Slot), va_S A Hs Hs locs → lv_has ls 3 [(2, .int (nI o)), (1, .int (nI j)), (0, .ref (ad (0, 0)))] → W p l e R s m args below meth c Hs locs 0 0 Q (F0 m 2 ls []) := by
    intro nn
    induction nn with
    | zero => intro o ho hf h; exact absurd h (Nat.not_lt_zero _)
    | succ nn ih2 =>
      intro o ho hf hn2 locs ls hS hl
      refine lv_iload_n hx hb dX3_isAfloat_2 rfl (lv_at hl 0 rfl) ?_
      refine lv_aload_n hx hb dX3_isAfloat_3 rfl (lv_at hl 2 rfl) ?_
      refine fg_X3_nodes hx hb hts hown hE hP q_102 dX3_isAfloat_4 ?_
      refine xw_callV (C := "java/util/ArrayList") (n := 0) [] (c_size_nodes l hP ) hx hb hml hown hts hE hS (xw_recv hE hP (1, 0) rfl rfl) rfl rfl q_24 q_123 q_126 q_124 q_125 (by decide) rfl ⟨by rw [hRf]; decide, by rw [hRl]; decide⟩ hl.1 rfl (Nat.le_of_ble_eq_true rfl) dX3_isAfloat_7 ⟨by rw [hRc]; decide, by rw [hRs]; decide⟩ (fun v H1 locs hp hS => ?_)
      obtain ⟨hv, hh⟩ := hp; subst hv; subst hh
      refine lv_icmp_ge (tgt := 51) hx hb dX3_isAfloat_10 (by decide) (fun c10 => ?_) (fun c10 => ?_)
      · skip
        have c10 := ni_le (a := (nN z)) (b := o) (by omega) (by omega) c10
        refine lv_iconst (v := nI 1) hx hb dX3_isAfloat_51 (by decide) ?_
        exact xe_zret hQ hx hb hr hlocks hH hS (by first | assumption | decide | omega) (Nat.le_refl _) (Nat.le_refl _) (⟨by rw [aflI, show nN z = o by omega, hf]; rfl, rfl⟩) dX3_isAfloat_52
      · skip
        have c10 := ni_nle (a := (nN z)) (b := o) (by omega) (by omega) c10
        refine lv_aload_n hx hb dX3_isAfloat_13 rfl (lv_at hl 2 rfl) ?_
        refine fg_X3_nodes hx hb hts hown hE hP q_102 dX3_isAfloat_14 ?_
        refine lv_iload_n hx hb dX3_isAfloat_17 rfl (lv_at hl 0 rfl) ?_
        refine xw_callV (C := "java/util/ArrayList") (n := 1) [.int (nI o)] (c_get_nodes l hP hz (by omega)) hx hb hml hown hts hE hS (xw_recv hE hP (1, 0) rfl rfl) rfl rfl q_24 q_195 q_198 q_196 q_197 (by decide) rfl ⟨by rw [hRf]; decide, by rw [hRl]; decide⟩ hl.1 rfl (Nat.le_of_ble_eq_true rfl) dX3_isAfloat_18 ⟨by rw [hRc]; decide, by rw [hRs]; decide⟩ (fun v H1 locs hp hS => ?_)
        obtain ⟨hv, hh⟩ := hp; subst hv; subst hh
        refine xc_nd (i := o) hx hb hts hown hE hP (by first | assumption | omega) q_266 dX3_isAfloat_21 ?_
        refine fg_X2_isRail (i := o) (by first | assumption | omega) hx hb hts hown hE hP q_471 dX3_isAfloat_24 ?_
        refine lv_if_eq (tgt := 45) hx hb dX3_isAfloat_27 (by decide) (fun c27 => ?_) (fun c27 => ?_)
        · skip
          refine lv_iinc (v := nI (o + 1)) (lv' := [(2, .int (nI (o + 1))), (1, .int (nI j)), (0, .ref (ad (0, 0)))]) hx hb dX3_isAfloat_45 hl (k := 0) rfl (nI_1 _) (by decide) rfl (fun ls hl => ?_)
          refine lv_goto (tgt := 2) hx hb dX3_isAfloat_48 (by decide) ?_
          exact ih2 (o + 1) (by omega) (by first | exact aflB_s1 hf (Or.inl c27) | exact aflB_s1 hf (Or.inr c40)) (by omega) _ _ hS (lv_sub hl [0, 1, 2] rfl)
        · skip
          refine lv_aload_n hx hb dX3_isAfloat_30 rfl (lv_at hl 2 rfl) ?_
          refine fg_X3_groups hx hb hts hown hE hP q_104 dX3_isAfloat_31 ?_
          refine lv_iload_n hx hb dX3_isAfloat_34 rfl (lv_at hl 1 rfl) ?_
          refine al_groups hx hb hE hP (j := j) (by omega) dX3_isAfloat_35 ?_
          refine xt_i (w := nI (m8 j)) (rfl) ?_
          refine lv_iload_n hx hb dX3_isAfloat_36 rfl (lv_at hl 0 rfl) ?_
          refine xw_callS (n := 2) [.int (nI (m8 j)), .int (nI o)] (c_X3_contains l (nI (m8 j)) o) hx hb hml hown hts hE hS rfl rfl q_21 q_259 q_261 q_260 (by decide) rfl ⟨by rw [hRf]; decide, by rw [hRl]; decide⟩ hl.1 rfl (Nat.le_of_ble_eq_true rfl) dX3_isAfloat_37 ⟨by rw [hRc]; decide, by rw [hRs]; decide⟩ (fun v H1 locs hp hS => ?_)
          obtain ⟨hv, hh⟩ := hp; subst hv; subst hh
          refine lv_if_eq (tgt := 45) hx hb dX3_isAfloat_40 (by decide) (fun c40 => ?_) (fun c40 => ?_)
          · skip
            have c40 := m_bitT hmj (by omega) c40
            refine lv_iinc (v := nI (o + 1)) (lv' := [(2, .int (nI (o + 1))), (1, .int (nI j)), (0, .ref (ad (0, 0)))]) hx hb dX3_isAfloat_45 hl (k := 0) rfl (nI_1 _) (by decide) rfl (fun ls hl => ?_)
            refine lv_goto (tgt := 2) hx hb dX3_isAfloat_48 (by decide) ?_
            exact ih2 (o + 1) (by omega) (by first | exact aflB_s1 hf (Or.inl c27) | exact aflB_s1 hf (Or.inr c40)) (by omega) _ _ hS (lv_sub hl [0, 1, 2] rfl)
          · skip
            have c40 := m_bitF hmj (by omega) c40
            refine lv_iconst (v := nI 0) hx hb dX3_isAfloat_43 (by decide) ?_
            exact xe_zret hQ hx hb hr hlocks hH hS (by first | assumption | decide | omega) (Nat.le_refl _) (Nat.le_refl _) (⟨by rw [aflI, aflB_s0 c27 c40 (nN z) (by omega)]; rfl, rfl⟩) dX3_isAfloat_44
  exact K2 _ 0 (by omega) rfl (Nat.lt_succ_self _) _ _ hS (lv_sub hl [0, 2, 1] rfl)

set_option maxHeartbeats 4000000 in
set_option maxRecDepth 100000 in
theorem c_X3_conduct (l : Launch) {D : va_G} {y : Nat → ClassId} {A : Nat → Prop} {ad : xL → Nat} {n : Nat} {bl : xM} {z : xC} {g : Nat → Int32} {pl : Nat → Int32} {kn : Nat → Int64} {rw : Nat → Nat → Int64} {mi : Nat → Int64} {fR fO : Nat → Nat → Option va_E} {Hs : Heap} (hP : xW D A ad (wU (wB y ad bl z g pl kn rw mi (nI n)) fR fO) Hs) (hn : n < 8) (hpl : plOk pl n) (hz : bOk bl z) (t : Int32) : Met l yX3_conduct (.code yX3_conduct cX3_conduct 4 none :: WG) { frames := 3, cells := 0, slots := 0, locals := 64 } (xPc [.ref (ad (0, 0)), .int t] D y Hs) (xQ (fun v H1 => v = none ∧ xW D A ad (wU (wB y ad bl z g pl kn ((cdS z t pl kn n rw (nE z))) mi (nI n)) fR fO) H1) A) 0 0 A := by
  refine xM_go (by decide) (Nat.le_of_ble_eq_true rfl) (fun p e s m args below meth c ls R Q hx hb hr hlocks hml hown hts hH hE hnm hRf hRl hRc hRs hQ hS hl => ?_)
  have hRf : R.frames = 3 := hRf
  have hRl : R.locals = 64 := hRl
  have hRc : R.cells = 0 := hRc
  have hRs : R.slots = 0 := hRs
  have hl : lv_has ls 4 [(0, .ref (ad (0, 0))), (1, .int t)] := hl
  have hw := hz.w
  have hN := hw.N
  have hE20 := hw.E
  refine lv_iconst (v := nI 0) hx hb dX3_conduct_0 (by decide) ?_
  refine lv_istore_n (lv' := [(2, .int (nI 0)), (0, .ref (ad (0, 0))), (1, .int t)]) hx hb dX3_conduct_1 rfl hl (by decide) rfl (fun ls hl => ?_)
  have K2 : ∀ (nn : Nat), ∀ (i : Nat), (i ≤ nE z) → nE z - i < nn → ∀ (H : Heap) (locs : List Loc) (ls : Array Slot), xW D A ad (wU (wB y ad bl z g pl kn ((cdS z t pl kn n rw i)) mi (nI n)) fR fO) H → va_S A Hs H locs → lv_has ls 4 [(2, .int (nI i)), (1, .int t), (0, .ref (ad (0, 0)))] → W p l e R s m args below meth c H locs 0 0 Q (F0 m 2 ls []) := by
    intro nn
    induction nn with
    | zero => intro i hi h; exact absurd h (Nat.not_lt_zero _)
    | succ nn ih2 =>
      intro i hi hn2 H locs ls hP hS hl
      refine lv_iload_n hx hb dX3_conduct_2 rfl (lv_at hl 0 rfl) ?_
      refine lv_aload_n hx hb dX3_conduct_3 rfl (lv_at hl 2 rfl) ?_
      refine fg_X3_elements hx hb hts hown hE hP q_103 dX3_conduct_4 ?_
      refine xw_callV (C := "java/util/ArrayList") (n := 0) [] (c_size_elements l hP ) hx hb hml hown hts hE hS (xw_recv hE hP (3, 0) rfl rfl) rfl rfl q_24 q_123 q_126 q_124 q_125 (by decide) rfl ⟨by rw [hRf]; decide, by rw [hRl]; decide⟩ hl.1 rfl (Nat.le_of_ble_eq_true rfl) dX3_conduct_7 ⟨by rw [hRc]; decide, by rw [hRs]; decide⟩ (fun v H1 locs hp hS => ?_)
      obtain ⟨hv, hh⟩ := hp; subst hv; subst hh
      refine lv_icmp_ge (tgt := 66) hx hb dX3_conduct_10 (by decide) (fun c10 => ?_) (fun c10 => ?_)
      · skip
        have c10 := ni_le (a := (nE z)) (b := i) (by omega) (by omega) c10
        exact xe_vret hQ hx hb hr hlocks hH hS (Nat.le_refl _) (Nat.le_refl _) (⟨rfl, hP.ct (by rw [show i = nE z by omega])⟩) dX3_conduct_66
      · skip
        have c10 := ni_nle (a := (nE z)) (b := i) (by omega) (by omega) c10
        refine lv_aload_n hx hb dX3_conduct_13 rfl (lv_at hl 2 rfl) ?_
        refine fg_X3_elements hx hb hts hown hE hP q_103 dX3_conduct_14 ?_
        refine lv_iload_n hx hb dX3_conduct_17 rfl (lv_at hl 0 rfl) ?_
        refine xw_callV (C := "java/util/ArrayList") (n := 1) [.int (nI i)] (c_get_elements l hP hz (by omega)) hx hb hml hown hts hE hS (xw_recv hE hP (3, 0) rfl rfl) rfl rfl q_24 q_195 q_198 q_196 q_197 (by decide) rfl ⟨by rw [hRf]; decide, by rw [hRl]; decide⟩ hl.1 rfl (Nat.le_of_ble_eq_true rfl) dX3_conduct_18 ⟨by rw [hRc]; decide, by rw [hRs]; decide⟩ (fun v H1 locs hp hS => ?_)
        obtain ⟨hv, hh⟩ := hp; subst hv; subst hh
        refine xc_el (i := i) hx hb hts hown hE hP (by first | assumption | omega) q_209 dX3_conduct_21 ?_
        have ha8 := hw.a8 (i := i) (by omega)
        have hb8 := hw.b8 (i := i) (by omega)
        refine lv_astore_n (lv' := [(3, .ref (ad (13, i))), (2, .int (nI i)), (1, .int t), (0, .ref (ad (0, 0)))]) hx hb dX3_conduct_24 rfl hl (by decide) rfl (fun ls hl => ?_)
        refine lv_aload_n hx hb dX3_conduct_25 rfl (lv_at hl 0 rfl) ?_
        refine fg_X0_isSource (i := i) (by first | assumption | omega) hx hb hts hown hE hP q_554 dX3_conduct_26 ?_
        refine lv_if_ne (tgt := 60) hx hb dX3_conduct_29 (by decide) (fun c29 => ?_) (fun c29 => ?_)
        · skip
          refine lv_iinc (v := nI (i + 1)) (lv' := [(2, .int (nI (i + 1))), (3, .ref (ad (13, i))), (1, .int t), (0, .ref (ad (0, 0)))]) hx hb dX3_conduct_60 hl (k := 1) rfl (nI_1 _) (by decide) rfl (fun ls hl => ?_)
          refine lv_goto (tgt := 2) hx hb dX3_conduct_63 (by decide) ?_
          exact ih2 (i + 1) (by omega) (by omega) _ _ _ (hP.ct (by first | rw [cdS_0 c29] | rw [cdS_1 c29 c37] | rw [cdS_2 c29 c37])) hS (lv_sub hl [0, 2, 3] rfl)
        · skip
          refine lv_aload_n hx hb dX3_conduct_32 rfl (lv_at hl 0 rfl) ?_
          refine lv_iload_n hx hb dX3_conduct_33 rfl (lv_at hl 2 rfl) ?_
          refine xw_callV (C := "NetlistBench$Element") (n := 1) [.int t] (c_X0_runsAt l hP hw (by omega) t) hx hb hml hown hts hE hS (xr_el hE hP (by first | assumption | omega)) rfl rfl q_40 q_246 q_249 q_247 q_248 (by decide) rfl ⟨by rw [hRf]; decide, by rw [hRl]; decide⟩ hl.1 rfl (Nat.le_of_ble_eq_true rfl) dX3_conduct_34 ⟨by rw [hRc]; decide, by rw [hRs]; decide⟩ (fun v H1 locs hp hS => ?_)
          obtain ⟨hv, hh⟩ := hp; subst hv; subst hh
          refine lv_if_eq (tgt := 60) hx hb dX3_conduct_37 (by decide) (fun c37 => ?_) (fun c37 => ?_)
          · skip
            refine lv_iinc (v := nI (i + 1)) (lv' := [(2, .int (nI (i + 1))), (3, .ref (ad (13, i))), (1, .int t), (0, .ref (ad (0, 0)))]) hx hb dX3_conduct_60 hl (k := 1) rfl (nI_1 _) (by decide) rfl (fun ls hl => ?_)
            refine lv_goto (tgt := 2) hx hb dX3_conduct_63 (by decide) ?_
            exact ih2 (i + 1) (by omega) (by omega) _ _ _ (hP.ct (by first | rw [cdS_0 c29] | rw [cdS_1 c29 c37] | rw [cdS_2 c29 c37])) hS (lv_sub hl [0, 2, 3] rfl)
          · skip
            refine lv_aload_n hx hb dX3_conduct_40 rfl (lv_at hl 3 rfl) ?_
            refine fg_X3_equations hx hb hts hown hE hP q_105 dX3_conduct_41 ?_
            refine lv_aload_n hx hb dX3_conduct_44 rfl (lv_at hl 0 rfl) ?_
            refine fg_X0_a (i := i) (by first | assumption | omega) hx hb hts hown hE hP q_556 dX3_conduct_45 ?_
            refine xt_i (w := nI (cA z i)) (hw.a (by omega)) ?_
            refine lv_aload_n hx hb dX3_conduct_48 rfl (lv_at hl 0 rfl) ?_
            refine fg_X0_b (i := i) (by first | assumption | omega) hx hb hts hown hE hP q_558 dX3_conduct_49 ?_
            refine xt_i (w := nI (cB z i)) (hw.b (by omega)) ?_
            refine lv_aload_n hx hb dX3_conduct_52 rfl (lv_at hl 0 rfl) ?_
            refine fg_X0_size (i := i) (by first | assumption | omega) hx hb hts hown hE hP q_560 dX3_conduct_53 ?_
            refine lv_i2l (v := (eZ z i).toInt64) hx hb dX3_conduct_56 rfl ?_
            refine xw_callV (C := "NetlistBench$Equations") (n := 3) [.int (nI (cA z i)), .int (nI (cB z i)), .long ((eZ z i).toInt64)] (c_X1_link l hP hn hpl (by omega) (by omega) ((eZ z i).toInt64)) hx hb hml hown hts hE hS (xw_recv hE hP (6, 0) rfl rfl) rfl rfl q_25 q_311 q_314 q_312 q_313 (by decide) rfl ⟨by rw [hRf]; decide, by rw [hRl]; decide⟩ hl.1 rfl (Nat.le_of_ble_eq_true rfl) dX3_conduct_57 ⟨by rw [hRc]; decide, by rw [hRs]; decide⟩ (fun v H1 locs hp hS => ?_)
            obtain ⟨hv, hP⟩ := hp; subst hv
            generalize H1 = H at hP hS ⊢
            refine lv_iinc (v := nI (i + 1)) (lv' := [(2, .int (nI (i + 1))), (3, .ref (ad (13, i))), (1, .int t), (0, .ref (ad (0, 0)))]) hx hb dX3_conduct_60 hl (k := 1) rfl (nI_1 _) (by decide) rfl (fun ls hl => ?_)
            refine lv_goto (tgt := 2) hx hb dX3_conduct_63 (by decide) ?_
            exact ih2 (i + 1) (by omega) (by omega) _ _ _ (hP.ct (by first | rw [cdS_0 c29] | rw [cdS_1 c29 c37] | rw [cdS_2 c29 c37])) hS (lv_sub hl [0, 2, 3] rfl)
  exact K2 _ 0 (by omega) (Nat.lt_succ_self _) _ _ _ hP hS (lv_sub hl [0, 2, 1] rfl)

set_option maxHeartbeats 4000000 in
set_option maxRecDepth 100000 in
theorem c_X3_settle (l : Launch) {D : va_G} {y : Nat → ClassId} {A : Nat → Prop} {ad : xL → Nat} {bl : xM} {z : xC} {g : Nat → Int32} {pl : Nat → Int32} {kn : Nat → Int64} {rw : Nat → Nat → Int64} {mi : Nat → Int64} {un : Int32} {fR fO : Nat → Nat → Option va_E} {Hs : Heap} (hP : xW D A ad (wU (wB y ad bl z g pl kn rw mi un) fR fO) Hs) (hz : bOk bl z) (t : Int32) : Met l yX3_settle (.code yX3_settle cX3_settle 4 none :: WG) { frames := 4, cells := 0, slots := 0, locals := 87 } (xPc [.ref (ad (0, 0)), .int t] D y Hs) (xQ (fun v H1 => v = none ∧ ∃ mi' : Nat → Int64, miOk mi' (sR z t) (sN z t) ∧ xW D A ad (wU (wB y ad bl z ((sG z t)) ((sP z t)) ((sK z t)) ((sR z t)) mi' ((nI (sN z t)))) fR fO) H1) A) 0 0 A := by
  refine xM_go (by decide) (Nat.le_of_ble_eq_true rfl) (fun p e s m args below meth c ls R Q hx hb hr hlocks hml hown hts hH hE hnm hRf hRl hRc hRs hQ hS hl => ?_)
  have hRf : R.frames = 4 := hRf
  have hRl : R.locals = 87 := hRl
  have hRc : R.cells = 0 := hRc
  have hRs : R.slots = 0 := hRs
  have hl : lv_has ls 4 [(0, .ref (ad (0, 0))), (1, .int t)] := hl
  have hw := hz.w
  have hN := hw.N
  have hE20 := hw.E
  have hn7 := sN_le z t
  refine lv_aload_n hx hb dX3_settle_0 rfl (lv_at hl 0 rfl) ?_
  refine lv_iload_n hx hb dX3_settle_1 rfl (lv_at hl 1 rfl) ?_
  refine xw_callV (C := "NetlistBench") (n := 1) [.int t] (c_X3_group l hP hz t) hx hb hml hown hts hE hS (xw_recv hE hP (0, 0) rfl rfl) rfl rfl q_21 q_242 q_245 q_244 q_3 (by decide) rfl ⟨by rw [hRf]; decide, by rw [hRl]; decide⟩ hl.1 rfl (Nat.le_of_ble_eq_true rfl) dX3_settle_2 ⟨by rw [hRc]; decide, by rw [hRs]; decide⟩ (fun v H1 locs hp hS => ?_)
  obtain ⟨hv, hP⟩ := hp; subst hv
  generalize H1 = H at hP hS ⊢
  refine lv_aload_n hx hb dX3_settle_5 rfl (lv_at hl 0 rfl) ?_
  refine fg_X3_equations hx hb hts hown hE hP q_105 dX3_settle_6 ?_
  refine xw_callV (C := "NetlistBench$Equations") (n := 0) [] (c_X1_clear l hP ) hx hb hml hown hts hE hS (xw_recv hE hP (6, 0) rfl rfl) rfl rfl q_25 q_291 q_294 q_292 q_293 (by decide) rfl ⟨by rw [hRf]; decide, by rw [hRl]; decide⟩ hl.1 rfl (Nat.le_of_ble_eq_true rfl) dX3_settle_9 ⟨by rw [hRc]; decide, by rw [hRs]; decide⟩ (fun v H1 locs hp hS => ?_)
  obtain ⟨hv, hP⟩ := hp; subst hv
  generalize H1 = H at hP hS ⊢
  refine lv_iconst (v := nI 0) hx hb dX3_settle_12 (by decide) ?_
  refine lv_istore_n (lv' := [(2, .int (nI 0)), (0, .ref (ad (0, 0))), (1, .int t)]) hx hb dX3_settle_13 rfl hl (by decide) rfl (fun ls hl => ?_)
  have K14 : ∀ (nn : Nat), ∀ (i : Nat), (i ≤ nN z) → nN z - i < nn → ∀ (H : Heap) (locs : List Loc) (ls : Array Slot), xW D A ad (wU (wB y ad bl z ((sG z t)) ((stS z (gM z t) i).1) ((stS z (gM z t) i).2.1) ((fun _ _ => 0)) mi (nI (stS z (gM z t) i).2.2)) fR fO) H → va_S A Hs H locs → lv_has ls 4 [(2, .int (nI i)), (1, .int t), (0, .ref (ad (0, 0)))] → W p l e R s m args below meth c H locs 0 0 Q (F0 m 14 ls []) := by
    intro nn
    induction nn with
    | zero => intro i hi h; exact absurd h (Nat.not_lt_zero _)
    | succ nn ih14 =>
      intro i hi hn14 H locs ls hP hS hl
      refine lv_iload_n hx hb dX3_settle_14 rfl (lv_at hl 0 rfl) ?_
      refine lv_aload_n hx hb dX3_settle_15 rfl (lv_at hl 2 rfl) ?_
      refine fg_X3_nodes hx hb hts hown hE hP q_102 dX3_settle_16 ?_
      refine xw_callV (C := "java/util/ArrayList") (n := 0) [] (c_size_nodes l hP ) hx hb hml hown hts hE hS (xw_recv hE hP (1, 0) rfl rfl) rfl rfl q_24 q_123 q_126 q_124 q_125 (by decide) rfl ⟨by rw [hRf]; decide, by rw [hRl]; decide⟩ hl.1 rfl (Nat.le_of_ble_eq_true rfl) dX3_settle_19 ⟨by rw [hRc]; decide, by rw [hRs]; decide⟩ (fun v H1 locs hp hS => ?_)
      obtain ⟨hv, hh⟩ := hp; subst hv; subst hh
      refine lv_icmp_ge (tgt := 82) hx hb dX3_settle_22 (by decide) (fun c22 => ?_) (fun c22 => ?_)
      · skip
        have c22 := ni_le (a := (nN z)) (b := i) (by omega) (by omega) c22
        refine lv_iconst (v := nI 0) hx hb dX3_settle_82 (by decide) ?_
        refine lv_istore_n (lv' := [(2, .int (nI 0)), (1, .int t), (0, .ref (ad (0, 0)))]) hx hb dX3_settle_83 rfl hl (by decide) rfl (fun ls hl => ?_)
        have K84 : ∀ (nn : Nat), ∀ (i : Nat), (i ≤ nE z) → nE z - i < nn → ∀ (H : Heap) (locs : List Loc) (ls : Array Slot), xW D A ad (wU (wB y ad bl z ((sG z t)) ((sP z t)) ((sK z t)) ((brS z t (sP z t) (sN z t) i)) mi (nI (sN z t))) fR fO) H → va_S A Hs H locs → lv_has ls 4 [(2, .int (nI i)), (1, .int t), (0, .ref (ad (0, 0)))] → W p l e R s m args below meth c H locs 0 0 Q (F0 m 84 ls []) := by
          intro nn
          induction nn with
          | zero => intro i hi h; exact absurd h (Nat.not_lt_zero _)
          | succ nn ih84 =>
            intro i hi hn84 H locs ls hP hS hl
            refine lv_iload_n hx hb dX3_settle_84 rfl (lv_at hl 0 rfl) ?_
            refine lv_aload_n hx hb dX3_settle_85 rfl (lv_at hl 2 rfl) ?_
            refine fg_X3_elements hx hb hts hown hE hP q_103 dX3_settle_86 ?_
            refine xw_callV (C := "java/util/ArrayList") (n := 0) [] (c_size_elements l hP ) hx hb hml hown hts hE hS (xw_recv hE hP (3, 0) rfl rfl) rfl rfl q_24 q_123 q_126 q_124 q_125 (by decide) rfl ⟨by rw [hRf]; decide, by rw [hRl]; decide⟩ hl.1 rfl (Nat.le_of_ble_eq_true rfl) dX3_settle_89 ⟨by rw [hRc]; decide, by rw [hRs]; decide⟩ (fun v H1 locs hp hS => ?_)
            obtain ⟨hv, hh⟩ := hp; subst hv; subst hh
            refine lv_icmp_ge (tgt := 161) hx hb dX3_settle_92 (by decide) (fun c92 => ?_) (fun c92 => ?_)
            · skip
              have c92 := ni_le (a := (nE z)) (b := i) (by omega) (by omega) c92
              refine lv_aload_n hx hb dX3_settle_161 rfl (lv_at hl 2 rfl) ?_
              refine lv_iload_n hx hb dX3_settle_162 rfl (lv_at hl 1 rfl) ?_
              refine xw_callV (C := "NetlistBench") (n := 1) [.int t] (c_X3_conduct l hP (by omega) (sP_ok z t) hz t) hx hb hml hown hts hE hS (xw_recv hE hP (0, 0) rfl rfl) rfl rfl q_21 q_307 q_310 q_309 q_8 (by decide) rfl ⟨by rw [hRf]; decide, by rw [hRl]; decide⟩ hl.1 rfl (Nat.le_of_ble_eq_true rfl) dX3_settle_163 ⟨by rw [hRc]; decide, by rw [hRs]; decide⟩ (fun v H1 locs hp hS => ?_)
              obtain ⟨hv, hP⟩ := hp; subst hv
              generalize H1 = H at hP hS ⊢
              refine lv_aload_n hx hb dX3_settle_166 rfl (lv_at hl 2 rfl) ?_
              refine fg_X3_equations hx hb hts hown hE hP q_105 dX3_settle_167 ?_
              refine xw_callV (C := "NetlistBench$Equations") (n := 0) [] (c_X1_solve l hP (by omega)) hx hb hml hown hts hE hS (xw_recv hE hP (6, 0) rfl rfl) rfl rfl q_25 q_319 q_322 q_320 q_321 (by decide) rfl ⟨by rw [hRf]; decide, by rw [hRl]; decide⟩ hl.1 rfl (Nat.le_of_ble_eq_true rfl) dX3_settle_170 ⟨by rw [hRc]; decide, by rw [hRs]; decide⟩ (fun v H1 locs hp hS => ?_)
              obtain ⟨hv, mi', hmi, hP⟩ := hp; subst hv
              generalize H1 = H at hP hS ⊢
              exact xe_vret hQ hx hb hr hlocks hH hS (Nat.le_refl _) (Nat.le_refl _) (⟨rfl, mi', (fun M hM => by have h := hmi M hM; rw [show i = nE z by omega] at h; exact h), hP.ct (by rw [show i = nE z by omega]; rfl)⟩) dX3_settle_173
            · skip
              have c92 := ni_nle (a := (nE z)) (b := i) (by omega) (by omega) c92
              refine lv_aload_n hx hb dX3_settle_95 rfl (lv_at hl 2 rfl) ?_
              refine fg_X3_elements hx hb hts hown hE hP q_103 dX3_settle_96 ?_
              refine lv_iload_n hx hb dX3_settle_99 rfl (lv_at hl 0 rfl) ?_
              refine xw_callV (C := "java/util/ArrayList") (n := 1) [.int (nI i)] (c_get_elements l hP hz (by omega)) hx hb hml hown hts hE hS (xw_recv hE hP (3, 0) rfl rfl) rfl rfl q_24 q_195 q_198 q_196 q_197 (by decide) rfl ⟨by rw [hRf]; decide, by rw [hRl]; decide⟩ hl.1 rfl (Nat.le_of_ble_eq_true rfl) dX3_settle_100 ⟨by rw [hRc]; decide, by rw [hRs]; decide⟩ (fun v H1 locs hp hS => ?_)
              obtain ⟨hv, hh⟩ := hp; subst hv; subst hh
              refine xc_el (i := i) hx hb hts hown hE hP (by first | assumption | omega) q_209 dX3_settle_103 ?_
              have ha8 := hw.a8 (i := i) (by omega)
              have hb8 := hw.b8 (i := i) (by omega)
              refine lv_astore_n (lv' := [(3, .ref (ad (13, i))), (2, .int (nI i)), (1, .int t), (0, .ref (ad (0, 0)))]) hx hb dX3_settle_106 rfl hl (by decide) rfl (fun ls hl => ?_)
              refine lv_aload_n hx hb dX3_settle_107 rfl (lv_at hl 0 rfl) ?_
              refine fg_X0_isSource (i := i) (by first | assumption | omega) hx hb hts hown hE hP q_554 dX3_settle_108 ?_
              refine lv_if_eq (tgt := 155) hx hb dX3_settle_111 (by decide) (fun c111 => ?_) (fun c111 => ?_)
              · skip
                refine lv_iinc (v := nI (i + 1)) (lv' := [(2, .int (nI (i + 1))), (3, .ref (ad (13, i))), (1, .int t), (0, .ref (ad (0, 0)))]) hx hb dX3_settle_155 hl (k := 1) rfl (nI_1 _) (by decide) rfl (fun ls hl => ?_)
                refine lv_goto (tgt := 84) hx hb dX3_settle_158 (by decide) ?_
                exact ih84 (i + 1) (by omega) (by omega) _ _ _ (hP.ct (by first | rw [brS_0 c111] | rw [brS_1 c111 c119] | rw [brS_2 c111 c119])) hS (lv_sub hl [0, 2, 3] rfl)
              · skip
                refine lv_aload_n hx hb dX3_settle_114 rfl (lv_at hl 0 rfl) ?_
                refine lv_iload_n hx hb dX3_settle_115 rfl (lv_at hl 2 rfl) ?_
                refine xw_callV (C := "NetlistBench$Element") (n := 1) [.int t] (c_X0_runsAt l hP hw (by omega) t) hx hb hml hown hts hE hS (xr_el hE hP (by first | assumption | omega)) rfl rfl q_40 q_246 q_249 q_247 q_248 (by decide) rfl ⟨by rw [hRf]; decide, by rw [hRl]; decide⟩ hl.1 rfl (Nat.le_of_ble_eq_true rfl) dX3_settle_116 ⟨by rw [hRc]; decide, by rw [hRs]; decide⟩ (fun v H1 locs hp hS => ?_)
                obtain ⟨hv, hh⟩ := hp; subst hv; subst hh
                refine lv_if_eq (tgt := 155) hx hb dX3_settle_119 (by decide) (fun c119 => ?_) (fun c119 => ?_)
                · skip
                  refine lv_iinc (v := nI (i + 1)) (lv' := [(2, .int (nI (i + 1))), (3, .ref (ad (13, i))), (1, .int t), (0, .ref (ad (0, 0)))]) hx hb dX3_settle_155 hl (k := 1) rfl (nI_1 _) (by decide) rfl (fun ls hl => ?_)
                  refine lv_goto (tgt := 84) hx hb dX3_settle_158 (by decide) ?_
                  exact ih84 (i + 1) (by omega) (by omega) _ _ _ (hP.ct (by first | rw [brS_0 c111] | rw [brS_1 c111 c119] | rw [brS_2 c111 c119])) hS (lv_sub hl [0, 2, 3] rfl)
                · skip
                  refine lv_aload_n hx hb dX3_settle_122 rfl (lv_at hl 3 rfl) ?_
                  refine fg_X3_equations hx hb hts hown hE hP q_105 dX3_settle_123 ?_
                  refine lv_aload_n hx hb dX3_settle_126 rfl (lv_at hl 0 rfl) ?_
                  refine fg_X0_a (i := i) (by first | assumption | omega) hx hb hts hown hE hP q_556 dX3_settle_127 ?_
                  refine xt_i (w := nI (cA z i)) (hw.a (by omega)) ?_
                  refine lv_aload_n hx hb dX3_settle_130 rfl (lv_at hl 0 rfl) ?_
                  refine fg_X0_size (i := i) (by first | assumption | omega) hx hb hts hown hE hP q_560 dX3_settle_131 ?_
                  refine lv_ineg hx hb dX3_settle_134 ?_
                  refine lv_i2l (v := (-(eZ z i)).toInt64) hx hb dX3_settle_135 rfl ?_
                  refine xw_callV (C := "NetlistBench$Equations") (n := 2) [.int (nI (cA z i)), .long ((-(eZ z i)).toInt64)] (c_X1_bring l hP (by omega) (sP_ok z t) (by omega) ((-(eZ z i)).toInt64)) hx hb hml hown hts hE hS (xw_recv hE hP (6, 0) rfl rfl) rfl rfl q_25 q_303 q_306 q_304 q_305 (by decide) rfl ⟨by rw [hRf]; decide, by rw [hRl]; decide⟩ hl.1 rfl (Nat.le_of_ble_eq_true rfl) dX3_settle_136 ⟨by rw [hRc]; decide, by rw [hRs]; decide⟩ (fun v H1 locs hp hS => ?_)
                  obtain ⟨hv, hP⟩ := hp; subst hv
                  generalize H1 = H at hP hS ⊢
                  refine lv_aload_n hx hb dX3_settle_139 rfl (lv_at hl 3 rfl) ?_
                  refine fg_X3_equations hx hb hts hown hE hP q_105 dX3_settle_140 ?_
                  refine lv_aload_n hx hb dX3_settle_143 rfl (lv_at hl 0 rfl) ?_
                  refine fg_X0_b (i := i) (by first | assumption | omega) hx hb hts hown hE hP q_558 dX3_settle_144 ?_
                  refine xt_i (w := nI (cB z i)) (hw.b (by omega)) ?_
                  refine lv_aload_n hx hb dX3_settle_147 rfl (lv_at hl 0 rfl) ?_
                  refine fg_X0_size (i := i) (by first | assumption | omega) hx hb hts hown hE hP q_560 dX3_settle_148 ?_
                  refine lv_i2l (v := (eZ z i).toInt64) hx hb dX3_settle_151 rfl ?_
                  refine xw_callV (C := "NetlistBench$Equations") (n := 2) [.int (nI (cB z i)), .long ((eZ z i).toInt64)] (c_X1_bring l hP (by omega) (sP_ok z t) (by omega) ((eZ z i).toInt64)) hx hb hml hown hts hE hS (xw_recv hE hP (6, 0) rfl rfl) rfl rfl q_25 q_303 q_306 q_304 q_305 (by decide) rfl ⟨by rw [hRf]; decide, by rw [hRl]; decide⟩ hl.1 rfl (Nat.le_of_ble_eq_true rfl) dX3_settle_152 ⟨by rw [hRc]; decide, by rw [hRs]; decide⟩ (fun v H1 locs hp hS => ?_)
                  obtain ⟨hv, hP⟩ := hp; subst hv
                  generalize H1 = H at hP hS ⊢
                  refine lv_iinc (v := nI (i + 1)) (lv' := [(2, .int (nI (i + 1))), (3, .ref (ad (13, i))), (1, .int t), (0, .ref (ad (0, 0)))]) hx hb dX3_settle_155 hl (k := 1) rfl (nI_1 _) (by decide) rfl (fun ls hl => ?_)
                  refine lv_goto (tgt := 84) hx hb dX3_settle_158 (by decide) ?_
                  exact ih84 (i + 1) (by omega) (by omega) _ _ _ (hP.ct (by first | rw [brS_0 c111] | rw [brS_1 c111 c119] | rw [brS_2 c111 c119])) hS (lv_sub hl [0, 2, 3] rfl)
        exact K84 _ 0 (by omega) (Nat.lt_succ_self _) _ _ _ (hP.ct (by rw [show i = nN z by omega]; rfl)) hS (lv_sub hl [0, 1, 2] rfl)
      · skip
        have c22 := ni_nle (a := (nN z)) (b := i) (by omega) (by omega) c22
        refine lv_aload_n hx hb dX3_settle_25 rfl (lv_at hl 2 rfl) ?_
        refine fg_X3_nodes hx hb hts hown hE hP q_102 dX3_settle_26 ?_
        refine lv_iload_n hx hb dX3_settle_29 rfl (lv_at hl 0 rfl) ?_
        refine xw_callV (C := "java/util/ArrayList") (n := 1) [.int (nI i)] (c_get_nodes l hP hz (by omega)) hx hb hml hown hts hE hS (xw_recv hE hP (1, 0) rfl rfl) rfl rfl q_24 q_195 q_198 q_196 q_197 (by decide) rfl ⟨by rw [hRf]; decide, by rw [hRl]; decide⟩ hl.1 rfl (Nat.le_of_ble_eq_true rfl) dX3_settle_30 ⟨by rw [hRc]; decide, by rw [hRs]; decide⟩ (fun v H1 locs hp hS => ?_)
        obtain ⟨hv, hh⟩ := hp; subst hv; subst hh
        refine xc_nd (i := i) hx hb hts hown hE hP (by first | assumption | omega) q_266 dX3_settle_33 ?_
        have hle := stS_le z (gM z t) i
        refine lv_astore_n (lv' := [(3, .ref (ad (12, i))), (2, .int (nI i)), (1, .int t), (0, .ref (ad (0, 0)))]) hx hb dX3_settle_36 rfl hl (by decide) rfl (fun ls hl => ?_)
        refine lv_aload_n hx hb dX3_settle_37 rfl (lv_at hl 0 rfl) ?_
        refine fg_X2_isRail (i := i) (by first | assumption | omega) hx hb hts hown hE hP q_471 dX3_settle_38 ?_
        refine lv_if_eq (tgt := 60) hx hb dX3_settle_41 (by decide) (fun c41 => ?_) (fun c41 => ?_)
        · skip
          refine lv_aload_n hx hb dX3_settle_60 rfl (lv_at hl 3 rfl) ?_
          refine lv_iload_n hx hb dX3_settle_61 rfl (lv_at hl 1 rfl) ?_
          refine xw_callV (C := "NetlistBench") (n := 1) [.int (nI i)] (c_X3_isAfloat l hP (m8 := (gM z t)) rfl (fun j hj => gM_lt hw t hj) hz (by omega)) hx hb hml hown hts hE hS (xw_recv hE hP (0, 0) rfl rfl) rfl rfl q_21 q_262 q_265 q_264 q_6 (by decide) rfl ⟨by rw [hRf]; decide, by rw [hRl]; decide⟩ hl.1 rfl (Nat.le_of_ble_eq_true rfl) dX3_settle_62 ⟨by rw [hRc]; decide, by rw [hRs]; decide⟩ (fun v H1 locs hp hS => ?_)
          obtain ⟨hv, hh⟩ := hp; subst hv; subst hh
          refine lv_if_ne (tgt := 76) hx hb dX3_settle_65 (by decide) (fun c65 => ?_) (fun c65 => ?_)
          · skip
            refine lv_iinc (v := nI (i + 1)) (lv' := [(2, .int (nI (i + 1))), (3, .ref (ad (12, i))), (1, .int t), (0, .ref (ad (0, 0)))]) hx hb dX3_settle_76 hl (k := 1) rfl (nI_1 _) (by decide) rfl (fun ls hl => ?_)
            refine lv_goto (tgt := 14) hx hb dX3_settle_79 (by decide) ?_
            exact ih14 (i + 1) (by omega) (by omega) _ _ _ (hP.ct (by first | rw [stS_r c41] | rw [stS_f c41 c65] | rw [stS_s c41 c65])) hS (lv_sub hl [0, 2, 3] rfl)
          · skip
            refine lv_aload_n hx hb dX3_settle_68 rfl (lv_at hl 3 rfl) ?_
            refine fg_X3_equations hx hb hts hown hE hP q_105 dX3_settle_69 ?_
            refine lv_iload_n hx hb dX3_settle_72 rfl (lv_at hl 1 rfl) ?_
            refine xw_callV (C := "NetlistBench$Equations") (n := 1) [.int (nI i)] (c_X1_seek l hP hle.1 (by omega)) hx hb hml hown hts hE hS (xw_recv hE hP (6, 0) rfl rfl) rfl rfl q_25 q_299 q_302 q_300 q_301 (by decide) rfl ⟨by rw [hRf]; decide, by rw [hRl]; decide⟩ hl.1 rfl (Nat.le_of_ble_eq_true rfl) dX3_settle_73 ⟨by rw [hRc]; decide, by rw [hRs]; decide⟩ (fun v H1 locs hp hS => ?_)
            obtain ⟨hv, hP⟩ := hp; subst hv
            generalize H1 = H at hP hS ⊢
            refine lv_iinc (v := nI (i + 1)) (lv' := [(2, .int (nI (i + 1))), (3, .ref (ad (12, i))), (1, .int t), (0, .ref (ad (0, 0)))]) hx hb dX3_settle_76 hl (k := 1) rfl (nI_1 _) (by decide) rfl (fun ls hl => ?_)
            refine lv_goto (tgt := 14) hx hb dX3_settle_79 (by decide) ?_
            exact ih14 (i + 1) (by omega) (by omega) _ _ _ (hP.ct (by first | rw [stS_r c41] | rw [stS_f c41 c65] | rw [stS_s c41 c65])) hS (lv_sub hl [0, 2, 3] rfl)
        · skip
          refine lv_aload_n hx hb dX3_settle_44 rfl (lv_at hl 3 rfl) ?_
          refine fg_X3_equations hx hb hts hown hE hP q_105 dX3_settle_45 ?_
          refine lv_iload_n hx hb dX3_settle_48 rfl (lv_at hl 1 rfl) ?_
          refine lv_aload_n hx hb dX3_settle_49 rfl (lv_at hl 0 rfl) ?_
          refine fg_X2_railPotential (i := i) (by first | assumption | omega) hx hb hts hown hE hP q_473 dX3_settle_50 ?_
          refine lv_i2l (v := (nP z i).toInt64) hx hb dX3_settle_53 rfl ?_
          refine xw_callV (C := "NetlistBench$Equations") (n := 2) [.int (nI i), .long ((nP z i).toInt64)] (c_X1_fix l hP (by omega) (nP z i).toInt64) hx hb hml hown hts hE hS (xw_recv hE hP (6, 0) rfl rfl) rfl rfl q_25 q_295 q_298 q_296 q_297 (by decide) rfl ⟨by rw [hRf]; decide, by rw [hRl]; decide⟩ hl.1 rfl (Nat.le_of_ble_eq_true rfl) dX3_settle_54 ⟨by rw [hRc]; decide, by rw [hRs]; decide⟩ (fun v H1 locs hp hS => ?_)
          obtain ⟨hv, hP⟩ := hp; subst hv
          generalize H1 = H at hP hS ⊢
          refine lv_goto (tgt := 76) hx hb dX3_settle_57 (by decide) ?_
          refine lv_iinc (v := nI (i + 1)) (lv' := [(2, .int (nI (i + 1))), (3, .ref (ad (12, i))), (1, .int t), (0, .ref (ad (0, 0)))]) hx hb dX3_settle_76 hl (k := 1) rfl (nI_1 _) (by decide) rfl (fun ls hl => ?_)
          refine lv_goto (tgt := 14) hx hb dX3_settle_79 (by decide) ?_
          exact ih14 (i + 1) (by omega) (by omega) _ _ _ (hP.ct (by first | rw [stS_r c41] | rw [stS_f c41 c65] | rw [stS_s c41 c65])) hS (lv_sub hl [0, 2, 3] rfl)
  exact K14 _ 0 (by omega) (Nat.lt_succ_self _) _ _ _ hP hS (lv_sub hl [0, 2, 1] rfl)
end
section
set_option maxHeartbeats 4000000 in
set_option maxRecDepth 100000 in
theorem c_X3_drive (l : Launch) {D : va_G} {y : Nat → ClassId} {A : Nat → Prop} {ad : xL → Nat} {bl : xM} {z : xC} {g : Nat → Int32} {pl : Nat → Int32} {kn : Nat → Int64} {rw : Nat → Nat → Int64} {mi : Nat → Int64} {un : Int32} {fR fO : Nat → Nat → Option va_E} {Hs : Heap} (hP : xW D A ad (wU (wB y ad bl z g pl kn rw mi un) fR fO) Hs) (t : Int32) (hg : g = sG z t) (hz : bOk bl z) {a b : Nat} (ha : a < 8) (hb8 : b < 8) : Met l yX3_drive (.code yX3_drive cX3_drive 5 none :: WG) { frames := 4, cells := 0, slots := 0, locals := 87 } (xPc [.ref (ad (0, 0)), .int (nI a), .int (nI b), .int t] D y Hs) (xQ (fun v H1 => v = none ∧ ∃ mi' : Nat → Int64, miOk mi' (dR z t a b) (dN z t b) ∧ xW D A ad (wU (wB y ad bl z ((sG z t)) ((dP z t b)) ((fun _ => 0)) ((dR z t a b)) mi' ((nI (dN z t b)))) fR fO) H1) A) 0 0 A := by
  refine xM_go (by decide) (Nat.le_of_ble_eq_true rfl) (fun p e s m args below meth c ls R Q hx hb hr hlocks hml hown hts hH hE hnm hRf hRl hRc hRs hQ hS hl => ?_)
  have hRf : R.frames = 4 := hRf
  have hRl : R.locals = 87 := hRl
  have hRc : R.cells = 0 := hRc
  have hRs : R.slots = 0 := hRs
  have hl : lv_has ls 5 [(0, .ref (ad (0, 0))), (1, .int (nI a)), (2, .int (nI b)), (3, .int t)] := hl
  have hw := hz.w
  have hN := hw.N
  have hE20 := hw.E
  subst hg
  have hn7 := (drS_le (gM z t b) b (nN z)).1
  have hok : plOk (dP z t b) (dN z t b) := (drS_le (gM z t b) b (nN z)).2
  have hn7 : dN z t b ≤ 7 := hn7
  have hmb := gM_lt hw t hb8
  refine lv_aload_n hx hb dX3_drive_0 rfl (lv_at hl 0 rfl) ?_
  refine fg_X3_equations hx hb hts hown hE hP q_105 dX3_drive_1 ?_
  refine xw_callV (C := "NetlistBench$Equations") (n := 0) [] (c_X1_clear l hP ) hx hb hml hown hts hE hS (xw_recv hE hP (6, 0) rfl rfl) rfl rfl q_25 q_291 q_294 q_292 q_293 (by decide) rfl ⟨by rw [hRf]; decide, by rw [hRl]; decide⟩ hl.1 rfl (Nat.le_of_ble_eq_true rfl) dX3_drive_4 ⟨by rw [hRc]; decide, by rw [hRs]; decide⟩ (fun v H1 locs hp hS => ?_)
  obtain ⟨hv, hP⟩ := hp; subst hv
  generalize H1 = H at hP hS ⊢
  refine lv_iconst (v := nI 0) hx hb dX3_drive_7 (by decide) ?_
  refine lv_istore (lv' := [(4, .int (nI 0)), (0, .ref (ad (0, 0))), (1, .int (nI a)), (2, .int (nI b)), (3, .int t)]) hx hb dX3_drive_8 hl (by decide) rfl (fun ls hl => ?_)
  have K10 : ∀ (nn : Nat), ∀ (i : Nat), (i ≤ nN z) → nN z - i < nn → ∀ (H : Heap) (locs : List Loc) (ls : Array Slot), xW D A ad (wU (wB y ad bl z ((sG z t)) ((drS (gM z t b) b i).1) ((fun _ => 0)) ((fun _ _ => 0)) mi (nI (drS (gM z t b) b i).2)) fR fO) H → va_S A Hs H locs → lv_has ls 5 [(4, .int (nI i)), (3, .int t), (2, .int (nI b)), (1, .int (nI a)), (0, .ref (ad (0, 0)))] → W p l e R s m args below meth c H locs 0 0 Q (F0 m 10 ls []) := by
    intro nn
    induction nn with
    | zero => intro i hi h; exact absurd h (Nat.not_lt_zero _)
    | succ nn ih10 =>
      intro i hi hn10 H locs ls hP hS hl
      refine lv_iload hx hb dX3_drive_10 (lv_at hl 0 rfl) ?_
      refine lv_aload_n hx hb dX3_drive_12 rfl (lv_at hl 4 rfl) ?_
      refine fg_X3_nodes hx hb hts hown hE hP q_102 dX3_drive_13 ?_
      refine xw_callV (C := "java/util/ArrayList") (n := 0) [] (c_size_nodes l hP ) hx hb hml hown hts hE hS (xw_recv hE hP (1, 0) rfl rfl) rfl rfl q_24 q_123 q_126 q_124 q_125 (by decide) rfl ⟨by rw [hRf]; decide, by rw [hRl]; decide⟩ hl.1 rfl (Nat.le_of_ble_eq_true rfl) dX3_drive_16 ⟨by rw [hRc]; decide, by rw [hRs]; decide⟩ (fun v H1 locs hp hS => ?_)
      obtain ⟨hv, hh⟩ := hp; subst hv; subst hh
      refine lv_icmp_ge (tgt := 57) hx hb dX3_drive_19 (by decide) (fun c19 => ?_) (fun c19 => ?_)
      · skip
        have c19 := ni_le (a := (nN z)) (b := i) (by omega) (by omega) c19
        have hP := hP.ct (show _ = (wU (wB y ad bl z ((sG z t)) ((dP z t b)) ((fun _ => 0)) ((fun _ _ => 0)) mi ((nI (dN z t b)))) fR fO) by rw [show i = nN z by omega]; rfl)
        refine lv_aload_n hx hb dX3_drive_57 rfl (lv_at hl 4 rfl) ?_
        refine fg_X3_equations hx hb hts hown hE hP q_105 dX3_drive_58 ?_
        refine lv_iload_n hx hb dX3_drive_61 rfl (lv_at hl 3 rfl) ?_
        refine lv_lconst (v := 1) hx hb dX3_drive_62 (by decide) ?_
        refine xw_callV (C := "NetlistBench$Equations") (n := 2) [.int (nI a), .long 1] (c_X1_bring l hP (by omega) hok ha 1) hx hb hml hown hts hE hS (xw_recv hE hP (6, 0) rfl rfl) rfl rfl q_25 q_303 q_306 q_304 q_305 (by decide) rfl ⟨by rw [hRf]; decide, by rw [hRl]; decide⟩ hl.1 rfl (Nat.le_of_ble_eq_true rfl) dX3_drive_63 ⟨by rw [hRc]; decide, by rw [hRs]; decide⟩ (fun v H1 locs hp hS => ?_)
        obtain ⟨hv, hP⟩ := hp; subst hv
        generalize H1 = H at hP hS ⊢
        refine lv_aload_n hx hb dX3_drive_66 rfl (lv_at hl 4 rfl) ?_
        refine lv_iload_n hx hb dX3_drive_67 rfl (lv_at hl 1 rfl) ?_
        refine xw_callV (C := "NetlistBench") (n := 1) [.int t] (c_X3_conduct l hP (by omega) hok hz t) hx hb hml hown hts hE hS (xw_recv hE hP (0, 0) rfl rfl) rfl rfl q_21 q_307 q_310 q_309 q_8 (by decide) rfl ⟨by rw [hRf]; decide, by rw [hRl]; decide⟩ hl.1 rfl (Nat.le_of_ble_eq_true rfl) dX3_drive_68 ⟨by rw [hRc]; decide, by rw [hRs]; decide⟩ (fun v H1 locs hp hS => ?_)
        obtain ⟨hv, hP⟩ := hp; subst hv
        generalize H1 = H at hP hS ⊢
        refine lv_aload_n hx hb dX3_drive_71 rfl (lv_at hl 4 rfl) ?_
        refine fg_X3_equations hx hb hts hown hE hP q_105 dX3_drive_72 ?_
        refine xw_callV (C := "NetlistBench$Equations") (n := 0) [] (c_X1_solve l hP (by omega)) hx hb hml hown hts hE hS (xw_recv hE hP (6, 0) rfl rfl) rfl rfl q_25 q_319 q_322 q_320 q_321 (by decide) rfl ⟨by rw [hRf]; decide, by rw [hRl]; decide⟩ hl.1 rfl (Nat.le_of_ble_eq_true rfl) dX3_drive_75 ⟨by rw [hRc]; decide, by rw [hRs]; decide⟩ (fun v H1 locs hp hS => ?_)
        obtain ⟨hv, mi', hmi, hP⟩ := hp; subst hv
        generalize H1 = H at hP hS ⊢
        exact xe_vret hQ hx hb hr hlocks hH hS (Nat.le_refl _) (Nat.le_refl _) (⟨rfl, mi', hmi, hP⟩) dX3_drive_78
      · skip
        have c19 := ni_nle (a := (nN z)) (b := i) (by omega) (by omega) c19
        have hle := drS_le (gM z t b) b i
        refine lv_iload hx hb dX3_drive_22 (lv_at hl 0 rfl) ?_
        refine lv_iload_n hx hb dX3_drive_24 rfl (lv_at hl 2 rfl) ?_
        refine lv_icmp_eq (tgt := 51) hx hb dX3_drive_25 (by decide) (fun c25 => ?_) (fun c25 => ?_)
        · skip
          have c25 := ni_eq (a := i) (b := b) (by omega) (by omega) c25
          refine lv_iinc (v := nI (i + 1)) (lv' := [(4, .int (nI (i + 1))), (3, .int t), (2, .int (nI b)), (1, .int (nI a)), (0, .ref (ad (0, 0)))]) hx hb dX3_drive_51 hl (k := 0) rfl (nI_1 _) (by decide) rfl (fun ls hl => ?_)
          refine lv_goto (tgt := 10) hx hb dX3_drive_54 (by decide) ?_
          exact ih10 (i + 1) (by omega) (by omega) _ _ _ (hP.ct (by first | rw [drS_b c25] | rw [drS_o c25 c39] | rw [drS_s c25 c39])) hS (lv_sub hl [0, 1, 2, 3, 4] rfl)
        · skip
          have c25 := ni_ne (a := i) (b := b) (by omega) (by omega) c25
          refine lv_aload_n hx hb dX3_drive_28 rfl (lv_at hl 4 rfl) ?_
          refine fg_X3_groups hx hb hts hown hE hP q_104 dX3_drive_29 ?_
          refine lv_iload_n hx hb dX3_drive_32 rfl (lv_at hl 2 rfl) ?_
          refine al_groups hx hb hE hP (j := b) (by omega) dX3_drive_33 ?_
          refine xt_i (w := nI (gM z t b)) (rfl) ?_
          refine lv_iload hx hb dX3_drive_34 (lv_at hl 0 rfl) ?_
          refine xw_callS (n := 2) [.int (nI (gM z t b)), .int (nI i)] (c_X3_contains l (nI (gM z t b)) i) hx hb hml hown hts hE hS rfl rfl q_21 q_259 q_261 q_260 (by decide) rfl ⟨by rw [hRf]; decide, by rw [hRl]; decide⟩ hl.1 rfl (Nat.le_of_ble_eq_true rfl) dX3_drive_36 ⟨by rw [hRc]; decide, by rw [hRs]; decide⟩ (fun v H1 locs hp hS => ?_)
          obtain ⟨hv, hh⟩ := hp; subst hv; subst hh
          refine lv_if_eq (tgt := 51) hx hb dX3_drive_39 (by decide) (fun c39 => ?_) (fun c39 => ?_)
          · skip
            have c39 := m_bitT hmb (by omega) c39
            refine lv_iinc (v := nI (i + 1)) (lv' := [(4, .int (nI (i + 1))), (3, .int t), (2, .int (nI b)), (1, .int (nI a)), (0, .ref (ad (0, 0)))]) hx hb dX3_drive_51 hl (k := 0) rfl (nI_1 _) (by decide) rfl (fun ls hl => ?_)
            refine lv_goto (tgt := 10) hx hb dX3_drive_54 (by decide) ?_
            exact ih10 (i + 1) (by omega) (by omega) _ _ _ (hP.ct (by first | rw [drS_b c25] | rw [drS_o c25 c39] | rw [drS_s c25 c39])) hS (lv_sub hl [0, 1, 2, 3, 4] rfl)
          · skip
            have c39 := m_bitF hmb (by omega) c39
            refine lv_aload_n hx hb dX3_drive_42 rfl (lv_at hl 4 rfl) ?_
            refine fg_X3_equations hx hb hts hown hE hP q_105 dX3_drive_43 ?_
            refine lv_iload hx hb dX3_drive_46 (lv_at hl 0 rfl) ?_
            refine xw_callV (C := "NetlistBench$Equations") (n := 1) [.int (nI i)] (c_X1_seek l hP hle.1 (by omega)) hx hb hml hown hts hE hS (xw_recv hE hP (6, 0) rfl rfl) rfl rfl q_25 q_299 q_302 q_300 q_301 (by decide) rfl ⟨by rw [hRf]; decide, by rw [hRl]; decide⟩ hl.1 rfl (Nat.le_of_ble_eq_true rfl) dX3_drive_48 ⟨by rw [hRc]; decide, by rw [hRs]; decide⟩ (fun v H1 locs hp hS => ?_)
            obtain ⟨hv, hP⟩ := hp; subst hv
            generalize H1 = H at hP hS ⊢
            refine lv_iinc (v := nI (i + 1)) (lv' := [(4, .int (nI (i + 1))), (3, .int t), (2, .int (nI b)), (1, .int (nI a)), (0, .ref (ad (0, 0)))]) hx hb dX3_drive_51 hl (k := 0) rfl (nI_1 _) (by decide) rfl (fun ls hl => ?_)
            refine lv_goto (tgt := 10) hx hb dX3_drive_54 (by decide) ?_
            exact ih10 (i + 1) (by omega) (by omega) _ _ _ (hP.ct (by first | rw [drS_b c25] | rw [drS_o c25 c39] | rw [drS_s c25 c39])) hS (lv_sub hl [0, 1, 2, 3, 4] rfl)
  exact K10 _ 0 (by omega) (Nat.lt_succ_self _) _ _ _ hP hS (lv_sub hl [0, 4, 3, 2, 1] rfl)

set_option maxHeartbeats 4000000 in
set_option maxRecDepth 100000 in
theorem c_X3_flowOut (l : Launch) {D : va_G} {y : Nat → ClassId} {A : Nat → Prop} {ad : xL → Nat} {n : Nat} {bl : xM} {z : xC} {g : Nat → Int32} {pl : Nat → Int32} {kn : Nat → Int64} {rw : Nat → Nat → Int64} {mi : Nat → Int64} {fR fO : Nat → Nat → Option va_E} {Hs : Heap} (hP : xW D A ad (wU (wB y ad bl z g pl kn rw mi (nI n)) fR fO) Hs) (hn : n ≤ 7) (hpl : plOk pl n) (hz : bOk bl z) {i j : Nat} (hi : i < nE z) (hj : j < 8) : Met l yX3_flowOut (.code yX3_flowOut cX3_flowOut 5 (some .long) :: WG) { frames := 3, cells := 0, slots := 0, locals := 64 } (xPc [.ref (ad (0, 0)), .ref (ad (13, i)), .int (nI j)] D y Hs) (xQ (fun v H1 => v = some (.long (flw z (upV pl kn mi n) (mi (2 ^ n - 1)) i j)) ∧ Hs = H1) A) 0 0 A := by
  refine xM_go (by decide) (Nat.le_of_ble_eq_true rfl) (fun p e s m args below meth c ls R Q hx hb hr hlocks hml hown hts hH hE hnm hRf hRl hRc hRs hQ hS hl => ?_)
  have hRf : R.frames = 3 := hRf
  have hRl : R.locals = 64 := hRl
  have hRc : R.cells = 0 := hRc
  have hRs : R.slots = 0 := hRs
  have hl : lv_has ls 5 [(0, .ref (ad (0, 0))), (1, .ref (ad (13, i))), (2, .int (nI j))] := hl
  have hw := hz.w
  have hN := hw.N
  have hE20 := hw.E
  have ha8 := hw.a8 hi
  have hb8 := hw.b8 hi
  refine lv_iload_n hx hb dX3_flowOut_0 rfl (lv_at hl 2 rfl) ?_
  refine lv_aload_n hx hb dX3_flowOut_1 rfl (lv_at hl 1 rfl) ?_
  refine fg_X0_a (i := i) (by first | assumption | omega) hx hb hts hown hE hP q_556 dX3_flowOut_2 ?_
  refine xt_i (w := nI (cA z i)) (hw.a hi) ?_
  refine lv_icmp_eq (tgt := 18) hx hb dX3_flowOut_5 (by decide) (fun c5 => ?_) (fun c5 => ?_)
  · skip
    have c5 := ni_eq (a := j) (b := (cA z i)) (by omega) (by omega) c5
    have K18 : (¬ (¬ j = cA z i ∧ ¬ j = cB z i)) → ∀ (locs : List Loc) (ls : Array Slot), va_S A Hs Hs locs → lv_has ls 5 [(2, .int (nI j)), (1, .ref (ad (13, i))), (0, .ref (ad (0, 0)))] → W p l e R s m args below meth c Hs locs 0 0 Q (F0 m 18 ls []) := by
      intro  h18 locs ls hS hl
      refine lv_aload_n hx hb dX3_flowOut_18 rfl (lv_at hl 1 rfl) ?_
      refine fg_X0_isSource (i := i) (by first | assumption | omega) hx hb hts hown hE hP q_554 dX3_flowOut_19 ?_
      refine lv_if_eq (tgt := 41) hx hb dX3_flowOut_22 (by decide) (fun c22 => ?_) (fun c22 => ?_)
      · skip
        refine lv_aload_n hx hb dX3_flowOut_41 rfl (lv_at hl 1 rfl) ?_
        refine fg_X0_size (i := i) (by first | assumption | omega) hx hb hts hown hE hP q_560 dX3_flowOut_42 ?_
        refine lv_i2l (v := (eZ z i).toInt64) hx hb dX3_flowOut_45 rfl ?_
        refine lv_aload_n hx hb dX3_flowOut_46 rfl (lv_at hl 2 rfl) ?_
        refine fg_X3_equations hx hb hts hown hE hP q_105 dX3_flowOut_47 ?_
        refine lv_aload_n hx hb dX3_flowOut_50 rfl (lv_at hl 1 rfl) ?_
        refine fg_X0_a (i := i) (by first | assumption | omega) hx hb hts hown hE hP q_556 dX3_flowOut_51 ?_
        refine xt_i (w := nI (cA z i)) (hw.a hi) ?_
        refine xw_callV (C := "NetlistBench$Equations") (n := 1) [.int (nI (cA z i))] (c_X1_upper l hP (by omega) hpl (by omega)) hx hb hml hown hts hE hS (xw_recv hE hP (6, 0) rfl rfl) rfl rfl q_25 q_346 q_349 q_347 q_348 (by decide) rfl ⟨by rw [hRf]; decide, by rw [hRl]; decide⟩ hl.1 rfl (Nat.le_of_ble_eq_true rfl) dX3_flowOut_54 ⟨by rw [hRc]; decide, by rw [hRs]; decide⟩ (fun v H1 locs hp hS => ?_)
        obtain ⟨hv, hh⟩ := hp; subst hv; subst hh
        refine lv_aload_n hx hb dX3_flowOut_57 rfl (lv_at hl 2 rfl) ?_
        refine fg_X3_equations hx hb hts hown hE hP q_105 dX3_flowOut_58 ?_
        refine lv_aload_n hx hb dX3_flowOut_61 rfl (lv_at hl 1 rfl) ?_
        refine fg_X0_b (i := i) (by first | assumption | omega) hx hb hts hown hE hP q_558 dX3_flowOut_62 ?_
        refine xt_i (w := nI (cB z i)) (hw.b hi) ?_
        refine xw_callV (C := "NetlistBench$Equations") (n := 1) [.int (nI (cB z i))] (c_X1_upper l hP (by omega) hpl (by omega)) hx hb hml hown hts hE hS (xw_recv hE hP (6, 0) rfl rfl) rfl rfl q_25 q_346 q_349 q_347 q_348 (by decide) rfl ⟨by rw [hRf]; decide, by rw [hRl]; decide⟩ hl.1 rfl (Nat.le_of_ble_eq_true rfl) dX3_flowOut_65 ⟨by rw [hRc]; decide, by rw [hRs]; decide⟩ (fun v H1 locs hp hS => ?_)
        obtain ⟨hv, hh⟩ := hp; subst hv; subst hh
        refine lv_lsub hx hb dX3_flowOut_68 ?_
        refine lv_lmul hx hb dX3_flowOut_69 ?_
        refine lv_lstore_n (lv' := [(3, .long (((eZ z i).toInt64) * ((upV pl kn mi n (cA z i)) - (upV pl kn mi n (cB z i))))), (2, .int (nI j)), (1, .ref (ad (13, i))), (0, .ref (ad (0, 0)))]) hx hb dX3_flowOut_70 rfl hl (by decide) rfl (fun ls hl => ?_)
        refine lv_iload_n hx hb dX3_flowOut_71 rfl (lv_at hl 1 rfl) ?_
        refine lv_aload_n hx hb dX3_flowOut_72 rfl (lv_at hl 2 rfl) ?_
        refine fg_X0_a (i := i) (by first | assumption | omega) hx hb hts hown hE hP q_556 dX3_flowOut_73 ?_
        refine xt_i (w := nI (cA z i)) (hw.a hi) ?_
        refine lv_icmp_ne (tgt := 83) hx hb dX3_flowOut_76 (by decide) (fun c76 => ?_) (fun c76 => ?_)
        · skip
          have c76 := ni_ne (a := j) (b := (cA z i)) (by omega) (by omega) c76
          refine lv_lload_n hx hb dX3_flowOut_83 rfl (lv_at hl 0 rfl) ?_
          refine lv_lneg hx hb dX3_flowOut_84 ?_
          exact xe_lret hQ hx hb hr hlocks hH hS (Nat.le_refl _) (Nat.le_refl _) (⟨by rw [flw_2 h18 c76]; first | (rw [if_pos c22]; done) | (rw [if_neg c22]; done), rfl⟩) dX3_flowOut_85
        · skip
          have c76 := ni_eq (a := j) (b := (cA z i)) (by omega) (by omega) c76
          refine lv_lload_n hx hb dX3_flowOut_79 rfl (lv_at hl 0 rfl) ?_
          refine lv_goto (tgt := 85) hx hb dX3_flowOut_80 (by decide) ?_
          exact xe_lret hQ hx hb hr hlocks hH hS (Nat.le_refl _) (Nat.le_refl _) (⟨by rw [flw_1 h18 c76]; first | (rw [if_pos c22]; done) | (rw [if_neg c22]; done), rfl⟩) dX3_flowOut_85
      · skip
        refine lv_aload_n hx hb dX3_flowOut_25 rfl (lv_at hl 1 rfl) ?_
        refine fg_X0_size (i := i) (by first | assumption | omega) hx hb hts hown hE hP q_560 dX3_flowOut_26 ?_
        refine lv_i2l (v := (eZ z i).toInt64) hx hb dX3_flowOut_29 rfl ?_
        refine lv_aload_n hx hb dX3_flowOut_30 rfl (lv_at hl 2 rfl) ?_
        refine fg_X3_equations hx hb hts hown hE hP q_105 dX3_flowOut_31 ?_
        refine xw_callV (C := "NetlistBench$Equations") (n := 0) [] (c_X1_lower l hP (by omega)) hx hb hml hown hts hE hS (xw_recv hE hP (6, 0) rfl rfl) rfl rfl q_25 q_342 q_345 q_343 q_344 (by decide) rfl ⟨by rw [hRf]; decide, by rw [hRl]; decide⟩ hl.1 rfl (Nat.le_of_ble_eq_true rfl) dX3_flowOut_34 ⟨by rw [hRc]; decide, by rw [hRs]; decide⟩ (fun v H1 locs hp hS => ?_)
        obtain ⟨hv, hh⟩ := hp; subst hv; subst hh
        refine lv_lmul hx hb dX3_flowOut_37 ?_
        refine lv_goto (tgt := 70) hx hb dX3_flowOut_38 (by decide) ?_
        refine lv_lstore_n (lv' := [(3, .long (((eZ z i).toInt64) * (mi (2 ^ n - 1)))), (2, .int (nI j)), (1, .ref (ad (13, i))), (0, .ref (ad (0, 0)))]) hx hb dX3_flowOut_70 rfl hl (by decide) rfl (fun ls hl => ?_)
        refine lv_iload_n hx hb dX3_flowOut_71 rfl (lv_at hl 1 rfl) ?_
        refine lv_aload_n hx hb dX3_flowOut_72 rfl (lv_at hl 2 rfl) ?_
        refine fg_X0_a (i := i) (by first | assumption | omega) hx hb hts hown hE hP q_556 dX3_flowOut_73 ?_
        refine xt_i (w := nI (cA z i)) (hw.a hi) ?_
        refine lv_icmp_ne (tgt := 83) hx hb dX3_flowOut_76 (by decide) (fun c76 => ?_) (fun c76 => ?_)
        · skip
          have c76 := ni_ne (a := j) (b := (cA z i)) (by omega) (by omega) c76
          refine lv_lload_n hx hb dX3_flowOut_83 rfl (lv_at hl 0 rfl) ?_
          refine lv_lneg hx hb dX3_flowOut_84 ?_
          exact xe_lret hQ hx hb hr hlocks hH hS (Nat.le_refl _) (Nat.le_refl _) (⟨by rw [flw_2 h18 c76]; first | (rw [if_pos c22]; done) | (rw [if_neg c22]; done), rfl⟩) dX3_flowOut_85
        · skip
          have c76 := ni_eq (a := j) (b := (cA z i)) (by omega) (by omega) c76
          refine lv_lload_n hx hb dX3_flowOut_79 rfl (lv_at hl 0 rfl) ?_
          refine lv_goto (tgt := 85) hx hb dX3_flowOut_80 (by decide) ?_
          exact xe_lret hQ hx hb hr hlocks hH hS (Nat.le_refl _) (Nat.le_refl _) (⟨by rw [flw_1 h18 c76]; first | (rw [if_pos c22]; done) | (rw [if_neg c22]; done), rfl⟩) dX3_flowOut_85
    exact K18 (fun h => by first | exact h.1 c5 | exact h.2 c13) _ _ hS (lv_sub hl [2, 1, 0] rfl)
  · skip
    have c5 := ni_ne (a := j) (b := (cA z i)) (by omega) (by omega) c5
    refine lv_iload_n hx hb dX3_flowOut_8 rfl (lv_at hl 2 rfl) ?_
    refine lv_aload_n hx hb dX3_flowOut_9 rfl (lv_at hl 1 rfl) ?_
    refine fg_X0_b (i := i) (by first | assumption | omega) hx hb hts hown hE hP q_558 dX3_flowOut_10 ?_
    refine xt_i (w := nI (cB z i)) (hw.b hi) ?_
    refine lv_icmp_eq (tgt := 18) hx hb dX3_flowOut_13 (by decide) (fun c13 => ?_) (fun c13 => ?_)
    · skip
      have c13 := ni_eq (a := j) (b := (cB z i)) (by omega) (by omega) c13
      have K18 : (¬ (¬ j = cA z i ∧ ¬ j = cB z i)) → ∀ (locs : List Loc) (ls : Array Slot), va_S A Hs Hs locs → lv_has ls 5 [(2, .int (nI j)), (1, .ref (ad (13, i))), (0, .ref (ad (0, 0)))] → W p l e R s m args below meth c Hs locs 0 0 Q (F0 m 18 ls []) := by
        intro  h18 locs ls hS hl
        refine lv_aload_n hx hb dX3_flowOut_18 rfl (lv_at hl 1 rfl) ?_
        refine fg_X0_isSource (i := i) (by first | assumption | omega) hx hb hts hown hE hP q_554 dX3_flowOut_19 ?_
        refine lv_if_eq (tgt := 41) hx hb dX3_flowOut_22 (by decide) (fun c22 => ?_) (fun c22 => ?_)
        · skip
          refine lv_aload_n hx hb dX3_flowOut_41 rfl (lv_at hl 1 rfl) ?_
          refine fg_X0_size (i := i) (by first | assumption | omega) hx hb hts hown hE hP q_560 dX3_flowOut_42 ?_
          refine lv_i2l (v := (eZ z i).toInt64) hx hb dX3_flowOut_45 rfl ?_
          refine lv_aload_n hx hb dX3_flowOut_46 rfl (lv_at hl 2 rfl) ?_
          refine fg_X3_equations hx hb hts hown hE hP q_105 dX3_flowOut_47 ?_
          refine lv_aload_n hx hb dX3_flowOut_50 rfl (lv_at hl 1 rfl) ?_
          refine fg_X0_a (i := i) (by first | assumption | omega) hx hb hts hown hE hP q_556 dX3_flowOut_51 ?_
          refine xt_i (w := nI (cA z i)) (hw.a hi) ?_
          refine xw_callV (C := "NetlistBench$Equations") (n := 1) [.int (nI (cA z i))] (c_X1_upper l hP (by omega) hpl (by omega)) hx hb hml hown hts hE hS (xw_recv hE hP (6, 0) rfl rfl) rfl rfl q_25 q_346 q_349 q_347 q_348 (by decide) rfl ⟨by rw [hRf]; decide, by rw [hRl]; decide⟩ hl.1 rfl (Nat.le_of_ble_eq_true rfl) dX3_flowOut_54 ⟨by rw [hRc]; decide, by rw [hRs]; decide⟩ (fun v H1 locs hp hS => ?_)
          obtain ⟨hv, hh⟩ := hp; subst hv; subst hh
          refine lv_aload_n hx hb dX3_flowOut_57 rfl (lv_at hl 2 rfl) ?_
          refine fg_X3_equations hx hb hts hown hE hP q_105 dX3_flowOut_58 ?_
          refine lv_aload_n hx hb dX3_flowOut_61 rfl (lv_at hl 1 rfl) ?_
          refine fg_X0_b (i := i) (by first | assumption | omega) hx hb hts hown hE hP q_558 dX3_flowOut_62 ?_
          refine xt_i (w := nI (cB z i)) (hw.b hi) ?_
          refine xw_callV (C := "NetlistBench$Equations") (n := 1) [.int (nI (cB z i))] (c_X1_upper l hP (by omega) hpl (by omega)) hx hb hml hown hts hE hS (xw_recv hE hP (6, 0) rfl rfl) rfl rfl q_25 q_346 q_349 q_347 q_348 (by decide) rfl ⟨by rw [hRf]; decide, by rw [hRl]; decide⟩ hl.1 rfl (Nat.le_of_ble_eq_true rfl) dX3_flowOut_65 ⟨by rw [hRc]; decide, by rw [hRs]; decide⟩ (fun v H1 locs hp hS => ?_)
          obtain ⟨hv, hh⟩ := hp; subst hv; subst hh
          refine lv_lsub hx hb dX3_flowOut_68 ?_
          refine lv_lmul hx hb dX3_flowOut_69 ?_
          refine lv_lstore_n (lv' := [(3, .long (((eZ z i).toInt64) * ((upV pl kn mi n (cA z i)) - (upV pl kn mi n (cB z i))))), (2, .int (nI j)), (1, .ref (ad (13, i))), (0, .ref (ad (0, 0)))]) hx hb dX3_flowOut_70 rfl hl (by decide) rfl (fun ls hl => ?_)
          refine lv_iload_n hx hb dX3_flowOut_71 rfl (lv_at hl 1 rfl) ?_
          refine lv_aload_n hx hb dX3_flowOut_72 rfl (lv_at hl 2 rfl) ?_
          refine fg_X0_a (i := i) (by first | assumption | omega) hx hb hts hown hE hP q_556 dX3_flowOut_73 ?_
          refine xt_i (w := nI (cA z i)) (hw.a hi) ?_
          refine lv_icmp_ne (tgt := 83) hx hb dX3_flowOut_76 (by decide) (fun c76 => ?_) (fun c76 => ?_)
          · skip
            have c76 := ni_ne (a := j) (b := (cA z i)) (by omega) (by omega) c76
            refine lv_lload_n hx hb dX3_flowOut_83 rfl (lv_at hl 0 rfl) ?_
            refine lv_lneg hx hb dX3_flowOut_84 ?_
            exact xe_lret hQ hx hb hr hlocks hH hS (Nat.le_refl _) (Nat.le_refl _) (⟨by rw [flw_2 h18 c76]; first | (rw [if_pos c22]; done) | (rw [if_neg c22]; done), rfl⟩) dX3_flowOut_85
          · skip
            have c76 := ni_eq (a := j) (b := (cA z i)) (by omega) (by omega) c76
            refine lv_lload_n hx hb dX3_flowOut_79 rfl (lv_at hl 0 rfl) ?_
            refine lv_goto (tgt := 85) hx hb dX3_flowOut_80 (by decide) ?_
            exact xe_lret hQ hx hb hr hlocks hH hS (Nat.le_refl _) (Nat.le_refl _) (⟨by rw [flw_1 h18 c76]; first | (rw [if_pos c22]; done) | (rw [if_neg c22]; done), rfl⟩) dX3_flowOut_85
        · skip
          refine lv_aload_n hx hb dX3_flowOut_25 rfl (lv_at hl 1 rfl) ?_
          refine fg_X0_size (i := i) (by first | assumption | omega) hx hb hts hown hE hP q_560 dX3_flowOut_26 ?_
          refine lv_i2l (v := (eZ z i).toInt64) hx hb dX3_flowOut_29 rfl ?_
          refine lv_aload_n hx hb dX3_flowOut_30 rfl (lv_at hl 2 rfl) ?_
          refine fg_X3_equations hx hb hts hown hE hP q_105 dX3_flowOut_31 ?_
          refine xw_callV (C := "NetlistBench$Equations") (n := 0) [] (c_X1_lower l hP (by omega)) hx hb hml hown hts hE hS (xw_recv hE hP (6, 0) rfl rfl) rfl rfl q_25 q_342 q_345 q_343 q_344 (by decide) rfl ⟨by rw [hRf]; decide, by rw [hRl]; decide⟩ hl.1 rfl (Nat.le_of_ble_eq_true rfl) dX3_flowOut_34 ⟨by rw [hRc]; decide, by rw [hRs]; decide⟩ (fun v H1 locs hp hS => ?_)
          obtain ⟨hv, hh⟩ := hp; subst hv; subst hh
          refine lv_lmul hx hb dX3_flowOut_37 ?_
          refine lv_goto (tgt := 70) hx hb dX3_flowOut_38 (by decide) ?_
          refine lv_lstore_n (lv' := [(3, .long (((eZ z i).toInt64) * (mi (2 ^ n - 1)))), (2, .int (nI j)), (1, .ref (ad (13, i))), (0, .ref (ad (0, 0)))]) hx hb dX3_flowOut_70 rfl hl (by decide) rfl (fun ls hl => ?_)
          refine lv_iload_n hx hb dX3_flowOut_71 rfl (lv_at hl 1 rfl) ?_
          refine lv_aload_n hx hb dX3_flowOut_72 rfl (lv_at hl 2 rfl) ?_
          refine fg_X0_a (i := i) (by first | assumption | omega) hx hb hts hown hE hP q_556 dX3_flowOut_73 ?_
          refine xt_i (w := nI (cA z i)) (hw.a hi) ?_
          refine lv_icmp_ne (tgt := 83) hx hb dX3_flowOut_76 (by decide) (fun c76 => ?_) (fun c76 => ?_)
          · skip
            have c76 := ni_ne (a := j) (b := (cA z i)) (by omega) (by omega) c76
            refine lv_lload_n hx hb dX3_flowOut_83 rfl (lv_at hl 0 rfl) ?_
            refine lv_lneg hx hb dX3_flowOut_84 ?_
            exact xe_lret hQ hx hb hr hlocks hH hS (Nat.le_refl _) (Nat.le_refl _) (⟨by rw [flw_2 h18 c76]; first | (rw [if_pos c22]; done) | (rw [if_neg c22]; done), rfl⟩) dX3_flowOut_85
          · skip
            have c76 := ni_eq (a := j) (b := (cA z i)) (by omega) (by omega) c76
            refine lv_lload_n hx hb dX3_flowOut_79 rfl (lv_at hl 0 rfl) ?_
            refine lv_goto (tgt := 85) hx hb dX3_flowOut_80 (by decide) ?_
            exact xe_lret hQ hx hb hr hlocks hH hS (Nat.le_refl _) (Nat.le_refl _) (⟨by rw [flw_1 h18 c76]; first | (rw [if_pos c22]; done) | (rw [if_neg c22]; done), rfl⟩) dX3_flowOut_85
      exact K18 (fun h => by first | exact h.1 c5 | exact h.2 c13) _ _ hS (lv_sub hl [2, 1, 0] rfl)
    · skip
      have c13 := ni_ne (a := j) (b := (cB z i)) (by omega) (by omega) c13
      refine lv_lconst (v := 0) hx hb dX3_flowOut_16 (by decide) ?_
      exact xe_lret hQ hx hb hr hlocks hH hS (Nat.le_refl _) (Nat.le_refl _) (⟨by rw [flw_0 ⟨c5, c13⟩], rfl⟩) dX3_flowOut_17

set_option maxHeartbeats 4000000 in
set_option maxRecDepth 100000 in
theorem c_X3_firstToggleBehind (l : Launch) {D : va_G} {y : Nat → ClassId} {A : Nat → Prop} {ad : xL → Nat} {bl : xM} {z : xC} {g : Nat → Int32} {pl : Nat → Int32} {kn : Nat → Int64} {rw : Nat → Nat → Int64} {mi : Nat → Int64} {un : Int32} {fR fO : Nat → Nat → Option va_E} {Hs : Heap} (hP : xW D A ad (wU (wB y ad bl z g pl kn rw mi un) fR fO) Hs) (hz : bOk bl z) (t : Int32) : Met l yX3_firstToggleBehind (.code yX3_firstToggleBehind cX3_firstToggleBehind 5 (some .int) :: WG) { frames := 3, cells := 0, slots := 0, locals := 64 } (xPc [.ref (ad (0, 0)), .int t] D y Hs) (xQ (fun v H1 => v = some (.int (ftS z t (nE z))) ∧ Hs = H1) A) 0 0 A := by
  refine xM_go (by decide) (Nat.le_of_ble_eq_true rfl) (fun p e s m args below meth c ls R Q hx hb hr hlocks hml hown hts hH hE hnm hRf hRl hRc hRs hQ hS hl => ?_)
  have hRf : R.frames = 3 := hRf
  have hRl : R.locals = 64 := hRl
  have hRc : R.cells = 0 := hRc
  have hRs : R.slots = 0 := hRs
  have hl : lv_has ls 5 [(0, .ref (ad (0, 0))), (1, .int t)] := hl
  have hw := hz.w
  have hN := hw.N
  have hE20 := hw.E
  refine lv_iconst (v := (-1)) hx hb dX3_firstToggleBehind_0 (by decide) ?_
  refine lv_istore_n (lv' := [(2, .int ((-1))), (0, .ref (ad (0, 0))), (1, .int t)]) hx hb dX3_firstToggleBehind_1 rfl hl (by decide) rfl (fun ls hl => ?_)
  refine lv_iconst (v := nI 0) hx hb dX3_firstToggleBehind_2 (by decide) ?_
  refine lv_istore_n (lv' := [(3, .int (nI 0)), (2, .int ((-1))), (0, .ref (ad (0, 0))), (1, .int t)]) hx hb dX3_firstToggleBehind_3 rfl hl (by decide) rfl (fun ls hl => ?_)
  have K4 : ∀ (nn : Nat), ∀ (i : Nat), (i ≤ nE z) → nE z - i < nn → ∀ (locs : List Loc) (ls : Array Slot), va_S A Hs Hs locs → lv_has ls 5 [(3, .int (nI i)), (2, .int (ftS z t i)), (1, .int t), (0, .ref (ad (0, 0)))] → W p l e R s m args below meth c Hs locs 0 0 Q (F0 m 4 ls []) := by
    intro nn
    induction nn with
    | zero => intro i hi h; exact absurd h (Nat.not_lt_zero _)
    | succ nn ih4 =>
      intro i hi hn4 locs ls hS hl
      refine lv_iload_n hx hb dX3_firstToggleBehind_4 rfl (lv_at hl 0 rfl) ?_
      refine lv_aload_n hx hb dX3_firstToggleBehind_5 rfl (lv_at hl 3 rfl) ?_
      refine fg_X3_elements hx hb hts hown hE hP q_103 dX3_firstToggleBehind_6 ?_
      refine xw_callV (C := "java/util/ArrayList") (n := 0) [] (c_size_elements l hP ) hx hb hml hown hts hE hS (xw_recv hE hP (3, 0) rfl rfl) rfl rfl q_24 q_123 q_126 q_124 q_125 (by decide) rfl ⟨by rw [hRf]; decide, by rw [hRl]; decide⟩ hl.1 rfl (Nat.le_of_ble_eq_true rfl) dX3_firstToggleBehind_9 ⟨by rw [hRc]; decide, by rw [hRs]; decide⟩ (fun v H1 locs hp hS => ?_)
      obtain ⟨hv, hh⟩ := hp; subst hv; subst hh
      refine lv_icmp_ge (tgt := 56) hx hb dX3_firstToggleBehind_12 (by decide) (fun c12 => ?_) (fun c12 => ?_)
      · skip
        have c12 := ni_le (a := (nE z)) (b := i) (by omega) (by omega) c12
        refine lv_iload_n hx hb dX3_firstToggleBehind_56 rfl (lv_at hl 1 rfl) ?_
        exact xe_iret hQ hx hb hr hlocks hH hS (Nat.le_refl _) (Nat.le_refl _) (⟨by rw [show nE z = i by omega], rfl⟩) dX3_firstToggleBehind_57
      · skip
        have c12 := ni_nle (a := (nE z)) (b := i) (by omega) (by omega) c12
        refine lv_aload_n hx hb dX3_firstToggleBehind_15 rfl (lv_at hl 3 rfl) ?_
        refine fg_X3_elements hx hb hts hown hE hP q_103 dX3_firstToggleBehind_16 ?_
        refine lv_iload_n hx hb dX3_firstToggleBehind_19 rfl (lv_at hl 0 rfl) ?_
        refine xw_callV (C := "java/util/ArrayList") (n := 1) [.int (nI i)] (c_get_elements l hP hz (by omega)) hx hb hml hown hts hE hS (xw_recv hE hP (3, 0) rfl rfl) rfl rfl q_24 q_195 q_198 q_196 q_197 (by decide) rfl ⟨by rw [hRf]; decide, by rw [hRl]; decide⟩ hl.1 rfl (Nat.le_of_ble_eq_true rfl) dX3_firstToggleBehind_20 ⟨by rw [hRc]; decide, by rw [hRs]; decide⟩ (fun v H1 locs hp hS => ?_)
        obtain ⟨hv, hh⟩ := hp; subst hv; subst hh
        refine xc_el (i := i) hx hb hts hown hE hP (by first | assumption | omega) q_209 dX3_firstToggleBehind_23 ?_
        refine lv_iload_n hx hb dX3_firstToggleBehind_26 rfl (lv_at hl 2 rfl) ?_
        refine xw_callV (C := "NetlistBench$Element") (n := 1) [.int t] (c_X0_toggleBehind l hP hw (by omega) t) hx hb hml hown hts hE hS (xr_el hE hP (by first | assumption | omega)) rfl rfl q_40 q_395 q_398 q_396 q_397 (by decide) rfl ⟨by rw [hRf]; decide, by rw [hRl]; decide⟩ hl.1 rfl (Nat.le_of_ble_eq_true rfl) dX3_firstToggleBehind_27 ⟨by rw [hRc]; decide, by rw [hRs]; decide⟩ (fun v H1 locs hp hS => ?_)
        obtain ⟨hv, hh⟩ := hp; subst hv; subst hh
        refine lv_istore (lv' := [(4, .int (tgb z i t)), (3, .int (nI i)), (2, .int (ftS z t i)), (1, .int t), (0, .ref (ad (0, 0)))]) hx hb dX3_firstToggleBehind_30 hl (by decide) rfl (fun ls hl => ?_)
        refine lv_iload hx hb dX3_firstToggleBehind_32 (lv_at hl 0 rfl) ?_
        refine xt_i (w := tgb z i t) (rfl) ?_
        refine lv_if_lt (tgt := 50) hx hb dX3_firstToggleBehind_34 (by decide) (fun c34 => ?_) (fun c34 => ?_)
        · skip
          rw [show ftS z t i = ftS z t (i + 1) from (ftS_0 c34).symm] at hl
          refine lv_iinc (v := nI (i + 1)) (lv' := [(3, .int (nI (i + 1))), (4, .int (tgb z i t)), (2, .int (ftS z t (i + 1))), (1, .int t), (0, .ref (ad (0, 0)))]) hx hb dX3_firstToggleBehind_50 hl (k := 1) rfl (nI_1 _) (by decide) rfl (fun ls hl => ?_)
          refine lv_goto (tgt := 4) hx hb dX3_firstToggleBehind_53 (by decide) ?_
          exact ih4 (i + 1) (by omega) (by omega) _ _ hS (lv_sub hl [0, 2, 3, 4] rfl)
        · skip
          refine lv_iload_n hx hb dX3_firstToggleBehind_37 rfl (lv_at hl 2 rfl) ?_
          refine lv_if_lt (tgt := 47) hx hb dX3_firstToggleBehind_38 (by decide) (fun c38 => ?_) (fun c38 => ?_)
          · skip
            refine lv_iload hx hb dX3_firstToggleBehind_47 (lv_at hl 0 rfl) ?_
            refine lv_istore_n (lv' := [(2, .int (tgb z i t)), (4, .int (tgb z i t)), (3, .int (nI i)), (1, .int t), (0, .ref (ad (0, 0)))]) hx hb dX3_firstToggleBehind_49 rfl hl (by decide) rfl (fun ls hl => ?_)
            rw [show tgb z i t = ftS z t (i + 1) from by first | exact (ftS_1 c34 c38).symm | exact (ftS_3 c34 c38 c44).symm] at hl
            refine lv_iinc (v := nI (i + 1)) (lv' := [(3, .int (nI (i + 1))), (2, .int (ftS z t (i + 1))), (4, .int (ftS z t (i + 1))), (1, .int t), (0, .ref (ad (0, 0)))]) hx hb dX3_firstToggleBehind_50 hl (k := 2) rfl (nI_1 _) (by decide) rfl (fun ls hl => ?_)
            refine lv_goto (tgt := 4) hx hb dX3_firstToggleBehind_53 (by decide) ?_
            exact ih4 (i + 1) (by omega) (by omega) _ _ hS (lv_sub hl [0, 1, 3, 4] rfl)
          · skip
            refine lv_iload hx hb dX3_firstToggleBehind_41 (lv_at hl 0 rfl) ?_
            refine lv_iload_n hx hb dX3_firstToggleBehind_43 rfl (lv_at hl 2 rfl) ?_
            refine lv_icmp_ge (tgt := 50) hx hb dX3_firstToggleBehind_44 (by decide) (fun c44 => ?_) (fun c44 => ?_)
            · skip
              rw [show ftS z t i = ftS z t (i + 1) from (ftS_2 c34 c38 c44).symm] at hl
              refine lv_iinc (v := nI (i + 1)) (lv' := [(3, .int (nI (i + 1))), (4, .int (tgb z i t)), (2, .int (ftS z t (i + 1))), (1, .int t), (0, .ref (ad (0, 0)))]) hx hb dX3_firstToggleBehind_50 hl (k := 1) rfl (nI_1 _) (by decide) rfl (fun ls hl => ?_)
              refine lv_goto (tgt := 4) hx hb dX3_firstToggleBehind_53 (by decide) ?_
              exact ih4 (i + 1) (by omega) (by omega) _ _ hS (lv_sub hl [0, 2, 3, 4] rfl)
            · skip
              refine lv_iload hx hb dX3_firstToggleBehind_47 (lv_at hl 0 rfl) ?_
              refine lv_istore_n (lv' := [(2, .int (tgb z i t)), (4, .int (tgb z i t)), (3, .int (nI i)), (1, .int t), (0, .ref (ad (0, 0)))]) hx hb dX3_firstToggleBehind_49 rfl hl (by decide) rfl (fun ls hl => ?_)
              rw [show tgb z i t = ftS z t (i + 1) from by first | exact (ftS_1 c34 c38).symm | exact (ftS_3 c34 c38 c44).symm] at hl
              refine lv_iinc (v := nI (i + 1)) (lv' := [(3, .int (nI (i + 1))), (2, .int (ftS z t (i + 1))), (4, .int (ftS z t (i + 1))), (1, .int t), (0, .ref (ad (0, 0)))]) hx hb dX3_firstToggleBehind_50 hl (k := 2) rfl (nI_1 _) (by decide) rfl (fun ls hl => ?_)
              refine lv_goto (tgt := 4) hx hb dX3_firstToggleBehind_53 (by decide) ?_
              exact ih4 (i + 1) (by omega) (by omega) _ _ hS (lv_sub hl [0, 1, 3, 4] rfl)
  exact K4 _ 0 (by omega) (Nat.lt_succ_self _) _ _ hS (lv_sub hl [0, 1, 3, 2] rfl)
end
section
/-! methods that return or throw -/
def XNB : List Cond := [.castable "java/lang/IllegalStateException" "java/lang/IllegalStateException", .castable "java/lang/IllegalArgumentException" "java/lang/IllegalArgumentException", .castable "java/lang/IndexOutOfBoundsException" "java/lang/IndexOutOfBoundsException", .declares ⟨"java/lang/RuntimeException", "<init>", "()V"⟩, .declares ⟨"java/lang/RuntimeException", "<init>", "(Ljava/lang/String;)V"⟩, .declares ⟨"java/lang/Exception", "<init>", "()V"⟩, .declares ⟨"java/lang/Exception", "<init>", "(Ljava/lang/String;)V"⟩, .declares ⟨"java/lang/Throwable", "<init>", "()V"⟩, .declares ⟨"java/lang/Throwable", "<init>", "(Ljava/lang/String;)V"⟩]
def XST : List (Nat × String) := [(36, "there are 8 nodes"), (209, "there is no such node"), (54, "the potential of a rail is -99 to 99"), (69, "an element goes to another node"), (215, "the size is not one of such an element"), (75, "there are 20 elements"), (211, "there is no such element"), (93, "the time of a toggle is 1 to 999"), (108, "the element has 6 toggles"), (213, "a time is 0 to 999"), (217, "the node floats"), (166, "the node is no rail"), (172, "the nodes do not hang together"), (188, "the last time is before the first one"), (194, "the fraction is -500 to 500 by 1 to 500")]
def xNB (w : Cond) : Bool := match w with
  | .castable _ _ => true
  | .declares _ => true
  | _ => false
theorem XNB_all : ∀ w ∈ XNB, xNB w = true := by decide +kernel
theorem xNB_warm {w : Cond} {s U : State} (hb : xNB w = true) (hW : s.WarmedH U.vm) (h : va_Nw w s) : va_Nw w U := by
  cases w with
  | castable a b => exact va_Nw.warmC hW h
  | declares x => exact va_Nw.warmD hW h
  | _ => cases hb
theorem xNB_same {w : Cond} {s U : State} (hb : xNB w = true) (hv : s.vm = U.vm) (h : va_Nw w s) : va_Nw w U := by
  cases w with
  | castable a b => exact va_Nw.same rfl hv h
  | declares x => exact va_Nw.same rfl hv h
  | _ => cases hb
def xF (A : Nat → Prop) (U : State) (H : Heap) : Prop := (∀ w ∈ XNB, va_Nw w U) ∧ vx_Zq Bundle.tN "UNASSIGNED_STACK" Bundle.steD A U H ∧ vx_Zq Bundle.tN "SUPPRESSED_SENTINEL" Bundle.listD A U H ∧ ∀ q ∈ XST, ∃ sa, vk_R "NetlistBench" q.1 q.2 sa U
theorem xF.warm {A : Nat → Prop} {s U : State} {H H1 : Heap} (hW : s.WarmedH U.vm) (hk : ∀ a : Nat, a < H.size → ¬ A a → H1[a]? = H[a]?) (h : xF A s H) : xF A U H1 :=
  ⟨fun w hw => xNB_warm (XNB_all w hw) hW (h.1 w hw), (h.2.1.kept hk).moved hW.alike, (h.2.2.1.kept hk).moved hW.alike, fun q hq => by
    obtain ⟨sa, hs⟩ := h.2.2.2 q hq
    exact ⟨sa, hs.warm hW⟩⟩
theorem xF.same {A : Nat → Prop} {s U : State} {H : Heap} (hv : s.vm = U.vm) (h : xF A s H) : xF A U H :=
  ⟨fun w hw => xNB_same (XNB_all w hw) hv (h.1 w hw), h.2.1.moved (by rw [hv]; exact Vm.Alike.refl U.vm), h.2.2.1.moved (by rw [hv]; exact Vm.Alike.refl U.vm), fun q hq => by
    obtain ⟨sa, hs⟩ := h.2.2.2 q hq
    exact ⟨sa, hs.same hv.symm⟩⟩
def xPcX (av : List Value) (D : va_G) (y : Nat → ClassId) (A : Nat → Prop) (H : Heap) : Array Value → State → Prop := va_Pc av (fun U => U.heap = H ∧ xE D y U ∧ xF A U H)
def xX (pX : String → Heap → Prop) (A : Nat → Prop) : String → State → State → Prop := fun E st t => pX E t.heap ∧ va_F A st t
theorem xPcX_blind {av : List Value} {D : va_G} {y : Nat → ClassId} {A : Nat → Prop} {H : Heap} : FrameBlind (xPcX av D y A H) := fun a U g mk q => ⟨q.1, q.2.1, q.2.2.1.same rfl, q.2.2.2.same (show U.vm = (U.calling g mk a).vm from rfl)⟩
theorem xM_goX {l : Launch} {x : MethodName} {cc : ByteArray} {maxL : Nat} {ret : Option FieldType} {rm : Room} {av : List Value} {D : va_G} {y : Nat → ClassId} {H : Heap} {post : Option Value → Heap → Prop} {pX : String → Heap → Prop} {A : Nat → Prop} {mc ms : Nat}
    (hy : plainName x.cls = true) (hlen : (lg_sl av).length ≤ maxL)
    (body : ∀ (p : Program) (e : Env) (s : State) (m : MethodId) (args : Array Value) (below : List Frame) (meth : Method) (c : Code) (ls : Array Slot) (R : Room) (Q : State → Prop), p.tables.exec = Jvm.exec → c.code = cc → meth.sig.returnType = ret → meth.locks = false → c.maxLocals = maxL → s.vm.findClass x.cls = some m.cls → (∀ w ∈ WG, w.before args s = true) → s.heap = H → xE D y s → meth.name = x.name → R.frames = rm.frames → R.locals = rm.locals → R.cells = rm.cells → R.slots = rm.slots → Q = vx_MQ below (xQ post A) (xX pX A) args s mc ms A → va_S A H H [] → lv_has ls maxL (lv_args 0 av) → xF A s H → (∀ z ∈ c.exceptionTable.toList, False) →
      W p l e R s m args below meth c H [] 0 0 Q (F0 m 0 ls [])) : vx_Met l x (.code x cc maxL ret :: WG) rm (xPcX av D y A H) (xQ post A) (xX pX A) mc ms A := by
  refine vx_ofW (cc := cc) (maxL := maxL) (ret := ret) hy rfl ?_
  intro p e s m args below meth c s₁ B hml htab hv
  obtain ⟨rfl, hH, hE, hF⟩ := hv
  have hts := atoms_spec (ws := .code x cc maxL ret :: WG) B.pre
  have hl := lv_entry av (n := maxL) hlen
  rw [lg_entry_eq]
  have hb := body p e s m av.toArray below meth c _ rm _ B.exec B.bytes B.returns B.notSynchronized hml (findClass_of_methodNamed B.named) (fun w h => hts w (List.mem_cons_of_mem _ h)) hH hE (name_of_methodNamed B.named B.method).1 rfl rfl rfl rfl rfl va_S.rf hl hF htab
  rw [hH]
  exact hb
theorem xW.kept {D : va_G} {A : Nat → Prop} {ad : xL → Nat} {ct : xL → Option va_E} {H H1 : Heap} (h : xW D A ad ct H) (z : H.size ≤ H1.size) (hk : ∀ q : Nat, q < H.size → H1[q]? = H[q]?) : xW D A ad ct H1 :=
  ⟨fun k e hk2 => (h.1 k e hk2).kept (hk _ (h.lt hk2)), h.2.1, fun q hq => h.2.2 q (Nat.le_trans z hq)⟩
theorem xB.kept {D : va_G} {A : Nat → Prop} {y : Nat → ClassId} {ad : xL → Nat} {bl : xM} {z : xC} {fR fO : Nat → Nat → Option va_E} {H H1 : Heap} (h : xB D A y ad bl z fR fO H) (zz : H.size ≤ H1.size) (hk : ∀ q : Nat, q < H.size → H1[q]? = H[q]?) : xB D A y ad bl z fR fO H1 := by
  obtain ⟨g, pl, kn, rw, mi, un, h⟩ := h
  exact ⟨g, pl, kn, rw, mi, un, h.kept zz hk⟩
def nmE : List String := ["java/lang/RuntimeException", "java/lang/Exception"]
theorem xa_ISE : ∀ w ∈ (vx_atS "NetlistBench" 38 "java/lang/IllegalStateException" nmE).filter goodWord, w ∈ lw_tbl := by decide +kernel
theorem xa_IAE : ∀ w ∈ (vx_atS "NetlistBench" 56 "java/lang/IllegalArgumentException" nmE).filter goodWord, w ∈ lw_tbl := by decide +kernel
theorem xa_IOB : ∀ w ∈ (vx_atS "NetlistBench" 114 "java/lang/IndexOutOfBoundsException" nmE).filter goodWord, w ∈ lw_tbl := by decide +kernel
theorem xb_ISE : ∀ w ∈ (vx_atS "NetlistBench" 38 "java/lang/IllegalStateException" nmE).filter (fun w => !goodWord w), w ∈ XNB := by decide +kernel
theorem xb_IAE : ∀ w ∈ (vx_atS "NetlistBench" 56 "java/lang/IllegalArgumentException" nmE).filter (fun w => !goodWord w), w ∈ XNB := by decide +kernel
theorem xb_IOB : ∀ w ∈ (vx_atS "NetlistBench" 114 "java/lang/IndexOutOfBoundsException" nmE).filter (fun w => !goodWord w), w ∈ XNB := by decide +kernel
def xThr (cls : String) (ik ic : Nat) : Prop := Bundle.fit cls = true ∧ Cond.classLink "NetlistBench" ik cls ∈ WG ∧ Cond.initialized cls ∈ WG ∧ (∀ w ∈ (vx_atS "NetlistBench" ic cls nmE).filter goodWord, w ∈ lw_tbl) ∧ (∀ w ∈ (vx_atS "NetlistBench" ic cls nmE).filter (fun w => !goodWord w), w ∈ XNB) ∧ ∀ w ∈ Cond.classLink "NetlistBench" ik cls :: Cond.initialized cls :: vx_atS "NetlistBench" ic cls nmE, vx_ot w = true
theorem xt_ISE : xThr "java/lang/IllegalStateException" 34 38 := ⟨by decide +kernel, q_271, q_30, xa_ISE, xb_ISE, by decide +kernel⟩
theorem xt_IAE : xThr "java/lang/IllegalArgumentException" 52 56 := ⟨by decide +kernel, q_213, q_37, xa_IAE, xb_IAE, by decide +kernel⟩
theorem xt_IOB : xThr "java/lang/IndexOutOfBoundsException" 110 114 := ⟨by decide +kernel, q_127, q_36, xa_IOB, xb_IOB, by decide +kernel⟩
section XY
variable {p : Program} {l : Launch} {e : Env} {R : Room} {s : State} {m : MethodId} {args : Array Value} {below : List Frame} {meth : Method} {c : Code} {H H0 : Heap} {locs : List Loc} {cells slots mc ms : Nat} {Q : State → Prop}
variable {cc : ByteArray} {pc : Nat} {ls : Array Slot} {rest : List Value} {D : va_G} {y : Nat → ClassId} {A : Nat → Prop} {post : Option Value → Heap → Prop} {pX : String → Heap → Prop}
theorem xw_throw {cls text : String} {ik is ic : Nat} (ht : xThr cls ik ic) (hQ : Q = vx_MQ below (xQ post A) (xX pX A) args s mc ms A) (hexec : p.tables.exec = Jvm.exec) (hb : c.code = cc) (hls : l.stackTraces = false) (hown : s.vm.findClass "NetlistBench" = some m.cls) (hts : ∀ w ∈ WG, w.before args s = true) (hlocks : meth.locks = false) (hH : s.heap = H0) (hF : xF A s H0) (hS : va_S A H0 H locs) (htab : ∀ z ∈ c.exceptionTable.toList, False) (hsize : ls.size = c.maxLocals) (hst : (is, text) ∈ XST)
    (d0 : decode cc pc = .ok (.new ik, 3)) (d3 : decode cc (pc + 3) = .ok (.dup, 1)) (d4 : decode cc (pc + 4) = .ok (.ldc is, 2)) (d6 : decode cc (pc + 6) = .ok (.invokespecial ic, 3)) (d9 : decode cc (pc + 9) = .ok (.athrow, 1))
    (hR1 : 5 < R.frames) (hR2 : (rest.map fun v => v.category).sum + 82 ≤ R.locals) (hR3 : cells + 1 ≤ R.cells) (hR4 : slots + 6 ≤ R.slots) (hc : cells + 1 ≤ mc) (hs : slots + 6 ≤ ms)
    (hp : ∀ H1 : Heap, H.size ≤ H1.size → (∀ q : Nat, q < H.size → H1[q]? = H[q]?) → pX cls H1) : W p l e R s m args below meth c H locs cells slots Q (F0 m pc ls rest) := by
  obtain ⟨h1, h2, h3, h4, h5, h6⟩ := ht
  obtain ⟨sa, hsa⟩ := hF.2.2.2 _ hst
  subst hH
  rw [hQ]
  refine vx_throwS (names := nmE) hexec hb hls hown h1 (by decide +kernel) (hts _ h2) (hts _ h3) hsa ?_ h6 hF.2.1 hF.2.2.1 hS hsize d0 d3 d4 d6 d9 (fun x hx => (htab x hx).elim) hR1 hR2 hR3 hR4 hlocks ?_ hS.2.2 hc hs
  · exact vx_hat (B := XNB) (fun w hw => hts w (List.mem_filter.mpr ⟨h4 w hw, (List.mem_filter.mp hw).2⟩)) h5 (fun w hw => va_Nw.use (by have := XNB_all w hw; cases w <;> first | rfl | cases this) (hF.1 w hw))
  · intro t hvm z hk
    exact ⟨hp t.heap z hk, Nat.le_trans hS.1 z, fun q g1 g2 => by rw [hk q (Nat.lt_of_lt_of_le g1 hS.1)]; exact hS.2.1 q g1 g2⟩
theorem xx_iret {v : Int32} (hQ : Q = vx_MQ below (xQ post A) (xX pX A) args s mc ms A) (hexec : p.tables.exec = Jvm.exec) (hb : c.code = cc) (hr : meth.sig.returnType = some .int) (hlocks : meth.locks = false) (hH : s.heap = H0) (hS : va_S A H0 H locs) (h1 : cells ≤ mc) (h2 : slots ≤ ms) (hp : post (some (.int v)) H) (hdg : decode cc pc = .ok (.ireturn, 1)) : W p l e R s m args below meth c H locs cells slots Q (F0 m pc ls [.int v]) := by
  rw [hQ]; exact vx_ret (xw_iret hexec hb hr hlocks hH hS h1 h2 hp hdg)
theorem xx_zret {v : Int32} (hQ : Q = vx_MQ below (xQ post A) (xX pX A) args s mc ms A) (hexec : p.tables.exec = Jvm.exec) (hb : c.code = cc) (hr : meth.sig.returnType = some .boolean) (hlocks : meth.locks = false) (hH : s.heap = H0) (hS : va_S A H0 H locs) (hz : v = 0 ∨ v = 1) (h1 : cells ≤ mc) (h2 : slots ≤ ms) (hp : post (some (.int v)) H) (hdg : decode cc pc = .ok (.ireturn, 1)) : W p l e R s m args below meth c H locs cells slots Q (F0 m pc ls [.int v]) := by
  rw [hQ]; exact vx_ret (xw_zret hexec hb hr hlocks hH hS (by rcases hz with h | h <;> subst h <;> rfl) h1 h2 hp hdg)
theorem xx_lret {v : Int64} (hQ : Q = vx_MQ below (xQ post A) (xX pX A) args s mc ms A) (hexec : p.tables.exec = Jvm.exec) (hb : c.code = cc) (hr : meth.sig.returnType = some .long) (hlocks : meth.locks = false) (hH : s.heap = H0) (hS : va_S A H0 H locs) (h1 : cells ≤ mc) (h2 : slots ≤ ms) (hp : post (some (.long v)) H) (hdg : decode cc pc = .ok (.lreturn, 1)) : W p l e R s m args below meth c H locs cells slots Q (F0 m pc ls [.long v]) := by
  rw [hQ]; exact vx_ret (xw_lret hexec hb hr hlocks hH hS h1 h2 hp hdg)
theorem xx_vret (hQ : Q = vx_MQ below (xQ post A) (xX pX A) args s mc ms A) (hexec : p.tables.exec = Jvm.exec) (hb : c.code = cc) (hr : meth.sig.returnType = none) (hlocks : meth.locks = false) (hH : s.heap = H0) (hS : va_S A H0 H locs) (h1 : cells ≤ mc) (h2 : slots ≤ ms) (hp : post none H) (hdg : decode cc pc = .ok (.return_, 1)) : W p l e R s m args below meth c H locs cells slots Q (F0 m pc ls []) := by
  rw [hQ]; exact vx_ret (xw_vret hexec hb hr hlocks hH hS h1 h2 hp hdg)
theorem xF_pre {av : List Value} {Hx : Heap} (hE : xE D y s) (hF : xF A s H0) (hS : va_S A H0 Hx locs) : ∀ U : State, U.heap = Hx → s.WarmedH U.vm → xPcX av D y A Hx av.toArray U := fun U hU hW => ⟨rfl, hU, hE.moved hW, hF.warm hW hS.2.1⟩
theorem xx_go {a : Array Value} {st0 : List Value} (hr : vx_Run p l e R s m args below meth c H locs cells slots mc ms (F0 m pc ls st0) rest (xQ post A a) (xX pX A) A) (hS : va_S A H0 H locs)
    (kx : ∀ (E : String) (ce : Cell) (q9 : Addr) (H1 : Heap) (locs1 : List Loc), pX E H1 → va_S A H0 H1 locs1 → H1[q9]? = some ce → ce.vm = .none → s.vm.findClass E = some ce.cls → vx_W p l e R s m args below meth c H1 locs1 (cells + mc) (slots + ms) Q (F0 m pc ls rest) q9)
    (kk : ∀ (v : Option Value) (H1 : Heap) (locs1 : List Loc), post v H1 → va_S A H0 H1 locs1 → W p l e R s m args below meth c H1 locs1 (cells + mc) (slots + ms) Q (F0 m (pc + 3) ls (v.toList ++ rest))) : W p l e R s m args below meth c H locs cells slots Q (F0 m pc ls st0) := by
  intro T hT X
  rcases hr T hT X with ⟨v, st₀, t, T', L, h0, X', hL, e1, e2, ⟨⟨r, hv, hp⟩, hF⟩, st⟩ | ⟨q, st₀, t, T', L, E, ce, h0, X', hL, e1, e2, ⟨hp, hF⟩, hce, hcv, hcl, st⟩
  · cases hv
    obtain ⟨k1, k2, k3⟩ := vx_keep h0 e1 hS (fun _ _ h => h) (fun _ h => h) hL hF
    obtain ⟨t2, a1, b1⟩ := kk v T'.heap (locs ++ L) (by rw [e1]; exact hp) k3 T' rfl X'
    exact ⟨t2, st t2 a1, b1⟩
  · obtain ⟨k1, k2, k3⟩ := vx_keep h0 e1 hS (fun _ _ h => h) (fun _ h => h) hL hF
    obtain ⟨t2, a1, b1⟩ := kx E ce q T'.heap (locs ++ L) (by rw [e1]; exact hp) k3 (by rw [e1]; exact hce) hcv hcl T' rfl X'
    exact ⟨t2, st.trans a1, b1⟩
/-- thrown on to the caller -/
theorem xx_out {E : String} {ce : Cell} {q9 : Addr} (hQ : Q = vx_MQ below (xQ post A) (xX pX A) args s mc ms A) (htab : ∀ z ∈ c.exceptionTable.toList, False) (hlocks : meth.locks = false) (hH : s.heap = H0) (hS : va_S A H0 H locs) (hce : H[q9]? = some ce) (hcv : ce.vm = .none) (hcl : s.vm.findClass E = some ce.cls) (hc : cells ≤ mc) (hs : slots ≤ ms) (hp : pX E H) : vx_W p l e R s m args below meth c H locs cells slots Q (F0 m pc ls rest) q9 := by
  rw [hQ]
  exact vx_out (fun x hx => (htab x hx).elim) hlocks hce hcv hcl (fun t ht _ => ⟨by rw [ht]; exact hp, by rw [ht, hH]; exact hS.1, fun q h1 h2 => by rw [ht, hH]; rw [hH] at h1; exact hS.2.1 q h1 h2⟩) hS.2.2 hc hs
theorem xx_callV {own C : String} {index maxL nL n mc' ms' : Nat} {x : MethodName} {bytes : ByteArray} {ret : Option FieldType} {rm : Room} {b : Addr} {st0 : List Value} (As : List Value) (hM : vx_Met l x (.code x bytes maxL ret :: WG) rm (xPcX (.ref b :: As) D y A H) (xQ post A) (xX pX A) mc' ms' A) (hexec : p.tables.exec = Jvm.exec) (hb : c.code = cc) (hml : c.maxLocals = nL) (hown : s.vm.findClass own = some m.cls) (hts : ∀ w ∈ WG, w.before args s = true) (hE : xE D y s) (hF : xF A s H0) (hS : va_S A H0 H locs) (hrecv : ∃ cellB : Cell, H[b]? = some cellB ∧ cellB.vm.isStatics = false ∧ s.vm.findClass C = some cellB.cls)
    (hrc : rm.cells = mc') (hrs : rm.slots = ms') (hini : Cond.initialized x.cls ∈ WG) (hl : Cond.methodLink own index x ∈ WG) (hcode : Cond.code x bytes maxL ret ∈ WG) (hin : Cond.instanceMethod x ∈ WG) (hsel : Cond.selects C x x ∈ WG) (hd : x.cls ≠ "java/lang/invoke/MethodHandle" ∧ x.cls ≠ "java/lang/invoke/VarHandle" ∧ (parseMethodDescriptor x.desc).map (fun d => d.parameters.length) = some n) (hn : As.length = n) (hR : rm.frames + 1 ≤ R.frames ∧ 8 + (maxL + 11) + rm.locals ≤ R.locals)
    (hsize : ls.size = nL) (hstack : st0 = As.reverse ++ .ref b :: rest) (hW : (rest.map fun v => v.category).sum ≤ 8) (hdg : decode cc pc = .ok (.invokevirtual index, 3)) (hf : cells + mc' ≤ R.cells ∧ slots + ms' ≤ R.slots)
    (kx : ∀ (E : String) (ce : Cell) (q9 : Addr) (H1 : Heap) (locs1 : List Loc), pX E H1 → va_S A H0 H1 locs1 → H1[q9]? = some ce → ce.vm = .none → s.vm.findClass E = some ce.cls → vx_W p l e R s m args below meth c H1 locs1 (cells + mc') (slots + ms') Q (F0 m pc ls rest) q9)
    (kk : ∀ (v : Option Value) (H1 : Heap) (locs1 : List Loc), post v H1 → va_S A H0 H1 locs1 → W p l e R s m args below meth c H1 locs1 (cells + mc') (slots + ms') Q (F0 m (pc + 3) ls (v.toList ++ rest))) : W p l e R s m args below meth c H locs cells slots Q (F0 m pc ls st0) :=
  xx_go (a := (Value.ref b :: As).toArray) (vx_runV (rest := rest) ⟨hexec, hb, hml, hown, hts⟩ hM ⟨xw_cb hts hrc hrs hini hl hcode hd hR, hts _ hin, hts _ hsel⟩ ⟨xPcX_blind, hrecv, xF_pre hE hF hS⟩ rfl hn hsize hstack (lv_room hW) hdg hf) hS kx kk
theorem xx_callS {own : String} {index maxL nL n mc' ms' : Nat} {x : MethodName} {bytes : ByteArray} {ret : Option FieldType} {rm : Room} {st0 : List Value} (As : List Value) (hM : vx_Met l x (.code x bytes maxL ret :: WG) rm (xPcX As D y A H) (xQ post A) (xX pX A) mc' ms' A) (hexec : p.tables.exec = Jvm.exec) (hb : c.code = cc) (hml : c.maxLocals = nL) (hown : s.vm.findClass own = some m.cls) (hts : ∀ w ∈ WG, w.before args s = true) (hE : xE D y s) (hF : xF A s H0) (hS : va_S A H0 H locs)
    (hrc : rm.cells = mc') (hrs : rm.slots = ms') (hini : Cond.initialized x.cls ∈ WG) (hl : Cond.methodLink own index x ∈ WG) (hcode : Cond.code x bytes maxL ret ∈ WG) (hst : Cond.static x ∈ WG) (hd : x.cls ≠ "java/lang/invoke/MethodHandle" ∧ x.cls ≠ "java/lang/invoke/VarHandle" ∧ (parseMethodDescriptor x.desc).map (fun d => d.parameters.length) = some n) (hn : As.length = n) (hR : rm.frames + 1 ≤ R.frames ∧ 8 + (maxL + 11) + rm.locals ≤ R.locals)
    (hsize : ls.size = nL) (hstack : st0 = As.reverse ++ rest) (hW : (rest.map fun v => v.category).sum ≤ 8) (hdg : decode cc pc = .ok (.invokestatic index, 3)) (hf : cells + mc' ≤ R.cells ∧ slots + ms' ≤ R.slots)
    (kx : ∀ (E : String) (ce : Cell) (q9 : Addr) (H1 : Heap) (locs1 : List Loc), pX E H1 → va_S A H0 H1 locs1 → H1[q9]? = some ce → ce.vm = .none → s.vm.findClass E = some ce.cls → vx_W p l e R s m args below meth c H1 locs1 (cells + mc') (slots + ms') Q (F0 m pc ls rest) q9)
    (kk : ∀ (v : Option Value) (H1 : Heap) (locs1 : List Loc), post v H1 → va_S A H0 H1 locs1 → W p l e R s m args below meth c H1 locs1 (cells + mc') (slots + ms') Q (F0 m (pc + 3) ls (v.toList ++ rest))) : W p l e R s m args below meth c H locs cells slots Q (F0 m pc ls st0) :=
  xx_go (a := As.toArray) (vx_runS (rest := rest) ⟨hexec, hb, hml, hown, hts⟩ hM ⟨xw_cb hts hrc hrs hini hl hcode hd hR, hts _ hst⟩ ⟨xPcX_blind, xF_pre hE hF hS⟩ rfl hn hsize hstack (lv_room hW) hdg hf) hS kx kk
end XY
end
