/-! THE WORLD: kinds 0..19 the bench, 20..39 the reference, 40.. the law's own rows. Written by wip/whole/tools/genrows.py. -/
/-- a circuit, as both sides hold it: how many nodes; isRail, potential; how many elements; isSource, a, b, size, isOn, toggles; the toggles' times, six places an element -/
abbrev xC : Type := Nat × (Nat → Int32) × (Nat → Int32) × Nat × (Nat → Int32) × (Nat → Int32) × (Nat → Int32) × (Nat → Int32) × (Nat → Int32) × (Nat → Int32) × (Nat → Int32)
def nN (z : xC) : Nat := z.1
def nR (z : xC) : Nat → Int32 := z.2.1
def nP (z : xC) : Nat → Int32 := z.2.2.1
def nE (z : xC) : Nat := z.2.2.2.1
def eS (z : xC) : Nat → Int32 := z.2.2.2.2.1
def eA (z : xC) : Nat → Int32 := z.2.2.2.2.2.1
def eB (z : xC) : Nat → Int32 := z.2.2.2.2.2.2.1
def eZ (z : xC) : Nat → Int32 := z.2.2.2.2.2.2.2.1
def eO (z : xC) : Nat → Int32 := z.2.2.2.2.2.2.2.2.1
def eT (z : xC) : Nat → Int32 := z.2.2.2.2.2.2.2.2.2.1
def tT (z : xC) : Nat → Int32 := z.2.2.2.2.2.2.2.2.2.2
def s_nN (z : xC) (v : Nat) : xC := (v, nR z, nP z, nE z, eS z, eA z, eB z, eZ z, eO z, eT z, tT z)
def s_nR (z : xC) (v : Nat → Int32) : xC := (nN z, v, nP z, nE z, eS z, eA z, eB z, eZ z, eO z, eT z, tT z)
def s_nP (z : xC) (v : Nat → Int32) : xC := (nN z, nR z, v, nE z, eS z, eA z, eB z, eZ z, eO z, eT z, tT z)
def s_nE (z : xC) (v : Nat) : xC := (nN z, nR z, nP z, v, eS z, eA z, eB z, eZ z, eO z, eT z, tT z)
def s_eS (z : xC) (v : Nat → Int32) : xC := (nN z, nR z, nP z, nE z, v, eA z, eB z, eZ z, eO z, eT z, tT z)
def s_eA (z : xC) (v : Nat → Int32) : xC := (nN z, nR z, nP z, nE z, eS z, v, eB z, eZ z, eO z, eT z, tT z)
def s_eB (z : xC) (v : Nat → Int32) : xC := (nN z, nR z, nP z, nE z, eS z, eA z, v, eZ z, eO z, eT z, tT z)
def s_eZ (z : xC) (v : Nat → Int32) : xC := (nN z, nR z, nP z, nE z, eS z, eA z, eB z, v, eO z, eT z, tT z)
def s_eO (z : xC) (v : Nat → Int32) : xC := (nN z, nR z, nP z, nE z, eS z, eA z, eB z, eZ z, v, eT z, tT z)
def s_eT (z : xC) (v : Nat → Int32) : xC := (nN z, nR z, nP z, nE z, eS z, eA z, eB z, eZ z, eO z, v, tT z)
def s_tT (z : xC) (v : Nat → Int32) : xC := (nN z, nR z, nP z, nE z, eS z, eA z, eB z, eZ z, eO z, eT z, v)
/-- the lists' own numbers: modCount, modCount, length of the data, length of the data -/
abbrev xM : Type := Int32 × Int32 × Nat × Nat
abbrev xr (f : Nat → Option Nat) : (Nat → Int32) ⊕ (Nat → Int64) ⊕ (Nat → UInt32) ⊕ (Nat → UInt64) ⊕ (Nat → Option Nat) := .inr (.inr (.inr (.inr f)))
def wB (y : Nat → ClassId) (ad : xL → Nat) (bl : xM) (z : xC) (g pl : Nat → Int32) (kn : Nat → Int64) (rw : Nat → Nat → Int64) (mi : Nat → Int64) (un : Int32) : Nat → Nat → Option va_E
  | 0, 0 => some (.inr (4, [.ref (ad (1, 0)), .ref (ad (3, 0)), .ref (ad (5, 0)), .ref (ad (6, 0))]))
  | 1, 0 => some (.inr (0, [.int bl.1, .ref (ad (2, 0)), .int (nI (nN z))]))
  | 2, 0 => if nN z = 0 then none else some (.inl (y 4, bl.2.2.1, xr (fun i => if i < nN z then some (ad (12, i)) else none)))
  | 3, 0 => some (.inr (0, [.int bl.2.1, .ref (ad (4, 0)), .int (nI (nE z))]))
  | 4, 0 => if nE z = 0 then none else some (.inl (y 4, bl.2.2.2, xr (fun i => if i < nE z then some (ad (13, i)) else none)))
  | 5, 0 => some (.inl (y 0, 8, .inl g))
  | 6, 0 => some (.inr (2, [.ref (ad (7, 0)), .ref (ad (8, 0)), .ref (ad (9, 0)), .ref (ad (11, 0)), .int un]))
  | 7, 0 => some (.inl (y 0, 8, .inl pl))
  | 8, 0 => some (.inl (y 1, 8, .inr (.inl kn)))
  | 9, 0 => some (.inl (y 5, 7, xr (fun i => if i < 7 then some (ad (10, i)) else none)))
  | 10, i => if i < 7 then some (.inl (y 1, 8, .inr (.inl (rw i)))) else none
  | 11, 0 => some (.inl (y 1, 256, .inr (.inl mi)))
  | 12, i => if i < nN z then some (.inr (3, [.int (nR z i), .int (nP z i)])) else none
  | 13, i => if i < nE z then some (.inr (1, [.int (eS z i), .int (eA z i), .int (eB z i), .int (eZ z i), .int (eO z i), .int (eT z i), .ref (ad (14, i))])) else none
  | 14, i => if i < nE z then some (.inl (y 0, 6, .inl (fun j => tT z (6 * i + j)))) else none
  | _, _ => none
/-- the law's own circuit: the rails' row, the elements' rows -/
def wH (y : Nat → ClassId) (ad : xL → Nat) (nr : Nat) (hr : Nat → Int32) (ne : Nat) (hk : Nat → Nat) (hw : Nat → Nat → Int32) : Nat → Nat → Option va_E
  | 0, 0 => some (.inr (5, [.ref (ad (21, 0)), .ref (ad (22, 0))]))
  | 1, 0 => some (.inl (y 0, nr, .inl hr))
  | 2, 0 => some (.inl (y 3, ne, xr (fun i => if i < ne then some (ad (23, i)) else none)))
  | 3, i => if i < ne then some (.inl (y 0, hk i, .inl (hw i))) else none
  | _, _ => none
/-- the law's three times -/
def wO (y : Nat → ClassId) (f : Nat → Int32) : Nat → Nat → Option va_E
  | 0, 0 => some (.inl (y 0, 3, .inl f))
  | _, _ => none
def wU (fB fR fO : Nat → Nat → Option va_E) : xL → Option va_E := fun q => if q.1 < 20 then fB q.1 q.2 else if q.1 < 40 then fR (q.1 - 20) q.2 else fO (q.1 - 40) q.2
theorem wU_B {fB fB' fR fO : Nat → Nat → Option va_E} {k i : Nat} {e : va_E} (hk : k < 20) (h : ∀ a b : Nat, ¬ (a = k ∧ b = i) → fB a b = fB' a b) (h2 : fB' k i = some e) : aw_up (wU fB fR fO) (k, i) e = wU fB' fR fO := by
  funext q
  obtain ⟨a, b⟩ := q
  by_cases hq : (a, b) = (k, i)
  · cases hq
    rw [aw_up_self]
    unfold wU
    rw [if_pos hk]
    exact h2.symm
  · rw [aw_up_ne hq]
    unfold wU
    by_cases ha : a < 20
    · rw [if_pos ha, if_pos ha]
      exact h a b (fun e => hq (by rw [e.1, e.2]))
    · rw [if_neg ha, if_neg ha]
theorem wU_R {fB fR fR' fO : Nat → Nat → Option va_E} {k i : Nat} {e : va_E} (hk : k < 20) (h : ∀ a b : Nat, ¬ (a = k ∧ b = i) → fR a b = fR' a b) (h2 : fR' k i = some e) : aw_up (wU fB fR fO) (k + 20, i) e = wU fB fR' fO := by
  funext q
  obtain ⟨a, b⟩ := q
  by_cases hq : (a, b) = (k + 20, i)
  · cases hq
    rw [aw_up_self]
    unfold wU
    rw [if_neg (show ¬ k + 20 < 20 by omega), if_pos (show k + 20 < 40 by omega), Nat.add_sub_cancel]
    exact h2.symm
  · rw [aw_up_ne hq]
    unfold wU
    by_cases ha : a < 20
    · rw [if_pos ha, if_pos ha]
    · rw [if_neg ha, if_neg ha]
      by_cases hb : a < 40
      · rw [if_pos hb, if_pos hb]
        refine h (a - 20) b (fun e => hq ?_)
        have e1 : a = k + 20 := by have := e.1; omega
        rw [e1, e.2]
      · rw [if_neg hb, if_neg hb]
theorem wU_O {fB fR fO fO' : Nat → Nat → Option va_E} {k i : Nat} {e : va_E} (h : ∀ a b : Nat, ¬ (a = k ∧ b = i) → fO a b = fO' a b) (h2 : fO' k i = some e) : aw_up (wU fB fR fO) (k + 40, i) e = wU fB fR fO' := by
  funext q
  obtain ⟨a, b⟩ := q
  by_cases hq : (a, b) = (k + 40, i)
  · cases hq
    rw [aw_up_self]
    unfold wU
    rw [if_neg (show ¬ k + 40 < 20 by omega), if_neg (show ¬ k + 40 < 40 by omega), Nat.add_sub_cancel]
    exact h2.symm
  · rw [aw_up_ne hq]
    unfold wU
    by_cases ha : a < 20
    · rw [if_pos ha, if_pos ha]
    · rw [if_neg ha, if_neg ha]
      by_cases hb : a < 40
      · rw [if_pos hb, if_pos hb]
      · rw [if_neg hb, if_neg hb]
        refine h (a - 40) b (fun e => hq ?_)
        have e1 : a = k + 40 := by have := e.1; omega
        rw [e1, e.2]
theorem iw_X0 : ∀ w ∈ u_ws RX0 TX0 7, w ∈ WG := by
  intro w hw
  obtain ⟨k, hk, rfl⟩ := List.mem_map.mp hw
  have hk := List.mem_range.mp hk
  match k, hk with
  | 0, _ => exact q_566
  | 1, _ => exact q_568
  | 2, _ => exact q_570
  | 3, _ => exact q_572
  | 4, _ => exact q_574
  | 5, _ => exact q_576
  | 6, _ => exact q_578
  | n + 7, h => exact absurd h (by omega)
theorem iw_X1 : ∀ w ∈ u_ws RX1 TX1 5, w ∈ WG := by
  intro w hw
  obtain ⟨k, hk, rfl⟩ := List.mem_map.mp hw
  have hk := List.mem_range.mp hk
  match k, hk with
  | 0, _ => exact q_89
  | 1, _ => exact q_91
  | 2, _ => exact q_93
  | 3, _ => exact q_95
  | 4, _ => exact q_97
  | n + 5, h => exact absurd h (by omega)
theorem iw_X2 : ∀ w ∈ u_ws RX2 TX2 2, w ∈ WG := by
  intro w hw
  obtain ⟨k, hk, rfl⟩ := List.mem_map.mp hw
  have hk := List.mem_range.mp hk
  match k, hk with
  | 0, _ => exact q_474
  | 1, _ => exact q_476
  | n + 2, h => exact absurd h (by omega)
theorem iw_X3 : ∀ w ∈ u_ws RX3 TX3 4, w ∈ WG := by
  intro w hw
  obtain ⟨k, hk, rfl⟩ := List.mem_map.mp hw
  have hk := List.mem_range.mp hk
  match k, hk with
  | 0, _ => exact q_106
  | 1, _ => exact q_108
  | 2, _ => exact q_110
  | 3, _ => exact q_112
  | n + 4, h => exact absurd h (by omega)
theorem iw_X4 : ∀ w ∈ u_ws RX4 TX4 2, w ∈ WG := by
  intro w hw
  obtain ⟨k, hk, rfl⟩ := List.mem_map.mp hw
  have hk := List.mem_range.mp hk
  match k, hk with
  | 0, _ => exact q_455
  | 1, _ => exact q_457
  | n + 2, h => exact absurd h (by omega)
theorem iw_Jx4a65c : ∀ w ∈ u_ws RJx4a65c TJx4a65c 3, w ∈ WG := by
  intro w hw
  obtain ⟨k, hk, rfl⟩ := List.mem_map.mp hw
  have hk := List.mem_range.mp hk
  match k, hk with
  | 0, _ => exact q_73
  | 1, _ => exact q_69
  | 2, _ => exact q_71
  | n + 3, h => exact absurd h (by omega)
section ROWS
variable {p : Program} {l : Launch} {e : Env} {R : Room} {s : State} {m : MethodId} {args : Array Value} {below : List Frame} {meth : Method} {c : Code} {H H0 : Heap} {locs : List Loc} {cells slots mc ms : Nat} {Q : State → Prop}
variable {cc : ByteArray} {pc index : Nat} {own : String} {ls : Array Slot} {rest : List Value} {D : va_G} {y : Nat → ClassId} {A : Nat → Prop} {ad : xL → Nat}
variable {bl : xM} {z : xC} {g pl : Nat → Int32} {kn mi : Nat → Int64} {rw : Nat → Nat → Int64} {un : Int32} {fB fR fO : Nat → Nat → Option va_E}
theorem xw_aald2 (hexec : p.tables.exec = Jvm.exec) (hb : c.code = cc) {ct : xL → Option va_E} (hE : xE D y s) (hP : xW D A ad ct H) (lab : xL) {n : Nat} {f : Nat → Option Nat} (he : ct lab = some (.inl (y 5, n, xr f))) {i v : Nat} (hv : f i = some v) (hi : i < n) (hn : n < 2 ^ 31) (hdg : decode cc pc = .ok (.aaload, 1))
    (kk : W p l e R s m args below meth c H locs cells slots Q (F0 m (pc + 1) ls (.ref v :: rest))) : W p l e R s m args below meth c H locs cells slots Q (F0 m pc ls (.int (nI i) :: .ref (ad lab) :: rest)) := by
  have hlt : (nI i).toNatClampNeg < n := by rw [nI_clamp (by omega)]; exact hi
  refine W.aald (v := .ref v) (ty := .array .long) hexec hb (hP.1 _ _ he) ((hE.1.2 5 _ rfl).1 n (fun j => va_rf (f j))) rfl (fun q => by cases q) (by show ¬ (_ ∨ (arrV _ _ _).slots.size ≤ _); rw [arrV_size]; exact vp_in_nI hi hn) ?_ rfl rfl hdg kk
  show (arrV _ _ _).slots[_]? = _
  rw [arrV_read _ _ hlt, nI_clamp (by omega), hv]
  rfl
theorem xw_aald4 (hexec : p.tables.exec = Jvm.exec) (hb : c.code = cc) {ct : xL → Option va_E} (hE : xE D y s) (hP : xW D A ad ct H) (lab : xL) {n : Nat} {f : Nat → Option Nat} (he : ct lab = some (.inl (y 4, n, xr f))) {i v : Nat} (hv : f i = some v) (hi : i < n) (hn : n < 2 ^ 31) (hdg : decode cc pc = .ok (.aaload, 1))
    (kk : W p l e R s m args below meth c H locs cells slots Q (F0 m (pc + 1) ls (.ref v :: rest))) : W p l e R s m args below meth c H locs cells slots Q (F0 m pc ls (.int (nI i) :: .ref (ad lab) :: rest)) := by
  have hlt : (nI i).toNatClampNeg < n := by rw [nI_clamp (by omega)]; exact hi
  refine W.aald (v := .ref v) (ty := .object "java/lang/Object") hexec hb (hP.1 _ _ he) ((hE.1.2 4 _ rfl).1 n (fun j => va_rf (f j))) rfl (fun q => by cases q) (by show ¬ (_ ∨ (arrV _ _ _).slots.size ≤ _); rw [arrV_size]; exact vp_in_nI hi hn) ?_ rfl rfl hdg kk
  show (arrV _ _ _).slots[_]? = _
  rw [arrV_read _ _ hlt, nI_clamp (by omega), hv]
  rfl
theorem xw_aald3 (hexec : p.tables.exec = Jvm.exec) (hb : c.code = cc) {ct : xL → Option va_E} (hE : xE D y s) (hP : xW D A ad ct H) (lab : xL) {n : Nat} {f : Nat → Option Nat} (he : ct lab = some (.inl (y 3, n, xr f))) {i v : Nat} (hv : f i = some v) (hi : i < n) (hn : n < 2 ^ 31) (hdg : decode cc pc = .ok (.aaload, 1))
    (kk : W p l e R s m args below meth c H locs cells slots Q (F0 m (pc + 1) ls (.ref v :: rest))) : W p l e R s m args below meth c H locs cells slots Q (F0 m pc ls (.int (nI i) :: .ref (ad lab) :: rest)) := by
  have hlt : (nI i).toNatClampNeg < n := by rw [nI_clamp (by omega)]; exact hi
  refine W.aald (v := .ref v) (ty := .array .int) hexec hb (hP.1 _ _ he) ((hE.1.2 3 _ rfl).1 n (fun j => va_rf (f j))) rfl (fun q => by cases q) (by show ¬ (_ ∨ (arrV _ _ _).slots.size ≤ _); rw [arrV_size]; exact vp_in_nI hi hn) ?_ rfl rfl hdg kk
  show (arrV _ _ _).slots[_]? = _
  rw [arrV_read _ _ hlt, nI_clamp (by omega), hv]
  rfl
theorem fg_X3_nodes (hexec : p.tables.exec = Jvm.exec) (hb : c.code = cc) (hts : ∀ w ∈ WG, w.before args s = true) (hown : s.vm.findClass own = some m.cls) (hE : xE D y s) (hP : xW D A ad (wU (wB y ad bl z g pl kn rw mi un) fR fO) H) (hlink : Cond.fieldLink own index "NetlistBench" "nodes" "Ljava/util/ArrayList;" ∈ WG) (hdg : decode cc pc = .ok (.getfield index, 3)) (kk : W p l e R s m args below meth c H locs cells slots Q (F0 m (pc + 3) ls (.ref (ad (1, 0)) :: rest))) : W p l e R s m args below meth c H locs cells slots Q (F0 m pc ls (.ref (ad (0, 0)) :: rest)) :=
  xw_get hexec hb hts hown hE hP iw_X3 (0, 0) rfl rfl 0 (by decide) hlink (fun x h => h) rfl hdg kk
theorem fg_X3_elements (hexec : p.tables.exec = Jvm.exec) (hb : c.code = cc) (hts : ∀ w ∈ WG, w.before args s = true) (hown : s.vm.findClass own = some m.cls) (hE : xE D y s) (hP : xW D A ad (wU (wB y ad bl z g pl kn rw mi un) fR fO) H) (hlink : Cond.fieldLink own index "NetlistBench" "elements" "Ljava/util/ArrayList;" ∈ WG) (hdg : decode cc pc = .ok (.getfield index, 3)) (kk : W p l e R s m args below meth c H locs cells slots Q (F0 m (pc + 3) ls (.ref (ad (3, 0)) :: rest))) : W p l e R s m args below meth c H locs cells slots Q (F0 m pc ls (.ref (ad (0, 0)) :: rest)) :=
  xw_get hexec hb hts hown hE hP iw_X3 (0, 0) rfl rfl 1 (by decide) hlink (fun x h => h) rfl hdg kk
theorem fg_X3_groups (hexec : p.tables.exec = Jvm.exec) (hb : c.code = cc) (hts : ∀ w ∈ WG, w.before args s = true) (hown : s.vm.findClass own = some m.cls) (hE : xE D y s) (hP : xW D A ad (wU (wB y ad bl z g pl kn rw mi un) fR fO) H) (hlink : Cond.fieldLink own index "NetlistBench" "groups" "[I" ∈ WG) (hdg : decode cc pc = .ok (.getfield index, 3)) (kk : W p l e R s m args below meth c H locs cells slots Q (F0 m (pc + 3) ls (.ref (ad (5, 0)) :: rest))) : W p l e R s m args below meth c H locs cells slots Q (F0 m pc ls (.ref (ad (0, 0)) :: rest)) :=
  xw_get hexec hb hts hown hE hP iw_X3 (0, 0) rfl rfl 2 (by decide) hlink (fun x h => h) rfl hdg kk
theorem fg_X3_equations (hexec : p.tables.exec = Jvm.exec) (hb : c.code = cc) (hts : ∀ w ∈ WG, w.before args s = true) (hown : s.vm.findClass own = some m.cls) (hE : xE D y s) (hP : xW D A ad (wU (wB y ad bl z g pl kn rw mi un) fR fO) H) (hlink : Cond.fieldLink own index "NetlistBench" "equations" "LNetlistBench$Equations;" ∈ WG) (hdg : decode cc pc = .ok (.getfield index, 3)) (kk : W p l e R s m args below meth c H locs cells slots Q (F0 m (pc + 3) ls (.ref (ad (6, 0)) :: rest))) : W p l e R s m args below meth c H locs cells slots Q (F0 m pc ls (.ref (ad (0, 0)) :: rest)) :=
  xw_get hexec hb hts hown hE hP iw_X3 (0, 0) rfl rfl 3 (by decide) hlink (fun x h => h) rfl hdg kk
theorem fg_X1_places (hexec : p.tables.exec = Jvm.exec) (hb : c.code = cc) (hts : ∀ w ∈ WG, w.before args s = true) (hown : s.vm.findClass own = some m.cls) (hE : xE D y s) (hP : xW D A ad (wU (wB y ad bl z g pl kn rw mi un) fR fO) H) (hlink : Cond.fieldLink own index "NetlistBench$Equations" "places" "[I" ∈ WG) (hdg : decode cc pc = .ok (.getfield index, 3)) (kk : W p l e R s m args below meth c H locs cells slots Q (F0 m (pc + 3) ls (.ref (ad (7, 0)) :: rest))) : W p l e R s m args below meth c H locs cells slots Q (F0 m pc ls (.ref (ad (6, 0)) :: rest)) :=
  xw_get hexec hb hts hown hE hP iw_X1 (6, 0) rfl rfl 0 (by decide) hlink (fun x h => h) rfl hdg kk
theorem fg_X1_known (hexec : p.tables.exec = Jvm.exec) (hb : c.code = cc) (hts : ∀ w ∈ WG, w.before args s = true) (hown : s.vm.findClass own = some m.cls) (hE : xE D y s) (hP : xW D A ad (wU (wB y ad bl z g pl kn rw mi un) fR fO) H) (hlink : Cond.fieldLink own index "NetlistBench$Equations" "known" "[J" ∈ WG) (hdg : decode cc pc = .ok (.getfield index, 3)) (kk : W p l e R s m args below meth c H locs cells slots Q (F0 m (pc + 3) ls (.ref (ad (8, 0)) :: rest))) : W p l e R s m args below meth c H locs cells slots Q (F0 m pc ls (.ref (ad (6, 0)) :: rest)) :=
  xw_get hexec hb hts hown hE hP iw_X1 (6, 0) rfl rfl 1 (by decide) hlink (fun x h => h) rfl hdg kk
theorem fg_X1_rows (hexec : p.tables.exec = Jvm.exec) (hb : c.code = cc) (hts : ∀ w ∈ WG, w.before args s = true) (hown : s.vm.findClass own = some m.cls) (hE : xE D y s) (hP : xW D A ad (wU (wB y ad bl z g pl kn rw mi un) fR fO) H) (hlink : Cond.fieldLink own index "NetlistBench$Equations" "rows" "[[J" ∈ WG) (hdg : decode cc pc = .ok (.getfield index, 3)) (kk : W p l e R s m args below meth c H locs cells slots Q (F0 m (pc + 3) ls (.ref (ad (9, 0)) :: rest))) : W p l e R s m args below meth c H locs cells slots Q (F0 m pc ls (.ref (ad (6, 0)) :: rest)) :=
  xw_get hexec hb hts hown hE hP iw_X1 (6, 0) rfl rfl 2 (by decide) hlink (fun x h => h) rfl hdg kk
theorem fg_X1_minors (hexec : p.tables.exec = Jvm.exec) (hb : c.code = cc) (hts : ∀ w ∈ WG, w.before args s = true) (hown : s.vm.findClass own = some m.cls) (hE : xE D y s) (hP : xW D A ad (wU (wB y ad bl z g pl kn rw mi un) fR fO) H) (hlink : Cond.fieldLink own index "NetlistBench$Equations" "minors" "[J" ∈ WG) (hdg : decode cc pc = .ok (.getfield index, 3)) (kk : W p l e R s m args below meth c H locs cells slots Q (F0 m (pc + 3) ls (.ref (ad (11, 0)) :: rest))) : W p l e R s m args below meth c H locs cells slots Q (F0 m pc ls (.ref (ad (6, 0)) :: rest)) :=
  xw_get hexec hb hts hown hE hP iw_X1 (6, 0) rfl rfl 3 (by decide) hlink (fun x h => h) rfl hdg kk
theorem fg_X1_unknowns (hexec : p.tables.exec = Jvm.exec) (hb : c.code = cc) (hts : ∀ w ∈ WG, w.before args s = true) (hown : s.vm.findClass own = some m.cls) (hE : xE D y s) (hP : xW D A ad (wU (wB y ad bl z g pl kn rw mi un) fR fO) H) (hlink : Cond.fieldLink own index "NetlistBench$Equations" "unknowns" "I" ∈ WG) (hdg : decode cc pc = .ok (.getfield index, 3)) (kk : W p l e R s m args below meth c H locs cells slots Q (F0 m (pc + 3) ls (.int un :: rest))) : W p l e R s m args below meth c H locs cells slots Q (F0 m pc ls (.ref (ad (6, 0)) :: rest)) :=
  xw_get hexec hb hts hown hE hP iw_X1 (6, 0) rfl rfl 4 (by decide) hlink (fun x h => h) rfl hdg kk
theorem fp_X1_unknowns (hexec : p.tables.exec = Jvm.exec) (hb : c.code = cc) (hts : ∀ w ∈ WG, w.before args s = true) (hown : s.vm.findClass own = some m.cls) (hE : xE D y s) (hS : va_S A H0 H locs) (hP : xW D A ad (wU (wB y ad bl z g pl kn rw mi un) fR fO) H) {v : Int32} (hlink : Cond.fieldLink own index "NetlistBench$Equations" "unknowns" "I" ∈ WG) (hdg : decode cc pc = .ok (.putfield index, 3)) (kk : ∀ (H1 : Heap) (locs1 : List Loc), xW D A ad (wU (wB y ad bl z g pl kn rw mi v) fR fO) H1 → va_S A H0 H1 locs1 → W p l e R s m args below meth c H1 locs1 cells slots Q (F0 m (pc + 3) ls (rest))) : W p l e R s m args below meth c H locs cells slots Q (F0 m pc ls (.int v :: .ref (ad (6, 0)) :: rest)) :=
  xw_put hexec hb hts hown hE hP hS iw_X1 tyX1 tyX1_ok nmX1 (6, 0) rfl rfl 4 (by decide) hlink (fun x h => h) rfl (ty := .int) rfl rfl rfl (Nat.le_of_ble_eq_true rfl) hdg (fun H1 locs1 h1 h2 => kk H1 locs1 (h1.ct (wU_B (by decide) (fun a b h => by rcases a with _ | _ | _ | _ | _ | _ | _ | _ | _ | _ | _ | _ | _ | _ | _ | a <;> first | rfl | (rcases b with _ | b <;> first | rfl | exact absurd ⟨rfl, rfl⟩ h)) rfl)) h2)
theorem fg_X2_isRail {i : Nat} (hi : i < nN z) (hexec : p.tables.exec = Jvm.exec) (hb : c.code = cc) (hts : ∀ w ∈ WG, w.before args s = true) (hown : s.vm.findClass own = some m.cls) (hE : xE D y s) (hP : xW D A ad (wU (wB y ad bl z g pl kn rw mi un) fR fO) H) (hlink : Cond.fieldLink own index "NetlistBench$Node" "isRail" "Z" ∈ WG) (hdg : decode cc pc = .ok (.getfield index, 3)) (kk : W p l e R s m args below meth c H locs cells slots Q (F0 m (pc + 3) ls (.int (nR z i) :: rest))) : W p l e R s m args below meth c H locs cells slots Q (F0 m pc ls (.ref (ad (12, i)) :: rest)) :=
  xw_get hexec hb hts hown hE hP iw_X2 (12, i) (if_pos hi) rfl 0 (by decide) hlink (fun x h => h) rfl hdg kk
theorem fp_X2_isRail {i : Nat} (hi : i < nN z) (hexec : p.tables.exec = Jvm.exec) (hb : c.code = cc) (hts : ∀ w ∈ WG, w.before args s = true) (hown : s.vm.findClass own = some m.cls) (hE : xE D y s) (hS : va_S A H0 H locs) (hP : xW D A ad (wU (wB y ad bl z g pl kn rw mi un) fR fO) H) {v : Int32} (hz : v = 0 ∨ v = 1) (hlink : Cond.fieldLink own index "NetlistBench$Node" "isRail" "Z" ∈ WG) (hdg : decode cc pc = .ok (.putfield index, 3)) (kk : ∀ (H1 : Heap) (locs1 : List Loc), xW D A ad (wU (wB y ad bl (s_nR z (upd (nR z) i v)) g pl kn rw mi un) fR fO) H1 → va_S A H0 H1 locs1 → W p l e R s m args below meth c H1 locs1 cells slots Q (F0 m (pc + 3) ls (rest))) : W p l e R s m args below meth c H locs cells slots Q (F0 m pc ls (.int v :: .ref (ad (12, i)) :: rest)) :=
  xw_put hexec hb hts hown hE hP hS iw_X2 tyX2 tyX2_ok nmX2 (12, i) (if_pos hi) rfl 0 (by decide) hlink (fun x h => h) rfl (ty := .boolean) rfl (by rcases hz with h | h <;> subst h <;> rfl) (by rcases hz with h | h <;> subst h <;> rfl) (Nat.le_of_ble_eq_true rfl) hdg (fun H1 locs1 h1 h2 => kk H1 locs1 (h1.ct (wU_B (by decide) (fun a b h => by rcases a with _ | _ | _ | _ | _ | _ | _ | _ | _ | _ | _ | _ | _ | _ | _ | a <;> first | rfl | (rcases b with _ | b <;> rfl) | (have hbi : b ≠ i := fun q => h ⟨rfl, q⟩; show (if _ then _ else none) = (if _ then _ else none); simp only [s_nR, nN, nR, nP, upd, if_neg hbi] <;> rfl)) (by show (if _ then _ else none) = _; rw [if_pos (show i < nN (s_nR z (upd (nR z) i v)) from hi)]; simp [s_nR, nN, nR, nP, upd]))) h2)
theorem fg_X2_railPotential {i : Nat} (hi : i < nN z) (hexec : p.tables.exec = Jvm.exec) (hb : c.code = cc) (hts : ∀ w ∈ WG, w.before args s = true) (hown : s.vm.findClass own = some m.cls) (hE : xE D y s) (hP : xW D A ad (wU (wB y ad bl z g pl kn rw mi un) fR fO) H) (hlink : Cond.fieldLink own index "NetlistBench$Node" "railPotential" "I" ∈ WG) (hdg : decode cc pc = .ok (.getfield index, 3)) (kk : W p l e R s m args below meth c H locs cells slots Q (F0 m (pc + 3) ls (.int (nP z i) :: rest))) : W p l e R s m args below meth c H locs cells slots Q (F0 m pc ls (.ref (ad (12, i)) :: rest)) :=
  xw_get hexec hb hts hown hE hP iw_X2 (12, i) (if_pos hi) rfl 1 (by decide) hlink (fun x h => h) rfl hdg kk
theorem fp_X2_railPotential {i : Nat} (hi : i < nN z) (hexec : p.tables.exec = Jvm.exec) (hb : c.code = cc) (hts : ∀ w ∈ WG, w.before args s = true) (hown : s.vm.findClass own = some m.cls) (hE : xE D y s) (hS : va_S A H0 H locs) (hP : xW D A ad (wU (wB y ad bl z g pl kn rw mi un) fR fO) H) {v : Int32} (hlink : Cond.fieldLink own index "NetlistBench$Node" "railPotential" "I" ∈ WG) (hdg : decode cc pc = .ok (.putfield index, 3)) (kk : ∀ (H1 : Heap) (locs1 : List Loc), xW D A ad (wU (wB y ad bl (s_nP z (upd (nP z) i v)) g pl kn rw mi un) fR fO) H1 → va_S A H0 H1 locs1 → W p l e R s m args below meth c H1 locs1 cells slots Q (F0 m (pc + 3) ls (rest))) : W p l e R s m args below meth c H locs cells slots Q (F0 m pc ls (.int v :: .ref (ad (12, i)) :: rest)) :=
  xw_put hexec hb hts hown hE hP hS iw_X2 tyX2 tyX2_ok nmX2 (12, i) (if_pos hi) rfl 1 (by decide) hlink (fun x h => h) rfl (ty := .int) rfl rfl rfl (Nat.le_of_ble_eq_true rfl) hdg (fun H1 locs1 h1 h2 => kk H1 locs1 (h1.ct (wU_B (by decide) (fun a b h => by rcases a with _ | _ | _ | _ | _ | _ | _ | _ | _ | _ | _ | _ | _ | _ | _ | a <;> first | rfl | (rcases b with _ | b <;> rfl) | (have hbi : b ≠ i := fun q => h ⟨rfl, q⟩; show (if _ then _ else none) = (if _ then _ else none); simp only [s_nP, nN, nR, nP, upd, if_neg hbi] <;> rfl)) (by show (if _ then _ else none) = _; rw [if_pos (show i < nN (s_nP z (upd (nP z) i v)) from hi)]; simp [s_nP, nN, nR, nP, upd]))) h2)
theorem fg_X0_isSource {i : Nat} (hi : i < nE z) (hexec : p.tables.exec = Jvm.exec) (hb : c.code = cc) (hts : ∀ w ∈ WG, w.before args s = true) (hown : s.vm.findClass own = some m.cls) (hE : xE D y s) (hP : xW D A ad (wU (wB y ad bl z g pl kn rw mi un) fR fO) H) (hlink : Cond.fieldLink own index "NetlistBench$Element" "isSource" "Z" ∈ WG) (hdg : decode cc pc = .ok (.getfield index, 3)) (kk : W p l e R s m args below meth c H locs cells slots Q (F0 m (pc + 3) ls (.int (eS z i) :: rest))) : W p l e R s m args below meth c H locs cells slots Q (F0 m pc ls (.ref (ad (13, i)) :: rest)) :=
  xw_get hexec hb hts hown hE hP iw_X0 (13, i) (if_pos hi) rfl 0 (by decide) hlink (fun x h => h) rfl hdg kk
theorem fg_X0_a {i : Nat} (hi : i < nE z) (hexec : p.tables.exec = Jvm.exec) (hb : c.code = cc) (hts : ∀ w ∈ WG, w.before args s = true) (hown : s.vm.findClass own = some m.cls) (hE : xE D y s) (hP : xW D A ad (wU (wB y ad bl z g pl kn rw mi un) fR fO) H) (hlink : Cond.fieldLink own index "NetlistBench$Element" "a" "I" ∈ WG) (hdg : decode cc pc = .ok (.getfield index, 3)) (kk : W p l e R s m args below meth c H locs cells slots Q (F0 m (pc + 3) ls (.int (eA z i) :: rest))) : W p l e R s m args below meth c H locs cells slots Q (F0 m pc ls (.ref (ad (13, i)) :: rest)) :=
  xw_get hexec hb hts hown hE hP iw_X0 (13, i) (if_pos hi) rfl 1 (by decide) hlink (fun x h => h) rfl hdg kk
theorem fg_X0_b {i : Nat} (hi : i < nE z) (hexec : p.tables.exec = Jvm.exec) (hb : c.code = cc) (hts : ∀ w ∈ WG, w.before args s = true) (hown : s.vm.findClass own = some m.cls) (hE : xE D y s) (hP : xW D A ad (wU (wB y ad bl z g pl kn rw mi un) fR fO) H) (hlink : Cond.fieldLink own index "NetlistBench$Element" "b" "I" ∈ WG) (hdg : decode cc pc = .ok (.getfield index, 3)) (kk : W p l e R s m args below meth c H locs cells slots Q (F0 m (pc + 3) ls (.int (eB z i) :: rest))) : W p l e R s m args below meth c H locs cells slots Q (F0 m pc ls (.ref (ad (13, i)) :: rest)) :=
  xw_get hexec hb hts hown hE hP iw_X0 (13, i) (if_pos hi) rfl 2 (by decide) hlink (fun x h => h) rfl hdg kk
theorem fg_X0_size {i : Nat} (hi : i < nE z) (hexec : p.tables.exec = Jvm.exec) (hb : c.code = cc) (hts : ∀ w ∈ WG, w.before args s = true) (hown : s.vm.findClass own = some m.cls) (hE : xE D y s) (hP : xW D A ad (wU (wB y ad bl z g pl kn rw mi un) fR fO) H) (hlink : Cond.fieldLink own index "NetlistBench$Element" "size" "I" ∈ WG) (hdg : decode cc pc = .ok (.getfield index, 3)) (kk : W p l e R s m args below meth c H locs cells slots Q (F0 m (pc + 3) ls (.int (eZ z i) :: rest))) : W p l e R s m args below meth c H locs cells slots Q (F0 m pc ls (.ref (ad (13, i)) :: rest)) :=
  xw_get hexec hb hts hown hE hP iw_X0 (13, i) (if_pos hi) rfl 3 (by decide) hlink (fun x h => h) rfl hdg kk
theorem fp_X0_size {i : Nat} (hi : i < nE z) (hexec : p.tables.exec = Jvm.exec) (hb : c.code = cc) (hts : ∀ w ∈ WG, w.before args s = true) (hown : s.vm.findClass own = some m.cls) (hE : xE D y s) (hS : va_S A H0 H locs) (hP : xW D A ad (wU (wB y ad bl z g pl kn rw mi un) fR fO) H) {v : Int32} (hlink : Cond.fieldLink own index "NetlistBench$Element" "size" "I" ∈ WG) (hdg : decode cc pc = .ok (.putfield index, 3)) (kk : ∀ (H1 : Heap) (locs1 : List Loc), xW D A ad (wU (wB y ad bl (s_eZ z (upd (eZ z) i v)) g pl kn rw mi un) fR fO) H1 → va_S A H0 H1 locs1 → W p l e R s m args below meth c H1 locs1 cells slots Q (F0 m (pc + 3) ls (rest))) : W p l e R s m args below meth c H locs cells slots Q (F0 m pc ls (.int v :: .ref (ad (13, i)) :: rest)) :=
  xw_put hexec hb hts hown hE hP hS iw_X0 tyX0 tyX0_ok nmX0 (13, i) (if_pos hi) rfl 3 (by decide) hlink (fun x h => h) rfl (ty := .int) rfl rfl rfl (Nat.le_of_ble_eq_true rfl) hdg (fun H1 locs1 h1 h2 => kk H1 locs1 (h1.ct (wU_B (by decide) (fun a b h => by rcases a with _ | _ | _ | _ | _ | _ | _ | _ | _ | _ | _ | _ | _ | _ | _ | a <;> first | rfl | (rcases b with _ | b <;> rfl) | (have hbi : b ≠ i := fun q => h ⟨rfl, q⟩; show (if _ then _ else none) = (if _ then _ else none); simp only [s_eZ, nE, eS, eA, eB, eZ, eO, eT, upd, if_neg hbi] <;> rfl)) (by show (if _ then _ else none) = _; rw [if_pos (show i < nE (s_eZ z (upd (eZ z) i v)) from hi)]; simp [s_eZ, nE, eS, eA, eB, eZ, eO, eT, upd]))) h2)
theorem fg_X0_startsOn {i : Nat} (hi : i < nE z) (hexec : p.tables.exec = Jvm.exec) (hb : c.code = cc) (hts : ∀ w ∈ WG, w.before args s = true) (hown : s.vm.findClass own = some m.cls) (hE : xE D y s) (hP : xW D A ad (wU (wB y ad bl z g pl kn rw mi un) fR fO) H) (hlink : Cond.fieldLink own index "NetlistBench$Element" "startsOn" "Z" ∈ WG) (hdg : decode cc pc = .ok (.getfield index, 3)) (kk : W p l e R s m args below meth c H locs cells slots Q (F0 m (pc + 3) ls (.int (eO z i) :: rest))) : W p l e R s m args below meth c H locs cells slots Q (F0 m pc ls (.ref (ad (13, i)) :: rest)) :=
  xw_get hexec hb hts hown hE hP iw_X0 (13, i) (if_pos hi) rfl 4 (by decide) hlink (fun x h => h) rfl hdg kk
theorem fp_X0_startsOn {i : Nat} (hi : i < nE z) (hexec : p.tables.exec = Jvm.exec) (hb : c.code = cc) (hts : ∀ w ∈ WG, w.before args s = true) (hown : s.vm.findClass own = some m.cls) (hE : xE D y s) (hS : va_S A H0 H locs) (hP : xW D A ad (wU (wB y ad bl z g pl kn rw mi un) fR fO) H) {v : Int32} (hz : v = 0 ∨ v = 1) (hlink : Cond.fieldLink own index "NetlistBench$Element" "startsOn" "Z" ∈ WG) (hdg : decode cc pc = .ok (.putfield index, 3)) (kk : ∀ (H1 : Heap) (locs1 : List Loc), xW D A ad (wU (wB y ad bl (s_eO z (upd (eO z) i v)) g pl kn rw mi un) fR fO) H1 → va_S A H0 H1 locs1 → W p l e R s m args below meth c H1 locs1 cells slots Q (F0 m (pc + 3) ls (rest))) : W p l e R s m args below meth c H locs cells slots Q (F0 m pc ls (.int v :: .ref (ad (13, i)) :: rest)) :=
  xw_put hexec hb hts hown hE hP hS iw_X0 tyX0 tyX0_ok nmX0 (13, i) (if_pos hi) rfl 4 (by decide) hlink (fun x h => h) rfl (ty := .boolean) rfl (by rcases hz with h | h <;> subst h <;> rfl) (by rcases hz with h | h <;> subst h <;> rfl) (Nat.le_of_ble_eq_true rfl) hdg (fun H1 locs1 h1 h2 => kk H1 locs1 (h1.ct (wU_B (by decide) (fun a b h => by rcases a with _ | _ | _ | _ | _ | _ | _ | _ | _ | _ | _ | _ | _ | _ | _ | a <;> first | rfl | (rcases b with _ | b <;> rfl) | (have hbi : b ≠ i := fun q => h ⟨rfl, q⟩; show (if _ then _ else none) = (if _ then _ else none); simp only [s_eO, nE, eS, eA, eB, eZ, eO, eT, upd, if_neg hbi] <;> rfl)) (by show (if _ then _ else none) = _; rw [if_pos (show i < nE (s_eO z (upd (eO z) i v)) from hi)]; simp [s_eO, nE, eS, eA, eB, eZ, eO, eT, upd]))) h2)
theorem fg_X0_toggles {i : Nat} (hi : i < nE z) (hexec : p.tables.exec = Jvm.exec) (hb : c.code = cc) (hts : ∀ w ∈ WG, w.before args s = true) (hown : s.vm.findClass own = some m.cls) (hE : xE D y s) (hP : xW D A ad (wU (wB y ad bl z g pl kn rw mi un) fR fO) H) (hlink : Cond.fieldLink own index "NetlistBench$Element" "toggles" "I" ∈ WG) (hdg : decode cc pc = .ok (.getfield index, 3)) (kk : W p l e R s m args below meth c H locs cells slots Q (F0 m (pc + 3) ls (.int (eT z i) :: rest))) : W p l e R s m args below meth c H locs cells slots Q (F0 m pc ls (.ref (ad (13, i)) :: rest)) :=
  xw_get hexec hb hts hown hE hP iw_X0 (13, i) (if_pos hi) rfl 5 (by decide) hlink (fun x h => h) rfl hdg kk
theorem fp_X0_toggles {i : Nat} (hi : i < nE z) (hexec : p.tables.exec = Jvm.exec) (hb : c.code = cc) (hts : ∀ w ∈ WG, w.before args s = true) (hown : s.vm.findClass own = some m.cls) (hE : xE D y s) (hS : va_S A H0 H locs) (hP : xW D A ad (wU (wB y ad bl z g pl kn rw mi un) fR fO) H) {v : Int32} (hlink : Cond.fieldLink own index "NetlistBench$Element" "toggles" "I" ∈ WG) (hdg : decode cc pc = .ok (.putfield index, 3)) (kk : ∀ (H1 : Heap) (locs1 : List Loc), xW D A ad (wU (wB y ad bl (s_eT z (upd (eT z) i v)) g pl kn rw mi un) fR fO) H1 → va_S A H0 H1 locs1 → W p l e R s m args below meth c H1 locs1 cells slots Q (F0 m (pc + 3) ls (rest))) : W p l e R s m args below meth c H locs cells slots Q (F0 m pc ls (.int v :: .ref (ad (13, i)) :: rest)) :=
  xw_put hexec hb hts hown hE hP hS iw_X0 tyX0 tyX0_ok nmX0 (13, i) (if_pos hi) rfl 5 (by decide) hlink (fun x h => h) rfl (ty := .int) rfl rfl rfl (Nat.le_of_ble_eq_true rfl) hdg (fun H1 locs1 h1 h2 => kk H1 locs1 (h1.ct (wU_B (by decide) (fun a b h => by rcases a with _ | _ | _ | _ | _ | _ | _ | _ | _ | _ | _ | _ | _ | _ | _ | a <;> first | rfl | (rcases b with _ | b <;> rfl) | (have hbi : b ≠ i := fun q => h ⟨rfl, q⟩; show (if _ then _ else none) = (if _ then _ else none); simp only [s_eT, nE, eS, eA, eB, eZ, eO, eT, upd, if_neg hbi] <;> rfl)) (by show (if _ then _ else none) = _; rw [if_pos (show i < nE (s_eT z (upd (eT z) i v)) from hi)]; simp [s_eT, nE, eS, eA, eB, eZ, eO, eT, upd]))) h2)
theorem fg_X0_times {i : Nat} (hi : i < nE z) (hexec : p.tables.exec = Jvm.exec) (hb : c.code = cc) (hts : ∀ w ∈ WG, w.before args s = true) (hown : s.vm.findClass own = some m.cls) (hE : xE D y s) (hP : xW D A ad (wU (wB y ad bl z g pl kn rw mi un) fR fO) H) (hlink : Cond.fieldLink own index "NetlistBench$Element" "times" "[I" ∈ WG) (hdg : decode cc pc = .ok (.getfield index, 3)) (kk : W p l e R s m args below meth c H locs cells slots Q (F0 m (pc + 3) ls (.ref (ad (14, i)) :: rest))) : W p l e R s m args below meth c H locs cells slots Q (F0 m pc ls (.ref (ad (13, i)) :: rest)) :=
  xw_get hexec hb hts hown hE hP iw_X0 (13, i) (if_pos hi) rfl 6 (by decide) hlink (fun x h => h) rfl hdg kk
theorem fg_AL_nodes_elementData (hexec : p.tables.exec = Jvm.exec) (hb : c.code = cc) (hts : ∀ w ∈ WG, w.before args s = true) (hown : s.vm.findClass own = some m.cls) (hE : xE D y s) (hP : xW D A ad (wU (wB y ad bl z g pl kn rw mi un) fR fO) H) (hlink : Cond.fieldLink own index "java/util/ArrayList" "elementData" "[Ljava/lang/Object;" ∈ WG) (hdg : decode cc pc = .ok (.getfield index, 3)) (kk : W p l e R s m args below meth c H locs cells slots Q (F0 m (pc + 3) ls (.ref (ad (2, 0)) :: rest))) : W p l e R s m args below meth c H locs cells slots Q (F0 m pc ls (.ref (ad (1, 0)) :: rest)) :=
  xw_get hexec hb hts hown hE hP iw_Jx4a65c (1, 0) rfl rfl 1 (by decide) hlink (fun x h => h) rfl hdg kk
theorem fg_AL_nodes_size (hexec : p.tables.exec = Jvm.exec) (hb : c.code = cc) (hts : ∀ w ∈ WG, w.before args s = true) (hown : s.vm.findClass own = some m.cls) (hE : xE D y s) (hP : xW D A ad (wU (wB y ad bl z g pl kn rw mi un) fR fO) H) (hlink : Cond.fieldLink own index "java/util/ArrayList" "size" "I" ∈ WG) (hdg : decode cc pc = .ok (.getfield index, 3)) (kk : W p l e R s m args below meth c H locs cells slots Q (F0 m (pc + 3) ls (.int (nI (nN z)) :: rest))) : W p l e R s m args below meth c H locs cells slots Q (F0 m pc ls (.ref (ad (1, 0)) :: rest)) :=
  xw_get hexec hb hts hown hE hP iw_Jx4a65c (1, 0) rfl rfl 2 (by decide) hlink (fun x h => h) rfl hdg kk
theorem fg_AL_elements_elementData (hexec : p.tables.exec = Jvm.exec) (hb : c.code = cc) (hts : ∀ w ∈ WG, w.before args s = true) (hown : s.vm.findClass own = some m.cls) (hE : xE D y s) (hP : xW D A ad (wU (wB y ad bl z g pl kn rw mi un) fR fO) H) (hlink : Cond.fieldLink own index "java/util/ArrayList" "elementData" "[Ljava/lang/Object;" ∈ WG) (hdg : decode cc pc = .ok (.getfield index, 3)) (kk : W p l e R s m args below meth c H locs cells slots Q (F0 m (pc + 3) ls (.ref (ad (4, 0)) :: rest))) : W p l e R s m args below meth c H locs cells slots Q (F0 m pc ls (.ref (ad (3, 0)) :: rest)) :=
  xw_get hexec hb hts hown hE hP iw_Jx4a65c (3, 0) rfl rfl 1 (by decide) hlink (fun x h => h) rfl hdg kk
theorem fg_AL_elements_size (hexec : p.tables.exec = Jvm.exec) (hb : c.code = cc) (hts : ∀ w ∈ WG, w.before args s = true) (hown : s.vm.findClass own = some m.cls) (hE : xE D y s) (hP : xW D A ad (wU (wB y ad bl z g pl kn rw mi un) fR fO) H) (hlink : Cond.fieldLink own index "java/util/ArrayList" "size" "I" ∈ WG) (hdg : decode cc pc = .ok (.getfield index, 3)) (kk : W p l e R s m args below meth c H locs cells slots Q (F0 m (pc + 3) ls (.int (nI (nE z)) :: rest))) : W p l e R s m args below meth c H locs cells slots Q (F0 m pc ls (.ref (ad (3, 0)) :: rest)) :=
  xw_get hexec hb hts hown hE hP iw_Jx4a65c (3, 0) rfl rfl 2 (by decide) hlink (fun x h => h) rfl hdg kk
theorem al_groups (hexec : p.tables.exec = Jvm.exec) (hb : c.code = cc) (hE : xE D y s) (hP : xW D A ad (wU (wB y ad bl z g pl kn rw mi un) fR fO) H) {j : Nat} (hj : j < 8) (hdg : decode cc pc = .ok (.iaload, 1)) (kk : W p l e R s m args below meth c H locs cells slots Q (F0 m (pc + 1) ls (.int (g j) :: rest))) : W p l e R s m args below meth c H locs cells slots Q (F0 m pc ls (.int (nI j) :: .ref (ad (5, 0)) :: rest)) :=
  xw_iald hexec hb hE hP (5, 0) rfl hj (by decide) hdg kk
theorem as_groups (hexec : p.tables.exec = Jvm.exec) (hb : c.code = cc) (hE : xE D y s) (hS : va_S A H0 H locs) (hP : xW D A ad (wU (wB y ad bl z g pl kn rw mi un) fR fO) H) {j : Nat} (hj : j < 8) {v : Int32} (hdg : decode cc pc = .ok (.iastore, 1)) (kk : ∀ (H1 : Heap) (locs1 : List Loc), xW D A ad (wU (wB y ad bl z (upd g j v) pl kn rw mi un) fR fO) H1 → va_S A H0 H1 locs1 → W p l e R s m args below meth c H1 locs1 cells slots Q (F0 m (pc + 1) ls (rest))) : W p l e R s m args below meth c H locs cells slots Q (F0 m pc ls (.int v :: .int (nI j) :: .ref (ad (5, 0)) :: rest)) :=
  xw_iast hexec hb hE hP hS (5, 0) rfl hj (by decide) hdg (fun H1 locs1 h1 h2 => kk H1 locs1 (h1.ct (wU_B (by decide) (fun a b h => by rcases a with _ | _ | _ | _ | _ | _ | _ | _ | _ | _ | _ | _ | _ | _ | _ | a <;> first | rfl | (rcases b with _ | b <;> first | rfl | exact absurd ⟨rfl, rfl⟩ h)) rfl)) h2)
theorem al_places (hexec : p.tables.exec = Jvm.exec) (hb : c.code = cc) (hE : xE D y s) (hP : xW D A ad (wU (wB y ad bl z g pl kn rw mi un) fR fO) H) {j : Nat} (hj : j < 8) (hdg : decode cc pc = .ok (.iaload, 1)) (kk : W p l e R s m args below meth c H locs cells slots Q (F0 m (pc + 1) ls (.int (pl j) :: rest))) : W p l e R s m args below meth c H locs cells slots Q (F0 m pc ls (.int (nI j) :: .ref (ad (7, 0)) :: rest)) :=
  xw_iald hexec hb hE hP (7, 0) rfl hj (by decide) hdg kk
theorem as_places (hexec : p.tables.exec = Jvm.exec) (hb : c.code = cc) (hE : xE D y s) (hS : va_S A H0 H locs) (hP : xW D A ad (wU (wB y ad bl z g pl kn rw mi un) fR fO) H) {j : Nat} (hj : j < 8) {v : Int32} (hdg : decode cc pc = .ok (.iastore, 1)) (kk : ∀ (H1 : Heap) (locs1 : List Loc), xW D A ad (wU (wB y ad bl z g (upd pl j v) kn rw mi un) fR fO) H1 → va_S A H0 H1 locs1 → W p l e R s m args below meth c H1 locs1 cells slots Q (F0 m (pc + 1) ls (rest))) : W p l e R s m args below meth c H locs cells slots Q (F0 m pc ls (.int v :: .int (nI j) :: .ref (ad (7, 0)) :: rest)) :=
  xw_iast hexec hb hE hP hS (7, 0) rfl hj (by decide) hdg (fun H1 locs1 h1 h2 => kk H1 locs1 (h1.ct (wU_B (by decide) (fun a b h => by rcases a with _ | _ | _ | _ | _ | _ | _ | _ | _ | _ | _ | _ | _ | _ | _ | a <;> first | rfl | (rcases b with _ | b <;> first | rfl | exact absurd ⟨rfl, rfl⟩ h)) rfl)) h2)
theorem al_known (hexec : p.tables.exec = Jvm.exec) (hb : c.code = cc) (hE : xE D y s) (hP : xW D A ad (wU (wB y ad bl z g pl kn rw mi un) fR fO) H) {j : Nat} (hj : j < 8) (hdg : decode cc pc = .ok (.laload, 1)) (kk : W p l e R s m args below meth c H locs cells slots Q (F0 m (pc + 1) ls (.long (kn j) :: rest))) : W p l e R s m args below meth c H locs cells slots Q (F0 m pc ls (.int (nI j) :: .ref (ad (8, 0)) :: rest)) :=
  xw_lald hexec hb hE hP (8, 0) rfl hj (by decide) hdg kk
theorem as_known (hexec : p.tables.exec = Jvm.exec) (hb : c.code = cc) (hE : xE D y s) (hS : va_S A H0 H locs) (hP : xW D A ad (wU (wB y ad bl z g pl kn rw mi un) fR fO) H) {j : Nat} (hj : j < 8) {v : Int64} (hdg : decode cc pc = .ok (.lastore, 1)) (kk : ∀ (H1 : Heap) (locs1 : List Loc), xW D A ad (wU (wB y ad bl z g pl (vp_updL kn j v) rw mi un) fR fO) H1 → va_S A H0 H1 locs1 → W p l e R s m args below meth c H1 locs1 cells slots Q (F0 m (pc + 1) ls (rest))) : W p l e R s m args below meth c H locs cells slots Q (F0 m pc ls (.long v :: .int (nI j) :: .ref (ad (8, 0)) :: rest)) :=
  xw_last hexec hb hE hP hS (8, 0) rfl hj (by decide) hdg (fun H1 locs1 h1 h2 => kk H1 locs1 (h1.ct (wU_B (by decide) (fun a b h => by rcases a with _ | _ | _ | _ | _ | _ | _ | _ | _ | _ | _ | _ | _ | _ | _ | a <;> first | rfl | (rcases b with _ | b <;> first | rfl | exact absurd ⟨rfl, rfl⟩ h)) rfl)) h2)
theorem al_minors (hexec : p.tables.exec = Jvm.exec) (hb : c.code = cc) (hE : xE D y s) (hP : xW D A ad (wU (wB y ad bl z g pl kn rw mi un) fR fO) H) {j : Nat} (hj : j < 256) (hdg : decode cc pc = .ok (.laload, 1)) (kk : W p l e R s m args below meth c H locs cells slots Q (F0 m (pc + 1) ls (.long (mi j) :: rest))) : W p l e R s m args below meth c H locs cells slots Q (F0 m pc ls (.int (nI j) :: .ref (ad (11, 0)) :: rest)) :=
  xw_lald hexec hb hE hP (11, 0) rfl hj (by decide) hdg kk
theorem as_minors (hexec : p.tables.exec = Jvm.exec) (hb : c.code = cc) (hE : xE D y s) (hS : va_S A H0 H locs) (hP : xW D A ad (wU (wB y ad bl z g pl kn rw mi un) fR fO) H) {j : Nat} (hj : j < 256) {v : Int64} (hdg : decode cc pc = .ok (.lastore, 1)) (kk : ∀ (H1 : Heap) (locs1 : List Loc), xW D A ad (wU (wB y ad bl z g pl kn rw (vp_updL mi j v) un) fR fO) H1 → va_S A H0 H1 locs1 → W p l e R s m args below meth c H1 locs1 cells slots Q (F0 m (pc + 1) ls (rest))) : W p l e R s m args below meth c H locs cells slots Q (F0 m pc ls (.long v :: .int (nI j) :: .ref (ad (11, 0)) :: rest)) :=
  xw_last hexec hb hE hP hS (11, 0) rfl hj (by decide) hdg (fun H1 locs1 h1 h2 => kk H1 locs1 (h1.ct (wU_B (by decide) (fun a b h => by rcases a with _ | _ | _ | _ | _ | _ | _ | _ | _ | _ | _ | _ | _ | _ | _ | a <;> first | rfl | (rcases b with _ | b <;> first | rfl | exact absurd ⟨rfl, rfl⟩ h)) rfl)) h2)
def u2 (rw : Nat → Nat → Int64) (i j : Nat) (v : Int64) : Nat → Nat → Int64 := fun a => if a = i then vp_updL (rw i) j v else rw a
theorem al_row {i : Nat} (hp : i < 7) (hexec : p.tables.exec = Jvm.exec) (hb : c.code = cc) (hE : xE D y s) (hP : xW D A ad (wU (wB y ad bl z g pl kn rw mi un) fR fO) H) {j : Nat} (hj : j < 8) (hdg : decode cc pc = .ok (.laload, 1)) (kk : W p l e R s m args below meth c H locs cells slots Q (F0 m (pc + 1) ls (.long (rw i j) :: rest))) : W p l e R s m args below meth c H locs cells slots Q (F0 m pc ls (.int (nI j) :: .ref (ad (10, i)) :: rest)) :=
  xw_lald hexec hb hE hP (10, i) (if_pos hp) hj (by decide) hdg kk
theorem as_row {i : Nat} (hp : i < 7) (hexec : p.tables.exec = Jvm.exec) (hb : c.code = cc) (hE : xE D y s) (hS : va_S A H0 H locs) (hP : xW D A ad (wU (wB y ad bl z g pl kn rw mi un) fR fO) H) {j : Nat} (hj : j < 8) {v : Int64} (hdg : decode cc pc = .ok (.lastore, 1)) (kk : ∀ (H1 : Heap) (locs1 : List Loc), xW D A ad (wU (wB y ad bl z g pl kn (u2 rw i j v) mi un) fR fO) H1 → va_S A H0 H1 locs1 → W p l e R s m args below meth c H1 locs1 cells slots Q (F0 m (pc + 1) ls (rest))) : W p l e R s m args below meth c H locs cells slots Q (F0 m pc ls (.long v :: .int (nI j) :: .ref (ad (10, i)) :: rest)) :=
  xw_last hexec hb hE hP hS (10, i) (if_pos hp) hj (by decide) hdg (fun H1 locs1 h1 h2 => kk H1 locs1 (h1.ct (wU_B (by decide) (fun a b h => by rcases a with _ | _ | _ | _ | _ | _ | _ | _ | _ | _ | _ | _ | _ | _ | _ | a <;> first | rfl | (rcases b with _ | b <;> rfl) | (have hbi : b ≠ i := fun q => h ⟨rfl, q⟩; show (if _ then _ else none) = (if _ then _ else none); simp only [u2, if_neg hbi])) (by show (if _ then _ else none) = _; rw [if_pos hp]; simp [u2]))) h2)
theorem al_times {i : Nat} (hp : i < nE z) (hexec : p.tables.exec = Jvm.exec) (hb : c.code = cc) (hE : xE D y s) (hP : xW D A ad (wU (wB y ad bl z g pl kn rw mi un) fR fO) H) {j : Nat} (hj : j < 6) (hdg : decode cc pc = .ok (.iaload, 1)) (kk : W p l e R s m args below meth c H locs cells slots Q (F0 m (pc + 1) ls (.int (tT z (6 * i + j)) :: rest))) : W p l e R s m args below meth c H locs cells slots Q (F0 m pc ls (.int (nI j) :: .ref (ad (14, i)) :: rest)) :=
  xw_iald (f := fun j => tT z (6 * i + j)) hexec hb hE hP (14, i) (if_pos hp) hj (by decide) hdg kk
theorem as_times {i : Nat} (hp : i < nE z) (hexec : p.tables.exec = Jvm.exec) (hb : c.code = cc) (hE : xE D y s) (hS : va_S A H0 H locs) (hP : xW D A ad (wU (wB y ad bl z g pl kn rw mi un) fR fO) H) {j : Nat} (hj : j < 6) {v : Int32} (hdg : decode cc pc = .ok (.iastore, 1)) (kk : ∀ (H1 : Heap) (locs1 : List Loc), xW D A ad (wU (wB y ad bl (s_tT z (upd (tT z) (6 * i + j) v)) g pl kn rw mi un) fR fO) H1 → va_S A H0 H1 locs1 → W p l e R s m args below meth c H1 locs1 cells slots Q (F0 m (pc + 1) ls (rest))) : W p l e R s m args below meth c H locs cells slots Q (F0 m pc ls (.int v :: .int (nI j) :: .ref (ad (14, i)) :: rest)) := by
  refine xw_iast (f := fun j => tT z (6 * i + j)) hexec hb hE hP hS (14, i) (if_pos hp) hj (by decide) hdg (fun H1 locs1 h1 h2 => kk H1 locs1 (h1.alike ?_) h2)
  intro q f hf
  obtain ⟨a, b⟩ := q
  by_cases h14 : a = 14
  · subst h14
    have hf' : (if b < nE z then some (Sum.inl (y 0, 6, .inl (fun c => upd (tT z) (6 * i + j) v (6 * b + c)))) else none : Option va_E) = some f := hf
    by_cases hbn : b < nE z
    · rw [if_pos hbn] at hf'
      cases hf'
      by_cases hbi : b = i
      · subst hbi
        exact ⟨_, aw_up_self, xW_i (fun c hc => by by_cases hcj : c = j <;> simp [upd, hcj])⟩
      · refine ⟨.inl (y 0, 6, .inl (fun c => tT z (6 * b + c))), ?_, xW_i (fun c hc => ?_)⟩
        · rw [aw_up_ne (by intro e; cases e; exact hbi rfl)]
          show (if b < nE z then _ else none) = _
          rw [if_pos hbn]
        · have hne : 6 * b + c ≠ 6 * i + j := by omega
          simp [upd, hne]
    · rw [if_neg hbn] at hf'
      cases hf'
  · refine ⟨f, ?_, fun h => h⟩
    rw [aw_up_ne (by intro e; cases e; exact h14 rfl), ← hf]
    unfold wU
    by_cases ha : a < 20
    · rw [if_pos ha, if_pos ha]
      rcases a with _ | _ | _ | _ | _ | _ | _ | _ | _ | _ | _ | _ | _ | _ | _ | a <;> first | rfl | (rcases b with _ | b <;> rfl) | exact absurd rfl h14
    · rw [if_neg ha, if_neg ha]
end ROWS
