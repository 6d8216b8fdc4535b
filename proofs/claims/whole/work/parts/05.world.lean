/-! THE WORLD: kinds 0..19 the bench, 20..39 the reference, 40.. the law's own rows. Written by wip/whole/tools/genrows.py. -/
/-- a circuit, as both sides hold it: how many nodes; isRail, potential; how many elements; isSource, a, b, size, isOn, toggles; the toggles' times, six places an element -/
abbrev xC : Type := Nat × (Nat → Int32) × (Nat → Int32) × Nat × (Nat → Int32) × (Nat → Int32) × (Nat → Int32) × (Nat → Int32) × (Nat → Int32) × (Nat → Int32) × (Nat → Int32)
def nN (z : xC) : Nat := z.1
def nR (z : xC) : Nat → Int32 := z.2.1
def nP (z : xC) : Nat → Int32 := z.2.2.1
def nE (z : xC) : Nat := z.2.2.2.1
def eS (z : xC) : Nat → Int32 := z.2.2.2.2.1
def eA (z : xC) : Nat → Int32 := z.2.2.2.2.2.1
def eB (z : xC) : Nat → Int32 := z.2.2.2.2.2.2.1
def eZ (z : xC) : Nat → Int32 := z.2.2.2.2.2.2.2.1
def eO (z : xC) : Nat → Int32 := z.2.2.2.2.2.2.2.2.1
def eT (z : xC) : Nat → Int32 := z.2.2.2.2.2.2.2.2.2.1
def tT (z : xC) : Nat → Int32 := z.2.2.2.2.2.2.2.2.2.2
def s_nN (z : xC) (v : Nat) : xC := (v, nR z, nP z, nE z, eS z, eA z, eB z, eZ z, eO z, eT z, tT z)
def s_nR (z : xC) (v : Nat → Int32) : xC := (nN z, v, nP z, nE z, eS z, eA z, eB z, eZ z, eO z, eT z, tT z)
def s_nP (z : xC) (v : Nat → Int32) : xC := (nN z, nR z, v, nE z, eS z, eA z, eB z, eZ z, eO z, eT z, tT z)
def s_nE (z : xC) (v : Nat) : xC := (nN z, nR z, nP z, v, eS z, eA z, eB z, eZ z, eO z, eT z, tT z)
def s_eS (z : xC) (v : Nat → Int32) : xC := (nN z, nR z, nP z, nE z, v, eA z, eB z, eZ z, eO z, eT z, tT z)
def s_eA (z : xC) (v : Nat → Int32) : xC := (nN z, nR z, nP z, nE z, eS z, v, eB z, eZ z, eO z, eT z, tT z)
def s_eB (z : xC) (v : Nat → Int32) : xC := (nN z, nR z, nP z, nE z, eS z, eA z, v, eZ z, eO z, eT z, tT z)
def s_eZ (z : xC) (v : Nat → Int32) : xC := (nN z, nR z, nP z, nE z, eS z, eA z, eB z, v, eO z, eT z, tT z)
def s_eO (z : xC) (v : Nat → Int32) : xC := (nN z, nR z, nP z, nE z, eS z, eA z, eB z, eZ z, v, eT z, tT z)
def s_eT (z : xC) (v : Nat → Int32) : xC := (nN z, nR z, nP z, nE z, eS z, eA z, eB z, eZ z, eO z, v, tT z)
def s_tT (z : xC) (v : Nat → Int32) : xC := (nN z, nR z, nP z, nE z, eS z, eA z, eB z, eZ z, eO z, eT z, v)
/-- the lists' own numbers: modCount, modCount, length of the data, length of the data -/
abbrev xM : Type := Int32 × Int32 × Nat × Nat
abbrev xr (f : Nat → Option Nat) : (Nat → Int32) ⊕ (Nat → Int64) ⊕ (Nat → UInt32) ⊕ (Nat → UInt64) ⊕ (Nat → Option Nat) := .inr (.inr (.inr (.inr f)))
def wB (y : Nat → ClassId) (ad : xL → Nat) (bl : xM) (z : xC) (g pl : Nat → Int32) (kn : Nat → Int64) (rw : Nat → Nat → Int64) (mi : Nat → Int64) (un : Int32) : Nat → Nat → Option va_E
  | 0, 0 => some (.inr (4, [.ref (ad (1, 0)), .ref (ad (3, 0)), .ref (ad (5, 0)), .ref (ad (6, 0))]))
  | 1, 0 => some (.inr (0, [.int bl.1, .ref (ad (2, 0)), .int (nI (nN z))]))
  | 2, 0 => if nN z = 0 then none else some (.inl (y 4, bl.2.2.1, xr (fun i => if i < nN z then some (ad (12, i)) else none)))
  | 3, 0 => some (.inr (0, [.int bl.2.1, .ref (ad (4, 0)), .int (nI (nE z))]))
  | 4, 0 => if nE z = 0 then none else some (.inl (y 4, bl.2.2.2, xr (fun i => if i < nE z then some (ad (13, i)) else none)))
  | 5, 0 => some (.inl (y 0, 8, .inl g))
  | 6, 0 => some (.inr (2, [.ref (ad (7, 0)), .ref (ad (8, 0)), .ref (ad (9, 0)), .ref (ad (11, 0)), .int un]))
  | 7, 0 => some (.inl (y 0, 8, .inl pl))
  | 8, 0 => some (.inl (y 1, 8, .inr (.inl kn)))
  | 9, 0 => some (.inl (y 5, 7, xr (fun i => if i < 7 then some (ad (10, i)) else none)))
  | 10, i => if i < 7 then some (.inl (y 1, 8, .inr (.inl (rw i)))) else none
  | 11, 0 => some (.inl (y 1, 256, .inr (.inl mi)))
  | 12, i => if i < nN z then some (.inr (3, [.int (nR z i), .int (nP z i)])) else none
  | 13, i => if i < nE z then some (.inr (1, [.int (eS z i), .int (eA z i), .int (eB z i), .int (eZ z i), .int (eO z i), .int (eT z i), .ref (ad (14, i))])) else none
  | 14, i => if i < nE z then some (.inl (y 0, 6, .inl (fun j => tT z (6 * i + j)))) else none
  | _, _ => none
def wR (y : Nat → ClassId) (ad : xL → Nat) (th : Int32) (z : xC) (qp : Nat → Int32) (qm qr qi qn : Nat → Int64) (qf : Nat → Int32) (qu : Int32) (qd : Int64) : Nat → Nat → Option va_E
  | 0, 0 => some (.inr (5, [.int th, .int (nI (nN z)), .ref (ad (21, 0)), .ref (ad (22, 0)), .int (nI (nE z)), .ref (ad (23, 0)), .ref (ad (24, 0)), .ref (ad (25, 0)), .ref (ad (26, 0)), .ref (ad (27, 0)), .ref (ad (28, 0)), .ref (ad (29, 0)), .int qu, .ref (ad (30, 0)), .ref (ad (31, 0)), .ref (ad (32, 0)), .ref (ad (33, 0)), .long qd, .ref (ad (34, 0)), .ref (ad (35, 0))]))
  | 1, 0 => some (.inl (y 2, 8, .inl (nR z)))
  | 2, 0 => some (.inl (y 0, 8, .inl (nP z)))
  | 3, 0 => some (.inl (y 2, 20, .inl (eS z)))
  | 4, 0 => some (.inl (y 0, 20, .inl (eA z)))
  | 5, 0 => some (.inl (y 0, 20, .inl (eB z)))
  | 6, 0 => some (.inl (y 0, 20, .inl (eZ z)))
  | 7, 0 => some (.inl (y 2, 20, .inl (eO z)))
  | 8, 0 => some (.inl (y 0, 20, .inl (eT z)))
  | 9, 0 => some (.inl (y 0, 120, .inl (tT z)))
  | 10, 0 => some (.inl (y 0, 8, .inl qp))
  | 11, 0 => some (.inl (y 1, 64, .inr (.inl qm)))
  | 12, 0 => some (.inl (y 1, 8, .inr (.inl qr)))
  | 13, 0 => some (.inl (y 1, 256, .inr (.inl qi)))
  | 14, 0 => some (.inl (y 1, 8, .inr (.inl qn)))
  | 15, 0 => some (.inl (y 2, 8, .inl qf))
  | _, _ => none
def wO (y : Nat → ClassId) (oj : Nat → Int64) (od : Nat → UInt64) : Nat → Nat → Option va_E
  | 0, 0 => some (.inl (y 1, 1, .inr (.inl oj)))
  | 1, 0 => some (.inl (y 3, 1, .inr (.inr (.inr (.inl od)))))
  | _, _ => none
def wU (fB fR fO : Nat → Nat → Option va_E) : xL → Option va_E := fun q => if q.1 < 20 then fB q.1 q.2 else if q.1 < 40 then fR (q.1 - 20) q.2 else fO (q.1 - 40) q.2
theorem wU_B {fB fB' fR fO : Nat → Nat → Option va_E} {k i : Nat} {e : va_E} (hk : k < 20) (h : ∀ a b : Nat, ¬ (a = k ∧ b = i) → fB a b = fB' a b) (h2 : fB' k i = some e) : aw_up (wU fB fR fO) (k, i) e = wU fB' fR fO := by
  funext q
  obtain ⟨a, b⟩ := q
  by_cases hq : (a, b) = (k, i)
  · cases hq
    rw [aw_up_self]
    unfold wU
    rw [if_pos hk]
    exact h2.symm
  · rw [aw_up_ne hq]
    unfold wU
    by_cases ha : a < 20
    · rw [if_pos ha, if_pos ha]
      exact h a b (fun e => hq (by rw [e.1, e.2]))
    · rw [if_neg ha, if_neg ha]
theorem wU_R {fB fR fR' fO : Nat → Nat → Option va_E} {k i : Nat} {e : va_E} (hk : k < 20) (h : ∀ a b : Nat, ¬ (a = k ∧ b = i) → fR a b = fR' a b) (h2 : fR' k i = some e) : aw_up (wU fB fR fO) (k + 20, i) e = wU fB fR' fO := by
  funext q
  obtain ⟨a, b⟩ := q
  by_cases hq : (a, b) = (k + 20, i)
  · cases hq
    rw [aw_up_self]
    unfold wU
    rw [if_neg (show ¬ k + 20 < 20 by omega), if_pos (show k + 20 < 40 by omega), Nat.add_sub_cancel]
    exact h2.symm
  · rw [aw_up_ne hq]
    unfold wU
    by_cases ha : a < 20
    · rw [if_pos ha, if_pos ha]
    · rw [if_neg ha, if_neg ha]
      by_cases hb : a < 40
      · rw [if_pos hb, if_pos hb]
        refine h (a - 20) b (fun e => hq ?_)
        have e1 : a = k + 20 := by have := e.1; omega
        rw [e1, e.2]
      · rw [if_neg hb, if_neg hb]
theorem wU_O {fB fR fO fO' : Nat → Nat → Option va_E} {k i : Nat} {e : va_E} (h : ∀ a b : Nat, ¬ (a = k ∧ b = i) → fO a b = fO' a b) (h2 : fO' k i = some e) : aw_up (wU fB fR fO) (k + 40, i) e = wU fB fR fO' := by
  funext q
  obtain ⟨a, b⟩ := q
  by_cases hq : (a, b) = (k + 40, i)
  · cases hq
    rw [aw_up_self]
    unfold wU
    rw [if_neg (show ¬ k + 40 < 20 by omega), if_neg (show ¬ k + 40 < 40 by omega), Nat.add_sub_cancel]
    exact h2.symm
  · rw [aw_up_ne hq]
    unfold wU
    by_cases ha : a < 20
    · rw [if_pos ha, if_pos ha]
    · rw [if_neg ha, if_neg ha]
      by_cases hb : a < 40
      · rw [if_pos hb, if_pos hb]
      · rw [if_neg hb, if_neg hb]
        refine h (a - 40) b (fun e => hq ?_)
        have e1 : a = k + 40 := by have := e.1; omega
        rw [e1, e.2]
theorem iw_X0 : ∀ w ∈ u_ws RX0 TX0 7, w ∈ WG := by
  intro w hw
  obtain ⟨k, hk, rfl⟩ := List.mem_map.mp hw
  have hk := List.mem_range.mp hk
  match k, hk with
  | 0, _ => exact q_521
  | 1, _ => exact q_523
  | 2, _ => exact q_525
  | 3, _ => exact q_527
  | 4, _ => exact q_529
  | 5, _ => exact q_531
  | 6, _ => exact q_533
  | n + 7, h => exact absurd h (by omega)
theorem iw_X1 : ∀ w ∈ u_ws RX1 TX1 5, w ∈ WG := by
  intro w hw
  obtain ⟨k, hk, rfl⟩ := List.mem_map.mp hw
  have hk := List.mem_range.mp hk
  match k, hk with
  | 0, _ => exact q_111
  | 1, _ => exact q_113
  | 2, _ => exact q_115
  | 3, _ => exact q_117
  | 4, _ => exact q_119
  | n + 5, h => exact absurd h (by omega)
theorem iw_X2 : ∀ w ∈ u_ws RX2 TX2 2, w ∈ WG := by
  intro w hw
  obtain ⟨k, hk, rfl⟩ := List.mem_map.mp hw
  have hk := List.mem_range.mp hk
  match k, hk with
  | 0, _ => exact q_385
  | 1, _ => exact q_387
  | n + 2, h => exact absurd h (by omega)
theorem iw_X3 : ∀ w ∈ u_ws RX3 TX3 4, w ∈ WG := by
  intro w hw
  obtain ⟨k, hk, rfl⟩ := List.mem_map.mp hw
  have hk := List.mem_range.mp hk
  match k, hk with
  | 0, _ => exact q_128
  | 1, _ => exact q_130
  | 2, _ => exact q_132
  | 3, _ => exact q_134
  | n + 4, h => exact absurd h (by omega)
theorem iw_X4 : ∀ w ∈ u_ws RX4 TX4 20, w ∈ WG := by
  intro w hw
  obtain ⟨k, hk, rfl⟩ := List.mem_map.mp hw
  have hk := List.mem_range.mp hk
  match k, hk with
  | 0, _ => exact q_748
  | 1, _ => exact q_750
  | 2, _ => exact q_752
  | 3, _ => exact q_754
  | 4, _ => exact q_756
  | 5, _ => exact q_758
  | 6, _ => exact q_760
  | 7, _ => exact q_762
  | 8, _ => exact q_764
  | 9, _ => exact q_766
  | 10, _ => exact q_768
  | 11, _ => exact q_770
  | 12, _ => exact q_772
  | 13, _ => exact q_774
  | 14, _ => exact q_776
  | 15, _ => exact q_778
  | 16, _ => exact q_780
  | 17, _ => exact q_782
  | 18, _ => exact q_784
  | 19, _ => exact q_786
  | n + 20, h => exact absurd h (by omega)
theorem iw_Jx4a65c : ∀ w ∈ u_ws RJx4a65c TJx4a65c 3, w ∈ WG := by
  intro w hw
  obtain ⟨k, hk, rfl⟩ := List.mem_map.mp hw
  have hk := List.mem_range.mp hk
  match k, hk with
  | 0, _ => exact q_95
  | 1, _ => exact q_91
  | 2, _ => exact q_93
  | n + 3, h => exact absurd h (by omega)
section ROWS
variable {p : Program} {l : Launch} {e : Env} {R : Room} {s : State} {m : MethodId} {args : Array Value} {below : List Frame} {meth : Method} {c : Code} {H H0 : Heap} {locs : List Loc} {cells slots mc ms : Nat} {Q : State → Prop}
variable {cc : ByteArray} {pc index : Nat} {own : String} {ls : Array Slot} {rest : List Value} {D : va_G} {y : Nat → ClassId} {A : Nat → Prop} {ad : xL → Nat}
variable {bl : xM} {z : xC} {g pl : Nat → Int32} {kn mi : Nat → Int64} {rw : Nat → Nat → Int64} {un : Int32} {fB fR fO : Nat → Nat → Option va_E}
variable {th qu : Int32} {qp qf : Nat → Int32} {qm qr qi qn oj : Nat → Int64} {od : Nat → UInt64} {qd : Int64}
theorem xw_aald2 (hexec : p.tables.exec = Jvm.exec) (hb : c.code = cc) {ct : xL → Option va_E} (hE : xE D y s) (hP : xW D A ad ct H) (lab : xL) {n : Nat} {f : Nat → Option Nat} (he : ct lab = some (.inl (y 5, n, xr f))) {i v : Nat} (hv : f i = some v) (hi : i < n) (hn : n < 2 ^ 31) (hdg : decode cc pc = .ok (.aaload, 1))
    (kk : W p l e R s m args below meth c H locs cells slots Q (F0 m (pc + 1) ls (.ref v :: rest))) : W p l e R s m args below meth c H locs cells slots Q (F0 m pc ls (.int (nI i) :: .ref (ad lab) :: rest)) := by
  have hlt : (nI i).toNatClampNeg < n := by rw [nI_clamp (by omega)]; exact hi
  refine W.aald (v := .ref v) (ty := .array .long) hexec hb (hP.1 _ _ he) ((hE.1.2 5 _ rfl).1 n (fun j => va_rf (f j))) rfl (fun q => by cases q) (by show ¬ (_ ∨ (arrV _ _ _).slots.size ≤ _); rw [arrV_size]; exact vp_in_nI hi hn) ?_ rfl rfl hdg kk
  show (arrV _ _ _).slots[_]? = _
  rw [arrV_read _ _ hlt, nI_clamp (by omega), hv]
  rfl
theorem xw_aald4 (hexec : p.tables.exec = Jvm.exec) (hb : c.code = cc) {ct : xL → Option va_E} (hE : xE D y s) (hP : xW D A ad ct H) (lab : xL) {n : Nat} {f : Nat → Option Nat} (he : ct lab = some (.inl (y 4, n, xr f))) {i v : Nat} (hv : f i = some v) (hi : i < n) (hn : n < 2 ^ 31) (hdg : decode cc pc = .ok (.aaload, 1))
    (kk : W p l e R s m args below meth c H locs cells slots Q (F0 m (pc + 1) ls (.ref v :: rest))) : W p l e R s m args below meth c H locs cells slots Q (F0 m pc ls (.int (nI i) :: .ref (ad lab) :: rest)) := by
  have hlt : (nI i).toNatClampNeg < n := by rw [nI_clamp (by omega)]; exact hi
  refine W.aald (v := .ref v) (ty := .object "java/lang/Object") hexec hb (hP.1 _ _ he) ((hE.1.2 4 _ rfl).1 n (fun j => va_rf (f j))) rfl (fun q => by cases q) (by show ¬ (_ ∨ (arrV _ _ _).slots.size ≤ _); rw [arrV_size]; exact vp_in_nI hi hn) ?_ rfl rfl hdg kk
  show (arrV _ _ _).slots[_]? = _
  rw [arrV_read _ _ hlt, nI_clamp (by omega), hv]
  rfl
theorem fg_X3_nodes (hexec : p.tables.exec = Jvm.exec) (hb : c.code = cc) (hts : ∀ w ∈ WG, w.before args s = true) (hown : s.vm.findClass own = some m.cls) (hE : xE D y s) (hP : xW D A ad (wU (wB y ad bl z g pl kn rw mi un) fR fO) H) (hlink : Cond.fieldLink own index "NetlistBench" "nodes" "Ljava/util/ArrayList;" ∈ WG) (hdg : decode cc pc = .ok (.getfield index, 3)) (kk : W p l e R s m args below meth c H locs cells slots Q (F0 m (pc + 3) ls (.ref (ad (1, 0)) :: rest))) : W p l e R s m args below meth c H locs cells slots Q (F0 m pc ls (.ref (ad (0, 0)) :: rest)) :=
  xw_get hexec hb hts hown hE hP iw_X3 (0, 0) rfl rfl 0 (by decide) hlink (fun x h => h) rfl hdg kk
theorem fg_X3_elements (hexec : p.tables.exec = Jvm.exec) (hb : c.code = cc) (hts : ∀ w ∈ WG, w.before args s = true) (hown : s.vm.findClass own = some m.cls) (hE : xE D y s) (hP : xW D A ad (wU (wB y ad bl z g pl kn rw mi un) fR fO) H) (hlink : Cond.fieldLink own index "NetlistBench" "elements" "Ljava/util/ArrayList;" ∈ WG) (hdg : decode cc pc = .ok (.getfield index, 3)) (kk : W p l e R s m args below meth c H locs cells slots Q (F0 m (pc + 3) ls (.ref (ad (3, 0)) :: rest))) : W p l e R s m args below meth c H locs cells slots Q (F0 m pc ls (.ref (ad (0, 0)) :: rest)) :=
  xw_get hexec hb hts hown hE hP iw_X3 (0, 0) rfl rfl 1 (by decide) hlink (fun x h => h) rfl hdg kk
theorem fg_X3_groups (hexec : p.tables.exec = Jvm.exec) (hb : c.code = cc) (hts : ∀ w ∈ WG, w.before args s = true) (hown : s.vm.findClass own = some m.cls) (hE : xE D y s) (hP : xW D A ad (wU (wB y ad bl z g pl kn rw mi un) fR fO) H) (hlink : Cond.fieldLink own index "NetlistBench" "groups" "[I" ∈ WG) (hdg : decode cc pc = .ok (.getfield index, 3)) (kk : W p l e R s m args below meth c H locs cells slots Q (F0 m (pc + 3) ls (.ref (ad (5, 0)) :: rest))) : W p l e R s m args below meth c H locs cells slots Q (F0 m pc ls (.ref (ad (0, 0)) :: rest)) :=
  xw_get hexec hb hts hown hE hP iw_X3 (0, 0) rfl rfl 2 (by decide) hlink (fun x h => h) rfl hdg kk
theorem fg_X3_equations (hexec : p.tables.exec = Jvm.exec) (hb : c.code = cc) (hts : ∀ w ∈ WG, w.before args s = true) (hown : s.vm.findClass own = some m.cls) (hE : xE D y s) (hP : xW D A ad (wU (wB y ad bl z g pl kn rw mi un) fR fO) H) (hlink : Cond.fieldLink own index "NetlistBench" "equations" "LNetlistBench$Equations;" ∈ WG) (hdg : decode cc pc = .ok (.getfield index, 3)) (kk : W p l e R s m args below meth c H locs cells slots Q (F0 m (pc + 3) ls (.ref (ad (6, 0)) :: rest))) : W p l e R s m args below meth c H locs cells slots Q (F0 m pc ls (.ref (ad (0, 0)) :: rest)) :=
  xw_get hexec hb hts hown hE hP iw_X3 (0, 0) rfl rfl 3 (by decide) hlink (fun x h => h) rfl hdg kk
theorem fg_X1_places (hexec : p.tables.exec = Jvm.exec) (hb : c.code = cc) (hts : ∀ w ∈ WG, w.before args s = true) (hown : s.vm.findClass own = some m.cls) (hE : xE D y s) (hP : xW D A ad (wU (wB y ad bl z g pl kn rw mi un) fR fO) H) (hlink : Cond.fieldLink own index "NetlistBench$Equations" "places" "[I" ∈ WG) (hdg : decode cc pc = .ok (.getfield index, 3)) (kk : W p l e R s m args below meth c H locs cells slots Q (F0 m (pc + 3) ls (.ref (ad (7, 0)) :: rest))) : W p l e R s m args below meth c H locs cells slots Q (F0 m pc ls (.ref (ad (6, 0)) :: rest)) :=
  xw_get hexec hb hts hown hE hP iw_X1 (6, 0) rfl rfl 0 (by decide) hlink (fun x h => h) rfl hdg kk
theorem fg_X1_known (hexec : p.tables.exec = Jvm.exec) (hb : c.code = cc) (hts : ∀ w ∈ WG, w.before args s = true) (hown : s.vm.findClass own = some m.cls) (hE : xE D y s) (hP : xW D A ad (wU (wB y ad bl z g pl kn rw mi un) fR fO) H) (hlink : Cond.fieldLink own index "NetlistBench$Equations" "known" "[J" ∈ WG) (hdg : decode cc pc = .ok (.getfield index, 3)) (kk : W p l e R s m args below meth c H locs cells slots Q (F0 m (pc + 3) ls (.ref (ad (8, 0)) :: rest))) : W p l e R s m args below meth c H locs cells slots Q (F0 m pc ls (.ref (ad (6, 0)) :: rest)) :=
  xw_get hexec hb hts hown hE hP iw_X1 (6, 0) rfl rfl 1 (by decide) hlink (fun x h => h) rfl hdg kk
theorem fg_X1_rows (hexec : p.tables.exec = Jvm.exec) (hb : c.code = cc) (hts : ∀ w ∈ WG, w.before args s = true) (hown : s.vm.findClass own = some m.cls) (hE : xE D y s) (hP : xW D A ad (wU (wB y ad bl z g pl kn rw mi un) fR fO) H) (hlink : Cond.fieldLink own index "NetlistBench$Equations" "rows" "[[J" ∈ WG) (hdg : decode cc pc = .ok (.getfield index, 3)) (kk : W p l e R s m args below meth c H locs cells slots Q (F0 m (pc + 3) ls (.ref (ad (9, 0)) :: rest))) : W p l e R s m args below meth c H locs cells slots Q (F0 m pc ls (.ref (ad (6, 0)) :: rest)) :=
  xw_get hexec hb hts hown hE hP iw_X1 (6, 0) rfl rfl 2 (by decide) hlink (fun x h => h) rfl hdg kk
theorem fg_X1_minors (hexec : p.tables.exec = Jvm.exec) (hb : c.code = cc) (hts : ∀ w ∈ WG, w.before args s = true) (hown : s.vm.findClass own = some m.cls) (hE : xE D y s) (hP : xW D A ad (wU (wB y ad bl z g pl kn rw mi un) fR fO) H) (hlink : Cond.fieldLink own index "NetlistBench$Equations" "minors" "[J" ∈ WG) (hdg : decode cc pc = .ok (.getfield index, 3)) (kk : W p l e R s m args below meth c H locs cells slots Q (F0 m (pc + 3) ls (.ref (ad (11, 0)) :: rest))) : W p l e R s m args below meth c H locs cells slots Q (F0 m pc ls (.ref (ad (6, 0)) :: rest)) :=
  xw_get hexec hb hts hown hE hP iw_X1 (6, 0) rfl rfl 3 (by decide) hlink (fun x h => h) rfl hdg kk
theorem fg_X1_unknowns (hexec : p.tables.exec = Jvm.exec) (hb : c.code = cc) (hts : ∀ w ∈ WG, w.before args s = true) (hown : s.vm.findClass own = some m.cls) (hE : xE D y s) (hP : xW D A ad (wU (wB y ad bl z g pl kn rw mi un) fR fO) H) (hlink : Cond.fieldLink own index "NetlistBench$Equations" "unknowns" "I" ∈ WG) (hdg : decode cc pc = .ok (.getfield index, 3)) (kk : W p l e R s m args below meth c H locs cells slots Q (F0 m (pc + 3) ls (.int un :: rest))) : W p l e R s m args below meth c H locs cells slots Q (F0 m pc ls (.ref (ad (6, 0)) :: rest)) :=
  xw_get hexec hb hts hown hE hP iw_X1 (6, 0) rfl rfl 4 (by decide) hlink (fun x h => h) rfl hdg kk
theorem fp_X1_unknowns (hexec : p.tables.exec = Jvm.exec) (hb : c.code = cc) (hts : ∀ w ∈ WG, w.before args s = true) (hown : s.vm.findClass own = some m.cls) (hE : xE D y s) (hS : va_S A H0 H locs) (hP : xW D A ad (wU (wB y ad bl z g pl kn rw mi un) fR fO) H) {v : Int32} (hlink : Cond.fieldLink own index "NetlistBench$Equations" "unknowns" "I" ∈ WG) (hdg : decode cc pc = .ok (.putfield index, 3)) (kk : ∀ (H1 : Heap) (locs1 : List Loc), xW D A ad (wU (wB y ad bl z g pl kn rw mi v) fR fO) H1 → va_S A H0 H1 locs1 → W p l e R s m args below meth c H1 locs1 cells slots Q (F0 m (pc + 3) ls (rest))) : W p l e R s m args below meth c H locs cells slots Q (F0 m pc ls (.int v :: .ref (ad (6, 0)) :: rest)) :=
  xw_put hexec hb hts hown hE hP hS iw_X1 tyX1 tyX1_ok nmX1 (6, 0) rfl rfl 4 (by decide) hlink (fun x h => h) rfl (ty := .int) rfl rfl rfl (Nat.le_of_ble_eq_true rfl) hdg (fun H1 locs1 h1 h2 => kk H1 locs1 (h1.ct (wU_B (by decide) (fun a b h => by rcases a with _ | _ | _ | _ | _ | _ | _ | _ | _ | _ | _ | _ | _ | _ | _ | a <;> first | rfl | (rcases b with _ | b <;> first | rfl | exact absurd ⟨rfl, rfl⟩ h)) rfl)) h2)
theorem fg_X2_isRail {i : Nat} (hi : i < nN z) (hexec : p.tables.exec = Jvm.exec) (hb : c.code = cc) (hts : ∀ w ∈ WG, w.before args s = true) (hown : s.vm.findClass own = some m.cls) (hE : xE D y s) (hP : xW D A ad (wU (wB y ad bl z g pl kn rw mi un) fR fO) H) (hlink : Cond.fieldLink own index "NetlistBench$Node" "isRail" "Z" ∈ WG) (hdg : decode cc pc = .ok (.getfield index, 3)) (kk : W p l e R s m args below meth c H locs cells slots Q (F0 m (pc + 3) ls (.int (nR z i) :: rest))) : W p l e R s m args below meth c H locs cells slots Q (F0 m pc ls (.ref (ad (12, i)) :: rest)) :=
  xw_get hexec hb hts hown hE hP iw_X2 (12, i) (if_pos hi) rfl 0 (by decide) hlink (fun x h => h) rfl hdg kk
theorem fp_X2_isRail {i : Nat} (hi : i < nN z) (hexec : p.tables.exec = Jvm.exec) (hb : c.code = cc) (hts : ∀ w ∈ WG, w.before args s = true) (hown : s.vm.findClass own = some m.cls) (hE : xE D y s) (hS : va_S A H0 H locs) (hP : xW D A ad (wU (wB y ad bl z g pl kn rw mi un) fR fO) H) {v : Int32} (hz : v = 0 ∨ v = 1) (hlink : Cond.fieldLink own index "NetlistBench$Node" "isRail" "Z" ∈ WG) (hdg : decode cc pc = .ok (.putfield index, 3)) (kk : ∀ (H1 : Heap) (locs1 : List Loc), xW D A ad (wU (wB y ad bl (s_nR z (upd (nR z) i v)) g pl kn rw mi un) fR fO) H1 → va_S A H0 H1 locs1 → W p l e R s m args below meth c H1 locs1 cells slots Q (F0 m (pc + 3) ls (rest))) : W p l e R s m args below meth c H locs cells slots Q (F0 m pc ls (.int v :: .ref (ad (12, i)) :: rest)) :=
  xw_put hexec hb hts hown hE hP hS iw_X2 tyX2 tyX2_ok nmX2 (12, i) (if_pos hi) rfl 0 (by decide) hlink (fun x h => h) rfl (ty := .boolean) rfl (by rcases hz with h | h <;> subst h <;> rfl) (by rcases hz with h | h <;> subst h <;> rfl) (Nat.le_of_ble_eq_true rfl) hdg (fun H1 locs1 h1 h2 => kk H1 locs1 (h1.ct (wU_B (by decide) (fun a b h => by rcases a with _ | _ | _ | _ | _ | _ | _ | _ | _ | _ | _ | _ | _ | _ | _ | a <;> first | rfl | (rcases b with _ | b <;> rfl) | (have hbi : b ≠ i := fun q => h ⟨rfl, q⟩; show (if _ then _ else none) = (if _ then _ else none); simp only [s_nR, nN, nR, nP, upd, if_neg hbi] <;> rfl)) (by show (if _ then _ else none) = _; rw [if_pos (show i < nN (s_nR z (upd (nR z) i v)) from hi)]; simp [s_nR, nN, nR, nP, upd]))) h2)
theorem fg_X2_railPotential {i : Nat} (hi : i < nN z) (hexec : p.tables.exec = Jvm.exec) (hb : c.code = cc) (hts : ∀ w ∈ WG, w.before args s = true) (hown : s.vm.findClass own = some m.cls) (hE : xE D y s) (hP : xW D A ad (wU (wB y ad bl z g pl kn rw mi un) fR fO) H) (hlink : Cond.fieldLink own index "NetlistBench$Node" "railPotential" "I" ∈ WG) (hdg : decode cc pc = .ok (.getfield index, 3)) (kk : W p l e R s m args below meth c H locs cells slots Q (F0 m (pc + 3) ls (.int (nP z i) :: rest))) : W p l e R s m args below meth c H locs cells slots Q (F0 m pc ls (.ref (ad (12, i)) :: rest)) :=
  xw_get hexec hb hts hown hE hP iw_X2 (12, i) (if_pos hi) rfl 1 (by decide) hlink (fun x h => h) rfl hdg kk
theorem fp_X2_railPotential {i : Nat} (hi : i < nN z) (hexec : p.tables.exec = Jvm.exec) (hb : c.code = cc) (hts : ∀ w ∈ WG, w.before args s = true) (hown : s.vm.findClass own = some m.cls) (hE : xE D y s) (hS : va_S A H0 H locs) (hP : xW D A ad (wU (wB y ad bl z g pl kn rw mi un) fR fO) H) {v : Int32} (hlink : Cond.fieldLink own index "NetlistBench$Node" "railPotential" "I" ∈ WG) (hdg : decode cc pc = .ok (.putfield index, 3)) (kk : ∀ (H1 : Heap) (locs1 : List Loc), xW D A ad (wU (wB y ad bl (s_nP z (upd (nP z) i v)) g pl kn rw mi un) fR fO) H1 → va_S A H0 H1 locs1 → W p l e R s m args below meth c H1 locs1 cells slots Q (F0 m (pc + 3) ls (rest))) : W p l e R s m args below meth c H locs cells slots Q (F0 m pc ls (.int v :: .ref (ad (12, i)) :: rest)) :=
  xw_put hexec hb hts hown hE hP hS iw_X2 tyX2 tyX2_ok nmX2 (12, i) (if_pos hi) rfl 1 (by decide) hlink (fun x h => h) rfl (ty := .int) rfl rfl rfl (Nat.le_of_ble_eq_true rfl) hdg (fun H1 locs1 h1 h2 => kk H1 locs1 (h1.ct (wU_B (by decide) (fun a b h => by rcases a with _ | _ | _ | _ | _ | _ | _ | _ | _ | _ | _ | _ | _ | _ | _ | a <;> first | rfl | (rcases b with _ | b <;> rfl) | (have hbi : b ≠ i := fun q => h ⟨rfl, q⟩; show (if _ then _ else none) = (if _ then _ else none); simp only [s_nP, nN, nR, nP, upd, if_neg hbi] <;> rfl)) (by show (if _ then _ else none) = _; rw [if_pos (show i < nN (s_nP z (upd (nP z) i v)) from hi)]; simp [s_nP, nN, nR, nP, upd]))) h2)
theorem fg_X0_isSource {i : Nat} (hi : i < nE z) (hexec : p.tables.exec = Jvm.exec) (hb : c.code = cc) (hts : ∀ w ∈ WG, w.before args s = true) (hown : s.vm.findClass own = some m.cls) (hE : xE D y s) (hP : xW D A ad (wU (wB y ad bl z g pl kn rw mi un) fR fO) H) (hlink : Cond.fieldLink own index "NetlistBench$Element" "isSource" "Z" ∈ WG) (hdg : decode cc pc = .ok (.getfield index, 3)) (kk : W p l e R s m args below meth c H locs cells slots Q (F0 m (pc + 3) ls (.int (eS z i) :: rest))) : W p l e R s m args below meth c H locs cells slots Q (F0 m pc ls (.ref (ad (13, i)) :: rest)) :=
  xw_get hexec hb hts hown hE hP iw_X0 (13, i) (if_pos hi) rfl 0 (by decide) hlink (fun x h => h) rfl hdg kk
theorem fg_X0_a {i : Nat} (hi : i < nE z) (hexec : p.tables.exec = Jvm.exec) (hb : c.code = cc) (hts : ∀ w ∈ WG, w.before args s = true) (hown : s.vm.findClass own = some m.cls) (hE : xE D y s) (hP : xW D A ad (wU (wB y ad bl z g pl kn rw mi un) fR fO) H) (hlink : Cond.fieldLink own index "NetlistBench$Element" "a" "I" ∈ WG) (hdg : decode cc pc = .ok (.getfield index, 3)) (kk : W p l e R s m args below meth c H locs cells slots Q (F0 m (pc + 3) ls (.int (eA z i) :: rest))) : W p l e R s m args below meth c H locs cells slots Q (F0 m pc ls (.ref (ad (13, i)) :: rest)) :=
  xw_get hexec hb hts hown hE hP iw_X0 (13, i) (if_pos hi) rfl 1 (by decide) hlink (fun x h => h) rfl hdg kk
theorem fg_X0_b {i : Nat} (hi : i < nE z) (hexec : p.tables.exec = Jvm.exec) (hb : c.code = cc) (hts : ∀ w ∈ WG, w.before args s = true) (hown : s.vm.findClass own = some m.cls) (hE : xE D y s) (hP : xW D A ad (wU (wB y ad bl z g pl kn rw mi un) fR fO) H) (hlink : Cond.fieldLink own index "NetlistBench$Element" "b" "I" ∈ WG) (hdg : decode cc pc = .ok (.getfield index, 3)) (kk : W p l e R s m args below meth c H locs cells slots Q (F0 m (pc + 3) ls (.int (eB z i) :: rest))) : W p l e R s m args below meth c H locs cells slots Q (F0 m pc ls (.ref (ad (13, i)) :: rest)) :=
  xw_get hexec hb hts hown hE hP iw_X0 (13, i) (if_pos hi) rfl 2 (by decide) hlink (fun x h => h) rfl hdg kk
theorem fg_X0_size {i : Nat} (hi : i < nE z) (hexec : p.tables.exec = Jvm.exec) (hb : c.code = cc) (hts : ∀ w ∈ WG, w.before args s = true) (hown : s.vm.findClass own = some m.cls) (hE : xE D y s) (hP : xW D A ad (wU (wB y ad bl z g pl kn rw mi un) fR fO) H) (hlink : Cond.fieldLink own index "NetlistBench$Element" "size" "I" ∈ WG) (hdg : decode cc pc = .ok (.getfield index, 3)) (kk : W p l e R s m args below meth c H locs cells slots Q (F0 m (pc + 3) ls (.int (eZ z i) :: rest))) : W p l e R s m args below meth c H locs cells slots Q (F0 m pc ls (.ref (ad (13, i)) :: rest)) :=
  xw_get hexec hb hts hown hE hP iw_X0 (13, i) (if_pos hi) rfl 3 (by decide) hlink (fun x h => h) rfl hdg kk
theorem fp_X0_size {i : Nat} (hi : i < nE z) (hexec : p.tables.exec = Jvm.exec) (hb : c.code = cc) (hts : ∀ w ∈ WG, w.before args s = true) (hown : s.vm.findClass own = some m.cls) (hE : xE D y s) (hS : va_S A H0 H locs) (hP : xW D A ad (wU (wB y ad bl z g pl kn rw mi un) fR fO) H) {v : Int32} (hlink : Cond.fieldLink own index "NetlistBench$Element" "size" "I" ∈ WG) (hdg : decode cc pc = .ok (.putfield index, 3)) (kk : ∀ (H1 : Heap) (locs1 : List Loc), xW D A ad (wU (wB y ad bl (s_eZ z (upd (eZ z) i v)) g pl kn rw mi un) fR fO) H1 → va_S A H0 H1 locs1 → W p l e R s m args below meth c H1 locs1 cells slots Q (F0 m (pc + 3) ls (rest))) : W p l e R s m args below meth c H locs cells slots Q (F0 m pc ls (.int v :: .ref (ad (13, i)) :: rest)) :=
  xw_put hexec hb hts hown hE hP hS iw_X0 tyX0 tyX0_ok nmX0 (13, i) (if_pos hi) rfl 3 (by decide) hlink (fun x h => h) rfl (ty := .int) rfl rfl rfl (Nat.le_of_ble_eq_true rfl) hdg (fun H1 locs1 h1 h2 => kk H1 locs1 (h1.ct (wU_B (by decide) (fun a b h => by rcases a with _ | _ | _ | _ | _ | _ | _ | _ | _ | _ | _ | _ | _ | _ | _ | a <;> first | rfl | (rcases b with _ | b <;> rfl) | (have hbi : b ≠ i := fun q => h ⟨rfl, q⟩; show (if _ then _ else none) = (if _ then _ else none); simp only [s_eZ, nE, eS, eA, eB, eZ, eO, eT, upd, if_neg hbi] <;> rfl)) (by show (if _ then _ else none) = _; rw [if_pos (show i < nE (s_eZ z (upd (eZ z) i v)) from hi)]; simp [s_eZ, nE, eS, eA, eB, eZ, eO, eT, upd]))) h2)
theorem fg_X0_startsOn {i : Nat} (hi : i < nE z) (hexec : p.tables.exec = Jvm.exec) (hb : c.code = cc) (hts : ∀ w ∈ WG, w.before args s = true) (hown : s.vm.findClass own = some m.cls) (hE : xE D y s) (hP : xW D A ad (wU (wB y ad bl z g pl kn rw mi un) fR fO) H) (hlink : Cond.fieldLink own index "NetlistBench$Element" "startsOn" "Z" ∈ WG) (hdg : decode cc pc = .ok (.getfield index, 3)) (kk : W p l e R s m args below meth c H locs cells slots Q (F0 m (pc + 3) ls (.int (eO z i) :: rest))) : W p l e R s m args below meth c H locs cells slots Q (F0 m pc ls (.ref (ad (13, i)) :: rest)) :=
  xw_get hexec hb hts hown hE hP iw_X0 (13, i) (if_pos hi) rfl 4 (by decide) hlink (fun x h => h) rfl hdg kk
theorem fp_X0_startsOn {i : Nat} (hi : i < nE z) (hexec : p.tables.exec = Jvm.exec) (hb : c.code = cc) (hts : ∀ w ∈ WG, w.before args s = true) (hown : s.vm.findClass own = some m.cls) (hE : xE D y s) (hS : va_S A H0 H locs) (hP : xW D A ad (wU (wB y ad bl z g pl kn rw mi un) fR fO) H) {v : Int32} (hz : v = 0 ∨ v = 1) (hlink : Cond.fieldLink own index "NetlistBench$Element" "startsOn" "Z" ∈ WG) (hdg : decode cc pc = .ok (.putfield index, 3)) (kk : ∀ (H1 : Heap) (locs1 : List Loc), xW D A ad (wU (wB y ad bl (s_eO z (upd (eO z) i v)) g pl kn rw mi un) fR fO) H1 → va_S A H0 H1 locs1 → W p l e R s m args below meth c H1 locs1 cells slots Q (F0 m (pc + 3) ls (rest))) : W p l e R s m args below meth c H locs cells slots Q (F0 m pc ls (.int v :: .ref (ad (13, i)) :: rest)) :=
  xw_put hexec hb hts hown hE hP hS iw_X0 tyX0 tyX0_ok nmX0 (13, i) (if_pos hi) rfl 4 (by decide) hlink (fun x h => h) rfl (ty := .boolean) rfl (by rcases hz with h | h <;> subst h <;> rfl) (by rcases hz with h | h <;> subst h <;> rfl) (Nat.le_of_ble_eq_true rfl) hdg (fun H1 locs1 h1 h2 => kk H1 locs1 (h1.ct (wU_B (by decide) (fun a b h => by rcases a with _ | _ | _ | _ | _ | _ | _ | _ | _ | _ | _ | _ | _ | _ | _ | a <;> first | rfl | (rcases b with _ | b <;> rfl) | (have hbi : b ≠ i := fun q => h ⟨rfl, q⟩; show (if _ then _ else none) = (if _ then _ else none); simp only [s_eO, nE, eS, eA, eB, eZ, eO, eT, upd, if_neg hbi] <;> rfl)) (by show (if _ then _ else none) = _; rw [if_pos (show i < nE (s_eO z (upd (eO z) i v)) from hi)]; simp [s_eO, nE, eS, eA, eB, eZ, eO, eT, upd]))) h2)
theorem fg_X0_toggles {i : Nat} (hi : i < nE z) (hexec : p.tables.exec = Jvm.exec) (hb : c.code = cc) (hts : ∀ w ∈ WG, w.before args s = true) (hown : s.vm.findClass own = some m.cls) (hE : xE D y s) (hP : xW D A ad (wU (wB y ad bl z g pl kn rw mi un) fR fO) H) (hlink : Cond.fieldLink own index "NetlistBench$Element" "toggles" "I" ∈ WG) (hdg : decode cc pc = .ok (.getfield index, 3)) (kk : W p l e R s m args below meth c H locs cells slots Q (F0 m (pc + 3) ls (.int (eT z i) :: rest))) : W p l e R s m args below meth c H locs cells slots Q (F0 m pc ls (.ref (ad (13, i)) :: rest)) :=
  xw_get hexec hb hts hown hE hP iw_X0 (13, i) (if_pos hi) rfl 5 (by decide) hlink (fun x h => h) rfl hdg kk
theorem fp_X0_toggles {i : Nat} (hi : i < nE z) (hexec : p.tables.exec = Jvm.exec) (hb : c.code = cc) (hts : ∀ w ∈ WG, w.before args s = true) (hown : s.vm.findClass own = some m.cls) (hE : xE D y s) (hS : va_S A H0 H locs) (hP : xW D A ad (wU (wB y ad bl z g pl kn rw mi un) fR fO) H) {v : Int32} (hlink : Cond.fieldLink own index "NetlistBench$Element" "toggles" "I" ∈ WG) (hdg : decode cc pc = .ok (.putfield index, 3)) (kk : ∀ (H1 : Heap) (locs1 : List Loc), xW D A ad (wU (wB y ad bl (s_eT z (upd (eT z) i v)) g pl kn rw mi un) fR fO) H1 → va_S A H0 H1 locs1 → W p l e R s m args below meth c H1 locs1 cells slots Q (F0 m (pc + 3) ls (rest))) : W p l e R s m args below meth c H locs cells slots Q (F0 m pc ls (.int v :: .ref (ad (13, i)) :: rest)) :=
  xw_put hexec hb hts hown hE hP hS iw_X0 tyX0 tyX0_ok nmX0 (13, i) (if_pos hi) rfl 5 (by decide) hlink (fun x h => h) rfl (ty := .int) rfl rfl rfl (Nat.le_of_ble_eq_true rfl) hdg (fun H1 locs1 h1 h2 => kk H1 locs1 (h1.ct (wU_B (by decide) (fun a b h => by rcases a with _ | _ | _ | _ | _ | _ | _ | _ | _ | _ | _ | _ | _ | _ | _ | a <;> first | rfl | (rcases b with _ | b <;> rfl) | (have hbi : b ≠ i := fun q => h ⟨rfl, q⟩; show (if _ then _ else none) = (if _ then _ else none); simp only [s_eT, nE, eS, eA, eB, eZ, eO, eT, upd, if_neg hbi] <;> rfl)) (by show (if _ then _ else none) = _; rw [if_pos (show i < nE (s_eT z (upd (eT z) i v)) from hi)]; simp [s_eT, nE, eS, eA, eB, eZ, eO, eT, upd]))) h2)
theorem fg_X0_times {i : Nat} (hi : i < nE z) (hexec : p.tables.exec = Jvm.exec) (hb : c.code = cc) (hts : ∀ w ∈ WG, w.before args s = true) (hown : s.vm.findClass own = some m.cls) (hE : xE D y s) (hP : xW D A ad (wU (wB y ad bl z g pl kn rw mi un) fR fO) H) (hlink : Cond.fieldLink own index "NetlistBench$Element" "times" "[I" ∈ WG) (hdg : decode cc pc = .ok (.getfield index, 3)) (kk : W p l e R s m args below meth c H locs cells slots Q (F0 m (pc + 3) ls (.ref (ad (14, i)) :: rest))) : W p l e R s m args below meth c H locs cells slots Q (F0 m pc ls (.ref (ad (13, i)) :: rest)) :=
  xw_get hexec hb hts hown hE hP iw_X0 (13, i) (if_pos hi) rfl 6 (by decide) hlink (fun x h => h) rfl hdg kk
theorem fg_AL_nodes_elementData (hexec : p.tables.exec = Jvm.exec) (hb : c.code = cc) (hts : ∀ w ∈ WG, w.before args s = true) (hown : s.vm.findClass own = some m.cls) (hE : xE D y s) (hP : xW D A ad (wU (wB y ad bl z g pl kn rw mi un) fR fO) H) (hlink : Cond.fieldLink own index "java/util/ArrayList" "elementData" "[Ljava/lang/Object;" ∈ WG) (hdg : decode cc pc = .ok (.getfield index, 3)) (kk : W p l e R s m args below meth c H locs cells slots Q (F0 m (pc + 3) ls (.ref (ad (2, 0)) :: rest))) : W p l e R s m args below meth c H locs cells slots Q (F0 m pc ls (.ref (ad (1, 0)) :: rest)) :=
  xw_get hexec hb hts hown hE hP iw_Jx4a65c (1, 0) rfl rfl 1 (by decide) hlink (fun x h => h) rfl hdg kk
theorem fg_AL_nodes_size (hexec : p.tables.exec = Jvm.exec) (hb : c.code = cc) (hts : ∀ w ∈ WG, w.before args s = true) (hown : s.vm.findClass own = some m.cls) (hE : xE D y s) (hP : xW D A ad (wU (wB y ad bl z g pl kn rw mi un) fR fO) H) (hlink : Cond.fieldLink own index "java/util/ArrayList" "size" "I" ∈ WG) (hdg : decode cc pc = .ok (.getfield index, 3)) (kk : W p l e R s m args below meth c H locs cells slots Q (F0 m (pc + 3) ls (.int (nI (nN z)) :: rest))) : W p l e R s m args below meth c H locs cells slots Q (F0 m pc ls (.ref (ad (1, 0)) :: rest)) :=
  xw_get hexec hb hts hown hE hP iw_Jx4a65c (1, 0) rfl rfl 2 (by decide) hlink (fun x h => h) rfl hdg kk
theorem fg_AL_elements_elementData (hexec : p.tables.exec = Jvm.exec) (hb : c.code = cc) (hts : ∀ w ∈ WG, w.before args s = true) (hown : s.vm.findClass own = some m.cls) (hE : xE D y s) (hP : xW D A ad (wU (wB y ad bl z g pl kn rw mi un) fR fO) H) (hlink : Cond.fieldLink own index "java/util/ArrayList" "elementData" "[Ljava/lang/Object;" ∈ WG) (hdg : decode cc pc = .ok (.getfield index, 3)) (kk : W p l e R s m args below meth c H locs cells slots Q (F0 m (pc + 3) ls (.ref (ad (4, 0)) :: rest))) : W p l e R s m args below meth c H locs cells slots Q (F0 m pc ls (.ref (ad (3, 0)) :: rest)) :=
  xw_get hexec hb hts hown hE hP iw_Jx4a65c (3, 0) rfl rfl 1 (by decide) hlink (fun x h => h) rfl hdg kk
theorem fg_AL_elements_size (hexec : p.tables.exec = Jvm.exec) (hb : c.code = cc) (hts : ∀ w ∈ WG, w.before args s = true) (hown : s.vm.findClass own = some m.cls) (hE : xE D y s) (hP : xW D A ad (wU (wB y ad bl z g pl kn rw mi un) fR fO) H) (hlink : Cond.fieldLink own index "java/util/ArrayList" "size" "I" ∈ WG) (hdg : decode cc pc = .ok (.getfield index, 3)) (kk : W p l e R s m args below meth c H locs cells slots Q (F0 m (pc + 3) ls (.int (nI (nE z)) :: rest))) : W p l e R s m args below meth c H locs cells slots Q (F0 m pc ls (.ref (ad (3, 0)) :: rest)) :=
  xw_get hexec hb hts hown hE hP iw_Jx4a65c (3, 0) rfl rfl 2 (by decide) hlink (fun x h => h) rfl hdg kk
theorem fg_X4_thrown (hexec : p.tables.exec = Jvm.exec) (hb : c.code = cc) (hts : ∀ w ∈ WG, w.before args s = true) (hown : s.vm.findClass own = some m.cls) (hE : xE D y s) (hP : xW D A ad (wU fB (wR y ad th z qp qm qr qi qn qf qu qd) fO) H) (hlink : Cond.fieldLink own index "NetlistBenchModel" "thrown" "I" ∈ WG) (hdg : decode cc pc = .ok (.getfield index, 3)) (kk : W p l e R s m args below meth c H locs cells slots Q (F0 m (pc + 3) ls (.int th :: rest))) : W p l e R s m args below meth c H locs cells slots Q (F0 m pc ls (.ref (ad (20, 0)) :: rest)) :=
  xw_get hexec hb hts hown hE hP iw_X4 (20, 0) rfl rfl 0 (by decide) hlink (fun x h => h) rfl hdg kk
theorem fg_X4_nodes (hexec : p.tables.exec = Jvm.exec) (hb : c.code = cc) (hts : ∀ w ∈ WG, w.before args s = true) (hown : s.vm.findClass own = some m.cls) (hE : xE D y s) (hP : xW D A ad (wU fB (wR y ad th z qp qm qr qi qn qf qu qd) fO) H) (hlink : Cond.fieldLink own index "NetlistBenchModel" "nodes" "I" ∈ WG) (hdg : decode cc pc = .ok (.getfield index, 3)) (kk : W p l e R s m args below meth c H locs cells slots Q (F0 m (pc + 3) ls (.int (nI (nN z)) :: rest))) : W p l e R s m args below meth c H locs cells slots Q (F0 m pc ls (.ref (ad (20, 0)) :: rest)) :=
  xw_get hexec hb hts hown hE hP iw_X4 (20, 0) rfl rfl 1 (by decide) hlink (fun x h => h) rfl hdg kk
theorem fg_X4_areRails (hexec : p.tables.exec = Jvm.exec) (hb : c.code = cc) (hts : ∀ w ∈ WG, w.before args s = true) (hown : s.vm.findClass own = some m.cls) (hE : xE D y s) (hP : xW D A ad (wU fB (wR y ad th z qp qm qr qi qn qf qu qd) fO) H) (hlink : Cond.fieldLink own index "NetlistBenchModel" "areRails" "[Z" ∈ WG) (hdg : decode cc pc = .ok (.getfield index, 3)) (kk : W p l e R s m args below meth c H locs cells slots Q (F0 m (pc + 3) ls (.ref (ad (21, 0)) :: rest))) : W p l e R s m args below meth c H locs cells slots Q (F0 m pc ls (.ref (ad (20, 0)) :: rest)) :=
  xw_get hexec hb hts hown hE hP iw_X4 (20, 0) rfl rfl 2 (by decide) hlink (fun x h => h) rfl hdg kk
theorem fg_X4_railPotentials (hexec : p.tables.exec = Jvm.exec) (hb : c.code = cc) (hts : ∀ w ∈ WG, w.before args s = true) (hown : s.vm.findClass own = some m.cls) (hE : xE D y s) (hP : xW D A ad (wU fB (wR y ad th z qp qm qr qi qn qf qu qd) fO) H) (hlink : Cond.fieldLink own index "NetlistBenchModel" "railPotentials" "[I" ∈ WG) (hdg : decode cc pc = .ok (.getfield index, 3)) (kk : W p l e R s m args below meth c H locs cells slots Q (F0 m (pc + 3) ls (.ref (ad (22, 0)) :: rest))) : W p l e R s m args below meth c H locs cells slots Q (F0 m pc ls (.ref (ad (20, 0)) :: rest)) :=
  xw_get hexec hb hts hown hE hP iw_X4 (20, 0) rfl rfl 3 (by decide) hlink (fun x h => h) rfl hdg kk
theorem fg_X4_elements (hexec : p.tables.exec = Jvm.exec) (hb : c.code = cc) (hts : ∀ w ∈ WG, w.before args s = true) (hown : s.vm.findClass own = some m.cls) (hE : xE D y s) (hP : xW D A ad (wU fB (wR y ad th z qp qm qr qi qn qf qu qd) fO) H) (hlink : Cond.fieldLink own index "NetlistBenchModel" "elements" "I" ∈ WG) (hdg : decode cc pc = .ok (.getfield index, 3)) (kk : W p l e R s m args below meth c H locs cells slots Q (F0 m (pc + 3) ls (.int (nI (nE z)) :: rest))) : W p l e R s m args below meth c H locs cells slots Q (F0 m pc ls (.ref (ad (20, 0)) :: rest)) :=
  xw_get hexec hb hts hown hE hP iw_X4 (20, 0) rfl rfl 4 (by decide) hlink (fun x h => h) rfl hdg kk
theorem fg_X4_areSources (hexec : p.tables.exec = Jvm.exec) (hb : c.code = cc) (hts : ∀ w ∈ WG, w.before args s = true) (hown : s.vm.findClass own = some m.cls) (hE : xE D y s) (hP : xW D A ad (wU fB (wR y ad th z qp qm qr qi qn qf qu qd) fO) H) (hlink : Cond.fieldLink own index "NetlistBenchModel" "areSources" "[Z" ∈ WG) (hdg : decode cc pc = .ok (.getfield index, 3)) (kk : W p l e R s m args below meth c H locs cells slots Q (F0 m (pc + 3) ls (.ref (ad (23, 0)) :: rest))) : W p l e R s m args below meth c H locs cells slots Q (F0 m pc ls (.ref (ad (20, 0)) :: rest)) :=
  xw_get hexec hb hts hown hE hP iw_X4 (20, 0) rfl rfl 5 (by decide) hlink (fun x h => h) rfl hdg kk
theorem fg_X4_as (hexec : p.tables.exec = Jvm.exec) (hb : c.code = cc) (hts : ∀ w ∈ WG, w.before args s = true) (hown : s.vm.findClass own = some m.cls) (hE : xE D y s) (hP : xW D A ad (wU fB (wR y ad th z qp qm qr qi qn qf qu qd) fO) H) (hlink : Cond.fieldLink own index "NetlistBenchModel" "as" "[I" ∈ WG) (hdg : decode cc pc = .ok (.getfield index, 3)) (kk : W p l e R s m args below meth c H locs cells slots Q (F0 m (pc + 3) ls (.ref (ad (24, 0)) :: rest))) : W p l e R s m args below meth c H locs cells slots Q (F0 m pc ls (.ref (ad (20, 0)) :: rest)) :=
  xw_get hexec hb hts hown hE hP iw_X4 (20, 0) rfl rfl 6 (by decide) hlink (fun x h => h) rfl hdg kk
theorem fg_X4_bs (hexec : p.tables.exec = Jvm.exec) (hb : c.code = cc) (hts : ∀ w ∈ WG, w.before args s = true) (hown : s.vm.findClass own = some m.cls) (hE : xE D y s) (hP : xW D A ad (wU fB (wR y ad th z qp qm qr qi qn qf qu qd) fO) H) (hlink : Cond.fieldLink own index "NetlistBenchModel" "bs" "[I" ∈ WG) (hdg : decode cc pc = .ok (.getfield index, 3)) (kk : W p l e R s m args below meth c H locs cells slots Q (F0 m (pc + 3) ls (.ref (ad (25, 0)) :: rest))) : W p l e R s m args below meth c H locs cells slots Q (F0 m pc ls (.ref (ad (20, 0)) :: rest)) :=
  xw_get hexec hb hts hown hE hP iw_X4 (20, 0) rfl rfl 7 (by decide) hlink (fun x h => h) rfl hdg kk
theorem fg_X4_sizes (hexec : p.tables.exec = Jvm.exec) (hb : c.code = cc) (hts : ∀ w ∈ WG, w.before args s = true) (hown : s.vm.findClass own = some m.cls) (hE : xE D y s) (hP : xW D A ad (wU fB (wR y ad th z qp qm qr qi qn qf qu qd) fO) H) (hlink : Cond.fieldLink own index "NetlistBenchModel" "sizes" "[I" ∈ WG) (hdg : decode cc pc = .ok (.getfield index, 3)) (kk : W p l e R s m args below meth c H locs cells slots Q (F0 m (pc + 3) ls (.ref (ad (26, 0)) :: rest))) : W p l e R s m args below meth c H locs cells slots Q (F0 m pc ls (.ref (ad (20, 0)) :: rest)) :=
  xw_get hexec hb hts hown hE hP iw_X4 (20, 0) rfl rfl 8 (by decide) hlink (fun x h => h) rfl hdg kk
theorem fg_X4_areOn (hexec : p.tables.exec = Jvm.exec) (hb : c.code = cc) (hts : ∀ w ∈ WG, w.before args s = true) (hown : s.vm.findClass own = some m.cls) (hE : xE D y s) (hP : xW D A ad (wU fB (wR y ad th z qp qm qr qi qn qf qu qd) fO) H) (hlink : Cond.fieldLink own index "NetlistBenchModel" "areOn" "[Z" ∈ WG) (hdg : decode cc pc = .ok (.getfield index, 3)) (kk : W p l e R s m args below meth c H locs cells slots Q (F0 m (pc + 3) ls (.ref (ad (27, 0)) :: rest))) : W p l e R s m args below meth c H locs cells slots Q (F0 m pc ls (.ref (ad (20, 0)) :: rest)) :=
  xw_get hexec hb hts hown hE hP iw_X4 (20, 0) rfl rfl 9 (by decide) hlink (fun x h => h) rfl hdg kk
theorem fg_X4_toggles (hexec : p.tables.exec = Jvm.exec) (hb : c.code = cc) (hts : ∀ w ∈ WG, w.before args s = true) (hown : s.vm.findClass own = some m.cls) (hE : xE D y s) (hP : xW D A ad (wU fB (wR y ad th z qp qm qr qi qn qf qu qd) fO) H) (hlink : Cond.fieldLink own index "NetlistBenchModel" "toggles" "[I" ∈ WG) (hdg : decode cc pc = .ok (.getfield index, 3)) (kk : W p l e R s m args below meth c H locs cells slots Q (F0 m (pc + 3) ls (.ref (ad (28, 0)) :: rest))) : W p l e R s m args below meth c H locs cells slots Q (F0 m pc ls (.ref (ad (20, 0)) :: rest)) :=
  xw_get hexec hb hts hown hE hP iw_X4 (20, 0) rfl rfl 10 (by decide) hlink (fun x h => h) rfl hdg kk
theorem fg_X4_toggleTimes (hexec : p.tables.exec = Jvm.exec) (hb : c.code = cc) (hts : ∀ w ∈ WG, w.before args s = true) (hown : s.vm.findClass own = some m.cls) (hE : xE D y s) (hP : xW D A ad (wU fB (wR y ad th z qp qm qr qi qn qf qu qd) fO) H) (hlink : Cond.fieldLink own index "NetlistBenchModel" "toggleTimes" "[I" ∈ WG) (hdg : decode cc pc = .ok (.getfield index, 3)) (kk : W p l e R s m args below meth c H locs cells slots Q (F0 m (pc + 3) ls (.ref (ad (29, 0)) :: rest))) : W p l e R s m args below meth c H locs cells slots Q (F0 m pc ls (.ref (ad (20, 0)) :: rest)) :=
  xw_get hexec hb hts hown hE hP iw_X4 (20, 0) rfl rfl 11 (by decide) hlink (fun x h => h) rfl hdg kk
theorem fg_X4_unknown (hexec : p.tables.exec = Jvm.exec) (hb : c.code = cc) (hts : ∀ w ∈ WG, w.before args s = true) (hown : s.vm.findClass own = some m.cls) (hE : xE D y s) (hP : xW D A ad (wU fB (wR y ad th z qp qm qr qi qn qf qu qd) fO) H) (hlink : Cond.fieldLink own index "NetlistBenchModel" "unknown" "I" ∈ WG) (hdg : decode cc pc = .ok (.getfield index, 3)) (kk : W p l e R s m args below meth c H locs cells slots Q (F0 m (pc + 3) ls (.int qu :: rest))) : W p l e R s m args below meth c H locs cells slots Q (F0 m pc ls (.ref (ad (20, 0)) :: rest)) :=
  xw_get hexec hb hts hown hE hP iw_X4 (20, 0) rfl rfl 12 (by decide) hlink (fun x h => h) rfl hdg kk
theorem fg_X4_places (hexec : p.tables.exec = Jvm.exec) (hb : c.code = cc) (hts : ∀ w ∈ WG, w.before args s = true) (hown : s.vm.findClass own = some m.cls) (hE : xE D y s) (hP : xW D A ad (wU fB (wR y ad th z qp qm qr qi qn qf qu qd) fO) H) (hlink : Cond.fieldLink own index "NetlistBenchModel" "places" "[I" ∈ WG) (hdg : decode cc pc = .ok (.getfield index, 3)) (kk : W p l e R s m args below meth c H locs cells slots Q (F0 m (pc + 3) ls (.ref (ad (30, 0)) :: rest))) : W p l e R s m args below meth c H locs cells slots Q (F0 m pc ls (.ref (ad (20, 0)) :: rest)) :=
  xw_get hexec hb hts hown hE hP iw_X4 (20, 0) rfl rfl 13 (by decide) hlink (fun x h => h) rfl hdg kk
theorem fg_X4_matrix (hexec : p.tables.exec = Jvm.exec) (hb : c.code = cc) (hts : ∀ w ∈ WG, w.before args s = true) (hown : s.vm.findClass own = some m.cls) (hE : xE D y s) (hP : xW D A ad (wU fB (wR y ad th z qp qm qr qi qn qf qu qd) fO) H) (hlink : Cond.fieldLink own index "NetlistBenchModel" "matrix" "[J" ∈ WG) (hdg : decode cc pc = .ok (.getfield index, 3)) (kk : W p l e R s m args below meth c H locs cells slots Q (F0 m (pc + 3) ls (.ref (ad (31, 0)) :: rest))) : W p l e R s m args below meth c H locs cells slots Q (F0 m pc ls (.ref (ad (20, 0)) :: rest)) :=
  xw_get hexec hb hts hown hE hP iw_X4 (20, 0) rfl rfl 14 (by decide) hlink (fun x h => h) rfl hdg kk
theorem fg_X4_right (hexec : p.tables.exec = Jvm.exec) (hb : c.code = cc) (hts : ∀ w ∈ WG, w.before args s = true) (hown : s.vm.findClass own = some m.cls) (hE : xE D y s) (hP : xW D A ad (wU fB (wR y ad th z qp qm qr qi qn qf qu qd) fO) H) (hlink : Cond.fieldLink own index "NetlistBenchModel" "right" "[J" ∈ WG) (hdg : decode cc pc = .ok (.getfield index, 3)) (kk : W p l e R s m args below meth c H locs cells slots Q (F0 m (pc + 3) ls (.ref (ad (32, 0)) :: rest))) : W p l e R s m args below meth c H locs cells slots Q (F0 m pc ls (.ref (ad (20, 0)) :: rest)) :=
  xw_get hexec hb hts hown hE hP iw_X4 (20, 0) rfl rfl 15 (by decide) hlink (fun x h => h) rfl hdg kk
theorem fg_X4_minors (hexec : p.tables.exec = Jvm.exec) (hb : c.code = cc) (hts : ∀ w ∈ WG, w.before args s = true) (hown : s.vm.findClass own = some m.cls) (hE : xE D y s) (hP : xW D A ad (wU fB (wR y ad th z qp qm qr qi qn qf qu qd) fO) H) (hlink : Cond.fieldLink own index "NetlistBenchModel" "minors" "[J" ∈ WG) (hdg : decode cc pc = .ok (.getfield index, 3)) (kk : W p l e R s m args below meth c H locs cells slots Q (F0 m (pc + 3) ls (.ref (ad (33, 0)) :: rest))) : W p l e R s m args below meth c H locs cells slots Q (F0 m pc ls (.ref (ad (20, 0)) :: rest)) :=
  xw_get hexec hb hts hown hE hP iw_X4 (20, 0) rfl rfl 16 (by decide) hlink (fun x h => h) rfl hdg kk
theorem fg_X4_denominator (hexec : p.tables.exec = Jvm.exec) (hb : c.code = cc) (hts : ∀ w ∈ WG, w.before args s = true) (hown : s.vm.findClass own = some m.cls) (hE : xE D y s) (hP : xW D A ad (wU fB (wR y ad th z qp qm qr qi qn qf qu qd) fO) H) (hlink : Cond.fieldLink own index "NetlistBenchModel" "denominator" "J" ∈ WG) (hdg : decode cc pc = .ok (.getfield index, 3)) (kk : W p l e R s m args below meth c H locs cells slots Q (F0 m (pc + 3) ls (.long qd :: rest))) : W p l e R s m args below meth c H locs cells slots Q (F0 m pc ls (.ref (ad (20, 0)) :: rest)) :=
  xw_get hexec hb hts hown hE hP iw_X4 (20, 0) rfl rfl 17 (by decide) hlink (fun x h => h) rfl hdg kk
theorem fg_X4_numerators (hexec : p.tables.exec = Jvm.exec) (hb : c.code = cc) (hts : ∀ w ∈ WG, w.before args s = true) (hown : s.vm.findClass own = some m.cls) (hE : xE D y s) (hP : xW D A ad (wU fB (wR y ad th z qp qm qr qi qn qf qu qd) fO) H) (hlink : Cond.fieldLink own index "NetlistBenchModel" "numerators" "[J" ∈ WG) (hdg : decode cc pc = .ok (.getfield index, 3)) (kk : W p l e R s m args below meth c H locs cells slots Q (F0 m (pc + 3) ls (.ref (ad (34, 0)) :: rest))) : W p l e R s m args below meth c H locs cells slots Q (F0 m pc ls (.ref (ad (20, 0)) :: rest)) :=
  xw_get hexec hb hts hown hE hP iw_X4 (20, 0) rfl rfl 18 (by decide) hlink (fun x h => h) rfl hdg kk
theorem fg_X4_areFloating (hexec : p.tables.exec = Jvm.exec) (hb : c.code = cc) (hts : ∀ w ∈ WG, w.before args s = true) (hown : s.vm.findClass own = some m.cls) (hE : xE D y s) (hP : xW D A ad (wU fB (wR y ad th z qp qm qr qi qn qf qu qd) fO) H) (hlink : Cond.fieldLink own index "NetlistBenchModel" "areFloating" "[Z" ∈ WG) (hdg : decode cc pc = .ok (.getfield index, 3)) (kk : W p l e R s m args below meth c H locs cells slots Q (F0 m (pc + 3) ls (.ref (ad (35, 0)) :: rest))) : W p l e R s m args below meth c H locs cells slots Q (F0 m pc ls (.ref (ad (20, 0)) :: rest)) :=
  xw_get hexec hb hts hown hE hP iw_X4 (20, 0) rfl rfl 19 (by decide) hlink (fun x h => h) rfl hdg kk
theorem fp_X4_thrown (hexec : p.tables.exec = Jvm.exec) (hb : c.code = cc) (hts : ∀ w ∈ WG, w.before args s = true) (hown : s.vm.findClass own = some m.cls) (hE : xE D y s) (hS : va_S A H0 H locs) (hP : xW D A ad (wU fB (wR y ad th z qp qm qr qi qn qf qu qd) fO) H) {v : Int32} (hlink : Cond.fieldLink own index "NetlistBenchModel" "thrown" "I" ∈ WG) (hdg : decode cc pc = .ok (.putfield index, 3)) (kk : ∀ (H1 : Heap) (locs1 : List Loc), xW D A ad (wU fB (wR y ad v z qp qm qr qi qn qf qu qd) fO) H1 → va_S A H0 H1 locs1 → W p l e R s m args below meth c H1 locs1 cells slots Q (F0 m (pc + 3) ls (rest))) : W p l e R s m args below meth c H locs cells slots Q (F0 m pc ls (.int v :: .ref (ad (20, 0)) :: rest)) :=
  xw_put hexec hb hts hown hE hP hS iw_X4 tyX4 tyX4_ok nmX4 (20, 0) rfl rfl 0 (by decide) hlink (fun x h => h) rfl (ty := .int) rfl rfl rfl (Nat.le_of_ble_eq_true rfl) hdg (fun H1 locs1 h1 h2 => kk H1 locs1 (h1.ct (wU_R (k := 0) (by decide) (fun a b h => by rcases a with _ | _ | _ | _ | _ | _ | _ | _ | _ | _ | _ | _ | _ | _ | _ | _ | a <;> first | rfl | (rcases b with _ | b <;> first | rfl | exact absurd ⟨rfl, rfl⟩ h)) rfl)) h2)
theorem fp_X4_unknown (hexec : p.tables.exec = Jvm.exec) (hb : c.code = cc) (hts : ∀ w ∈ WG, w.before args s = true) (hown : s.vm.findClass own = some m.cls) (hE : xE D y s) (hS : va_S A H0 H locs) (hP : xW D A ad (wU fB (wR y ad th z qp qm qr qi qn qf qu qd) fO) H) {v : Int32} (hlink : Cond.fieldLink own index "NetlistBenchModel" "unknown" "I" ∈ WG) (hdg : decode cc pc = .ok (.putfield index, 3)) (kk : ∀ (H1 : Heap) (locs1 : List Loc), xW D A ad (wU fB (wR y ad th z qp qm qr qi qn qf v qd) fO) H1 → va_S A H0 H1 locs1 → W p l e R s m args below meth c H1 locs1 cells slots Q (F0 m (pc + 3) ls (rest))) : W p l e R s m args below meth c H locs cells slots Q (F0 m pc ls (.int v :: .ref (ad (20, 0)) :: rest)) :=
  xw_put hexec hb hts hown hE hP hS iw_X4 tyX4 tyX4_ok nmX4 (20, 0) rfl rfl 12 (by decide) hlink (fun x h => h) rfl (ty := .int) rfl rfl rfl (Nat.le_of_ble_eq_true rfl) hdg (fun H1 locs1 h1 h2 => kk H1 locs1 (h1.ct (wU_R (k := 0) (by decide) (fun a b h => by rcases a with _ | _ | _ | _ | _ | _ | _ | _ | _ | _ | _ | _ | _ | _ | _ | _ | a <;> first | rfl | (rcases b with _ | b <;> first | rfl | exact absurd ⟨rfl, rfl⟩ h)) rfl)) h2)
theorem fp_X4_denominator (hexec : p.tables.exec = Jvm.exec) (hb : c.code = cc) (hts : ∀ w ∈ WG, w.before args s = true) (hown : s.vm.findClass own = some m.cls) (hE : xE D y s) (hS : va_S A H0 H locs) (hP : xW D A ad (wU fB (wR y ad th z qp qm qr qi qn qf qu qd) fO) H) {v : Int64} (hlink : Cond.fieldLink own index "NetlistBenchModel" "denominator" "J" ∈ WG) (hdg : decode cc pc = .ok (.putfield index, 3)) (kk : ∀ (H1 : Heap) (locs1 : List Loc), xW D A ad (wU fB (wR y ad th z qp qm qr qi qn qf qu v) fO) H1 → va_S A H0 H1 locs1 → W p l e R s m args below meth c H1 locs1 cells slots Q (F0 m (pc + 3) ls (rest))) : W p l e R s m args below meth c H locs cells slots Q (F0 m pc ls (.long v :: .ref (ad (20, 0)) :: rest)) :=
  xw_put hexec hb hts hown hE hP hS iw_X4 tyX4 tyX4_ok nmX4 (20, 0) rfl rfl 17 (by decide) hlink (fun x h => h) rfl (ty := .long) rfl rfl rfl (Nat.le_of_ble_eq_true rfl) hdg (fun H1 locs1 h1 h2 => kk H1 locs1 (h1.ct (wU_R (k := 0) (by decide) (fun a b h => by rcases a with _ | _ | _ | _ | _ | _ | _ | _ | _ | _ | _ | _ | _ | _ | _ | _ | a <;> first | rfl | (rcases b with _ | b <;> first | rfl | exact absurd ⟨rfl, rfl⟩ h)) rfl)) h2)
theorem fp_X4_nodes (hexec : p.tables.exec = Jvm.exec) (hb : c.code = cc) (hts : ∀ w ∈ WG, w.before args s = true) (hown : s.vm.findClass own = some m.cls) (hE : xE D y s) (hS : va_S A H0 H locs) (hP : xW D A ad (wU fB (wR y ad th z qp qm qr qi qn qf qu qd) fO) H) {v : Nat} (hlink : Cond.fieldLink own index "NetlistBenchModel" "nodes" "I" ∈ WG) (hdg : decode cc pc = .ok (.putfield index, 3)) (kk : ∀ (H1 : Heap) (locs1 : List Loc), xW D A ad (wU fB (wR y ad th (s_nN z v) qp qm qr qi qn qf qu qd) fO) H1 → va_S A H0 H1 locs1 → W p l e R s m args below meth c H1 locs1 cells slots Q (F0 m (pc + 3) ls (rest))) : W p l e R s m args below meth c H locs cells slots Q (F0 m pc ls (.int (nI v) :: .ref (ad (20, 0)) :: rest)) :=
  xw_put hexec hb hts hown hE hP hS iw_X4 tyX4 tyX4_ok nmX4 (20, 0) rfl rfl 1 (by decide) hlink (fun x h => h) rfl (ty := .int) rfl rfl rfl (Nat.le_of_ble_eq_true rfl) hdg (fun H1 locs1 h1 h2 => kk H1 locs1 (h1.ct (wU_R (k := 0) (by decide) (fun a b h => by rcases a with _ | _ | _ | _ | _ | _ | _ | _ | _ | _ | _ | _ | _ | _ | _ | _ | a <;> first | rfl | (rcases b with _ | b <;> first | rfl | exact absurd ⟨rfl, rfl⟩ h)) rfl)) h2)
theorem fp_X4_elements (hexec : p.tables.exec = Jvm.exec) (hb : c.code = cc) (hts : ∀ w ∈ WG, w.before args s = true) (hown : s.vm.findClass own = some m.cls) (hE : xE D y s) (hS : va_S A H0 H locs) (hP : xW D A ad (wU fB (wR y ad th z qp qm qr qi qn qf qu qd) fO) H) {v : Nat} (hlink : Cond.fieldLink own index "NetlistBenchModel" "elements" "I" ∈ WG) (hdg : decode cc pc = .ok (.putfield index, 3)) (kk : ∀ (H1 : Heap) (locs1 : List Loc), xW D A ad (wU fB (wR y ad th (s_nE z v) qp qm qr qi qn qf qu qd) fO) H1 → va_S A H0 H1 locs1 → W p l e R s m args below meth c H1 locs1 cells slots Q (F0 m (pc + 3) ls (rest))) : W p l e R s m args below meth c H locs cells slots Q (F0 m pc ls (.int (nI v) :: .ref (ad (20, 0)) :: rest)) :=
  xw_put hexec hb hts hown hE hP hS iw_X4 tyX4 tyX4_ok nmX4 (20, 0) rfl rfl 4 (by decide) hlink (fun x h => h) rfl (ty := .int) rfl rfl rfl (Nat.le_of_ble_eq_true rfl) hdg (fun H1 locs1 h1 h2 => kk H1 locs1 (h1.ct (wU_R (k := 0) (by decide) (fun a b h => by rcases a with _ | _ | _ | _ | _ | _ | _ | _ | _ | _ | _ | _ | _ | _ | _ | _ | a <;> first | rfl | (rcases b with _ | b <;> first | rfl | exact absurd ⟨rfl, rfl⟩ h)) rfl)) h2)
theorem al_groups (hexec : p.tables.exec = Jvm.exec) (hb : c.code = cc) (hE : xE D y s) (hP : xW D A ad (wU (wB y ad bl z g pl kn rw mi un) fR fO) H) {j : Nat} (hj : j < 8) (hdg : decode cc pc = .ok (.iaload, 1)) (kk : W p l e R s m args below meth c H locs cells slots Q (F0 m (pc + 1) ls (.int (g j) :: rest))) : W p l e R s m args below meth c H locs cells slots Q (F0 m pc ls (.int (nI j) :: .ref (ad (5, 0)) :: rest)) :=
  xw_iald hexec hb hE hP (5, 0) rfl hj (by decide) hdg kk
theorem as_groups (hexec : p.tables.exec = Jvm.exec) (hb : c.code = cc) (hE : xE D y s) (hS : va_S A H0 H locs) (hP : xW D A ad (wU (wB y ad bl z g pl kn rw mi un) fR fO) H) {j : Nat} (hj : j < 8) {v : Int32} (hdg : decode cc pc = .ok (.iastore, 1)) (kk : ∀ (H1 : Heap) (locs1 : List Loc), xW D A ad (wU (wB y ad bl z (upd g j v) pl kn rw mi un) fR fO) H1 → va_S A H0 H1 locs1 → W p l e R s m args below meth c H1 locs1 cells slots Q (F0 m (pc + 1) ls (rest))) : W p l e R s m args below meth c H locs cells slots Q (F0 m pc ls (.int v :: .int (nI j) :: .ref (ad (5, 0)) :: rest)) :=
  xw_iast hexec hb hE hP hS (5, 0) rfl hj (by decide) hdg (fun H1 locs1 h1 h2 => kk H1 locs1 (h1.ct (wU_B (by decide) (fun a b h => by rcases a with _ | _ | _ | _ | _ | _ | _ | _ | _ | _ | _ | _ | _ | _ | _ | a <;> first | rfl | (rcases b with _ | b <;> first | rfl | exact absurd ⟨rfl, rfl⟩ h)) rfl)) h2)
theorem al_places (hexec : p.tables.exec = Jvm.exec) (hb : c.code = cc) (hE : xE D y s) (hP : xW D A ad (wU (wB y ad bl z g pl kn rw mi un) fR fO) H) {j : Nat} (hj : j < 8) (hdg : decode cc pc = .ok (.iaload, 1)) (kk : W p l e R s m args below meth c H locs cells slots Q (F0 m (pc + 1) ls (.int (pl j) :: rest))) : W p l e R s m args below meth c H locs cells slots Q (F0 m pc ls (.int (nI j) :: .ref (ad (7, 0)) :: rest)) :=
  xw_iald hexec hb hE hP (7, 0) rfl hj (by decide) hdg kk
theorem as_places (hexec : p.tables.exec = Jvm.exec) (hb : c.code = cc) (hE : xE D y s) (hS : va_S A H0 H locs) (hP : xW D A ad (wU (wB y ad bl z g pl kn rw mi un) fR fO) H) {j : Nat} (hj : j < 8) {v : Int32} (hdg : decode cc pc = .ok (.iastore, 1)) (kk : ∀ (H1 : Heap) (locs1 : List Loc), xW D A ad (wU (wB y ad bl z g (upd pl j v) kn rw mi un) fR fO) H1 → va_S A H0 H1 locs1 → W p l e R s m args below meth c H1 locs1 cells slots Q (F0 m (pc + 1) ls (rest))) : W p l e R s m args below meth c H locs cells slots Q (F0 m pc ls (.int v :: .int (nI j) :: .ref (ad (7, 0)) :: rest)) :=
  xw_iast hexec hb hE hP hS (7, 0) rfl hj (by decide) hdg (fun H1 locs1 h1 h2 => kk H1 locs1 (h1.ct (wU_B (by decide) (fun a b h => by rcases a with _ | _ | _ | _ | _ | _ | _ | _ | _ | _ | _ | _ | _ | _ | _ | a <;> first | rfl | (rcases b with _ | b <;> first | rfl | exact absurd ⟨rfl, rfl⟩ h)) rfl)) h2)
theorem al_known (hexec : p.tables.exec = Jvm.exec) (hb : c.code = cc) (hE : xE D y s) (hP : xW D A ad (wU (wB y ad bl z g pl kn rw mi un) fR fO) H) {j : Nat} (hj : j < 8) (hdg : decode cc pc = .ok (.laload, 1)) (kk : W p l e R s m args below meth c H locs cells slots Q (F0 m (pc + 1) ls (.long (kn j) :: rest))) : W p l e R s m args below meth c H locs cells slots Q (F0 m pc ls (.int (nI j) :: .ref (ad (8, 0)) :: rest)) :=
  xw_lald hexec hb hE hP (8, 0) rfl hj (by decide) hdg kk
theorem as_known (hexec : p.tables.exec = Jvm.exec) (hb : c.code = cc) (hE : xE D y s) (hS : va_S A H0 H locs) (hP : xW D A ad (wU (wB y ad bl z g pl kn rw mi un) fR fO) H) {j : Nat} (hj : j < 8) {v : Int64} (hdg : decode cc pc = .ok (.lastore, 1)) (kk : ∀ (H1 : Heap) (locs1 : List Loc), xW D A ad (wU (wB y ad bl z g pl (vp_updL kn j v) rw mi un) fR fO) H1 → va_S A H0 H1 locs1 → W p l e R s m args below meth c H1 locs1 cells slots Q (F0 m (pc + 1) ls (rest))) : W p l e R s m args below meth c H locs cells slots Q (F0 m pc ls (.long v :: .int (nI j) :: .ref (ad (8, 0)) :: rest)) :=
  xw_last hexec hb hE hP hS (8, 0) rfl hj (by decide) hdg (fun H1 locs1 h1 h2 => kk H1 locs1 (h1.ct (wU_B (by decide) (fun a b h => by rcases a with _ | _ | _ | _ | _ | _ | _ | _ | _ | _ | _ | _ | _ | _ | _ | a <;> first | rfl | (rcases b with _ | b <;> first | rfl | exact absurd ⟨rfl, rfl⟩ h)) rfl)) h2)
theorem al_minors (hexec : p.tables.exec = Jvm.exec) (hb : c.code = cc) (hE : xE D y s) (hP : xW D A ad (wU (wB y ad bl z g pl kn rw mi un) fR fO) H) {j : Nat} (hj : j < 256) (hdg : decode cc pc = .ok (.laload, 1)) (kk : W p l e R s m args below meth c H locs cells slots Q (F0 m (pc + 1) ls (.long (mi j) :: rest))) : W p l e R s m args below meth c H locs cells slots Q (F0 m pc ls (.int (nI j) :: .ref (ad (11, 0)) :: rest)) :=
  xw_lald hexec hb hE hP (11, 0) rfl hj (by decide) hdg kk
theorem as_minors (hexec : p.tables.exec = Jvm.exec) (hb : c.code = cc) (hE : xE D y s) (hS : va_S A H0 H locs) (hP : xW D A ad (wU (wB y ad bl z g pl kn rw mi un) fR fO) H) {j : Nat} (hj : j < 256) {v : Int64} (hdg : decode cc pc = .ok (.lastore, 1)) (kk : ∀ (H1 : Heap) (locs1 : List Loc), xW D A ad (wU (wB y ad bl z g pl kn rw (vp_updL mi j v) un) fR fO) H1 → va_S A H0 H1 locs1 → W p l e R s m args below meth c H1 locs1 cells slots Q (F0 m (pc + 1) ls (rest))) : W p l e R s m args below meth c H locs cells slots Q (F0 m pc ls (.long v :: .int (nI j) :: .ref (ad (11, 0)) :: rest)) :=
  xw_last hexec hb hE hP hS (11, 0) rfl hj (by decide) hdg (fun H1 locs1 h1 h2 => kk H1 locs1 (h1.ct (wU_B (by decide) (fun a b h => by rcases a with _ | _ | _ | _ | _ | _ | _ | _ | _ | _ | _ | _ | _ | _ | _ | a <;> first | rfl | (rcases b with _ | b <;> first | rfl | exact absurd ⟨rfl, rfl⟩ h)) rfl)) h2)
def u2 (rw : Nat → Nat → Int64) (i j : Nat) (v : Int64) : Nat → Nat → Int64 := fun a => if a = i then vp_updL (rw i) j v else rw a
theorem al_row {i : Nat} (hp : i < 7) (hexec : p.tables.exec = Jvm.exec) (hb : c.code = cc) (hE : xE D y s) (hP : xW D A ad (wU (wB y ad bl z g pl kn rw mi un) fR fO) H) {j : Nat} (hj : j < 8) (hdg : decode cc pc = .ok (.laload, 1)) (kk : W p l e R s m args below meth c H locs cells slots Q (F0 m (pc + 1) ls (.long (rw i j) :: rest))) : W p l e R s m args below meth c H locs cells slots Q (F0 m pc ls (.int (nI j) :: .ref (ad (10, i)) :: rest)) :=
  xw_lald hexec hb hE hP (10, i) (if_pos hp) hj (by decide) hdg kk
theorem as_row {i : Nat} (hp : i < 7) (hexec : p.tables.exec = Jvm.exec) (hb : c.code = cc) (hE : xE D y s) (hS : va_S A H0 H locs) (hP : xW D A ad (wU (wB y ad bl z g pl kn rw mi un) fR fO) H) {j : Nat} (hj : j < 8) {v : Int64} (hdg : decode cc pc = .ok (.lastore, 1)) (kk : ∀ (H1 : Heap) (locs1 : List Loc), xW D A ad (wU (wB y ad bl z g pl kn (u2 rw i j v) mi un) fR fO) H1 → va_S A H0 H1 locs1 → W p l e R s m args below meth c H1 locs1 cells slots Q (F0 m (pc + 1) ls (rest))) : W p l e R s m args below meth c H locs cells slots Q (F0 m pc ls (.long v :: .int (nI j) :: .ref (ad (10, i)) :: rest)) :=
  xw_last hexec hb hE hP hS (10, i) (if_pos hp) hj (by decide) hdg (fun H1 locs1 h1 h2 => kk H1 locs1 (h1.ct (wU_B (by decide) (fun a b h => by rcases a with _ | _ | _ | _ | _ | _ | _ | _ | _ | _ | _ | _ | _ | _ | _ | a <;> first | rfl | (rcases b with _ | b <;> rfl) | (have hbi : b ≠ i := fun q => h ⟨rfl, q⟩; show (if _ then _ else none) = (if _ then _ else none); simp only [u2, if_neg hbi])) (by show (if _ then _ else none) = _; rw [if_pos hp]; simp [u2]))) h2)
theorem al_areRails (hexec : p.tables.exec = Jvm.exec) (hb : c.code = cc) (hE : xE D y s) (hP : xW D A ad (wU fB (wR y ad th z qp qm qr qi qn qf qu qd) fO) H) {j : Nat} (hj : j < 8) (hdg : decode cc pc = .ok (.baload, 1)) (kk : W p l e R s m args below meth c H locs cells slots Q (F0 m (pc + 1) ls (.int (nR z j) :: rest))) : W p l e R s m args below meth c H locs cells slots Q (F0 m pc ls (.int (nI j) :: .ref (ad (21, 0)) :: rest)) :=
  xw_zald hexec hb hE hP (21, 0) rfl hj (by decide) hdg kk
theorem as_areRails (hexec : p.tables.exec = Jvm.exec) (hb : c.code = cc) (hE : xE D y s) (hS : va_S A H0 H locs) (hP : xW D A ad (wU fB (wR y ad th z qp qm qr qi qn qf qu qd) fO) H) {j : Nat} (hj : j < 8) {v : Int32} (hz : v = 0 ∨ v = 1) (hdg : decode cc pc = .ok (.bastore, 1)) (kk : ∀ (H1 : Heap) (locs1 : List Loc), xW D A ad (wU fB (wR y ad th (s_nR z (upd (nR z) j v)) qp qm qr qi qn qf qu qd) fO) H1 → va_S A H0 H1 locs1 → W p l e R s m args below meth c H1 locs1 cells slots Q (F0 m (pc + 1) ls (rest))) : W p l e R s m args below meth c H locs cells slots Q (F0 m pc ls (.int v :: .int (nI j) :: .ref (ad (21, 0)) :: rest)) :=
  xw_zast hexec hb hE hP hS (21, 0) rfl hj (by decide) (by rcases hz with h | h <;> subst h <;> rfl) hdg (fun H1 locs1 h1 h2 => kk H1 locs1 (h1.ct (wU_R (k := 1) (by decide) (fun a b h => by rcases a with _ | _ | _ | _ | _ | _ | _ | _ | _ | _ | _ | _ | _ | _ | _ | _ | a <;> first | rfl | (rcases b with _ | b <;> first | rfl | exact absurd ⟨rfl, rfl⟩ h)) rfl)) h2)
theorem al_railPotentials (hexec : p.tables.exec = Jvm.exec) (hb : c.code = cc) (hE : xE D y s) (hP : xW D A ad (wU fB (wR y ad th z qp qm qr qi qn qf qu qd) fO) H) {j : Nat} (hj : j < 8) (hdg : decode cc pc = .ok (.iaload, 1)) (kk : W p l e R s m args below meth c H locs cells slots Q (F0 m (pc + 1) ls (.int (nP z j) :: rest))) : W p l e R s m args below meth c H locs cells slots Q (F0 m pc ls (.int (nI j) :: .ref (ad (22, 0)) :: rest)) :=
  xw_iald hexec hb hE hP (22, 0) rfl hj (by decide) hdg kk
theorem as_railPotentials (hexec : p.tables.exec = Jvm.exec) (hb : c.code = cc) (hE : xE D y s) (hS : va_S A H0 H locs) (hP : xW D A ad (wU fB (wR y ad th z qp qm qr qi qn qf qu qd) fO) H) {j : Nat} (hj : j < 8) {v : Int32} (hdg : decode cc pc = .ok (.iastore, 1)) (kk : ∀ (H1 : Heap) (locs1 : List Loc), xW D A ad (wU fB (wR y ad th (s_nP z (upd (nP z) j v)) qp qm qr qi qn qf qu qd) fO) H1 → va_S A H0 H1 locs1 → W p l e R s m args below meth c H1 locs1 cells slots Q (F0 m (pc + 1) ls (rest))) : W p l e R s m args below meth c H locs cells slots Q (F0 m pc ls (.int v :: .int (nI j) :: .ref (ad (22, 0)) :: rest)) :=
  xw_iast hexec hb hE hP hS (22, 0) rfl hj (by decide) hdg (fun H1 locs1 h1 h2 => kk H1 locs1 (h1.ct (wU_R (k := 2) (by decide) (fun a b h => by rcases a with _ | _ | _ | _ | _ | _ | _ | _ | _ | _ | _ | _ | _ | _ | _ | _ | a <;> first | rfl | (rcases b with _ | b <;> first | rfl | exact absurd ⟨rfl, rfl⟩ h)) rfl)) h2)
theorem al_areSources (hexec : p.tables.exec = Jvm.exec) (hb : c.code = cc) (hE : xE D y s) (hP : xW D A ad (wU fB (wR y ad th z qp qm qr qi qn qf qu qd) fO) H) {j : Nat} (hj : j < 20) (hdg : decode cc pc = .ok (.baload, 1)) (kk : W p l e R s m args below meth c H locs cells slots Q (F0 m (pc + 1) ls (.int (eS z j) :: rest))) : W p l e R s m args below meth c H locs cells slots Q (F0 m pc ls (.int (nI j) :: .ref (ad (23, 0)) :: rest)) :=
  xw_zald hexec hb hE hP (23, 0) rfl hj (by decide) hdg kk
theorem as_areSources (hexec : p.tables.exec = Jvm.exec) (hb : c.code = cc) (hE : xE D y s) (hS : va_S A H0 H locs) (hP : xW D A ad (wU fB (wR y ad th z qp qm qr qi qn qf qu qd) fO) H) {j : Nat} (hj : j < 20) {v : Int32} (hz : v = 0 ∨ v = 1) (hdg : decode cc pc = .ok (.bastore, 1)) (kk : ∀ (H1 : Heap) (locs1 : List Loc), xW D A ad (wU fB (wR y ad th (s_eS z (upd (eS z) j v)) qp qm qr qi qn qf qu qd) fO) H1 → va_S A H0 H1 locs1 → W p l e R s m args below meth c H1 locs1 cells slots Q (F0 m (pc + 1) ls (rest))) : W p l e R s m args below meth c H locs cells slots Q (F0 m pc ls (.int v :: .int (nI j) :: .ref (ad (23, 0)) :: rest)) :=
  xw_zast hexec hb hE hP hS (23, 0) rfl hj (by decide) (by rcases hz with h | h <;> subst h <;> rfl) hdg (fun H1 locs1 h1 h2 => kk H1 locs1 (h1.ct (wU_R (k := 3) (by decide) (fun a b h => by rcases a with _ | _ | _ | _ | _ | _ | _ | _ | _ | _ | _ | _ | _ | _ | _ | _ | a <;> first | rfl | (rcases b with _ | b <;> first | rfl | exact absurd ⟨rfl, rfl⟩ h)) rfl)) h2)
theorem al_as (hexec : p.tables.exec = Jvm.exec) (hb : c.code = cc) (hE : xE D y s) (hP : xW D A ad (wU fB (wR y ad th z qp qm qr qi qn qf qu qd) fO) H) {j : Nat} (hj : j < 20) (hdg : decode cc pc = .ok (.iaload, 1)) (kk : W p l e R s m args below meth c H locs cells slots Q (F0 m (pc + 1) ls (.int (eA z j) :: rest))) : W p l e R s m args below meth c H locs cells slots Q (F0 m pc ls (.int (nI j) :: .ref (ad (24, 0)) :: rest)) :=
  xw_iald hexec hb hE hP (24, 0) rfl hj (by decide) hdg kk
theorem as_as (hexec : p.tables.exec = Jvm.exec) (hb : c.code = cc) (hE : xE D y s) (hS : va_S A H0 H locs) (hP : xW D A ad (wU fB (wR y ad th z qp qm qr qi qn qf qu qd) fO) H) {j : Nat} (hj : j < 20) {v : Int32} (hdg : decode cc pc = .ok (.iastore, 1)) (kk : ∀ (H1 : Heap) (locs1 : List Loc), xW D A ad (wU fB (wR y ad th (s_eA z (upd (eA z) j v)) qp qm qr qi qn qf qu qd) fO) H1 → va_S A H0 H1 locs1 → W p l e R s m args below meth c H1 locs1 cells slots Q (F0 m (pc + 1) ls (rest))) : W p l e R s m args below meth c H locs cells slots Q (F0 m pc ls (.int v :: .int (nI j) :: .ref (ad (24, 0)) :: rest)) :=
  xw_iast hexec hb hE hP hS (24, 0) rfl hj (by decide) hdg (fun H1 locs1 h1 h2 => kk H1 locs1 (h1.ct (wU_R (k := 4) (by decide) (fun a b h => by rcases a with _ | _ | _ | _ | _ | _ | _ | _ | _ | _ | _ | _ | _ | _ | _ | _ | a <;> first | rfl | (rcases b with _ | b <;> first | rfl | exact absurd ⟨rfl, rfl⟩ h)) rfl)) h2)
theorem al_bs (hexec : p.tables.exec = Jvm.exec) (hb : c.code = cc) (hE : xE D y s) (hP : xW D A ad (wU fB (wR y ad th z qp qm qr qi qn qf qu qd) fO) H) {j : Nat} (hj : j < 20) (hdg : decode cc pc = .ok (.iaload, 1)) (kk : W p l e R s m args below meth c H locs cells slots Q (F0 m (pc + 1) ls (.int (eB z j) :: rest))) : W p l e R s m args below meth c H locs cells slots Q (F0 m pc ls (.int (nI j) :: .ref (ad (25, 0)) :: rest)) :=
  xw_iald hexec hb hE hP (25, 0) rfl hj (by decide) hdg kk
theorem as_bs (hexec : p.tables.exec = Jvm.exec) (hb : c.code = cc) (hE : xE D y s) (hS : va_S A H0 H locs) (hP : xW D A ad (wU fB (wR y ad th z qp qm qr qi qn qf qu qd) fO) H) {j : Nat} (hj : j < 20) {v : Int32} (hdg : decode cc pc = .ok (.iastore, 1)) (kk : ∀ (H1 : Heap) (locs1 : List Loc), xW D A ad (wU fB (wR y ad th (s_eB z (upd (eB z) j v)) qp qm qr qi qn qf qu qd) fO) H1 → va_S A H0 H1 locs1 → W p l e R s m args below meth c H1 locs1 cells slots Q (F0 m (pc + 1) ls (rest))) : W p l e R s m args below meth c H locs cells slots Q (F0 m pc ls (.int v :: .int (nI j) :: .ref (ad (25, 0)) :: rest)) :=
  xw_iast hexec hb hE hP hS (25, 0) rfl hj (by decide) hdg (fun H1 locs1 h1 h2 => kk H1 locs1 (h1.ct (wU_R (k := 5) (by decide) (fun a b h => by rcases a with _ | _ | _ | _ | _ | _ | _ | _ | _ | _ | _ | _ | _ | _ | _ | _ | a <;> first | rfl | (rcases b with _ | b <;> first | rfl | exact absurd ⟨rfl, rfl⟩ h)) rfl)) h2)
theorem al_sizes (hexec : p.tables.exec = Jvm.exec) (hb : c.code = cc) (hE : xE D y s) (hP : xW D A ad (wU fB (wR y ad th z qp qm qr qi qn qf qu qd) fO) H) {j : Nat} (hj : j < 20) (hdg : decode cc pc = .ok (.iaload, 1)) (kk : W p l e R s m args below meth c H locs cells slots Q (F0 m (pc + 1) ls (.int (eZ z j) :: rest))) : W p l e R s m args below meth c H locs cells slots Q (F0 m pc ls (.int (nI j) :: .ref (ad (26, 0)) :: rest)) :=
  xw_iald hexec hb hE hP (26, 0) rfl hj (by decide) hdg kk
theorem as_sizes (hexec : p.tables.exec = Jvm.exec) (hb : c.code = cc) (hE : xE D y s) (hS : va_S A H0 H locs) (hP : xW D A ad (wU fB (wR y ad th z qp qm qr qi qn qf qu qd) fO) H) {j : Nat} (hj : j < 20) {v : Int32} (hdg : decode cc pc = .ok (.iastore, 1)) (kk : ∀ (H1 : Heap) (locs1 : List Loc), xW D A ad (wU fB (wR y ad th (s_eZ z (upd (eZ z) j v)) qp qm qr qi qn qf qu qd) fO) H1 → va_S A H0 H1 locs1 → W p l e R s m args below meth c H1 locs1 cells slots Q (F0 m (pc + 1) ls (rest))) : W p l e R s m args below meth c H locs cells slots Q (F0 m pc ls (.int v :: .int (nI j) :: .ref (ad (26, 0)) :: rest)) :=
  xw_iast hexec hb hE hP hS (26, 0) rfl hj (by decide) hdg (fun H1 locs1 h1 h2 => kk H1 locs1 (h1.ct (wU_R (k := 6) (by decide) (fun a b h => by rcases a with _ | _ | _ | _ | _ | _ | _ | _ | _ | _ | _ | _ | _ | _ | _ | _ | a <;> first | rfl | (rcases b with _ | b <;> first | rfl | exact absurd ⟨rfl, rfl⟩ h)) rfl)) h2)
theorem al_areOn (hexec : p.tables.exec = Jvm.exec) (hb : c.code = cc) (hE : xE D y s) (hP : xW D A ad (wU fB (wR y ad th z qp qm qr qi qn qf qu qd) fO) H) {j : Nat} (hj : j < 20) (hdg : decode cc pc = .ok (.baload, 1)) (kk : W p l e R s m args below meth c H locs cells slots Q (F0 m (pc + 1) ls (.int (eO z j) :: rest))) : W p l e R s m args below meth c H locs cells slots Q (F0 m pc ls (.int (nI j) :: .ref (ad (27, 0)) :: rest)) :=
  xw_zald hexec hb hE hP (27, 0) rfl hj (by decide) hdg kk
theorem as_areOn (hexec : p.tables.exec = Jvm.exec) (hb : c.code = cc) (hE : xE D y s) (hS : va_S A H0 H locs) (hP : xW D A ad (wU fB (wR y ad th z qp qm qr qi qn qf qu qd) fO) H) {j : Nat} (hj : j < 20) {v : Int32} (hz : v = 0 ∨ v = 1) (hdg : decode cc pc = .ok (.bastore, 1)) (kk : ∀ (H1 : Heap) (locs1 : List Loc), xW D A ad (wU fB (wR y ad th (s_eO z (upd (eO z) j v)) qp qm qr qi qn qf qu qd) fO) H1 → va_S A H0 H1 locs1 → W p l e R s m args below meth c H1 locs1 cells slots Q (F0 m (pc + 1) ls (rest))) : W p l e R s m args below meth c H locs cells slots Q (F0 m pc ls (.int v :: .int (nI j) :: .ref (ad (27, 0)) :: rest)) :=
  xw_zast hexec hb hE hP hS (27, 0) rfl hj (by decide) (by rcases hz with h | h <;> subst h <;> rfl) hdg (fun H1 locs1 h1 h2 => kk H1 locs1 (h1.ct (wU_R (k := 7) (by decide) (fun a b h => by rcases a with _ | _ | _ | _ | _ | _ | _ | _ | _ | _ | _ | _ | _ | _ | _ | _ | a <;> first | rfl | (rcases b with _ | b <;> first | rfl | exact absurd ⟨rfl, rfl⟩ h)) rfl)) h2)
theorem al_toggles (hexec : p.tables.exec = Jvm.exec) (hb : c.code = cc) (hE : xE D y s) (hP : xW D A ad (wU fB (wR y ad th z qp qm qr qi qn qf qu qd) fO) H) {j : Nat} (hj : j < 20) (hdg : decode cc pc = .ok (.iaload, 1)) (kk : W p l e R s m args below meth c H locs cells slots Q (F0 m (pc + 1) ls (.int (eT z j) :: rest))) : W p l e R s m args below meth c H locs cells slots Q (F0 m pc ls (.int (nI j) :: .ref (ad (28, 0)) :: rest)) :=
  xw_iald hexec hb hE hP (28, 0) rfl hj (by decide) hdg kk
theorem as_toggles (hexec : p.tables.exec = Jvm.exec) (hb : c.code = cc) (hE : xE D y s) (hS : va_S A H0 H locs) (hP : xW D A ad (wU fB (wR y ad th z qp qm qr qi qn qf qu qd) fO) H) {j : Nat} (hj : j < 20) {v : Int32} (hdg : decode cc pc = .ok (.iastore, 1)) (kk : ∀ (H1 : Heap) (locs1 : List Loc), xW D A ad (wU fB (wR y ad th (s_eT z (upd (eT z) j v)) qp qm qr qi qn qf qu qd) fO) H1 → va_S A H0 H1 locs1 → W p l e R s m args below meth c H1 locs1 cells slots Q (F0 m (pc + 1) ls (rest))) : W p l e R s m args below meth c H locs cells slots Q (F0 m pc ls (.int v :: .int (nI j) :: .ref (ad (28, 0)) :: rest)) :=
  xw_iast hexec hb hE hP hS (28, 0) rfl hj (by decide) hdg (fun H1 locs1 h1 h2 => kk H1 locs1 (h1.ct (wU_R (k := 8) (by decide) (fun a b h => by rcases a with _ | _ | _ | _ | _ | _ | _ | _ | _ | _ | _ | _ | _ | _ | _ | _ | a <;> first | rfl | (rcases b with _ | b <;> first | rfl | exact absurd ⟨rfl, rfl⟩ h)) rfl)) h2)
theorem al_toggleTimes (hexec : p.tables.exec = Jvm.exec) (hb : c.code = cc) (hE : xE D y s) (hP : xW D A ad (wU fB (wR y ad th z qp qm qr qi qn qf qu qd) fO) H) {j : Nat} (hj : j < 120) (hdg : decode cc pc = .ok (.iaload, 1)) (kk : W p l e R s m args below meth c H locs cells slots Q (F0 m (pc + 1) ls (.int (tT z j) :: rest))) : W p l e R s m args below meth c H locs cells slots Q (F0 m pc ls (.int (nI j) :: .ref (ad (29, 0)) :: rest)) :=
  xw_iald hexec hb hE hP (29, 0) rfl hj (by decide) hdg kk
theorem as_toggleTimes (hexec : p.tables.exec = Jvm.exec) (hb : c.code = cc) (hE : xE D y s) (hS : va_S A H0 H locs) (hP : xW D A ad (wU fB (wR y ad th z qp qm qr qi qn qf qu qd) fO) H) {j : Nat} (hj : j < 120) {v : Int32} (hdg : decode cc pc = .ok (.iastore, 1)) (kk : ∀ (H1 : Heap) (locs1 : List Loc), xW D A ad (wU fB (wR y ad th (s_tT z (upd (tT z) j v)) qp qm qr qi qn qf qu qd) fO) H1 → va_S A H0 H1 locs1 → W p l e R s m args below meth c H1 locs1 cells slots Q (F0 m (pc + 1) ls (rest))) : W p l e R s m args below meth c H locs cells slots Q (F0 m pc ls (.int v :: .int (nI j) :: .ref (ad (29, 0)) :: rest)) :=
  xw_iast hexec hb hE hP hS (29, 0) rfl hj (by decide) hdg (fun H1 locs1 h1 h2 => kk H1 locs1 (h1.ct (wU_R (k := 9) (by decide) (fun a b h => by rcases a with _ | _ | _ | _ | _ | _ | _ | _ | _ | _ | _ | _ | _ | _ | _ | _ | a <;> first | rfl | (rcases b with _ | b <;> first | rfl | exact absurd ⟨rfl, rfl⟩ h)) rfl)) h2)
theorem al_qplaces (hexec : p.tables.exec = Jvm.exec) (hb : c.code = cc) (hE : xE D y s) (hP : xW D A ad (wU fB (wR y ad th z qp qm qr qi qn qf qu qd) fO) H) {j : Nat} (hj : j < 8) (hdg : decode cc pc = .ok (.iaload, 1)) (kk : W p l e R s m args below meth c H locs cells slots Q (F0 m (pc + 1) ls (.int (qp j) :: rest))) : W p l e R s m args below meth c H locs cells slots Q (F0 m pc ls (.int (nI j) :: .ref (ad (30, 0)) :: rest)) :=
  xw_iald hexec hb hE hP (30, 0) rfl hj (by decide) hdg kk
theorem as_qplaces (hexec : p.tables.exec = Jvm.exec) (hb : c.code = cc) (hE : xE D y s) (hS : va_S A H0 H locs) (hP : xW D A ad (wU fB (wR y ad th z qp qm qr qi qn qf qu qd) fO) H) {j : Nat} (hj : j < 8) {v : Int32} (hdg : decode cc pc = .ok (.iastore, 1)) (kk : ∀ (H1 : Heap) (locs1 : List Loc), xW D A ad (wU fB (wR y ad th z (upd qp j v) qm qr qi qn qf qu qd) fO) H1 → va_S A H0 H1 locs1 → W p l e R s m args below meth c H1 locs1 cells slots Q (F0 m (pc + 1) ls (rest))) : W p l e R s m args below meth c H locs cells slots Q (F0 m pc ls (.int v :: .int (nI j) :: .ref (ad (30, 0)) :: rest)) :=
  xw_iast hexec hb hE hP hS (30, 0) rfl hj (by decide) hdg (fun H1 locs1 h1 h2 => kk H1 locs1 (h1.ct (wU_R (k := 10) (by decide) (fun a b h => by rcases a with _ | _ | _ | _ | _ | _ | _ | _ | _ | _ | _ | _ | _ | _ | _ | _ | a <;> first | rfl | (rcases b with _ | b <;> first | rfl | exact absurd ⟨rfl, rfl⟩ h)) rfl)) h2)
theorem al_matrix (hexec : p.tables.exec = Jvm.exec) (hb : c.code = cc) (hE : xE D y s) (hP : xW D A ad (wU fB (wR y ad th z qp qm qr qi qn qf qu qd) fO) H) {j : Nat} (hj : j < 64) (hdg : decode cc pc = .ok (.laload, 1)) (kk : W p l e R s m args below meth c H locs cells slots Q (F0 m (pc + 1) ls (.long (qm j) :: rest))) : W p l e R s m args below meth c H locs cells slots Q (F0 m pc ls (.int (nI j) :: .ref (ad (31, 0)) :: rest)) :=
  xw_lald hexec hb hE hP (31, 0) rfl hj (by decide) hdg kk
theorem as_matrix (hexec : p.tables.exec = Jvm.exec) (hb : c.code = cc) (hE : xE D y s) (hS : va_S A H0 H locs) (hP : xW D A ad (wU fB (wR y ad th z qp qm qr qi qn qf qu qd) fO) H) {j : Nat} (hj : j < 64) {v : Int64} (hdg : decode cc pc = .ok (.lastore, 1)) (kk : ∀ (H1 : Heap) (locs1 : List Loc), xW D A ad (wU fB (wR y ad th z qp (vp_updL qm j v) qr qi qn qf qu qd) fO) H1 → va_S A H0 H1 locs1 → W p l e R s m args below meth c H1 locs1 cells slots Q (F0 m (pc + 1) ls (rest))) : W p l e R s m args below meth c H locs cells slots Q (F0 m pc ls (.long v :: .int (nI j) :: .ref (ad (31, 0)) :: rest)) :=
  xw_last hexec hb hE hP hS (31, 0) rfl hj (by decide) hdg (fun H1 locs1 h1 h2 => kk H1 locs1 (h1.ct (wU_R (k := 11) (by decide) (fun a b h => by rcases a with _ | _ | _ | _ | _ | _ | _ | _ | _ | _ | _ | _ | _ | _ | _ | _ | a <;> first | rfl | (rcases b with _ | b <;> first | rfl | exact absurd ⟨rfl, rfl⟩ h)) rfl)) h2)
theorem al_right (hexec : p.tables.exec = Jvm.exec) (hb : c.code = cc) (hE : xE D y s) (hP : xW D A ad (wU fB (wR y ad th z qp qm qr qi qn qf qu qd) fO) H) {j : Nat} (hj : j < 8) (hdg : decode cc pc = .ok (.laload, 1)) (kk : W p l e R s m args below meth c H locs cells slots Q (F0 m (pc + 1) ls (.long (qr j) :: rest))) : W p l e R s m args below meth c H locs cells slots Q (F0 m pc ls (.int (nI j) :: .ref (ad (32, 0)) :: rest)) :=
  xw_lald hexec hb hE hP (32, 0) rfl hj (by decide) hdg kk
theorem as_right (hexec : p.tables.exec = Jvm.exec) (hb : c.code = cc) (hE : xE D y s) (hS : va_S A H0 H locs) (hP : xW D A ad (wU fB (wR y ad th z qp qm qr qi qn qf qu qd) fO) H) {j : Nat} (hj : j < 8) {v : Int64} (hdg : decode cc pc = .ok (.lastore, 1)) (kk : ∀ (H1 : Heap) (locs1 : List Loc), xW D A ad (wU fB (wR y ad th z qp qm (vp_updL qr j v) qi qn qf qu qd) fO) H1 → va_S A H0 H1 locs1 → W p l e R s m args below meth c H1 locs1 cells slots Q (F0 m (pc + 1) ls (rest))) : W p l e R s m args below meth c H locs cells slots Q (F0 m pc ls (.long v :: .int (nI j) :: .ref (ad (32, 0)) :: rest)) :=
  xw_last hexec hb hE hP hS (32, 0) rfl hj (by decide) hdg (fun H1 locs1 h1 h2 => kk H1 locs1 (h1.ct (wU_R (k := 12) (by decide) (fun a b h => by rcases a with _ | _ | _ | _ | _ | _ | _ | _ | _ | _ | _ | _ | _ | _ | _ | _ | a <;> first | rfl | (rcases b with _ | b <;> first | rfl | exact absurd ⟨rfl, rfl⟩ h)) rfl)) h2)
theorem al_qminors (hexec : p.tables.exec = Jvm.exec) (hb : c.code = cc) (hE : xE D y s) (hP : xW D A ad (wU fB (wR y ad th z qp qm qr qi qn qf qu qd) fO) H) {j : Nat} (hj : j < 256) (hdg : decode cc pc = .ok (.laload, 1)) (kk : W p l e R s m args below meth c H locs cells slots Q (F0 m (pc + 1) ls (.long (qi j) :: rest))) : W p l e R s m args below meth c H locs cells slots Q (F0 m pc ls (.int (nI j) :: .ref (ad (33, 0)) :: rest)) :=
  xw_lald hexec hb hE hP (33, 0) rfl hj (by decide) hdg kk
theorem as_qminors (hexec : p.tables.exec = Jvm.exec) (hb : c.code = cc) (hE : xE D y s) (hS : va_S A H0 H locs) (hP : xW D A ad (wU fB (wR y ad th z qp qm qr qi qn qf qu qd) fO) H) {j : Nat} (hj : j < 256) {v : Int64} (hdg : decode cc pc = .ok (.lastore, 1)) (kk : ∀ (H1 : Heap) (locs1 : List Loc), xW D A ad (wU fB (wR y ad th z qp qm qr (vp_updL qi j v) qn qf qu qd) fO) H1 → va_S A H0 H1 locs1 → W p l e R s m args below meth c H1 locs1 cells slots Q (F0 m (pc + 1) ls (rest))) : W p l e R s m args below meth c H locs cells slots Q (F0 m pc ls (.long v :: .int (nI j) :: .ref (ad (33, 0)) :: rest)) :=
  xw_last hexec hb hE hP hS (33, 0) rfl hj (by decide) hdg (fun H1 locs1 h1 h2 => kk H1 locs1 (h1.ct (wU_R (k := 13) (by decide) (fun a b h => by rcases a with _ | _ | _ | _ | _ | _ | _ | _ | _ | _ | _ | _ | _ | _ | _ | _ | a <;> first | rfl | (rcases b with _ | b <;> first | rfl | exact absurd ⟨rfl, rfl⟩ h)) rfl)) h2)
theorem al_numerators (hexec : p.tables.exec = Jvm.exec) (hb : c.code = cc) (hE : xE D y s) (hP : xW D A ad (wU fB (wR y ad th z qp qm qr qi qn qf qu qd) fO) H) {j : Nat} (hj : j < 8) (hdg : decode cc pc = .ok (.laload, 1)) (kk : W p l e R s m args below meth c H locs cells slots Q (F0 m (pc + 1) ls (.long (qn j) :: rest))) : W p l e R s m args below meth c H locs cells slots Q (F0 m pc ls (.int (nI j) :: .ref (ad (34, 0)) :: rest)) :=
  xw_lald hexec hb hE hP (34, 0) rfl hj (by decide) hdg kk
theorem as_numerators (hexec : p.tables.exec = Jvm.exec) (hb : c.code = cc) (hE : xE D y s) (hS : va_S A H0 H locs) (hP : xW D A ad (wU fB (wR y ad th z qp qm qr qi qn qf qu qd) fO) H) {j : Nat} (hj : j < 8) {v : Int64} (hdg : decode cc pc = .ok (.lastore, 1)) (kk : ∀ (H1 : Heap) (locs1 : List Loc), xW D A ad (wU fB (wR y ad th z qp qm qr qi (vp_updL qn j v) qf qu qd) fO) H1 → va_S A H0 H1 locs1 → W p l e R s m args below meth c H1 locs1 cells slots Q (F0 m (pc + 1) ls (rest))) : W p l e R s m args below meth c H locs cells slots Q (F0 m pc ls (.long v :: .int (nI j) :: .ref (ad (34, 0)) :: rest)) :=
  xw_last hexec hb hE hP hS (34, 0) rfl hj (by decide) hdg (fun H1 locs1 h1 h2 => kk H1 locs1 (h1.ct (wU_R (k := 14) (by decide) (fun a b h => by rcases a with _ | _ | _ | _ | _ | _ | _ | _ | _ | _ | _ | _ | _ | _ | _ | _ | a <;> first | rfl | (rcases b with _ | b <;> first | rfl | exact absurd ⟨rfl, rfl⟩ h)) rfl)) h2)
theorem al_areFloating (hexec : p.tables.exec = Jvm.exec) (hb : c.code = cc) (hE : xE D y s) (hP : xW D A ad (wU fB (wR y ad th z qp qm qr qi qn qf qu qd) fO) H) {j : Nat} (hj : j < 8) (hdg : decode cc pc = .ok (.baload, 1)) (kk : W p l e R s m args below meth c H locs cells slots Q (F0 m (pc + 1) ls (.int (qf j) :: rest))) : W p l e R s m args below meth c H locs cells slots Q (F0 m pc ls (.int (nI j) :: .ref (ad (35, 0)) :: rest)) :=
  xw_zald hexec hb hE hP (35, 0) rfl hj (by decide) hdg kk
theorem as_areFloating (hexec : p.tables.exec = Jvm.exec) (hb : c.code = cc) (hE : xE D y s) (hS : va_S A H0 H locs) (hP : xW D A ad (wU fB (wR y ad th z qp qm qr qi qn qf qu qd) fO) H) {j : Nat} (hj : j < 8) {v : Int32} (hz : v = 0 ∨ v = 1) (hdg : decode cc pc = .ok (.bastore, 1)) (kk : ∀ (H1 : Heap) (locs1 : List Loc), xW D A ad (wU fB (wR y ad th z qp qm qr qi qn (upd qf j v) qu qd) fO) H1 → va_S A H0 H1 locs1 → W p l e R s m args below meth c H1 locs1 cells slots Q (F0 m (pc + 1) ls (rest))) : W p l e R s m args below meth c H locs cells slots Q (F0 m pc ls (.int v :: .int (nI j) :: .ref (ad (35, 0)) :: rest)) :=
  xw_zast hexec hb hE hP hS (35, 0) rfl hj (by decide) (by rcases hz with h | h <;> subst h <;> rfl) hdg (fun H1 locs1 h1 h2 => kk H1 locs1 (h1.ct (wU_R (k := 15) (by decide) (fun a b h => by rcases a with _ | _ | _ | _ | _ | _ | _ | _ | _ | _ | _ | _ | _ | _ | _ | _ | a <;> first | rfl | (rcases b with _ | b <;> first | rfl | exact absurd ⟨rfl, rfl⟩ h)) rfl)) h2)
theorem al_times {i : Nat} (hp : i < nE z) (hexec : p.tables.exec = Jvm.exec) (hb : c.code = cc) (hE : xE D y s) (hP : xW D A ad (wU (wB y ad bl z g pl kn rw mi un) fR fO) H) {j : Nat} (hj : j < 6) (hdg : decode cc pc = .ok (.iaload, 1)) (kk : W p l e R s m args below meth c H locs cells slots Q (F0 m (pc + 1) ls (.int (tT z (6 * i + j)) :: rest))) : W p l e R s m args below meth c H locs cells slots Q (F0 m pc ls (.int (nI j) :: .ref (ad (14, i)) :: rest)) :=
  xw_iald (f := fun j => tT z (6 * i + j)) hexec hb hE hP (14, i) (if_pos hp) hj (by decide) hdg kk
theorem as_times {i : Nat} (hp : i < nE z) (hexec : p.tables.exec = Jvm.exec) (hb : c.code = cc) (hE : xE D y s) (hS : va_S A H0 H locs) (hP : xW D A ad (wU (wB y ad bl z g pl kn rw mi un) fR fO) H) {j : Nat} (hj : j < 6) {v : Int32} (hdg : decode cc pc = .ok (.iastore, 1)) (kk : ∀ (H1 : Heap) (locs1 : List Loc), xW D A ad (wU (wB y ad bl (s_tT z (upd (tT z) (6 * i + j) v)) g pl kn rw mi un) fR fO) H1 → va_S A H0 H1 locs1 → W p l e R s m args below meth c H1 locs1 cells slots Q (F0 m (pc + 1) ls (rest))) : W p l e R s m args below meth c H locs cells slots Q (F0 m pc ls (.int v :: .int (nI j) :: .ref (ad (14, i)) :: rest)) := by
  refine xw_iast (f := fun j => tT z (6 * i + j)) hexec hb hE hP hS (14, i) (if_pos hp) hj (by decide) hdg (fun H1 locs1 h1 h2 => kk H1 locs1 (h1.alike ?_) h2)
  intro q f hf
  obtain ⟨a, b⟩ := q
  by_cases h14 : a = 14
  · subst h14
    have hf' : (if b < nE z then some (Sum.inl (y 0, 6, .inl (fun c => upd (tT z) (6 * i + j) v (6 * b + c)))) else none : Option va_E) = some f := hf
    by_cases hbn : b < nE z
    · rw [if_pos hbn] at hf'
      cases hf'
      by_cases hbi : b = i
      · subst hbi
        exact ⟨_, aw_up_self, xW_i (fun c hc => by by_cases hcj : c = j <;> simp [upd, hcj])⟩
      · refine ⟨.inl (y 0, 6, .inl (fun c => tT z (6 * b + c))), ?_, xW_i (fun c hc => ?_)⟩
        · rw [aw_up_ne (by intro e; cases e; exact hbi rfl)]
          show (if b < nE z then _ else none) = _
          rw [if_pos hbn]
        · have hne : 6 * b + c ≠ 6 * i + j := by omega
          simp [upd, hne]
    · rw [if_neg hbn] at hf'
      cases hf'
  · refine ⟨f, ?_, fun h => h⟩
    rw [aw_up_ne (by intro e; cases e; exact h14 rfl), ← hf]
    unfold wU
    by_cases ha : a < 20
    · rw [if_pos ha, if_pos ha]
      rcases a with _ | _ | _ | _ | _ | _ | _ | _ | _ | _ | _ | _ | _ | _ | _ | a <;> first | rfl | (rcases b with _ | b <;> rfl) | exact absurd rfl h14
    · rw [if_neg ha, if_neg ha]
end ROWS
