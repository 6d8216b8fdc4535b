/-! the law's own walk: what it keeps over its rounds -/
def b01 (v : Int32) : Int32 := if v = 0 then 0 else 1
theorem b01_01 (v : Int32) : b01 v = 0 ∨ b01 v = 1 := by
  unfold b01
  by_cases h : v = 0
  · rw [if_pos h]; exact Or.inl rfl
  · rw [if_neg h]; exact Or.inr rfl
theorem lgc (x : Int64) : lg_cmp x x = 0 := by
  unfold lg_cmp
  rw [if_neg (fun h => absurd h (Int64.lt_irrefl)), if_pos rfl]
def xLI (D : va_G) (A : Nat → Prop) (y : Nat → ClassId) (e0 : Nat) (ad : xL → Nat) (z : xC) (H : Heap) : Prop :=
  ∃ (bl : xM) (g pl : Nat → Int32) (kn : Nat → Int64) (rw : Nat → Nat → Int64) (mi : Nat → Int64) (un th : Int32) (w : xC) (qp : Nat → Int32) (qm qr qi qn : Nat → Int64) (qf : Nat → Int32) (qu : Int32) (qd : Int64) (oj : Nat → Int64) (od : Nat → UInt64), xW D A ad (wU (wB y ad bl z g pl kn rw mi un) (wR y ad th w qp qm qr qi qn qf qu qd) (wO y oj od)) H ∧ Rq z w ∧ bOk bl z ∧ (nN z = 0 → ad (2, 0) = e0) ∧ (nE z = 0 → ad (4, 0) = e0)
def lc_At (p : Program) (l : Launch) (s : State) (m : MethodId) (args : Array Value) (meth : Method) (c : Code) (R : Room) (D : va_G) (y : Nat → ClassId) (A : Nat → Prop) (H0 : Heap) (e0 b L : Nat) (xs : Nat → Int32) : Prop :=
  p.tables.exec = Jvm.exec ∧ c.code = cL_law ∧ c.maxLocals = 9 ∧ s.vm.findClass "NetlistBenchLaw" = some m.cls ∧ (∀ w ∈ WG, w.before args s = true) ∧ va_X b L xs s H0 ∧ b < H0.size ∧ ¬ A b ∧ xE D y s ∧ xF A s H0 ∧ xG A e0 s H0 ∧ xN s ∧ l.stackTraces = false ∧ R.frames = 2048 ∧ R.locals = 84000 ∧ R.cells = 601024 ∧ R.slots = 7293034
def lcL (ad : xL → Nat) (b j : Nat) : List (Nat × Value) := [(0, .ref b), (1, .ref (ad (0, 0))), (2, .ref (ad (20, 0))), (3, .ref (ad (40, 0))), (4, .ref (ad (41, 0))), (5, .int (nI (5 * j)))]
section LB
variable {p : Program} {l : Launch} {e : Env} {R : Room} {s : State} {m : MethodId} {args : Array Value} {below : List Frame} {meth : Method} {c : Code} {H H0 : Heap} {locs : List Loc} {cells slots mc ms : Nat} {Q : State → Prop}
variable {cc : ByteArray} {pc : Nat} {ls : Array Slot} {rest : List Value}
theorem lw_b01 {v : Int32} (hexec : p.tables.exec = Jvm.exec) (hb : c.code = cc) (d0 : decode cc pc = .ok (.ifCond .eq 7, 3)) (d1 : decode cc (pc + 3) = .ok (.iconst 1, 1)) (d2 : decode cc (pc + 4) = .ok (.goto 4, 3)) (d3 : decode cc (pc + 7) = .ok (.iconst 0, 1))
    (kk : W p l e R s m args below meth c H locs cells slots Q (F0 m (pc + 8) ls (.int (b01 v) :: rest))) : W p l e R s m args below meth c H locs cells slots Q (F0 m pc ls (.int v :: rest)) := by
  refine lv_if_eq (tgt := pc + 7) hexec hb d0 (by omega) (fun h => ?_) (fun h => ?_)
  · refine lv_iconst (v := 0) hexec hb d3 (by decide) ?_
    unfold b01 at kk
    rw [if_pos h] at kk
    exact kk
  · refine lv_iconst (v := 1) hexec hb d1 (by decide) ?_
    refine lv_goto (tgt := pc + 8) hexec hb d2 (by omega) ?_
    unfold b01 at kk
    rw [if_neg h] at kk
    exact kk
theorem lw_bL {v : Int32} (hexec : p.tables.exec = Jvm.exec) (hb : c.code = cc) (d0 : decode cc pc = .ok (.ifCond .eq 7, 3)) (d1 : decode cc (pc + 3) = .ok (.lconst 1, 1)) (d2 : decode cc (pc + 4) = .ok (.goto 4, 3)) (d3 : decode cc (pc + 7) = .ok (.lconst 0, 1))
    (kk : W p l e R s m args below meth c H locs cells slots Q (F0 m (pc + 8) ls (.long (bL v) :: rest))) : W p l e R s m args below meth c H locs cells slots Q (F0 m pc ls (.int v :: rest)) := by
  refine lv_if_eq (tgt := pc + 7) hexec hb d0 (by omega) (fun h => ?_) (fun h => ?_)
  · refine lv_lconst (v := 0) hexec hb d3 (by decide) ?_
    unfold bL at kk
    rw [if_pos h] at kk
    exact kk
  · refine lv_lconst (v := 1) hexec hb d1 (by decide) ?_
    refine lv_goto (tgt := pc + 8) hexec hb d2 (by omega) ?_
    unfold bL at kk
    rw [if_neg h] at kk
    exact kk
/-- an int of the script -/
theorem lw_arg {b L k j : Nat} {xs : Nat → Int32} {A : Nat → Prop} {w : Int} (hexec : p.tables.exec = Jvm.exec) (hb : c.code = cc) (hX : va_X b L xs s H0) (hbl : b < H0.size) (hbA : ¬ A b) (hS : va_S A H0 H locs) (hL : L ≤ 2560) (h5 : 5 * j + k < L) (hl0 : ls[0]? = some (.val (.ref b))) (hl5 : ls[5]? = some (.val (.int (nI (5 * j)))))
    (d0 : decode cc pc = .ok (.aload_n 0, 1)) (d1 : decode cc (pc + 1) = .ok (.iload 5, 2)) (d2 : decode cc (pc + 3) = .ok (.iconst w, 1)) (hw : Int32.ofInt w = nI k) (d3 : decode cc (pc + 4) = .ok (.iadd, 1)) (d4 : decode cc (pc + 5) = .ok (.iaload, 1))
    (kk : W p l e R s m args below meth c H locs cells slots Q (F0 m (pc + 6) ls (.int (xs (nI (5 * j + k)).toNatClampNeg) :: rest))) : W p l e R s m args below meth c H locs cells slots Q (F0 m pc ls rest) := by
  refine lv_aload_n hexec hb d0 rfl hl0 ?_
  refine lv_iload hexec hb d1 hl5 ?_
  refine lv_iconst (v := nI k) hexec hb d2 hw ?_
  refine lv_iadd hexec hb d3 ?_
  refine xt_i (nI_add (5 * j) k) ?_
  exact va_sld hexec hb hX hbl hbA hS (vp_in_nI h5 (by omega)) d4 kk
end LB
theorem len5 {L j : Nat} (hL : L ≤ 2560) (hj : j ≤ 600) (h : ¬ nI L - nI 5 < nI (5 * j)) : 5 * j + 5 ≤ L := by
  rcases Nat.lt_or_ge L 5 with c | c
  · have h0 : ∀ n, n < 5 → nI n - nI 5 < 0 := by decide +kernel
    exact absurd (Int32.lt_of_lt_of_le (h0 L c) (nI_pos' (by omega))) h
  · rw [pk_sub c] at h
    have := ni_nlt (a := L - 5) (b := 5 * j) (by omega) (by omega) h
    omega
