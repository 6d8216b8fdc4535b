/-! constructors: the equations, the bench, the reference -/
def zI : Nat → Int32 := fun _ => 0
def zL : Nat → Int64 := fun _ => 0
def zE : xC := (0, zI, zI, 0, zI, zI, zI, zI, zI, zI, zI)
abbrev bl0 : xM := (0, 0, 0, 0)
theorem rw_comm {y : Nat → ClassId} {ct : xL → Option va_E} {q : Nat} {k : xL} {e : va_E} (h1 : k ≠ (9, 0)) (h2 : k.1 ≠ 10) : ct_rw y (aw_up ct k e) q = aw_up (ct_rw y ct q) k e := by
  funext j
  by_cases hk : j = k
  · subst hk
    rw [aw_up_self]
    exact ((if_neg h1).trans (if_neg (fun g => h2 g.1))).trans aw_up_self
  · rw [aw_up_ne hk]
    unfold ct_rw
    rw [aw_up_ne hk]
theorem adr_ne {ad : xL → Nat} {q : Nat} {k : xL} (h1 : k ≠ (9, 0)) (h2 : k.1 ≠ 10) : ad_rw ad q k = ad k := (if_neg h1).trans (if_neg (fun g => h2 g.1))
theorem no_sm {f : va_E} {P : Prop} (h : (none : Option va_E) = some f) : P := by cases h
theorem no_if {b : Nat} {x : Option va_E} {f : va_E} {P : Prop} (h : (if b < 0 then x else none) = some f) : P := by
  rw [if_neg (Nat.not_lt_zero b)] at h
  cases h
set_option maxHeartbeats 4000000 in
set_option maxRecDepth 100000 in
theorem c_X1_init (l : Launch) {D : va_G} {y : Nat → ClassId} {A : Nat → Prop} {e0 : Nat} {ad : xL → Nat} {Hs : Heap} {ct : xL → Option va_E} {h0 : Nat} (hP : xW D A ad ct Hs) (he : ct (6, 0) = some (.inr (2, [.null, .null, .null, .null, .int 0]))) (hO : ad (6, 0) = h0) : Met l yX1_init (.code yX1_init cX1_init 1 none :: WG) { frames := 1, cells := 11, slots := 335, locals := 12 } (xPc2 [.ref h0] D y A e0 Hs) (xQ (fun v H1 => v = none ∧ ∃ ad' : xL → Nat, (∀ k : xL, (k.1 < 7 ∨ 11 < k.1) → ad' k = ad k) ∧ xW D A ad' (fun q => if 6 ≤ q.1 ∧ q.1 ≤ 11 then wB y (ad') bl0 zE zI zI zL (fun _ _ => 0) zL 0 q.1 q.2 else ct q) H1) A) 11 335 A := by
  refine xM_go2 (by decide) (Nat.le_of_ble_eq_true rfl) (fun p e s m args below meth c ls R Q hx hb hr hlocks hml hown hts hH hE hnm hRf hRl hRc hRs hQ hS hl hF hG => ?_)
  have hRf : R.frames = 1 := hRf
  have hRl : R.locals = 12 := hRl
  have hRc : R.cells = 11 := hRc
  have hRs : R.slots = 335 := hRs
  have hl : lv_has ls 1 [(0, .ref h0)] := hl
  refine lv_aload_n hx hb dX1_init_0 rfl (lv_at hl 0 rfl) ?_
  refine W.objInit hx hb hown (hts _ q_81) (hts _ q_48) (hts _ q_49) rfl (by rw [hml]; exact hl.1) rfl dX1_init_1 (by rw [hRf]; decide) (by rw [hRl]; exact Nat.le_of_ble_eq_true rfl) ?_
  have hP := hP.ct (aw_same he).symm
  refine lv_aload_n hx hb dX1_init_4 rfl (lv_at hl 0 rfl) ?_
  refine lv_bipush (v := nI 8) hx hb dX1_init_5 (by decide) ?_
  refine xw_newB hx hb (atype := .int) (ty := .int) (t := 0) (a0 := (8, .inl (fun _ => 0))) hts q_100 rfl rfl (fun _ => by rw [vp_cell_i]; rfl) hE hP hS hO (by decide) (by decide) (by rw [hRc]; decide) (by rw [hRs]; decide) dX1_init_7 (7, 0) (by decide) (fun q7 H hP hS hO => ?_)
  refine xw_putFa hx hb hts hown hE (6, 0) (e0 := .inr (2, [.ref q7, .null, .null, .null, .int 0])) hP hS hO iw_X1 tyX1 tyX1_ok nmX1 rfl 0 (by decide) q_84 (fun x h => h) rfl hnm rfl (ty := .array .int) rfl rfl rfl (Nat.le_of_ble_eq_true rfl) rfl dX1_init_9 (fun H locs hP hS => ?_)
  refine lv_aload_n hx hb dX1_init_12 rfl (lv_at hl 0 rfl) ?_
  refine lv_bipush (v := nI 8) hx hb dX1_init_13 (by decide) ?_
  refine xw_newB hx hb (atype := .long) (ty := .long) (t := 1) (a0 := (8, .inr (.inl (fun _ => 0)))) hts q_101 rfl rfl (fun _ => by rw [vp_cell_l]; rfl) hE hP hS hO (by decide) (by decide) (by rw [hRc]; decide) (by rw [hRs]; decide) dX1_init_15 (8, 0) (by decide) (fun q8 H hP hS hO => ?_)
  refine xw_putFa hx hb hts hown hE (6, 0) (e0 := .inr (2, [.ref q7, .ref q8, .null, .null, .int 0])) hP hS hO iw_X1 tyX1 tyX1_ok nmX1 rfl 1 (by decide) q_85 (fun x h => h) rfl hnm rfl (ty := .array .long) rfl rfl rfl (Nat.le_of_ble_eq_true rfl) rfl dX1_init_17 (fun H locs hP hS => ?_)
  refine lv_aload_n hx hb dX1_init_20 rfl (lv_at hl 0 rfl) ?_
  refine lv_bipush (v := nI 7) hx hb dX1_init_21 (by decide) ?_
  refine lv_bipush (v := nI 8) hx hb dX1_init_23 (by decide) ?_
  refine xw_mul hx hb hts hown (by rw [show ("[" ++ (FieldType.array .long).toString) = "[[J" by decide +kernel]; exact q_82) hG.2.2.2.2.2.1 q_101 hE hP hS (by rw [hRc]; decide) (by rw [hRs]; decide) dX1_init_25 (fun q9 H hP hS => ?_)
  have hP := hP.ct (rw_comm (by decide) (by decide))
  have hO := (adr_ne (ad := ad_up (ad_up ad (7, 0) q7) (8, 0) q8) (q := q9) (k := (6, 0)) (by decide) (by decide)).trans hO
  refine xw_putFa hx hb hts hown hE (6, 0) (e0 := .inr (2, [.ref q7, .ref q8, .ref q9, .null, .int 0])) hP hS hO iw_X1 tyX1 tyX1_ok nmX1 rfl 2 (by decide) q_86 (fun x h => h) rfl hnm rfl (ty := .array (.array .long)) rfl rfl rfl (Nat.le_of_ble_eq_true rfl) rfl dX1_init_29 (fun H locs hP hS => ?_)
  refine lv_aload_n hx hb dX1_init_32 rfl (lv_at hl 0 rfl) ?_
  refine lv_sipush (v := nI 256) hx hb dX1_init_33 (by decide) ?_
  refine xw_newB hx hb (atype := .long) (ty := .long) (t := 1) (a0 := (256, .inr (.inl (fun _ => 0)))) hts q_101 rfl rfl (fun _ => by rw [vp_cell_l]; rfl) hE hP hS hO (by decide) (by decide) (by rw [hRc]; decide) (by rw [hRs]; decide) dX1_init_36 (11, 0) (by decide) (fun q11 H hP hS hO => ?_)
  refine xw_putFa hx hb hts hown hE (6, 0) (e0 := .inr (2, [.ref q7, .ref q8, .ref q9, .ref q11, .int 0])) hP hS hO iw_X1 tyX1 tyX1_ok nmX1 rfl 3 (by decide) q_87 (fun x h => h) rfl hnm rfl (ty := .array .long) rfl rfl rfl (Nat.le_of_ble_eq_true rfl) rfl dX1_init_38 (fun H locs hP hS => ?_)
  refine lv_aload_n hx hb dX1_init_41 rfl (lv_at hl 0 rfl) ?_
  refine lv_iconst (v := 0) hx hb dX1_init_42 (by decide) ?_
  refine xw_puta hx hb hts hown hE (6, 0) (e0 := .inr (2, [.ref q7, .ref q8, .ref q9, .ref q11, .int 0])) hP hS hO iw_X1 tyX1 tyX1_ok nmX1 rfl 4 (by decide) q_88 (fun x h => h) rfl (ty := .int) rfl rfl rfl (Nat.le_of_ble_eq_true rfl) rfl dX1_init_43 (fun H locs hP hS => ?_)
  refine xe_vret hQ hx hb hr hlocks hH hS (by decide) (by decide) ⟨rfl, ad_up (ad_rw (ad_up (ad_up ad (7, 0) q7) (8, 0) q8) q9) (11, 0) q11, fun k hk => ?_, hP.sub (fun k f hf => ?_)⟩ dX1_init_46
  · have n : ∀ i : Nat, 6 < i → i < 12 → k ≠ (i, 0) := fun i h1 h2 e => by
      rw [e] at hk
      rcases hk with g | g
      · exact absurd g (by show ¬ i < 7; omega)
      · exact absurd g (by show ¬ 11 < i; omega)
    rw [ad_up_ne (n 11 (by decide) (by decide)), adr_ne (n 9 (by decide) (by decide)) (fun e => by omega), ad_up_ne (n 8 (by decide) (by decide)), ad_up_ne (n 7 (by decide) (by decide))]
  · obtain ⟨a, b⟩ := k
    by_cases h : 6 ≤ a ∧ a ≤ 11
    · have hf := (if_pos h).symm.trans hf
      have ha : a = 6 ∨ a = 7 ∨ a = 8 ∨ a = 9 ∨ a = 10 ∨ a = 11 := by omega
      rcases ha with rfl | rfl | rfl | rfl | rfl | rfl
      · rcases b with _ | b
        · exact hf
        · exact no_sm hf
      · rcases b with _ | b
        · exact hf
        · exact no_sm hf
      · rcases b with _ | b
        · exact hf
        · exact no_sm hf
      · rcases b with _ | b
        · have e : (fun i : Nat => if i < 7 then some (q9 + 1 + i) else none) = fun i : Nat => if i < 7 then some ((ad_up (ad_rw (ad_up (ad_up ad (7, 0) q7) (8, 0) q8) q9) (11, 0) q11) (10, i)) else none := by
            funext i
            by_cases hi : i < 7
            · rw [if_pos hi, if_pos hi, ad_up_ne (by intro e; cases e), ad_rw, if_neg (by intro e; cases e), if_pos ⟨rfl, hi⟩]
            · rw [if_neg hi, if_neg hi]
          exact (congrArg (fun g : Nat → Option Nat => (some (Sum.inl (y 5, 7, xr g)) : Option va_E)) e).trans hf
        · exact no_sm hf
      · by_cases hb7 : b < 7
        · have hf2 := (if_pos hb7).symm.trans hf
          rw [aw_up_ne (by intro e; cases e), aw_up_ne (by intro e; cases e)]
          refine (if_neg (by intro e; cases e)).trans ((if_pos ⟨rfl, hb7⟩).trans hf2)
        · exact no_sm ((if_neg hb7).symm.trans hf)
      · rcases b with _ | b
        · exact hf
        · exact no_sm hf
    · have hf := (if_neg h).symm.trans hf
      have n : ∀ i : Nat, 5 < i → i < 12 → ((a, b) : xL) ≠ (i, 0) := fun i h1 h2 e => by cases e; exact h ⟨by omega, by omega⟩
      rw [aw_up_ne (n 6 (by decide) (by decide)), aw_up_ne (n 11 (by decide) (by decide))]
      refine (if_neg (n 9 (by decide) (by decide))).trans ((if_neg (fun g => h ⟨by have := g.1; omega, by have := g.1; omega⟩)).trans ?_)
      rw [aw_up_ne (n 8 (by decide) (by decide)), aw_up_ne (n 7 (by decide) (by decide))]
      exact hf

set_option maxHeartbeats 4000000 in
set_option maxRecDepth 100000 in
theorem c_X3_init (l : Launch) {D : va_G} {y : Nat → ClassId} {A : Nat → Prop} {e0 : Nat} {ad : xL → Nat} {Hs : Heap} {ct : xL → Option va_E} {h0 : Nat} (hP : xW D A ad ct Hs) (he : ct (0, 0) = some (.inr (4, [.null, .null, .null, .null]))) (hn : ∀ k : xL, k.1 < 20 → k ≠ (0, 0) → ct k = none) (hO : ad (0, 0) = h0) : Met l yX3_init (.code yX3_init cX3_init 1 none :: WG) { frames := 4, cells := 15, slots := 354, locals := 72 } (xPc2 [.ref h0] D y A e0 Hs) (xQ (fun v H1 => v = none ∧ ∃ ad' : xL → Nat, (∀ k : xL, 20 ≤ k.1 → ad' k = ad k) ∧ ad' (0, 0) = ad (0, 0) ∧ ad' (2, 0) = e0 ∧ ad' (4, 0) = e0 ∧ xW D A ad' (fun q => if q.1 < 20 then wB y (ad') bl0 zE zI zI zL (fun _ _ => 0) zL 0 q.1 q.2 else ct q) H1) A) 15 354 A := by
  refine xM_go2 (by decide) (Nat.le_of_ble_eq_true rfl) (fun p e s m args below meth c ls R Q hx hb hr hlocks hml hown hts hH hE hnm hRf hRl hRc hRs hQ hS hl hF hG => ?_)
  have hRf : R.frames = 4 := hRf
  have hRl : R.locals = 72 := hRl
  have hRc : R.cells = 15 := hRc
  have hRs : R.slots = 354 := hRs
  have hl : lv_has ls 1 [(0, .ref h0)] := hl
  have h00 := hO
  refine lv_aload_n hx hb dX3_init_0 rfl (lv_at hl 0 rfl) ?_
  refine W.objInit hx hb hown (hts _ q_47) (hts _ q_48) (hts _ q_49) rfl (by rw [hml]; exact hl.1) rfl dX3_init_1 (by rw [hRf]; decide) (by rw [hRl]; exact Nat.le_of_ble_eq_true rfl) ?_
  have hP := hP.ct (aw_same he).symm
  refine lv_aload_n hx hb dX3_init_4 rfl (lv_at hl 0 rfl) ?_
  refine xw_new hx hb hts iw_Jx4a65c tyJx4a65c tyJx4a65c_ok hown q_50 q_51 q_24 hE hP hS (ci := 0) rfl (fs := [.int 0, .null, .int 0]) (fun j hj => match j, hj with | 0, _ => rfl | 1, _ => rfl | 2, _ => rfl | n + 3, h => absurd h (by omega)) (by rw [hRc]; decide) (by rw [hRs]; decide) dX3_init_5 (1, 0) (fun q1 H hP hS => ?_)
  refine lv_dup hx hb dX3_init_8 rfl ?_
  refine x2_callI (n := 0) [] (c_ALinit l hP aw_up_self ad_up_self) hx hb hml hown hts hE hF hG hS rfl rfl q_24 q_52 q_54 q_53 rfl (by decide) rfl ⟨by rw [hRf]; decide, by rw [hRl]; decide⟩ hl.1 rfl (Nat.le_of_ble_eq_true rfl) dX3_init_9 ⟨by rw [hRc]; decide, by rw [hRs]; decide⟩ (fun v H1 locs hp hS => ?_)
  obtain ⟨hv, hP⟩ := hp; subst hv; generalize H1 = H at hP hS ⊢
  have hP := (hP.ct aw_up_up).ct (aw_comm (by decide))
  have hO := (ad_up_ne (ad := _) (q := q1) (show ((0, 0) : xL) ≠ (1, 0) by decide)).trans hO
  refine xw_putFa hx hb hts hown hE (0, 0) (e0 := .inr (4, [.ref q1, .null, .null, .null])) hP hS hO iw_X3 tyX3 tyX3_ok nmX3 rfl 0 (by decide) q_102 (fun x h => h) rfl hnm rfl (ty := .object "java/util/ArrayList") rfl rfl rfl (Nat.le_of_ble_eq_true rfl) rfl dX3_init_12 (fun H locs hP hS => ?_)
  refine lv_aload_n hx hb dX3_init_15 rfl (lv_at hl 0 rfl) ?_
  refine xw_new hx hb hts iw_Jx4a65c tyJx4a65c tyJx4a65c_ok hown q_50 q_51 q_24 hE hP hS (ci := 0) rfl (fs := [.int 0, .null, .int 0]) (fun j hj => match j, hj with | 0, _ => rfl | 1, _ => rfl | 2, _ => rfl | n + 3, h => absurd h (by omega)) (by rw [hRc]; decide) (by rw [hRs]; decide) dX3_init_16 (3, 0) (fun q3 H hP hS => ?_)
  refine lv_dup hx hb dX3_init_19 rfl ?_
  refine x2_callI (n := 0) [] (c_ALinit l hP aw_up_self ad_up_self) hx hb hml hown hts hE hF hG hS rfl rfl q_24 q_52 q_54 q_53 rfl (by decide) rfl ⟨by rw [hRf]; decide, by rw [hRl]; decide⟩ hl.1 rfl (Nat.le_of_ble_eq_true rfl) dX3_init_20 ⟨by rw [hRc]; decide, by rw [hRs]; decide⟩ (fun v H1 locs hp hS => ?_)
  obtain ⟨hv, hP⟩ := hp; subst hv; generalize H1 = H at hP hS ⊢
  have hP := (hP.ct aw_up_up).ct (aw_comm (by decide))
  have hO := (ad_up_ne (ad := _) (q := q3) (show ((0, 0) : xL) ≠ (3, 0) by decide)).trans hO
  refine xw_putFa hx hb hts hown hE (0, 0) (e0 := .inr (4, [.ref q1, .ref q3, .null, .null])) hP hS hO iw_X3 tyX3 tyX3_ok nmX3 rfl 1 (by decide) q_103 (fun x h => h) rfl hnm rfl (ty := .object "java/util/ArrayList") rfl rfl rfl (Nat.le_of_ble_eq_true rfl) rfl dX3_init_23 (fun H locs hP hS => ?_)
  refine lv_aload_n hx hb dX3_init_26 rfl (lv_at hl 0 rfl) ?_
  refine lv_bipush (v := nI 8) hx hb dX3_init_27 (by decide) ?_
  refine xw_newB hx hb (atype := .int) (ty := .int) (t := 0) (a0 := (8, .inl (fun _ => 0))) hts q_100 rfl rfl (fun _ => by rw [vp_cell_i]; rfl) hE hP hS hO (by decide) (by decide) (by rw [hRc]; decide) (by rw [hRs]; decide) dX3_init_29 (5, 0) (by decide) (fun q5 H hP hS hO => ?_)
  refine xw_putFa hx hb hts hown hE (0, 0) (e0 := .inr (4, [.ref q1, .ref q3, .ref q5, .null])) hP hS hO iw_X3 tyX3 tyX3_ok nmX3 rfl 2 (by decide) q_104 (fun x h => h) rfl hnm rfl (ty := .array .int) rfl rfl rfl (Nat.le_of_ble_eq_true rfl) rfl dX3_init_31 (fun H locs hP hS => ?_)
  refine lv_aload_n hx hb dX3_init_34 rfl (lv_at hl 0 rfl) ?_
  refine xw_new hx hb hts iw_X1 tyX1 tyX1_ok hown q_76 q_77 q_25 hE hP hS (ci := 2) rfl (fs := [.null, .null, .null, .null, .int 0]) (fun j hj => match j, hj with | 0, _ => rfl | 1, _ => rfl | 2, _ => rfl | 3, _ => rfl | 4, _ => rfl | n + 5, h => absurd h (by omega)) (by rw [hRc]; decide) (by rw [hRs]; decide) dX3_init_35 (6, 0) (fun q6 H hP hS => ?_)
  refine lv_dup hx hb dX3_init_38 rfl ?_
  have hO := (ad_up_ne (ad := _) (q := q6) (show ((0, 0) : xL) ≠ (6, 0) by decide)).trans hO
  refine x2_callIN (host := "NetlistBench") (n := 0) [] (c_X1_init l hP aw_up_self ad_up_self) hx hb hml hown hts hE hF hG hS rfl rfl q_25 (hG.2.2.2.2.2.2 (.methodLinkNest "NetlistBench" 25 ⟨"NetlistBench$Equations", "<init>", "()V"⟩ "NetlistBench") (List.mem_cons_of_mem _ (List.mem_cons_of_mem _ List.mem_cons_self))) q_80 q_79 rfl (by decide) rfl ⟨by rw [hRf]; decide, by rw [hRl]; decide⟩ hl.1 rfl (Nat.le_of_ble_eq_true rfl) dX3_init_39 ⟨by rw [hRc]; decide, by rw [hRs]; decide⟩ (fun v H1 locs hp hS => ?_)
  obtain ⟨hv, ad2, hk2, hP⟩ := hp; subst hv; generalize H1 = H at hP hS ⊢
  have h6 : ad2 (6, 0) = q6 := (hk2 (6, 0) (Or.inl (by decide))).trans ad_up_self
  have h5 : ad2 (5, 0) = q5 := hk2 (5, 0) (Or.inl (by decide))
  have h3 : ad2 (3, 0) = q3 := hk2 (3, 0) (Or.inl (by decide))
  have h1 : ad2 (1, 0) = q1 := hk2 (1, 0) (Or.inl (by decide))
  have hk3 : ∀ k : xL, 20 ≤ k.1 → ad2 k = ad k := fun k hk => by
    have n : ∀ i : Nat, i < 20 → k ≠ (i, 0) := fun i h e => by rw [e] at hk; exact absurd hk (by show ¬ 20 ≤ i; omega)
    rw [hk2 k (Or.inr (by omega)), ad_up_ne (n 6 (by decide)), ad_up_ne (n 5 (by decide)), ad_up_ne (n 3 (by decide)), ad_up_ne (n 1 (by decide))]
  have hO := (hk2 (0, 0) (Or.inl (by decide))).trans hO
  have hP := hP.ct (aw_same (k := (0, 0)) (e := .inr (4, [.ref q1, .ref q3, .ref q5, .null])) rfl).symm
  refine xw_putFa hx hb hts hown hE (0, 0) (e0 := .inr (4, [.ref q1, .ref q3, .ref q5, .ref q6])) hP hS hO iw_X3 tyX3 tyX3_ok nmX3 rfl 3 (by decide) q_105 (fun x h => h) rfl hnm rfl (ty := .object "NetlistBench$Equations") rfl rfl rfl (Nat.le_of_ble_eq_true rfl) rfl dX3_init_42 (fun H locs hP hS => ?_)
  have hc2 : ct (2, 0) = none := hn (2, 0) (by decide) (by decide)
  have hc4 : ct (4, 0) = none := hn (4, 0) (by decide) (by decide)
  have hP := (hP.readd (k := (2, 0)) e0 hc2).readd (k := (4, 0)) e0 hc4
  refine xe_vret hQ hx hb hr hlocks hH hS (by decide) (by decide) ⟨rfl, ad_up (ad_up ad2 (2, 0) e0) (4, 0) e0, fun k hk => ?_, hO.trans h00.symm, rfl, rfl, hP.sub (fun k f hf => ?_)⟩ dX3_init_45
  · have n : ∀ i : Nat, i < 20 → k ≠ (i, 0) := fun i h e => by rw [e] at hk; exact absurd hk (by show ¬ 20 ≤ i; omega)
    rw [ad_up_ne (n 4 (by decide)), ad_up_ne (n 2 (by decide)), hk3 k hk]
  · obtain ⟨a, b⟩ := k
    by_cases h : a < 20
    · have hf := (if_pos (show ((a, b) : xL).1 < 20 from h)).symm.trans hf
      rcases a with _ | _ | _ | _ | _ | _ | _ | _ | _ | _ | _ | _ | _ | _ | _ | a
      · rcases b with _ | b
        · refine Eq.trans ?_ hf
          show some (Sum.inr (4, [Value.ref q1, Value.ref q3, Value.ref q5, Value.ref q6])) = some (Sum.inr (4, [Value.ref (ad2 (1, 0)), Value.ref (ad2 (3, 0)), Value.ref (ad2 (5, 0)), Value.ref (ad2 (6, 0))]))
          rw [h1, h3, h5, h6]
        · exact no_sm hf
      · rcases b with _ | b
        · exact hf
        · exact no_sm hf
      · rcases b with _ | b
        · exact no_sm hf
        · exact no_sm hf
      · rcases b with _ | b
        · exact hf
        · exact no_sm hf
      · rcases b with _ | b
        · exact no_sm hf
        · exact no_sm hf
      · rcases b with _ | b
        · exact hf
        · exact no_sm hf
      · rcases b with _ | b
        · exact hf
        · exact no_sm hf
      · rcases b with _ | b
        · exact hf
        · exact no_sm hf
      · rcases b with _ | b
        · exact hf
        · exact no_sm hf
      · rcases b with _ | b
        · exact hf
        · exact no_sm hf
      · refine Eq.trans ?_ hf
        rfl
      · rcases b with _ | b
        · exact hf
        · exact no_sm hf
      · exact no_sm hf
      · exact no_sm hf
      · exact no_sm hf
      · exact no_sm hf
    · have hf := (if_neg (show ¬ ((a, b) : xL).1 < 20 from h)).symm.trans hf
      have n : ∀ i : Nat, i < 20 → ((a, b) : xL) ≠ (i, 0) := fun i h1 e => by cases e; exact h (by omega)
      rw [aw_up_ne (n 0 (by decide))]
      refine (if_neg (show ¬ (6 ≤ a ∧ a ≤ 11) by omega)).trans ?_
      rw [aw_up_ne (n 6 (by decide)), aw_up_ne (n 0 (by decide)), aw_up_ne (n 5 (by decide)), aw_up_ne (n 3 (by decide)), aw_up_ne (n 1 (by decide))]
      exact hf
