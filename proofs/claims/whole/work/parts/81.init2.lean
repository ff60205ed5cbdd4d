theorem kX1_init_1 : ∀ w ∈ u_ws RX1 TX1 7, w ∈ wsX1_init := fun _ h => List.mem_cons_of_mem _ (List.mem_append_left _ (List.mem_append_right _ h))
theorem kX1_init_2 : ∀ w ∈ u_ws RX2 TX2 3, w ∈ wsX1_init := fun _ h => List.mem_cons_of_mem _ (List.mem_append_right _ h)
abbrev q_X1_init (g : GT) (y : Nat) : Option Value → va_W → Prop := fun v w => ∃ (w0' : Nat), ∃ (w1' : Nat), ∃ (w2' : Nat), ∃ (w3' : Nat), ∃ (w4' : Nat), ∃ (u1' : Nat), ∃ (u2' : Nat), ∃ (u3' : Nat), v = none ∧ w = [(y, .inr (1, [.int (iI 0), .int (iI 0), .ref w0', .ref w1', .ref w2', .ref w3', .ref w4'])), (w0', .inr (2, [.ref u1', .ref u2', .ref u3'])), (u1', aI (g.2.1 0) 8 (fun _ => (-1))), (u2', aI (g.2.1 1) 8 (fun _ => 0)), (u3', aI (g.2.1 0) 8 (fun _ => 8)), (w1', aI (g.2.1 0) 40 (fun _ => 0)), (w2', aI (g.2.1 1) 40 (fun _ => 0)), (w3', aI (g.2.1 1) 40 (fun _ => 0)), (w4', aI (g.2.1 0) 93 (fun _ => 0))]
set_option maxHeartbeats 4000000 in
set_option maxRecDepth 100000 in
theorem c_X1_init (l : Launch) (g : GT) (y : Nat) : Ct l g yX1_init wsX1_init ({ frames := 2, cells := 8, slots := 240, locals := 41 } : Room) [.ref y] [(y, .inr (1, [.int (iI 0), .int (iI 0), .null, .null, .null, .null, .null]))] (q_X1_init g y) := by
  refine Ct.intro (maxL := 1) (ret := none) (by decide) rfl (Nat.le_of_ble_eq_true rfl) ?_
  intro p e s m below meth c A ls hx hb hr hml hown hts hlocks hnm hA hG hP hD hS hl
  have hown : s.vm.findClass RX1 = some m.cls := hown
  have hl : lv_has ls 1 [(0, .ref y)] := hl
  have hP : va_P g.1 vwCl [(y, .inr (1, [.int (iI 0), .int (iI 0), .null, .null, .null, .null, .null]))] s.heap := hP
  have hS : va_S A s.heap s.heap [] := hS
  obtain ⟨H, hHe⟩ : ∃ H : Heap, H = s.heap := ⟨_, rfl⟩
  obtain ⟨locs, hLe⟩ : ∃ L : List Loc, L = [] := ⟨_, rfl⟩
  have hP : va_P g.1 vwCl [(y, .inr (1, [.int (iI 0), .int (iI 0), .null, .null, .null, .null, .null]))] H := by rw [hHe]; exact hP
  have hS : va_S A s.heap H locs := by rw [hHe, hLe]; exact hS
  suffices hgo : W p l e ({ frames := 2, cells := 8, slots := 240, locals := 41 } : Room) s m [.ref y].toArray below meth c H locs 0 0 (MQ below (CQ g (q_X1_init g y) A) [.ref y].toArray s ({ frames := 2, cells := 8, slots := 240, locals := 41 } : Room).cells ({ frames := 2, cells := 8, slots := 240, locals := 41 } : Room).slots A) (F0 m 0 ls []) by rw [hHe, hLe] at hgo; exact hgo
  clear hHe hLe
  refine lv_aload_n hx hb dX1_init_0 rfl (lv_at hl 0 rfl) ?_
  refine W.objInit hx hb hown (hts _ (List.mem_of_getElem? (i := 1) rfl)) (hts _ (List.mem_of_getElem? (i := 2) rfl)) (hts _ (List.mem_of_getElem? (i := 3) rfl)) rfl (by rw [hml]; exact hl.1) rfl dX1_init_1 (Nat.le_of_ble_eq_true rfl) (Nat.le_of_ble_eq_true rfl) ?_
  refine W.eq (g2 := F0 m 4 ls []) rfl ?_
  refine lv_aload_n hx hb dX1_init_4 rfl (lv_at hl 0 rfl) ?_
  refine lv_iconst (v := iI (0)) hx hb dX1_init_5 rfl ?_
  refine va_put (D := g.1) (ci := 1) (v := .int (iI 0)) hx hb hts kX1_init_1 tyX1 tyX1_ok nmX1 hown hG.1 hP hD hS 0 rfl rfl 0 (by decide) (hts _ (List.mem_of_getElem? (i := 4) rfl)) (fun _ h9 => h9) rfl (tyX1_ok 0 (by decide)) rfl rfl (Nat.le_of_ble_eq_true rfl) dX1_init_6 (fun H locs hP hD hS => ?_)
  have hP : va_P g.1 vwCl [(y, .inr (1, [.int (iI 0), .int (iI 0), .null, .null, .null, .null, .null]))] H := hP
  have hD : va_D A [(y, .inr (1, [.int (iI 0), .int (iI 0), .null, .null, .null, .null, .null]))] := hD
  refine lv_aload_n hx hb dX1_init_9 rfl (lv_at hl 0 rfl) ?_
  refine lv_iconst (v := iI (0)) hx hb dX1_init_10 rfl ?_
  refine va_put (D := g.1) (ci := 1) (v := .int (iI 0)) hx hb hts kX1_init_1 tyX1 tyX1_ok nmX1 hown hG.1 hP hD hS 0 rfl rfl 1 (by decide) (hts _ (List.mem_of_getElem? (i := 5) rfl)) (fun _ h9 => h9) rfl (tyX1_ok 1 (by decide)) rfl rfl (Nat.le_of_ble_eq_true rfl) dX1_init_11 (fun H locs hP hD hS => ?_)
  have hP : va_P g.1 vwCl [(y, .inr (1, [.int (iI 0), .int (iI 0), .null, .null, .null, .null, .null]))] H := hP
  have hD : va_D A [(y, .inr (1, [.int (iI 0), .int (iI 0), .null, .null, .null, .null, .null]))] := hD
  refine lv_aload_n hx hb dX1_init_14 rfl (lv_at hl 0 rfl) ?_
  refine va_new (ci := 2) (fs := [.null, .null, .null]) hx hb hts kX1_init_2 tyX2 tyX2_ok hown (hts _ (List.mem_of_getElem? (i := 6) rfl)) (hts _ (List.mem_of_getElem? (i := 7) rfl)) (hts _ (List.mem_of_getElem? (i := 8) rfl)) hG.1 hP hD hS hA rfl (fun j hj => by rcases (show j = 0 ∨ j = 1 ∨ j = 2 by omega) with rfl | rfl | rfl <;> first | rfl | decide) (Nat.le_of_ble_eq_true rfl) (Nat.le_of_ble_eq_true rfl) dX1_init_15 (fun q1 H hP hD hS => ?_)
  have hP : va_P g.1 vwCl [(y, .inr (1, [.int (iI 0), .int (iI 0), .null, .null, .null, .null, .null])), (q1, .inr (2, [.null, .null, .null]))] H := hP
  have hD : va_D A [(y, .inr (1, [.int (iI 0), .int (iI 0), .null, .null, .null, .null, .null])), (q1, .inr (2, [.null, .null, .null]))] := hD
  refine W.widen (k := 1) (n := 3) (Nat.le_of_ble_eq_true rfl) (Nat.le_of_ble_eq_true rfl) ?_
  refine lv_dup hx hb dX1_init_18 rfl ?_
  refine Ct.callI (As := []) (rest := [.ref q1, .ref y]) (wr := [(y, .inr (1, [.int (iI 0), .int (iI 0), .null, .null, .null, .null, .null]))]) (c1 := 4) (s1 := 27) ⟨hx, hb, hml, hown, hts⟩ (c_X2_init l g q1 ) (cwI 0 hts gX1_init_X2_init rfl rfl rfl (hts _ (List.mem_of_getElem? (i := 8) rfl)) (hts _ (List.mem_of_getElem? (i := 16) rfl)) (hts _ (List.mem_of_getElem? (i := 17) rfl)) rfl (by decide +kernel) ⟨Nat.le_of_ble_eq_true rfl, Nat.le_of_ble_eq_true rfl⟩) hG hP hD hS hA [1] [0] rfl rfl (by decide) (by decide) (by decide) rfl hl.1 rfl (Nat.le_of_ble_eq_true rfl) dX1_init_19 ⟨Nat.le_of_ble_eq_true rfl, Nat.le_of_ble_eq_true rfl⟩ rfl rfl (fun v w H locs hv hP hD hS => ?_)
  obtain ⟨u12, u23, u34, rfl, rfl⟩ := hv
  show W p l e _ s m _ below meth c H locs 4 27 _ (F0 m 22 ls [.ref q1, .ref y])
  have hP : va_P g.1 vwCl [(y, .inr (1, [.int (iI 0), .int (iI 0), .null, .null, .null, .null, .null])), (q1, .inr (2, [.ref u12, .ref u23, .ref u34])), (u12, aI (g.2.1 0) 8 (fun _ => (-1))), (u23, aI (g.2.1 1) 8 (fun _ => 0)), (u34, aI (g.2.1 0) 8 (fun _ => 8))] H := hP
  have hD : va_D A [(y, .inr (1, [.int (iI 0), .int (iI 0), .null, .null, .null, .null, .null])), (q1, .inr (2, [.ref u12, .ref u23, .ref u34])), (u12, aI (g.2.1 0) 8 (fun _ => (-1))), (u23, aI (g.2.1 1) 8 (fun _ => 0)), (u34, aI (g.2.1 0) 8 (fun _ => 8))] := hD
  refine va_putF (D := g.1) (ci := 1) (v := .ref q1) hx hb hts kX1_init_1 tyX1 tyX1_ok nmX1 hown hG.1 hP hD hS 0 rfl rfl 2 (by decide) (hts _ (List.mem_of_getElem? (i := 9) rfl)) (fun _ h9 => h9) rfl hnm rfl (tyX1_ok 2 (by decide)) rfl rfl (Nat.le_of_ble_eq_true rfl) dX1_init_22 (fun H locs hP hD hS => ?_)
  have hP : va_P g.1 vwCl [(y, .inr (1, [.int (iI 0), .int (iI 0), .ref q1, .null, .null, .null, .null])), (q1, .inr (2, [.ref u12, .ref u23, .ref u34])), (u12, aI (g.2.1 0) 8 (fun _ => (-1))), (u23, aI (g.2.1 1) 8 (fun _ => 0)), (u34, aI (g.2.1 0) 8 (fun _ => 8))] H := hP
  have hD : va_D A [(y, .inr (1, [.int (iI 0), .int (iI 0), .ref q1, .null, .null, .null, .null])), (q1, .inr (2, [.ref u12, .ref u23, .ref u34])), (u12, aI (g.2.1 0) 8 (fun _ => (-1))), (u23, aI (g.2.1 1) 8 (fun _ => 0)), (u34, aI (g.2.1 0) 8 (fun _ => 8))] := hD
  refine lv_aload_n hx hb dX1_init_25 rfl (lv_at hl 0 rfl) ?_
  refine lv_bipush (v := iI (40)) hx hb dX1_init_26 (by decide) ?_
  refine iv_newai (N := 40) hx hb (hts _ (List.mem_of_getElem? (i := 10) rfl)) hG hP hD hS hA (by decide) (Nat.le_of_ble_eq_true rfl) (Nat.le_of_ble_eq_true rfl) dX1_init_28 (fun q5 H hP hD hS => ?_)
  have hP : va_P g.1 vwCl [(y, .inr (1, [.int (iI 0), .int (iI 0), .ref q1, .null, .null, .null, .null])), (q1, .inr (2, [.ref u12, .ref u23, .ref u34])), (u12, aI (g.2.1 0) 8 (fun _ => (-1))), (u23, aI (g.2.1 1) 8 (fun _ => 0)), (u34, aI (g.2.1 0) 8 (fun _ => 8)), (q5, aI (g.2.1 0) 40 (fun _ => 0))] H := hP
  have hD : va_D A [(y, .inr (1, [.int (iI 0), .int (iI 0), .ref q1, .null, .null, .null, .null])), (q1, .inr (2, [.ref u12, .ref u23, .ref u34])), (u12, aI (g.2.1 0) 8 (fun _ => (-1))), (u23, aI (g.2.1 1) 8 (fun _ => 0)), (u34, aI (g.2.1 0) 8 (fun _ => 8)), (q5, aI (g.2.1 0) 40 (fun _ => 0))] := hD
  refine W.widen (k := 5) (n := 67) (Nat.le_of_ble_eq_true rfl) (Nat.le_of_ble_eq_true rfl) ?_
  refine va_putF (D := g.1) (ci := 1) (v := .ref q5) hx hb hts kX1_init_1 tyX1 tyX1_ok nmX1 hown hG.1 hP hD hS 0 rfl rfl 3 (by decide) (hts _ (List.mem_of_getElem? (i := 11) rfl)) (fun _ h9 => h9) rfl hnm rfl (tyX1_ok 3 (by decide)) rfl rfl (Nat.le_of_ble_eq_true rfl) dX1_init_30 (fun H locs hP hD hS => ?_)
  have hP : va_P g.1 vwCl [(y, .inr (1, [.int (iI 0), .int (iI 0), .ref q1, .ref q5, .null, .null, .null])), (q1, .inr (2, [.ref u12, .ref u23, .ref u34])), (u12, aI (g.2.1 0) 8 (fun _ => (-1))), (u23, aI (g.2.1 1) 8 (fun _ => 0)), (u34, aI (g.2.1 0) 8 (fun _ => 8)), (q5, aI (g.2.1 0) 40 (fun _ => 0))] H := hP
  have hD : va_D A [(y, .inr (1, [.int (iI 0), .int (iI 0), .ref q1, .ref q5, .null, .null, .null])), (q1, .inr (2, [.ref u12, .ref u23, .ref u34])), (u12, aI (g.2.1 0) 8 (fun _ => (-1))), (u23, aI (g.2.1 1) 8 (fun _ => 0)), (u34, aI (g.2.1 0) 8 (fun _ => 8)), (q5, aI (g.2.1 0) 40 (fun _ => 0))] := hD
  refine lv_aload_n hx hb dX1_init_33 rfl (lv_at hl 0 rfl) ?_
  refine lv_bipush (v := iI (40)) hx hb dX1_init_34 (by decide) ?_
  refine iv_newaz (N := 40) hx hb (hts _ (List.mem_of_getElem? (i := 12) rfl)) hG hP hD hS hA (by decide) (Nat.le_of_ble_eq_true rfl) (Nat.le_of_ble_eq_true rfl) dX1_init_36 (fun q6 H hP hD hS => ?_)
  have hP : va_P g.1 vwCl [(y, .inr (1, [.int (iI 0), .int (iI 0), .ref q1, .ref q5, .null, .null, .null])), (q1, .inr (2, [.ref u12, .ref u23, .ref u34])), (u12, aI (g.2.1 0) 8 (fun _ => (-1))), (u23, aI (g.2.1 1) 8 (fun _ => 0)), (u34, aI (g.2.1 0) 8 (fun _ => 8)), (q5, aI (g.2.1 0) 40 (fun _ => 0)), (q6, aI (g.2.1 1) 40 (fun _ => 0))] H := hP
  have hD : va_D A [(y, .inr (1, [.int (iI 0), .int (iI 0), .ref q1, .ref q5, .null, .null, .null])), (q1, .inr (2, [.ref u12, .ref u23, .ref u34])), (u12, aI (g.2.1 0) 8 (fun _ => (-1))), (u23, aI (g.2.1 1) 8 (fun _ => 0)), (u34, aI (g.2.1 0) 8 (fun _ => 8)), (q5, aI (g.2.1 0) 40 (fun _ => 0)), (q6, aI (g.2.1 1) 40 (fun _ => 0))] := hD
  refine W.widen (k := 6) (n := 107) (Nat.le_of_ble_eq_true rfl) (Nat.le_of_ble_eq_true rfl) ?_
  refine va_putF (D := g.1) (ci := 1) (v := .ref q6) hx hb hts kX1_init_1 tyX1 tyX1_ok nmX1 hown hG.1 hP hD hS 0 rfl rfl 4 (by decide) (hts _ (List.mem_of_getElem? (i := 13) rfl)) (fun _ h9 => h9) rfl hnm rfl (tyX1_ok 4 (by decide)) rfl rfl (Nat.le_of_ble_eq_true rfl) dX1_init_38 (fun H locs hP hD hS => ?_)
  have hP : va_P g.1 vwCl [(y, .inr (1, [.int (iI 0), .int (iI 0), .ref q1, .ref q5, .ref q6, .null, .null])), (q1, .inr (2, [.ref u12, .ref u23, .ref u34])), (u12, aI (g.2.1 0) 8 (fun _ => (-1))), (u23, aI (g.2.1 1) 8 (fun _ => 0)), (u34, aI (g.2.1 0) 8 (fun _ => 8)), (q5, aI (g.2.1 0) 40 (fun _ => 0)), (q6, aI (g.2.1 1) 40 (fun _ => 0))] H := hP
  have hD : va_D A [(y, .inr (1, [.int (iI 0), .int (iI 0), .ref q1, .ref q5, .ref q6, .null, .null])), (q1, .inr (2, [.ref u12, .ref u23, .ref u34])), (u12, aI (g.2.1 0) 8 (fun _ => (-1))), (u23, aI (g.2.1 1) 8 (fun _ => 0)), (u34, aI (g.2.1 0) 8 (fun _ => 8)), (q5, aI (g.2.1 0) 40 (fun _ => 0)), (q6, aI (g.2.1 1) 40 (fun _ => 0))] := hD
  refine lv_aload_n hx hb dX1_init_41 rfl (lv_at hl 0 rfl) ?_
  refine lv_bipush (v := iI (40)) hx hb dX1_init_42 (by decide) ?_
  refine iv_newaz (N := 40) hx hb (hts _ (List.mem_of_getElem? (i := 12) rfl)) hG hP hD hS hA (by decide) (Nat.le_of_ble_eq_true rfl) (Nat.le_of_ble_eq_true rfl) dX1_init_44 (fun q7 H hP hD hS => ?_)
  have hP : va_P g.1 vwCl [(y, .inr (1, [.int (iI 0), .int (iI 0), .ref q1, .ref q5, .ref q6, .null, .null])), (q1, .inr (2, [.ref u12, .ref u23, .ref u34])), (u12, aI (g.2.1 0) 8 (fun _ => (-1))), (u23, aI (g.2.1 1) 8 (fun _ => 0)), (u34, aI (g.2.1 0) 8 (fun _ => 8)), (q5, aI (g.2.1 0) 40 (fun _ => 0)), (q6, aI (g.2.1 1) 40 (fun _ => 0)), (q7, aI (g.2.1 1) 40 (fun _ => 0))] H := hP
  have hD : va_D A [(y, .inr (1, [.int (iI 0), .int (iI 0), .ref q1, .ref q5, .ref q6, .null, .null])), (q1, .inr (2, [.ref u12, .ref u23, .ref u34])), (u12, aI (g.2.1 0) 8 (fun _ => (-1))), (u23, aI (g.2.1 1) 8 (fun _ => 0)), (u34, aI (g.2.1 0) 8 (fun _ => 8)), (q5, aI (g.2.1 0) 40 (fun _ => 0)), (q6, aI (g.2.1 1) 40 (fun _ => 0)), (q7, aI (g.2.1 1) 40 (fun _ => 0))] := hD
  refine W.widen (k := 7) (n := 147) (Nat.le_of_ble_eq_true rfl) (Nat.le_of_ble_eq_true rfl) ?_
  refine va_putF (D := g.1) (ci := 1) (v := .ref q7) hx hb hts kX1_init_1 tyX1 tyX1_ok nmX1 hown hG.1 hP hD hS 0 rfl rfl 5 (by decide) (hts _ (List.mem_of_getElem? (i := 14) rfl)) (fun _ h9 => h9) rfl hnm rfl (tyX1_ok 5 (by decide)) rfl rfl (Nat.le_of_ble_eq_true rfl) dX1_init_46 (fun H locs hP hD hS => ?_)
  have hP : va_P g.1 vwCl [(y, .inr (1, [.int (iI 0), .int (iI 0), .ref q1, .ref q5, .ref q6, .ref q7, .null])), (q1, .inr (2, [.ref u12, .ref u23, .ref u34])), (u12, aI (g.2.1 0) 8 (fun _ => (-1))), (u23, aI (g.2.1 1) 8 (fun _ => 0)), (u34, aI (g.2.1 0) 8 (fun _ => 8)), (q5, aI (g.2.1 0) 40 (fun _ => 0)), (q6, aI (g.2.1 1) 40 (fun _ => 0)), (q7, aI (g.2.1 1) 40 (fun _ => 0))] H := hP
  have hD : va_D A [(y, .inr (1, [.int (iI 0), .int (iI 0), .ref q1, .ref q5, .ref q6, .ref q7, .null])), (q1, .inr (2, [.ref u12, .ref u23, .ref u34])), (u12, aI (g.2.1 0) 8 (fun _ => (-1))), (u23, aI (g.2.1 1) 8 (fun _ => 0)), (u34, aI (g.2.1 0) 8 (fun _ => 8)), (q5, aI (g.2.1 0) 40 (fun _ => 0)), (q6, aI (g.2.1 1) 40 (fun _ => 0)), (q7, aI (g.2.1 1) 40 (fun _ => 0))] := hD
  refine lv_aload_n hx hb dX1_init_49 rfl (lv_at hl 0 rfl) ?_
  refine va_getsN hx hb hG.2.2.1.1 hS hown (va_Nw.use rfl hG.2.1.2.1) (fun _ h9 => h9) dX1_init_50 ?_
  refine iv_tlen hx hb hG.2.2.1 hS dX1_init_53 ?_
  refine iv_as 93 rfl ?_
  refine iv_newai (N := 93) hx hb (hts _ (List.mem_of_getElem? (i := 10) rfl)) hG hP hD hS hA (by decide) (Nat.le_of_ble_eq_true rfl) (Nat.le_of_ble_eq_true rfl) dX1_init_54 (fun q8 H hP hD hS => ?_)
  have hP : va_P g.1 vwCl [(y, .inr (1, [.int (iI 0), .int (iI 0), .ref q1, .ref q5, .ref q6, .ref q7, .null])), (q1, .inr (2, [.ref u12, .ref u23, .ref u34])), (u12, aI (g.2.1 0) 8 (fun _ => (-1))), (u23, aI (g.2.1 1) 8 (fun _ => 0)), (u34, aI (g.2.1 0) 8 (fun _ => 8)), (q5, aI (g.2.1 0) 40 (fun _ => 0)), (q6, aI (g.2.1 1) 40 (fun _ => 0)), (q7, aI (g.2.1 1) 40 (fun _ => 0)), (q8, aI (g.2.1 0) 93 (fun _ => 0))] H := hP
  have hD : va_D A [(y, .inr (1, [.int (iI 0), .int (iI 0), .ref q1, .ref q5, .ref q6, .ref q7, .null])), (q1, .inr (2, [.ref u12, .ref u23, .ref u34])), (u12, aI (g.2.1 0) 8 (fun _ => (-1))), (u23, aI (g.2.1 1) 8 (fun _ => 0)), (u34, aI (g.2.1 0) 8 (fun _ => 8)), (q5, aI (g.2.1 0) 40 (fun _ => 0)), (q6, aI (g.2.1 1) 40 (fun _ => 0)), (q7, aI (g.2.1 1) 40 (fun _ => 0)), (q8, aI (g.2.1 0) 93 (fun _ => 0))] := hD
  refine W.widen (k := 8) (n := 240) (Nat.le_of_ble_eq_true rfl) (Nat.le_of_ble_eq_true rfl) ?_
  refine va_putF (D := g.1) (ci := 1) (v := .ref q8) hx hb hts kX1_init_1 tyX1 tyX1_ok nmX1 hown hG.1 hP hD hS 0 rfl rfl 6 (by decide) (hts _ (List.mem_of_getElem? (i := 15) rfl)) (fun _ h9 => h9) rfl hnm rfl (tyX1_ok 6 (by decide)) rfl rfl (Nat.le_of_ble_eq_true rfl) dX1_init_56 (fun H locs hP hD hS => ?_)
  have hP : va_P g.1 vwCl [(y, .inr (1, [.int (iI 0), .int (iI 0), .ref q1, .ref q5, .ref q6, .ref q7, .ref q8])), (q1, .inr (2, [.ref u12, .ref u23, .ref u34])), (u12, aI (g.2.1 0) 8 (fun _ => (-1))), (u23, aI (g.2.1 1) 8 (fun _ => 0)), (u34, aI (g.2.1 0) 8 (fun _ => 8)), (q5, aI (g.2.1 0) 40 (fun _ => 0)), (q6, aI (g.2.1 1) 40 (fun _ => 0)), (q7, aI (g.2.1 1) 40 (fun _ => 0)), (q8, aI (g.2.1 0) 93 (fun _ => 0))] H := hP
  have hD : va_D A [(y, .inr (1, [.int (iI 0), .int (iI 0), .ref q1, .ref q5, .ref q6, .ref q7, .ref q8])), (q1, .inr (2, [.ref u12, .ref u23, .ref u34])), (u12, aI (g.2.1 0) 8 (fun _ => (-1))), (u23, aI (g.2.1 1) 8 (fun _ => 0)), (u34, aI (g.2.1 0) 8 (fun _ => 8)), (q5, aI (g.2.1 0) 40 (fun _ => 0)), (q6, aI (g.2.1 1) 40 (fun _ => 0)), (q7, aI (g.2.1 1) 40 (fun _ => 0)), (q8, aI (g.2.1 0) 93 (fun _ => 0))] := hD
  exact Ct.vret hx hb hr hlocks (hP.sub [0, 1, 2, 3, 4, 5, 6, 7, 8] rfl) (hD.sub [0, 1, 2, 3, 4, 5, 6, 7, 8] (by decide) rfl) hS ⟨by decide, by decide⟩ dX1_init_59 ⟨q1, q5, q6, q7, q8, u12, u23, u34, rfl, rfl⟩
