theorem kX0_init_0 : ∀ w ∈ u_ws RX0 TX0 3, w ∈ wsX0_init := fun _ h => List.mem_cons_of_mem _ (List.mem_append_right _ h)
abbrev q_X0_init (g : GT) (y : Nat) : Option Value → va_W → Prop := fun v w => ∃ (u1' : Nat), ∃ (u2' : Nat), ∃ (u3' : Nat), v = none ∧ w = [(y, .inr (0, [.ref u1', .ref u2', .ref u3'])), (u1', aI (g.2.1 0) 8 (fun _ => 0)), (u2', aI (g.2.1 0) 8 (fun _ => 0)), (u3', aI (g.2.1 0) 8 (fun _ => 0))]
set_option maxHeartbeats 4000000 in
set_option maxRecDepth 100000 in
theorem c_X0_init (l : Launch) (g : GT) (y : Nat) : Ct l g yX0_init wsX0_init ({ frames := 1, cells := 3, slots := 24, locals := 12 } : Room) [.ref y] [(y, .inr (0, [.null, .null, .null]))] (q_X0_init g y) := by
  refine Ct.intro (maxL := 1) (ret := none) (by decide) rfl (Nat.le_of_ble_eq_true rfl) ?_
  intro p e s m below meth c A ls hx hb hr hml hown hts hlocks hnm hA hG hP hD hS hl
  have hown : s.vm.findClass RX0 = some m.cls := hown
  have hl : lv_has ls 1 [(0, .ref y)] := hl
  have hP : va_P g.1 vwCl [(y, .inr (0, [.null, .null, .null]))] s.heap := hP
  have hS : va_S A s.heap s.heap [] := hS
  obtain ⟨H, hHe⟩ : ∃ H : Heap, H = s.heap := ⟨_, rfl⟩
  obtain ⟨locs, hLe⟩ : ∃ L : List Loc, L = [] := ⟨_, rfl⟩
  have hP : va_P g.1 vwCl [(y, .inr (0, [.null, .null, .null]))] H := by rw [hHe]; exact hP
  have hS : va_S A s.heap H locs := by rw [hHe, hLe]; exact hS
  suffices hgo : W p l e ({ frames := 1, cells := 3, slots := 24, locals := 12 } : Room) s m [.ref y].toArray below meth c H locs 0 0 (MQ below (CQ g (q_X0_init g y) A) [.ref y].toArray s ({ frames := 1, cells := 3, slots := 24, locals := 12 } : Room).cells ({ frames := 1, cells := 3, slots := 24, locals := 12 } : Room).slots A) (F0 m 0 ls []) by rw [hHe, hLe] at hgo; exact hgo
  clear hHe hLe
  refine lv_aload_n hx hb dX0_init_0 rfl (lv_at hl 0 rfl) ?_
  refine W.objInit hx hb hown (hts _ (List.mem_of_getElem? (i := 1) rfl)) (hts _ (List.mem_of_getElem? (i := 2) rfl)) (hts _ (List.mem_of_getElem? (i := 3) rfl)) rfl (by rw [hml]; exact hl.1) rfl dX0_init_1 (Nat.le_of_ble_eq_true rfl) (Nat.le_of_ble_eq_true rfl) ?_
  refine W.eq (g2 := F0 m 4 ls []) rfl ?_
  refine lv_aload_n hx hb dX0_init_4 rfl (lv_at hl 0 rfl) ?_
  refine lv_bipush (v := iI (8)) hx hb dX0_init_5 (by decide) ?_
  refine iv_newai (N := 8) hx hb (hts _ (List.mem_of_getElem? (i := 4) rfl)) hG hP hD hS hA (by decide) (Nat.le_of_ble_eq_true rfl) (Nat.le_of_ble_eq_true rfl) dX0_init_7 (fun q1 H hP hD hS => ?_)
  have hP : va_P g.1 vwCl [(y, .inr (0, [.null, .null, .null])), (q1, aI (g.2.1 0) 8 (fun _ => 0))] H := hP
  have hD : va_D A [(y, .inr (0, [.null, .null, .null])), (q1, aI (g.2.1 0) 8 (fun _ => 0))] := hD
  refine W.widen (k := 1) (n := 8) (Nat.le_of_ble_eq_true rfl) (Nat.le_of_ble_eq_true rfl) ?_
  refine va_putF (D := g.1) (ci := 0) (v := .ref q1) hx hb hts kX0_init_0 tyX0 tyX0_ok nmX0 hown hG.1 hP hD hS 0 rfl rfl 0 (by decide) (hts _ (List.mem_of_getElem? (i := 5) rfl)) (fun _ h9 => h9) rfl hnm rfl (tyX0_ok 0 (by decide)) rfl rfl (Nat.le_of_ble_eq_true rfl) dX0_init_9 (fun H locs hP hD hS => ?_)
  have hP : va_P g.1 vwCl [(y, .inr (0, [.ref q1, .null, .null])), (q1, aI (g.2.1 0) 8 (fun _ => 0))] H := hP
  have hD : va_D A [(y, .inr (0, [.ref q1, .null, .null])), (q1, aI (g.2.1 0) 8 (fun _ => 0))] := hD
  refine lv_aload_n hx hb dX0_init_12 rfl (lv_at hl 0 rfl) ?_
  refine lv_bipush (v := iI (8)) hx hb dX0_init_13 (by decide) ?_
  refine iv_newai (N := 8) hx hb (hts _ (List.mem_of_getElem? (i := 4) rfl)) hG hP hD hS hA (by decide) (Nat.le_of_ble_eq_true rfl) (Nat.le_of_ble_eq_true rfl) dX0_init_15 (fun q2 H hP hD hS => ?_)
  have hP : va_P g.1 vwCl [(y, .inr (0, [.ref q1, .null, .null])), (q1, aI (g.2.1 0) 8 (fun _ => 0)), (q2, aI (g.2.1 0) 8 (fun _ => 0))] H := hP
  have hD : va_D A [(y, .inr (0, [.ref q1, .null, .null])), (q1, aI (g.2.1 0) 8 (fun _ => 0)), (q2, aI (g.2.1 0) 8 (fun _ => 0))] := hD
  refine W.widen (k := 2) (n := 16) (Nat.le_of_ble_eq_true rfl) (Nat.le_of_ble_eq_true rfl) ?_
  refine va_putF (D := g.1) (ci := 0) (v := .ref q2) hx hb hts kX0_init_0 tyX0 tyX0_ok nmX0 hown hG.1 hP hD hS 0 rfl rfl 1 (by decide) (hts _ (List.mem_of_getElem? (i := 6) rfl)) (fun _ h9 => h9) rfl hnm rfl (tyX0_ok 1 (by decide)) rfl rfl (Nat.le_of_ble_eq_true rfl) dX0_init_17 (fun H locs hP hD hS => ?_)
  have hP : va_P g.1 vwCl [(y, .inr (0, [.ref q1, .ref q2, .null])), (q1, aI (g.2.1 0) 8 (fun _ => 0)), (q2, aI (g.2.1 0) 8 (fun _ => 0))] H := hP
  have hD : va_D A [(y, .inr (0, [.ref q1, .ref q2, .null])), (q1, aI (g.2.1 0) 8 (fun _ => 0)), (q2, aI (g.2.1 0) 8 (fun _ => 0))] := hD
  refine lv_aload_n hx hb dX0_init_20 rfl (lv_at hl 0 rfl) ?_
  refine lv_bipush (v := iI (8)) hx hb dX0_init_21 (by decide) ?_
  refine iv_newai (N := 8) hx hb (hts _ (List.mem_of_getElem? (i := 4) rfl)) hG hP hD hS hA (by decide) (Nat.le_of_ble_eq_true rfl) (Nat.le_of_ble_eq_true rfl) dX0_init_23 (fun q3 H hP hD hS => ?_)
  have hP : va_P g.1 vwCl [(y, .inr (0, [.ref q1, .ref q2, .null])), (q1, aI (g.2.1 0) 8 (fun _ => 0)), (q2, aI (g.2.1 0) 8 (fun _ => 0)), (q3, aI (g.2.1 0) 8 (fun _ => 0))] H := hP
  have hD : va_D A [(y, .inr (0, [.ref q1, .ref q2, .null])), (q1, aI (g.2.1 0) 8 (fun _ => 0)), (q2, aI (g.2.1 0) 8 (fun _ => 0)), (q3, aI (g.2.1 0) 8 (fun _ => 0))] := hD
  refine W.widen (k := 3) (n := 24) (Nat.le_of_ble_eq_true rfl) (Nat.le_of_ble_eq_true rfl) ?_
  refine va_putF (D := g.1) (ci := 0) (v := .ref q3) hx hb hts kX0_init_0 tyX0 tyX0_ok nmX0 hown hG.1 hP hD hS 0 rfl rfl 2 (by decide) (hts _ (List.mem_of_getElem? (i := 7) rfl)) (fun _ h9 => h9) rfl hnm rfl (tyX0_ok 2 (by decide)) rfl rfl (Nat.le_of_ble_eq_true rfl) dX0_init_25 (fun H locs hP hD hS => ?_)
  have hP : va_P g.1 vwCl [(y, .inr (0, [.ref q1, .ref q2, .ref q3])), (q1, aI (g.2.1 0) 8 (fun _ => 0)), (q2, aI (g.2.1 0) 8 (fun _ => 0)), (q3, aI (g.2.1 0) 8 (fun _ => 0))] H := hP
  have hD : va_D A [(y, .inr (0, [.ref q1, .ref q2, .ref q3])), (q1, aI (g.2.1 0) 8 (fun _ => 0)), (q2, aI (g.2.1 0) 8 (fun _ => 0)), (q3, aI (g.2.1 0) 8 (fun _ => 0))] := hD
  exact Ct.vret hx hb hr hlocks (hP.sub [0, 1, 2, 3] rfl) (hD.sub [0, 1, 2, 3] (by decide) rfl) hS ⟨by decide, by decide⟩ dX0_init_28 ⟨q1, q2, q3, rfl, rfl⟩
theorem kX2_init_2 : ∀ w ∈ u_ws RX2 TX2 3, w ∈ wsX2_init := fun _ h => List.mem_cons_of_mem _ (List.mem_append_right _ h)
abbrev q_X2_init (g : GT) (y : Nat) : Option Value → va_W → Prop := fun v w => ∃ (u1' : Nat), ∃ (u2' : Nat), ∃ (u3' : Nat), v = none ∧ w = [(y, .inr (2, [.ref u1', .ref u2', .ref u3'])), (u1', aI (g.2.1 0) 8 (fun _ => (-1))), (u2', aI (g.2.1 1) 8 (fun _ => 0)), (u3', aI (g.2.1 0) 8 (fun _ => 8))]
set_option maxHeartbeats 4000000 in
set_option maxRecDepth 100000 in
theorem c_X2_init (l : Launch) (g : GT) (y : Nat) : Ct l g yX2_init wsX2_init ({ frames := 1, cells := 3, slots := 24, locals := 21 } : Room) [.ref y] [(y, .inr (2, [.null, .null, .null]))] (q_X2_init g y) := by
  refine Ct.intro (maxL := 1) (ret := none) (by decide) rfl (Nat.le_of_ble_eq_true rfl) ?_
  intro p e s m below meth c A ls hx hb hr hml hown hts hlocks hnm hA hG hP hD hS hl
  have hown : s.vm.findClass RX2 = some m.cls := hown
  have hl : lv_has ls 1 [(0, .ref y)] := hl
  have hP : va_P g.1 vwCl [(y, .inr (2, [.null, .null, .null]))] s.heap := hP
  have hS : va_S A s.heap s.heap [] := hS
  obtain ⟨H, hHe⟩ : ∃ H : Heap, H = s.heap := ⟨_, rfl⟩
  obtain ⟨locs, hLe⟩ : ∃ L : List Loc, L = [] := ⟨_, rfl⟩
  have hP : va_P g.1 vwCl [(y, .inr (2, [.null, .null, .null]))] H := by rw [hHe]; exact hP
  have hS : va_S A s.heap H locs := by rw [hHe, hLe]; exact hS
  suffices hgo : W p l e ({ frames := 1, cells := 3, slots := 24, locals := 21 } : Room) s m [.ref y].toArray below meth c H locs 0 0 (MQ below (CQ g (q_X2_init g y) A) [.ref y].toArray s ({ frames := 1, cells := 3, slots := 24, locals := 21 } : Room).cells ({ frames := 1, cells := 3, slots := 24, locals := 21 } : Room).slots A) (F0 m 0 ls []) by rw [hHe, hLe] at hgo; exact hgo
  clear hHe hLe
  refine lv_aload_n hx hb dX2_init_0 rfl (lv_at hl 0 rfl) ?_
  refine W.objInit hx hb hown (hts _ (List.mem_of_getElem? (i := 1) rfl)) (hts _ (List.mem_of_getElem? (i := 2) rfl)) (hts _ (List.mem_of_getElem? (i := 3) rfl)) rfl (by rw [hml]; exact hl.1) rfl dX2_init_1 (Nat.le_of_ble_eq_true rfl) (Nat.le_of_ble_eq_true rfl) ?_
  refine W.eq (g2 := F0 m 4 ls []) rfl ?_
  refine lv_aload_n hx hb dX2_init_4 rfl (lv_at hl 0 rfl) ?_
  refine lv_bipush (v := iI (8)) hx hb dX2_init_5 (by decide) ?_
  refine iv_newai (N := 8) hx hb (hts _ (List.mem_of_getElem? (i := 4) rfl)) hG hP hD hS hA (by decide) (Nat.le_of_ble_eq_true rfl) (Nat.le_of_ble_eq_true rfl) dX2_init_7 (fun q1 H hP hD hS => ?_)
  have hP : va_P g.1 vwCl [(y, .inr (2, [.null, .null, .null])), (q1, aI (g.2.1 0) 8 (fun _ => 0))] H := hP
  have hD : va_D A [(y, .inr (2, [.null, .null, .null])), (q1, aI (g.2.1 0) 8 (fun _ => 0))] := hD
  refine W.widen (k := 1) (n := 8) (Nat.le_of_ble_eq_true rfl) (Nat.le_of_ble_eq_true rfl) ?_
  refine va_putF (D := g.1) (ci := 2) (v := .ref q1) hx hb hts kX2_init_2 tyX2 tyX2_ok nmX2 hown hG.1 hP hD hS 0 rfl rfl 0 (by decide) (hts _ (List.mem_of_getElem? (i := 5) rfl)) (fun _ h9 => h9) rfl hnm rfl (tyX2_ok 0 (by decide)) rfl rfl (Nat.le_of_ble_eq_true rfl) dX2_init_9 (fun H locs hP hD hS => ?_)
  have hP : va_P g.1 vwCl [(y, .inr (2, [.ref q1, .null, .null])), (q1, aI (g.2.1 0) 8 (fun _ => 0))] H := hP
  have hD : va_D A [(y, .inr (2, [.ref q1, .null, .null])), (q1, aI (g.2.1 0) 8 (fun _ => 0))] := hD
  refine lv_aload_n hx hb dX2_init_12 rfl (lv_at hl 0 rfl) ?_
  refine lv_bipush (v := iI (8)) hx hb dX2_init_13 (by decide) ?_
  refine iv_newaz (N := 8) hx hb (hts _ (List.mem_of_getElem? (i := 6) rfl)) hG hP hD hS hA (by decide) (Nat.le_of_ble_eq_true rfl) (Nat.le_of_ble_eq_true rfl) dX2_init_15 (fun q2 H hP hD hS => ?_)
  have hP : va_P g.1 vwCl [(y, .inr (2, [.ref q1, .null, .null])), (q1, aI (g.2.1 0) 8 (fun _ => 0)), (q2, aI (g.2.1 1) 8 (fun _ => 0))] H := hP
  have hD : va_D A [(y, .inr (2, [.ref q1, .null, .null])), (q1, aI (g.2.1 0) 8 (fun _ => 0)), (q2, aI (g.2.1 1) 8 (fun _ => 0))] := hD
  refine W.widen (k := 2) (n := 16) (Nat.le_of_ble_eq_true rfl) (Nat.le_of_ble_eq_true rfl) ?_
  refine va_putF (D := g.1) (ci := 2) (v := .ref q2) hx hb hts kX2_init_2 tyX2 tyX2_ok nmX2 hown hG.1 hP hD hS 0 rfl rfl 1 (by decide) (hts _ (List.mem_of_getElem? (i := 7) rfl)) (fun _ h9 => h9) rfl hnm rfl (tyX2_ok 1 (by decide)) rfl rfl (Nat.le_of_ble_eq_true rfl) dX2_init_17 (fun H locs hP hD hS => ?_)
  have hP : va_P g.1 vwCl [(y, .inr (2, [.ref q1, .ref q2, .null])), (q1, aI (g.2.1 0) 8 (fun _ => 0)), (q2, aI (g.2.1 1) 8 (fun _ => 0))] H := hP
  have hD : va_D A [(y, .inr (2, [.ref q1, .ref q2, .null])), (q1, aI (g.2.1 0) 8 (fun _ => 0)), (q2, aI (g.2.1 1) 8 (fun _ => 0))] := hD
  refine lv_aload_n hx hb dX2_init_20 rfl (lv_at hl 0 rfl) ?_
  refine lv_bipush (v := iI (8)) hx hb dX2_init_21 (by decide) ?_
  refine iv_newai (N := 8) hx hb (hts _ (List.mem_of_getElem? (i := 4) rfl)) hG hP hD hS hA (by decide) (Nat.le_of_ble_eq_true rfl) (Nat.le_of_ble_eq_true rfl) dX2_init_23 (fun q3 H hP hD hS => ?_)
  have hP : va_P g.1 vwCl [(y, .inr (2, [.ref q1, .ref q2, .null])), (q1, aI (g.2.1 0) 8 (fun _ => 0)), (q2, aI (g.2.1 1) 8 (fun _ => 0)), (q3, aI (g.2.1 0) 8 (fun _ => 0))] H := hP
  have hD : va_D A [(y, .inr (2, [.ref q1, .ref q2, .null])), (q1, aI (g.2.1 0) 8 (fun _ => 0)), (q2, aI (g.2.1 1) 8 (fun _ => 0)), (q3, aI (g.2.1 0) 8 (fun _ => 0))] := hD
  refine W.widen (k := 3) (n := 24) (Nat.le_of_ble_eq_true rfl) (Nat.le_of_ble_eq_true rfl) ?_
  refine va_putF (D := g.1) (ci := 2) (v := .ref q3) hx hb hts kX2_init_2 tyX2 tyX2_ok nmX2 hown hG.1 hP hD hS 0 rfl rfl 2 (by decide) (hts _ (List.mem_of_getElem? (i := 8) rfl)) (fun _ h9 => h9) rfl hnm rfl (tyX2_ok 2 (by decide)) rfl rfl (Nat.le_of_ble_eq_true rfl) dX2_init_25 (fun H locs hP hD hS => ?_)
  have hP : va_P g.1 vwCl [(y, .inr (2, [.ref q1, .ref q2, .ref q3])), (q1, aI (g.2.1 0) 8 (fun _ => 0)), (q2, aI (g.2.1 1) 8 (fun _ => 0)), (q3, aI (g.2.1 0) 8 (fun _ => 0))] H := hP
  have hD : va_D A [(y, .inr (2, [.ref q1, .ref q2, .ref q3])), (q1, aI (g.2.1 0) 8 (fun _ => 0)), (q2, aI (g.2.1 1) 8 (fun _ => 0)), (q3, aI (g.2.1 0) 8 (fun _ => 0))] := hD
  refine lv_aload_n hx hb dX2_init_28 rfl (lv_at hl 0 rfl) ?_
  refine Ct.callV (ci := 2) (q0 := 0) (qc := (RX2, TX2, 3)) (As := []) (rest := []) (wr := []) (c1 := 3) (s1 := 24) ⟨hx, hb, hml, hown, hts⟩ (c_X2_forgetZ l g y q1 q2 q3 (fun _ => 0) (fun _ => 0) (fun _ => 0) ) rfl rfl (cwV 0 hts gX2_init_X2_forget rfl rfl rfl (by decide +kernel) ⟨Nat.le_of_ble_eq_true rfl, Nat.le_of_ble_eq_true rfl⟩) hG hP hD hS hA [0, 1, 2, 3] [] rfl rfl (by decide) (by decide) (by decide) rfl hl.1 rfl (Nat.le_of_ble_eq_true rfl) dX2_init_29 ⟨Nat.le_of_ble_eq_true rfl, Nat.le_of_ble_eq_true rfl⟩ rfl rfl (fun v w H locs hv hP hD hS => ?_)
  obtain ⟨rfl, rfl⟩ := hv
  show W p l e _ s m _ below meth c H locs 3 24 _ (F0 m 32 ls [])
  have hP : va_P g.1 vwCl [(y, .inr (2, [.ref q1, .ref q2, .ref q3])), (q1, aI (g.2.1 0) 8 (fun _ => (-1))), (q2, aI (g.2.1 1) 8 (fun _ => 0)), (q3, aI (g.2.1 0) 8 (fun _ => 8))] H := hP
  have hD : va_D A [(y, .inr (2, [.ref q1, .ref q2, .ref q3])), (q1, aI (g.2.1 0) 8 (fun _ => (-1))), (q2, aI (g.2.1 1) 8 (fun _ => 0)), (q3, aI (g.2.1 0) 8 (fun _ => 8))] := hD
  exact Ct.vret hx hb hr hlocks (hP.sub [0, 1, 2, 3] rfl) (hD.sub [0, 1, 2, 3] (by decide) rfl) hS ⟨by decide, by decide⟩ dX2_init_32 ⟨q1, q2, q3, rfl, rfl⟩
theorem kX3_init_3 : ∀ w ∈ u_ws RX3 TX3 3, w ∈ wsX3_init := fun _ h => List.mem_cons_of_mem _ (List.mem_append_right _ h)
abbrev q_X3_init (g : GT) (y : Nat) : Option Value → va_W → Prop := fun v w => ∃ (u1' : Nat), v = none ∧ w = [(y, .inr (3, [.int (iI 0), .ref u1', .int (iI 0)])), (u1', aI (g.2.1 0) 480 (fun _ => 0))]
set_option maxHeartbeats 4000000 in
set_option maxRecDepth 100000 in
theorem c_X3_init (l : Launch) (g : GT) (y : Nat) : Ct l g yX3_init wsX3_init ({ frames := 1, cells := 1, slots := 480, locals := 12 } : Room) [.ref y] [(y, .inr (3, [.int (iI 0), .null, .int (iI 0)]))] (q_X3_init g y) := by
  refine Ct.intro (maxL := 1) (ret := none) (by decide) rfl (Nat.le_of_ble_eq_true rfl) ?_
  intro p e s m below meth c A ls hx hb hr hml hown hts hlocks hnm hA hG hP hD hS hl
  have hown : s.vm.findClass RX3 = some m.cls := hown
  have hl : lv_has ls 1 [(0, .ref y)] := hl
  have hP : va_P g.1 vwCl [(y, .inr (3, [.int (iI 0), .null, .int (iI 0)]))] s.heap := hP
  have hS : va_S A s.heap s.heap [] := hS
  obtain ⟨H, hHe⟩ : ∃ H : Heap, H = s.heap := ⟨_, rfl⟩
  obtain ⟨locs, hLe⟩ : ∃ L : List Loc, L = [] := ⟨_, rfl⟩
  have hP : va_P g.1 vwCl [(y, .inr (3, [.int (iI 0), .null, .int (iI 0)]))] H := by rw [hHe]; exact hP
  have hS : va_S A s.heap H locs := by rw [hHe, hLe]; exact hS
  suffices hgo : W p l e ({ frames := 1, cells := 1, slots := 480, locals := 12 } : Room) s m [.ref y].toArray below meth c H locs 0 0 (MQ below (CQ g (q_X3_init g y) A) [.ref y].toArray s ({ frames := 1, cells := 1, slots := 480, locals := 12 } : Room).cells ({ frames := 1, cells := 1, slots := 480, locals := 12 } : Room).slots A) (F0 m 0 ls []) by rw [hHe, hLe] at hgo; exact hgo
  clear hHe hLe
  refine lv_aload_n hx hb dX3_init_0 rfl (lv_at hl 0 rfl) ?_
  refine W.objInit hx hb hown (hts _ (List.mem_of_getElem? (i := 1) rfl)) (hts _ (List.mem_of_getElem? (i := 2) rfl)) (hts _ (List.mem_of_getElem? (i := 3) rfl)) rfl (by rw [hml]; exact hl.1) rfl dX3_init_1 (Nat.le_of_ble_eq_true rfl) (Nat.le_of_ble_eq_true rfl) ?_
  refine W.eq (g2 := F0 m 4 ls []) rfl ?_
  refine lv_aload_n hx hb dX3_init_4 rfl (lv_at hl 0 rfl) ?_
  refine lv_iconst (v := iI (0)) hx hb dX3_init_5 rfl ?_
  refine va_put (D := g.1) (ci := 3) (v := .int (iI 0)) hx hb hts kX3_init_3 tyX3 tyX3_ok nmX3 hown hG.1 hP hD hS 0 rfl rfl 0 (by decide) (hts _ (List.mem_of_getElem? (i := 4) rfl)) (fun _ h9 => h9) rfl (tyX3_ok 0 (by decide)) rfl rfl (Nat.le_of_ble_eq_true rfl) dX3_init_6 (fun H locs hP hD hS => ?_)
  have hP : va_P g.1 vwCl [(y, .inr (3, [.int (iI 0), .null, .int (iI 0)]))] H := hP
  have hD : va_D A [(y, .inr (3, [.int (iI 0), .null, .int (iI 0)]))] := hD
  refine lv_aload_n hx hb dX3_init_9 rfl (lv_at hl 0 rfl) ?_
  refine lv_sipush (v := iI (480)) hx hb dX3_init_10 (by decide) ?_
  refine iv_newai (N := 480) hx hb (hts _ (List.mem_of_getElem? (i := 5) rfl)) hG hP hD hS hA (by decide) (Nat.le_of_ble_eq_true rfl) (Nat.le_of_ble_eq_true rfl) dX3_init_13 (fun q1 H hP hD hS => ?_)
  have hP : va_P g.1 vwCl [(y, .inr (3, [.int (iI 0), .null, .int (iI 0)])), (q1, aI (g.2.1 0) 480 (fun _ => 0))] H := hP
  have hD : va_D A [(y, .inr (3, [.int (iI 0), .null, .int (iI 0)])), (q1, aI (g.2.1 0) 480 (fun _ => 0))] := hD
  refine W.widen (k := 1) (n := 480) (Nat.le_of_ble_eq_true rfl) (Nat.le_of_ble_eq_true rfl) ?_
  refine va_putF (D := g.1) (ci := 3) (v := .ref q1) hx hb hts kX3_init_3 tyX3 tyX3_ok nmX3 hown hG.1 hP hD hS 0 rfl rfl 1 (by decide) (hts _ (List.mem_of_getElem? (i := 6) rfl)) (fun _ h9 => h9) rfl hnm rfl (tyX3_ok 1 (by decide)) rfl rfl (Nat.le_of_ble_eq_true rfl) dX3_init_15 (fun H locs hP hD hS => ?_)
  have hP : va_P g.1 vwCl [(y, .inr (3, [.int (iI 0), .ref q1, .int (iI 0)])), (q1, aI (g.2.1 0) 480 (fun _ => 0))] H := hP
  have hD : va_D A [(y, .inr (3, [.int (iI 0), .ref q1, .int (iI 0)])), (q1, aI (g.2.1 0) 480 (fun _ => 0))] := hD
  refine lv_aload_n hx hb dX3_init_18 rfl (lv_at hl 0 rfl) ?_
  refine lv_iconst (v := iI (0)) hx hb dX3_init_19 rfl ?_
  refine va_put (D := g.1) (ci := 3) (v := .int (iI 0)) hx hb hts kX3_init_3 tyX3 tyX3_ok nmX3 hown hG.1 hP hD hS 0 rfl rfl 2 (by decide) (hts _ (List.mem_of_getElem? (i := 7) rfl)) (fun _ h9 => h9) rfl (tyX3_ok 2 (by decide)) rfl rfl (Nat.le_of_ble_eq_true rfl) dX3_init_20 (fun H locs hP hD hS => ?_)
  have hP : va_P g.1 vwCl [(y, .inr (3, [.int (iI 0), .ref q1, .int (iI 0)])), (q1, aI (g.2.1 0) 480 (fun _ => 0))] H := hP
  have hD : va_D A [(y, .inr (3, [.int (iI 0), .ref q1, .int (iI 0)])), (q1, aI (g.2.1 0) 480 (fun _ => 0))] := hD
  exact Ct.vret hx hb hr hlocks (hP.sub [0, 1] rfl) (hD.sub [0, 1] (by decide) rfl) hS ⟨by decide, by decide⟩ dX3_init_23 ⟨q1, rfl, rfl⟩
theorem kX4_init_4 : ∀ w ∈ u_ws RX4 TX4 3, w ∈ wsX4_init := fun _ h => List.mem_cons_of_mem _ (List.mem_append_right _ h)
abbrev q_X4_init (g : GT) (y : Nat) : Option Value → va_W → Prop := fun v w => ∃ (u1' : Nat), ∃ (u2' : Nat), ∃ (u3' : Nat), v = none ∧ w = [(y, .inr (4, [.ref u1', .ref u2', .ref u3'])), (u1', aI (g.2.1 0) 3 (fun _ => 0)), (u2', aI (g.2.1 0) 3 (fun _ => 0)), (u3', aI (g.2.1 0) 3 (fun _ => 0))]
set_option maxHeartbeats 4000000 in
set_option maxRecDepth 100000 in
theorem c_X4_init (l : Launch) (g : GT) (y : Nat) : Ct l g yX4_init wsX4_init ({ frames := 1, cells := 3, slots := 9, locals := 12 } : Room) [.ref y] [(y, .inr (4, [.null, .null, .null]))] (q_X4_init g y) := by
  refine Ct.intro (maxL := 1) (ret := none) (by decide) rfl (Nat.le_of_ble_eq_true rfl) ?_
  intro p e s m below meth c A ls hx hb hr hml hown hts hlocks hnm hA hG hP hD hS hl
  have hown : s.vm.findClass RX4 = some m.cls := hown
  have hl : lv_has ls 1 [(0, .ref y)] := hl
  have hP : va_P g.1 vwCl [(y, .inr (4, [.null, .null, .null]))] s.heap := hP
  have hS : va_S A s.heap s.heap [] := hS
  obtain ⟨H, hHe⟩ : ∃ H : Heap, H = s.heap := ⟨_, rfl⟩
  obtain ⟨locs, hLe⟩ : ∃ L : List Loc, L = [] := ⟨_, rfl⟩
  have hP : va_P g.1 vwCl [(y, .inr (4, [.null, .null, .null]))] H := by rw [hHe]; exact hP
  have hS : va_S A s.heap H locs := by rw [hHe, hLe]; exact hS
  suffices hgo : W p l e ({ frames := 1, cells := 3, slots := 9, locals := 12 } : Room) s m [.ref y].toArray below meth c H locs 0 0 (MQ below (CQ g (q_X4_init g y) A) [.ref y].toArray s ({ frames := 1, cells := 3, slots := 9, locals := 12 } : Room).cells ({ frames := 1, cells := 3, slots := 9, locals := 12 } : Room).slots A) (F0 m 0 ls []) by rw [hHe, hLe] at hgo; exact hgo
  clear hHe hLe
  refine lv_aload_n hx hb dX4_init_0 rfl (lv_at hl 0 rfl) ?_
  refine W.objInit hx hb hown (hts _ (List.mem_of_getElem? (i := 1) rfl)) (hts _ (List.mem_of_getElem? (i := 2) rfl)) (hts _ (List.mem_of_getElem? (i := 3) rfl)) rfl (by rw [hml]; exact hl.1) rfl dX4_init_1 (Nat.le_of_ble_eq_true rfl) (Nat.le_of_ble_eq_true rfl) ?_
  refine W.eq (g2 := F0 m 4 ls []) rfl ?_
  refine lv_aload_n hx hb dX4_init_4 rfl (lv_at hl 0 rfl) ?_
  refine lv_iconst (v := iI (3)) hx hb dX4_init_5 rfl ?_
  refine iv_newai (N := 3) hx hb (hts _ (List.mem_of_getElem? (i := 4) rfl)) hG hP hD hS hA (by decide) (Nat.le_of_ble_eq_true rfl) (Nat.le_of_ble_eq_true rfl) dX4_init_6 (fun q1 H hP hD hS => ?_)
  have hP : va_P g.1 vwCl [(y, .inr (4, [.null, .null, .null])), (q1, aI (g.2.1 0) 3 (fun _ => 0))] H := hP
  have hD : va_D A [(y, .inr (4, [.null, .null, .null])), (q1, aI (g.2.1 0) 3 (fun _ => 0))] := hD
  refine W.widen (k := 1) (n := 3) (Nat.le_of_ble_eq_true rfl) (Nat.le_of_ble_eq_true rfl) ?_
  refine va_putF (D := g.1) (ci := 4) (v := .ref q1) hx hb hts kX4_init_4 tyX4 tyX4_ok nmX4 hown hG.1 hP hD hS 0 rfl rfl 0 (by decide) (hts _ (List.mem_of_getElem? (i := 5) rfl)) (fun _ h9 => h9) rfl hnm rfl (tyX4_ok 0 (by decide)) rfl rfl (Nat.le_of_ble_eq_true rfl) dX4_init_8 (fun H locs hP hD hS => ?_)
  have hP : va_P g.1 vwCl [(y, .inr (4, [.ref q1, .null, .null])), (q1, aI (g.2.1 0) 3 (fun _ => 0))] H := hP
  have hD : va_D A [(y, .inr (4, [.ref q1, .null, .null])), (q1, aI (g.2.1 0) 3 (fun _ => 0))] := hD
  refine lv_aload_n hx hb dX4_init_11 rfl (lv_at hl 0 rfl) ?_
  refine lv_iconst (v := iI (3)) hx hb dX4_init_12 rfl ?_
  refine iv_newai (N := 3) hx hb (hts _ (List.mem_of_getElem? (i := 4) rfl)) hG hP hD hS hA (by decide) (Nat.le_of_ble_eq_true rfl) (Nat.le_of_ble_eq_true rfl) dX4_init_13 (fun q2 H hP hD hS => ?_)
  have hP : va_P g.1 vwCl [(y, .inr (4, [.ref q1, .null, .null])), (q1, aI (g.2.1 0) 3 (fun _ => 0)), (q2, aI (g.2.1 0) 3 (fun _ => 0))] H := hP
  have hD : va_D A [(y, .inr (4, [.ref q1, .null, .null])), (q1, aI (g.2.1 0) 3 (fun _ => 0)), (q2, aI (g.2.1 0) 3 (fun _ => 0))] := hD
  refine W.widen (k := 2) (n := 6) (Nat.le_of_ble_eq_true rfl) (Nat.le_of_ble_eq_true rfl) ?_
  refine va_putF (D := g.1) (ci := 4) (v := .ref q2) hx hb hts kX4_init_4 tyX4 tyX4_ok nmX4 hown hG.1 hP hD hS 0 rfl rfl 1 (by decide) (hts _ (List.mem_of_getElem? (i := 6) rfl)) (fun _ h9 => h9) rfl hnm rfl (tyX4_ok 1 (by decide)) rfl rfl (Nat.le_of_ble_eq_true rfl) dX4_init_15 (fun H locs hP hD hS => ?_)
  have hP : va_P g.1 vwCl [(y, .inr (4, [.ref q1, .ref q2, .null])), (q1, aI (g.2.1 0) 3 (fun _ => 0)), (q2, aI (g.2.1 0) 3 (fun _ => 0))] H := hP
  have hD : va_D A [(y, .inr (4, [.ref q1, .ref q2, .null])), (q1, aI (g.2.1 0) 3 (fun _ => 0)), (q2, aI (g.2.1 0) 3 (fun _ => 0))] := hD
  refine lv_aload_n hx hb dX4_init_18 rfl (lv_at hl 0 rfl) ?_
  refine lv_iconst (v := iI (3)) hx hb dX4_init_19 rfl ?_
  refine iv_newai (N := 3) hx hb (hts _ (List.mem_of_getElem? (i := 4) rfl)) hG hP hD hS hA (by decide) (Nat.le_of_ble_eq_true rfl) (Nat.le_of_ble_eq_true rfl) dX4_init_20 (fun q3 H hP hD hS => ?_)
  have hP : va_P g.1 vwCl [(y, .inr (4, [.ref q1, .ref q2, .null])), (q1, aI (g.2.1 0) 3 (fun _ => 0)), (q2, aI (g.2.1 0) 3 (fun _ => 0)), (q3, aI (g.2.1 0) 3 (fun _ => 0))] H := hP
  have hD : va_D A [(y, .inr (4, [.ref q1, .ref q2, .null])), (q1, aI (g.2.1 0) 3 (fun _ => 0)), (q2, aI (g.2.1 0) 3 (fun _ => 0)), (q3, aI (g.2.1 0) 3 (fun _ => 0))] := hD
  refine W.widen (k := 3) (n := 9) (Nat.le_of_ble_eq_true rfl) (Nat.le_of_ble_eq_true rfl) ?_
  refine va_putF (D := g.1) (ci := 4) (v := .ref q3) hx hb hts kX4_init_4 tyX4 tyX4_ok nmX4 hown hG.1 hP hD hS 0 rfl rfl 2 (by decide) (hts _ (List.mem_of_getElem? (i := 7) rfl)) (fun _ h9 => h9) rfl hnm rfl (tyX4_ok 2 (by decide)) rfl rfl (Nat.le_of_ble_eq_true rfl) dX4_init_22 (fun H locs hP hD hS => ?_)
  have hP : va_P g.1 vwCl [(y, .inr (4, [.ref q1, .ref q2, .ref q3])), (q1, aI (g.2.1 0) 3 (fun _ => 0)), (q2, aI (g.2.1 0) 3 (fun _ => 0)), (q3, aI (g.2.1 0) 3 (fun _ => 0))] H := hP
  have hD : va_D A [(y, .inr (4, [.ref q1, .ref q2, .ref q3])), (q1, aI (g.2.1 0) 3 (fun _ => 0)), (q2, aI (g.2.1 0) 3 (fun _ => 0)), (q3, aI (g.2.1 0) 3 (fun _ => 0))] := hD
  exact Ct.vret hx hb hr hlocks (hP.sub [0, 1, 2, 3] rfl) (hD.sub [0, 1, 2, 3] (by decide) rfl) hS ⟨by decide, by decide⟩ dX4_init_25 ⟨q1, q2, q3, rfl, rfl⟩
theorem kX5_init_5 : ∀ w ∈ u_ws RX5 TX5 3, w ∈ wsX5_init := fun _ h => List.mem_cons_of_mem _ (List.mem_append_right _ h)
abbrev q_X5_init (g : GT) (y : Nat) : Option Value → va_W → Prop := fun v w => ∃ (u1' : Nat), v = none ∧ w = [(y, .inr (5, [.int (iI (-1)), .int (iI 0), .ref u1'])), (u1', aI (g.2.1 0) 40 (fun _ => 0))]
set_option maxHeartbeats 4000000 in
set_option maxRecDepth 100000 in
theorem c_X5_init (l : Launch) (g : GT) (y : Nat) : Ct l g yX5_init wsX5_init ({ frames := 1, cells := 1, slots := 40, locals := 12 } : Room) [.ref y] [(y, .inr (5, [.int (iI 0), .int (iI 0), .null]))] (q_X5_init g y) := by
  refine Ct.intro (maxL := 1) (ret := none) (by decide) rfl (Nat.le_of_ble_eq_true rfl) ?_
  intro p e s m below meth c A ls hx hb hr hml hown hts hlocks hnm hA hG hP hD hS hl
  have hown : s.vm.findClass RX5 = some m.cls := hown
  have hl : lv_has ls 1 [(0, .ref y)] := hl
  have hP : va_P g.1 vwCl [(y, .inr (5, [.int (iI 0), .int (iI 0), .null]))] s.heap := hP
  have hS : va_S A s.heap s.heap [] := hS
  obtain ⟨H, hHe⟩ : ∃ H : Heap, H = s.heap := ⟨_, rfl⟩
  obtain ⟨locs, hLe⟩ : ∃ L : List Loc, L = [] := ⟨_, rfl⟩
  have hP : va_P g.1 vwCl [(y, .inr (5, [.int (iI 0), .int (iI 0), .null]))] H := by rw [hHe]; exact hP
  have hS : va_S A s.heap H locs := by rw [hHe, hLe]; exact hS
  suffices hgo : W p l e ({ frames := 1, cells := 1, slots := 40, locals := 12 } : Room) s m [.ref y].toArray below meth c H locs 0 0 (MQ below (CQ g (q_X5_init g y) A) [.ref y].toArray s ({ frames := 1, cells := 1, slots := 40, locals := 12 } : Room).cells ({ frames := 1, cells := 1, slots := 40, locals := 12 } : Room).slots A) (F0 m 0 ls []) by rw [hHe, hLe] at hgo; exact hgo
  clear hHe hLe
  refine lv_aload_n hx hb dX5_init_0 rfl (lv_at hl 0 rfl) ?_
  refine W.objInit hx hb hown (hts _ (List.mem_of_getElem? (i := 1) rfl)) (hts _ (List.mem_of_getElem? (i := 2) rfl)) (hts _ (List.mem_of_getElem? (i := 3) rfl)) rfl (by rw [hml]; exact hl.1) rfl dX5_init_1 (Nat.le_of_ble_eq_true rfl) (Nat.le_of_ble_eq_true rfl) ?_
  refine W.eq (g2 := F0 m 4 ls []) rfl ?_
  refine lv_aload_n hx hb dX5_init_4 rfl (lv_at hl 0 rfl) ?_
  refine lv_iconst (v := iI (-1)) hx hb dX5_init_5 rfl ?_
  refine va_put (D := g.1) (ci := 5) (v := .int (iI (-1))) hx hb hts kX5_init_5 tyX5 tyX5_ok nmX5 hown hG.1 hP hD hS 0 rfl rfl 0 (by decide) (hts _ (List.mem_of_getElem? (i := 4) rfl)) (fun _ h9 => h9) rfl (tyX5_ok 0 (by decide)) rfl rfl (Nat.le_of_ble_eq_true rfl) dX5_init_6 (fun H locs hP hD hS => ?_)
  have hP : va_P g.1 vwCl [(y, .inr (5, [.int (iI (-1)), .int (iI 0), .null]))] H := hP
  have hD : va_D A [(y, .inr (5, [.int (iI (-1)), .int (iI 0), .null]))] := hD
  refine lv_aload_n hx hb dX5_init_9 rfl (lv_at hl 0 rfl) ?_
  refine lv_iconst (v := iI (0)) hx hb dX5_init_10 rfl ?_
  refine va_put (D := g.1) (ci := 5) (v := .int (iI 0)) hx hb hts kX5_init_5 tyX5 tyX5_ok nmX5 hown hG.1 hP hD hS 0 rfl rfl 1 (by decide) (hts _ (List.mem_of_getElem? (i := 5) rfl)) (fun _ h9 => h9) rfl (tyX5_ok 1 (by decide)) rfl rfl (Nat.le_of_ble_eq_true rfl) dX5_init_11 (fun H locs hP hD hS => ?_)
  have hP : va_P g.1 vwCl [(y, .inr (5, [.int (iI (-1)), .int (iI 0), .null]))] H := hP
  have hD : va_D A [(y, .inr (5, [.int (iI (-1)), .int (iI 0), .null]))] := hD
  refine lv_aload_n hx hb dX5_init_14 rfl (lv_at hl 0 rfl) ?_
  refine lv_bipush (v := iI (40)) hx hb dX5_init_15 (by decide) ?_
  refine iv_newai (N := 40) hx hb (hts _ (List.mem_of_getElem? (i := 6) rfl)) hG hP hD hS hA (by decide) (Nat.le_of_ble_eq_true rfl) (Nat.le_of_ble_eq_true rfl) dX5_init_17 (fun q1 H hP hD hS => ?_)
  have hP : va_P g.1 vwCl [(y, .inr (5, [.int (iI (-1)), .int (iI 0), .null])), (q1, aI (g.2.1 0) 40 (fun _ => 0))] H := hP
  have hD : va_D A [(y, .inr (5, [.int (iI (-1)), .int (iI 0), .null])), (q1, aI (g.2.1 0) 40 (fun _ => 0))] := hD
  refine W.widen (k := 1) (n := 40) (Nat.le_of_ble_eq_true rfl) (Nat.le_of_ble_eq_true rfl) ?_
  refine va_putF (D := g.1) (ci := 5) (v := .ref q1) hx hb hts kX5_init_5 tyX5 tyX5_ok nmX5 hown hG.1 hP hD hS 0 rfl rfl 2 (by decide) (hts _ (List.mem_of_getElem? (i := 7) rfl)) (fun _ h9 => h9) rfl hnm rfl (tyX5_ok 2 (by decide)) rfl rfl (Nat.le_of_ble_eq_true rfl) dX5_init_19 (fun H locs hP hD hS => ?_)
  have hP : va_P g.1 vwCl [(y, .inr (5, [.int (iI (-1)), .int (iI 0), .ref q1])), (q1, aI (g.2.1 0) 40 (fun _ => 0))] H := hP
  have hD : va_D A [(y, .inr (5, [.int (iI (-1)), .int (iI 0), .ref q1])), (q1, aI (g.2.1 0) 40 (fun _ => 0))] := hD
  exact Ct.vret hx hb hr hlocks (hP.sub [0, 1] rfl) (hD.sub [0, 1] (by decide) rfl) hS ⟨by decide, by decide⟩ dX5_init_22 ⟨q1, rfl, rfl⟩
theorem kX6_init_6 : ∀ w ∈ u_ws RX6 TX6 3, w ∈ wsX6_init := fun _ h => List.mem_cons_of_mem _ (List.mem_append_right _ h)
abbrev q_X6_init (g : GT) (y : Nat) : Option Value → va_W → Prop := fun v w => ∃ (u1' : Nat), v = none ∧ w = [(y, .inr (6, [.int (iI 0), .ref u1', .int (iI 0)])), (u1', aI (g.2.1 2) 100 (fun _ => 0))]
set_option maxHeartbeats 4000000 in
set_option maxRecDepth 100000 in
theorem c_X6_init (l : Launch) (g : GT) (y : Nat) : Ct l g yX6_init wsX6_init ({ frames := 1, cells := 1, slots := 100, locals := 12 } : Room) [.ref y] [(y, .inr (6, [.int (iI 0), .null, .int (iI 0)]))] (q_X6_init g y) := by
  refine Ct.intro (maxL := 1) (ret := none) (by decide) rfl (Nat.le_of_ble_eq_true rfl) ?_
  intro p e s m below meth c A ls hx hb hr hml hown hts hlocks hnm hA hG hP hD hS hl
  have hown : s.vm.findClass RX6 = some m.cls := hown
  have hl : lv_has ls 1 [(0, .ref y)] := hl
  have hP : va_P g.1 vwCl [(y, .inr (6, [.int (iI 0), .null, .int (iI 0)]))] s.heap := hP
  have hS : va_S A s.heap s.heap [] := hS
  obtain ⟨H, hHe⟩ : ∃ H : Heap, H = s.heap := ⟨_, rfl⟩
  obtain ⟨locs, hLe⟩ : ∃ L : List Loc, L = [] := ⟨_, rfl⟩
  have hP : va_P g.1 vwCl [(y, .inr (6, [.int (iI 0), .null, .int (iI 0)]))] H := by rw [hHe]; exact hP
  have hS : va_S A s.heap H locs := by rw [hHe, hLe]; exact hS
  suffices hgo : W p l e ({ frames := 1, cells := 1, slots := 100, locals := 12 } : Room) s m [.ref y].toArray below meth c H locs 0 0 (MQ below (CQ g (q_X6_init g y) A) [.ref y].toArray s ({ frames := 1, cells := 1, slots := 100, locals := 12 } : Room).cells ({ frames := 1, cells := 1, slots := 100, locals := 12 } : Room).slots A) (F0 m 0 ls []) by rw [hHe, hLe] at hgo; exact hgo
  clear hHe hLe
  refine lv_aload_n hx hb dX6_init_0 rfl (lv_at hl 0 rfl) ?_
  refine W.objInit hx hb hown (hts _ (List.mem_of_getElem? (i := 1) rfl)) (hts _ (List.mem_of_getElem? (i := 2) rfl)) (hts _ (List.mem_of_getElem? (i := 3) rfl)) rfl (by rw [hml]; exact hl.1) rfl dX6_init_1 (Nat.le_of_ble_eq_true rfl) (Nat.le_of_ble_eq_true rfl) ?_
  refine W.eq (g2 := F0 m 4 ls []) rfl ?_
  refine lv_aload_n hx hb dX6_init_4 rfl (lv_at hl 0 rfl) ?_
  refine lv_iconst (v := iI (0)) hx hb dX6_init_5 rfl ?_
  refine va_put (D := g.1) (ci := 6) (v := .int (iI 0)) hx hb hts kX6_init_6 tyX6 tyX6_ok nmX6 hown hG.1 hP hD hS 0 rfl rfl 0 (by decide) (hts _ (List.mem_of_getElem? (i := 4) rfl)) (fun _ h9 => h9) rfl (tyX6_ok 0 (by decide)) rfl rfl (Nat.le_of_ble_eq_true rfl) dX6_init_6 (fun H locs hP hD hS => ?_)
  have hP : va_P g.1 vwCl [(y, .inr (6, [.int (iI 0), .null, .int (iI 0)]))] H := hP
  have hD : va_D A [(y, .inr (6, [.int (iI 0), .null, .int (iI 0)]))] := hD
  refine lv_aload_n hx hb dX6_init_9 rfl (lv_at hl 0 rfl) ?_
  refine lv_bipush (v := iI (100)) hx hb dX6_init_10 (by decide) ?_
  refine iv_newab (N := 100) hx hb (hts _ (List.mem_of_getElem? (i := 5) rfl)) hG hP hD hS hA (by decide) (Nat.le_of_ble_eq_true rfl) (Nat.le_of_ble_eq_true rfl) dX6_init_12 (fun q1 H hP hD hS => ?_)
  have hP : va_P g.1 vwCl [(y, .inr (6, [.int (iI 0), .null, .int (iI 0)])), (q1, aI (g.2.1 2) 100 (fun _ => 0))] H := hP
  have hD : va_D A [(y, .inr (6, [.int (iI 0), .null, .int (iI 0)])), (q1, aI (g.2.1 2) 100 (fun _ => 0))] := hD
  refine W.widen (k := 1) (n := 100) (Nat.le_of_ble_eq_true rfl) (Nat.le_of_ble_eq_true rfl) ?_
  refine va_putF (D := g.1) (ci := 6) (v := .ref q1) hx hb hts kX6_init_6 tyX6 tyX6_ok nmX6 hown hG.1 hP hD hS 0 rfl rfl 1 (by decide) (hts _ (List.mem_of_getElem? (i := 6) rfl)) (fun _ h9 => h9) rfl hnm rfl (tyX6_ok 1 (by decide)) rfl rfl (Nat.le_of_ble_eq_true rfl) dX6_init_14 (fun H locs hP hD hS => ?_)
  have hP : va_P g.1 vwCl [(y, .inr (6, [.int (iI 0), .ref q1, .int (iI 0)])), (q1, aI (g.2.1 2) 100 (fun _ => 0))] H := hP
  have hD : va_D A [(y, .inr (6, [.int (iI 0), .ref q1, .int (iI 0)])), (q1, aI (g.2.1 2) 100 (fun _ => 0))] := hD
  refine lv_aload_n hx hb dX6_init_17 rfl (lv_at hl 0 rfl) ?_
  refine lv_iconst (v := iI (0)) hx hb dX6_init_18 rfl ?_
  refine va_put (D := g.1) (ci := 6) (v := .int (iI 0)) hx hb hts kX6_init_6 tyX6 tyX6_ok nmX6 hown hG.1 hP hD hS 0 rfl rfl 2 (by decide) (hts _ (List.mem_of_getElem? (i := 7) rfl)) (fun _ h9 => h9) rfl (tyX6_ok 2 (by decide)) rfl rfl (Nat.le_of_ble_eq_true rfl) dX6_init_19 (fun H locs hP hD hS => ?_)
  have hP : va_P g.1 vwCl [(y, .inr (6, [.int (iI 0), .ref q1, .int (iI 0)])), (q1, aI (g.2.1 2) 100 (fun _ => 0))] H := hP
  have hD : va_D A [(y, .inr (6, [.int (iI 0), .ref q1, .int (iI 0)])), (q1, aI (g.2.1 2) 100 (fun _ => 0))] := hD
  exact Ct.vret hx hb hr hlocks (hP.sub [0, 1] rfl) (hD.sub [0, 1] (by decide) rfl) hS ⟨by decide, by decide⟩ dX6_init_22 ⟨q1, rfl, rfl⟩
theorem kX7_init_7 : ∀ w ∈ u_ws RX7 TX7 3, w ∈ wsX7_init := fun _ h => List.mem_cons_of_mem _ (List.mem_append_right _ h)
abbrev q_X7_init (g : GT) (y : Nat) : Option Value → va_W → Prop := fun v w => ∃ (u1' : Nat), ∃ (u2' : Nat), v = none ∧ w = [(y, .inr (7, [.int (iI 0), .ref u1', .ref u2'])), (u1', aI (g.2.1 0) 12 (fun _ => 0)), (u2', aI (g.2.1 0) 12 (fun _ => 0))]
set_option maxHeartbeats 4000000 in
set_option maxRecDepth 100000 in
theorem c_X7_init (l : Launch) (g : GT) (y : Nat) : Ct l g yX7_init wsX7_init ({ frames := 1, cells := 2, slots := 24, locals := 12 } : Room) [.ref y] [(y, .inr (7, [.int (iI 0), .null, .null]))] (q_X7_init g y) := by
  refine Ct.intro (maxL := 1) (ret := none) (by decide) rfl (Nat.le_of_ble_eq_true rfl) ?_
  intro p e s m below meth c A ls hx hb hr hml hown hts hlocks hnm hA hG hP hD hS hl
  have hown : s.vm.findClass RX7 = some m.cls := hown
  have hl : lv_has ls 1 [(0, .ref y)] := hl
  have hP : va_P g.1 vwCl [(y, .inr (7, [.int (iI 0), .null, .null]))] s.heap := hP
  have hS : va_S A s.heap s.heap [] := hS
  obtain ⟨H, hHe⟩ : ∃ H : Heap, H = s.heap := ⟨_, rfl⟩
  obtain ⟨locs, hLe⟩ : ∃ L : List Loc, L = [] := ⟨_, rfl⟩
  have hP : va_P g.1 vwCl [(y, .inr (7, [.int (iI 0), .null, .null]))] H := by rw [hHe]; exact hP
  have hS : va_S A s.heap H locs := by rw [hHe, hLe]; exact hS
  suffices hgo : W p l e ({ frames := 1, cells := 2, slots := 24, locals := 12 } : Room) s m [.ref y].toArray below meth c H locs 0 0 (MQ below (CQ g (q_X7_init g y) A) [.ref y].toArray s ({ frames := 1, cells := 2, slots := 24, locals := 12 } : Room).cells ({ frames := 1, cells := 2, slots := 24, locals := 12 } : Room).slots A) (F0 m 0 ls []) by rw [hHe, hLe] at hgo; exact hgo
  clear hHe hLe
  refine lv_aload_n hx hb dX7_init_0 rfl (lv_at hl 0 rfl) ?_
  refine W.objInit hx hb hown (hts _ (List.mem_of_getElem? (i := 1) rfl)) (hts _ (List.mem_of_getElem? (i := 2) rfl)) (hts _ (List.mem_of_getElem? (i := 3) rfl)) rfl (by rw [hml]; exact hl.1) rfl dX7_init_1 (Nat.le_of_ble_eq_true rfl) (Nat.le_of_ble_eq_true rfl) ?_
  refine W.eq (g2 := F0 m 4 ls []) rfl ?_
  refine lv_aload_n hx hb dX7_init_4 rfl (lv_at hl 0 rfl) ?_
  refine lv_iconst (v := iI (0)) hx hb dX7_init_5 rfl ?_
  refine va_put (D := g.1) (ci := 7) (v := .int (iI 0)) hx hb hts kX7_init_7 tyX7 tyX7_ok nmX7 hown hG.1 hP hD hS 0 rfl rfl 0 (by decide) (hts _ (List.mem_of_getElem? (i := 4) rfl)) (fun _ h9 => h9) rfl (tyX7_ok 0 (by decide)) rfl rfl (Nat.le_of_ble_eq_true rfl) dX7_init_6 (fun H locs hP hD hS => ?_)
  have hP : va_P g.1 vwCl [(y, .inr (7, [.int (iI 0), .null, .null]))] H := hP
  have hD : va_D A [(y, .inr (7, [.int (iI 0), .null, .null]))] := hD
  refine lv_aload_n hx hb dX7_init_9 rfl (lv_at hl 0 rfl) ?_
  refine lv_bipush (v := iI (12)) hx hb dX7_init_10 (by decide) ?_
  refine iv_newai (N := 12) hx hb (hts _ (List.mem_of_getElem? (i := 5) rfl)) hG hP hD hS hA (by decide) (Nat.le_of_ble_eq_true rfl) (Nat.le_of_ble_eq_true rfl) dX7_init_12 (fun q1 H hP hD hS => ?_)
  have hP : va_P g.1 vwCl [(y, .inr (7, [.int (iI 0), .null, .null])), (q1, aI (g.2.1 0) 12 (fun _ => 0))] H := hP
  have hD : va_D A [(y, .inr (7, [.int (iI 0), .null, .null])), (q1, aI (g.2.1 0) 12 (fun _ => 0))] := hD
  refine W.widen (k := 1) (n := 12) (Nat.le_of_ble_eq_true rfl) (Nat.le_of_ble_eq_true rfl) ?_
  refine va_putF (D := g.1) (ci := 7) (v := .ref q1) hx hb hts kX7_init_7 tyX7 tyX7_ok nmX7 hown hG.1 hP hD hS 0 rfl rfl 1 (by decide) (hts _ (List.mem_of_getElem? (i := 6) rfl)) (fun _ h9 => h9) rfl hnm rfl (tyX7_ok 1 (by decide)) rfl rfl (Nat.le_of_ble_eq_true rfl) dX7_init_14 (fun H locs hP hD hS => ?_)
  have hP : va_P g.1 vwCl [(y, .inr (7, [.int (iI 0), .ref q1, .null])), (q1, aI (g.2.1 0) 12 (fun _ => 0))] H := hP
  have hD : va_D A [(y, .inr (7, [.int (iI 0), .ref q1, .null])), (q1, aI (g.2.1 0) 12 (fun _ => 0))] := hD
  refine lv_aload_n hx hb dX7_init_17 rfl (lv_at hl 0 rfl) ?_
  refine lv_bipush (v := iI (12)) hx hb dX7_init_18 (by decide) ?_
  refine iv_newai (N := 12) hx hb (hts _ (List.mem_of_getElem? (i := 5) rfl)) hG hP hD hS hA (by decide) (Nat.le_of_ble_eq_true rfl) (Nat.le_of_ble_eq_true rfl) dX7_init_20 (fun q2 H hP hD hS => ?_)
  have hP : va_P g.1 vwCl [(y, .inr (7, [.int (iI 0), .ref q1, .null])), (q1, aI (g.2.1 0) 12 (fun _ => 0)), (q2, aI (g.2.1 0) 12 (fun _ => 0))] H := hP
  have hD : va_D A [(y, .inr (7, [.int (iI 0), .ref q1, .null])), (q1, aI (g.2.1 0) 12 (fun _ => 0)), (q2, aI (g.2.1 0) 12 (fun _ => 0))] := hD
  refine W.widen (k := 2) (n := 24) (Nat.le_of_ble_eq_true rfl) (Nat.le_of_ble_eq_true rfl) ?_
  refine va_putF (D := g.1) (ci := 7) (v := .ref q2) hx hb hts kX7_init_7 tyX7 tyX7_ok nmX7 hown hG.1 hP hD hS 0 rfl rfl 2 (by decide) (hts _ (List.mem_of_getElem? (i := 7) rfl)) (fun _ h9 => h9) rfl hnm rfl (tyX7_ok 2 (by decide)) rfl rfl (Nat.le_of_ble_eq_true rfl) dX7_init_22 (fun H locs hP hD hS => ?_)
  have hP : va_P g.1 vwCl [(y, .inr (7, [.int (iI 0), .ref q1, .ref q2])), (q1, aI (g.2.1 0) 12 (fun _ => 0)), (q2, aI (g.2.1 0) 12 (fun _ => 0))] H := hP
  have hD : va_D A [(y, .inr (7, [.int (iI 0), .ref q1, .ref q2])), (q1, aI (g.2.1 0) 12 (fun _ => 0)), (q2, aI (g.2.1 0) 12 (fun _ => 0))] := hD
  exact Ct.vret hx hb hr hlocks (hP.sub [0, 1, 2] rfl) (hD.sub [0, 1, 2] (by decide) rfl) hS ⟨by decide, by decide⟩ dX7_init_25 ⟨q1, q2, rfl, rfl⟩
