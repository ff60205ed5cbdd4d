theorem kX8_learner_1 : ∀ w ∈ u_ws RX1 TX1 7, w ∈ wsX8_learner := fun _ h => List.mem_cons_of_mem _ (List.mem_append_left _ (List.mem_append_right _ h))
theorem kX8_learner_8 : ∀ w ∈ u_ws RX8 TX8 13, w ∈ wsX8_learner := fun _ h => List.mem_cons_of_mem _ (List.mem_append_left _ (List.mem_append_left _ (List.mem_append_right _ h)))
abbrev q_X8_learner (g : GT) (hd : Nat) (d : Nat → Nat) (i : Nat → Int) (fle : Nat → Option Nat) (k : Nat) : Option Value → va_W → Prop := fun v w => ∃ (r : Int), ∃ (i' : Nat → Int), ∃ (fle' : Nat → Option Nat), ∃ (y' : Nat), ∃ (w0' : Nat), ∃ (w1' : Nat), ∃ (w2' : Nat), ∃ (w3' : Nat), ∃ (w4' : Nat), ∃ (u1' : Nat), ∃ (u2' : Nat), ∃ (u3' : Nat), v = some (.int (iI r)) ∧ w = [(hd, .inr (8, dF d i')), ((d 3), aQ (g.2.1 3) 12 fle'), (y', .inr (1, [.int (iI 0), .int (iI 0), .ref w0', .ref w1', .ref w2', .ref w3', .ref w4'])), (w0', .inr (2, [.ref u1', .ref u2', .ref u3'])), (u1', aI (g.2.1 0) 8 (fun _ => (-1))), (u2', aI (g.2.1 1) 8 (fun _ => 0)), (u3', aI (g.2.1 0) 8 (fun _ => 8)), (w1', aI (g.2.1 0) 40 (fun _ => 0)), (w2', aI (g.2.1 1) 40 (fun _ => 0)), (w3', aI (g.2.1 1) 40 (fun _ => 0)), (w4', aI (g.2.1 0) 93 (fun _ => 0))] ∧ (r = i 4) ∧ (i' = va_up i 4 (i 4 + 1)) ∧ (fle' = va_up fle k (some y'))
set_option maxHeartbeats 4000000 in
set_option maxRecDepth 100000 in
theorem c_X8_learner (l : Launch) (g : GT) (hd : Nat) (d : Nat → Nat) (i : Nat → Int) (fle : Nat → Option Nat) (k : Nat) (h1 : i 4 = (k : Int) ∧ k < 12) : Ct l g yX8_learner wsX8_learner ({ frames := 3, cells := 9, slots := 247, locals := 61 } : Room) [.ref hd] [(hd, .inr (8, dF d i)), ((d 3), aQ (g.2.1 3) 12 fle)] (q_X8_learner g hd d i fle k) := by
  refine Ct.intro (maxL := 1) (ret := (some .int)) (by decide) rfl (Nat.le_of_ble_eq_true rfl) ?_
  intro p e s m below meth c A ls hx hb hr hml hown hts hlocks hnm hA hG hP hD hS hl
  have hown : s.vm.findClass RX8 = some m.cls := hown
  have hl : lv_has ls 1 [(0, .ref hd)] := hl
  have hP : va_P g.1 vwCl [(hd, .inr (8, dF d i)), ((d 3), aQ (g.2.1 3) 12 fle)] s.heap := hP
  have hS : va_S A s.heap s.heap [] := hS
  obtain ⟨H, hHe⟩ : ∃ H : Heap, H = s.heap := ⟨_, rfl⟩
  obtain ⟨locs, hLe⟩ : ∃ L : List Loc, L = [] := ⟨_, rfl⟩
  have hP : va_P g.1 vwCl [(hd, .inr (8, dF d i)), ((d 3), aQ (g.2.1 3) 12 fle)] H := by rw [hHe]; exact hP
  have hS : va_S A s.heap H locs := by rw [hHe, hLe]; exact hS
  suffices hgo : W p l e ({ frames := 3, cells := 9, slots := 247, locals := 61 } : Room) s m [.ref hd].toArray below meth c H locs 0 0 (MQ below (CQ g (q_X8_learner g hd d i fle k) A) [.ref hd].toArray s ({ frames := 3, cells := 9, slots := 247, locals := 61 } : Room).cells ({ frames := 3, cells := 9, slots := 247, locals := 61 } : Room).slots A) (F0 m 0 ls []) by rw [hHe, hLe] at hgo; exact hgo
  clear hHe hLe
  refine lv_aload_n hx hb dX8_learner_0 rfl (lv_at hl 0 rfl) ?_
  refine va_get (D := g.1) (ci := 8) (v := .int (iI (i 4))) hx hb hts kX8_learner_8 hown hG.1 hP 0 rfl rfl 4 (by decide) (hts _ (List.mem_of_getElem? (i := 1) rfl)) (fun _ h9 => h9) rfl dX8_learner_1 ?_
  refine lv_bipush (v := iI (12)) hx hb dX8_learner_4 (by decide) ?_
  refine iv_icmp_lt (tgt := 12) hx hb dX8_learner_6 (by decide) (by omega) (fun hc1 => ?_) (fun hc1 => absurd hc1 (by omega))
  refine lv_aload_n hx hb dX8_learner_12 rfl (lv_at hl 0 rfl) ?_
  refine va_get (D := g.1) (ci := 8) (v := .ref (d 3)) hx hb hts kX8_learner_8 hown hG.1 hP 0 rfl rfl 3 (by decide) (hts _ (List.mem_of_getElem? (i := 2) rfl)) (fun _ h9 => h9) rfl dX8_learner_13 ?_
  refine lv_aload_n hx hb dX8_learner_16 rfl (lv_at hl 0 rfl) ?_
  refine va_get (D := g.1) (ci := 8) (v := .int (iI (i 4))) hx hb hts kX8_learner_8 hown hG.1 hP 0 rfl rfl 4 (by decide) (hts _ (List.mem_of_getElem? (i := 1) rfl)) (fun _ h9 => h9) rfl dX8_learner_17 ?_
  refine va_new (ci := 1) (fs := [.int (iI 0), .int (iI 0), .null, .null, .null, .null, .null]) hx hb hts kX8_learner_1 tyX1 tyX1_ok hown (hts _ (List.mem_of_getElem? (i := 3) rfl)) (hts _ (List.mem_of_getElem? (i := 4) rfl)) (hts _ (List.mem_of_getElem? (i := 5) rfl)) hG.1 hP hD hS hA rfl (fun j hj => by rcases (show j = 0 ∨ j = 1 ∨ j = 2 ∨ j = 3 ∨ j = 4 ∨ j = 5 ∨ j = 6 by omega) with rfl | rfl | rfl | rfl | rfl | rfl | rfl <;> first | rfl | decide) (Nat.le_of_ble_eq_true rfl) (Nat.le_of_ble_eq_true rfl) dX8_learner_20 (fun q2 H hP hD hS => ?_)
  have hP : va_P g.1 vwCl [(hd, .inr (8, dF d i)), ((d 3), aQ (g.2.1 3) 12 fle), (q2, .inr (1, [.int (iI 0), .int (iI 0), .null, .null, .null, .null, .null]))] H := hP
  have hD : va_D A [(hd, .inr (8, dF d i)), ((d 3), aQ (g.2.1 3) 12 fle), (q2, .inr (1, [.int (iI 0), .int (iI 0), .null, .null, .null, .null, .null]))] := hD
  refine W.widen (k := 1) (n := 7) (Nat.le_of_ble_eq_true rfl) (Nat.le_of_ble_eq_true rfl) ?_
  refine lv_dup hx hb dX8_learner_23 rfl ?_
  refine Ct.callIN (As := []) (rest := [.ref q2, .int (iI (i 4)), .ref (d 3)]) (wr := [(hd, .inr (8, dF d i)), ((d 3), aQ (g.2.1 3) 12 fle)]) (c1 := 9) (s1 := 247) ⟨hx, hb, hml, hown, hts⟩ (c_X1_init l g q2 ) ⟨(va_cnB 0 hts gX8_learner_X1_init_n129 rfl rfl rfl (hG.2.1.m 0 rfl) (hts _ (List.mem_of_getElem? (i := 5) rfl)) (by decide +kernel) ⟨Nat.le_of_ble_eq_true rfl, Nat.le_of_ble_eq_true rfl⟩), rfl, (hts _ (List.mem_of_getElem? (i := 6) rfl))⟩ hG hP hD hS hA [2] [0, 1] rfl rfl (by decide) (by decide) (by decide) rfl hl.1 rfl (Nat.le_of_ble_eq_true rfl) dX8_learner_24 ⟨Nat.le_of_ble_eq_true rfl, Nat.le_of_ble_eq_true rfl⟩ rfl rfl (fun v w H locs hv hP hD hS => ?_)
  obtain ⟨w03, w14, w25, w36, w47, u18, u29, u310, rfl, rfl⟩ := hv
  show W p l e _ s m _ below meth c H locs 9 247 _ (F0 m 27 ls [.ref q2, .int (iI (i 4)), .ref (d 3)])
  have hP : va_P g.1 vwCl [(hd, .inr (8, dF d i)), ((d 3), aQ (g.2.1 3) 12 fle), (q2, .inr (1, [.int (iI 0), .int (iI 0), .ref w03, .ref w14, .ref w25, .ref w36, .ref w47])), (w03, .inr (2, [.ref u18, .ref u29, .ref u310])), (u18, aI (g.2.1 0) 8 (fun _ => (-1))), (u29, aI (g.2.1 1) 8 (fun _ => 0)), (u310, aI (g.2.1 0) 8 (fun _ => 8)), (w14, aI (g.2.1 0) 40 (fun _ => 0)), (w25, aI (g.2.1 1) 40 (fun _ => 0)), (w36, aI (g.2.1 1) 40 (fun _ => 0)), (w47, aI (g.2.1 0) 93 (fun _ => 0))] H := hP
  have hD : va_D A [(hd, .inr (8, dF d i)), ((d 3), aQ (g.2.1 3) 12 fle), (q2, .inr (1, [.int (iI 0), .int (iI 0), .ref w03, .ref w14, .ref w25, .ref w36, .ref w47])), (w03, .inr (2, [.ref u18, .ref u29, .ref u310])), (u18, aI (g.2.1 0) 8 (fun _ => (-1))), (u29, aI (g.2.1 1) 8 (fun _ => 0)), (u310, aI (g.2.1 0) 8 (fun _ => 8)), (w14, aI (g.2.1 0) 40 (fun _ => 0)), (w25, aI (g.2.1 1) 40 (fun _ => 0)), (w36, aI (g.2.1 1) 40 (fun _ => 0)), (w47, aI (g.2.1 0) 93 (fun _ => 0))] := hD
  refine iv_aast hx hb hG hP hD hS 1 3 2 1 rfl rfl rfl rfl k (by omega) (by omega) (by decide) dX8_learner_27 (fun H locs hP hD hS => ?_)
  have hP : va_P g.1 vwCl [(hd, .inr (8, dF d i)), ((d 3), aQ (g.2.1 3) 12 (va_up fle k (some q2))), (q2, .inr (1, [.int (iI 0), .int (iI 0), .ref w03, .ref w14, .ref w25, .ref w36, .ref w47])), (w03, .inr (2, [.ref u18, .ref u29, .ref u310])), (u18, aI (g.2.1 0) 8 (fun _ => (-1))), (u29, aI (g.2.1 1) 8 (fun _ => 0)), (u310, aI (g.2.1 0) 8 (fun _ => 8)), (w14, aI (g.2.1 0) 40 (fun _ => 0)), (w25, aI (g.2.1 1) 40 (fun _ => 0)), (w36, aI (g.2.1 1) 40 (fun _ => 0)), (w47, aI (g.2.1 0) 93 (fun _ => 0))] H := hP
  have hD : va_D A [(hd, .inr (8, dF d i)), ((d 3), aQ (g.2.1 3) 12 (va_up fle k (some q2))), (q2, .inr (1, [.int (iI 0), .int (iI 0), .ref w03, .ref w14, .ref w25, .ref w36, .ref w47])), (w03, .inr (2, [.ref u18, .ref u29, .ref u310])), (u18, aI (g.2.1 0) 8 (fun _ => (-1))), (u29, aI (g.2.1 1) 8 (fun _ => 0)), (u310, aI (g.2.1 0) 8 (fun _ => 8)), (w14, aI (g.2.1 0) 40 (fun _ => 0)), (w25, aI (g.2.1 1) 40 (fun _ => 0)), (w36, aI (g.2.1 1) 40 (fun _ => 0)), (w47, aI (g.2.1 0) 93 (fun _ => 0))] := hD
  refine lv_aload_n hx hb dX8_learner_28 rfl (lv_at hl 0 rfl) ?_
  refine lv_dup hx hb dX8_learner_29 rfl ?_
  refine va_get (D := g.1) (ci := 8) (v := .int (iI (i 4))) hx hb hts kX8_learner_8 hown hG.1 hP 0 rfl rfl 4 (by decide) (hts _ (List.mem_of_getElem? (i := 1) rfl)) (fun _ h9 => h9) rfl dX8_learner_30 ?_
  refine lv_iconst (v := iI (1)) hx hb dX8_learner_33 rfl ?_
  refine iv_iadd hx hb dX8_learner_34 ?_
  refine va_put (D := g.1) (ci := 8) (v := .int (iI ((i 4) + 1))) hx hb hts kX8_learner_8 tyX8 tyX8_ok nmX8 hown hG.1 hP hD hS 0 rfl rfl 4 (by decide) (hts _ (List.mem_of_getElem? (i := 1) rfl)) (fun _ h9 => h9) rfl (tyX8_ok 4 (by decide)) rfl rfl (Nat.le_of_ble_eq_true rfl) dX8_learner_35 (fun H locs hP hD hS => ?_)
  have hP : va_P g.1 vwCl [(hd, .inr (8, dF d (va_up i 4 ((i 4) + 1)))), ((d 3), aQ (g.2.1 3) 12 (va_up fle k (some q2))), (q2, .inr (1, [.int (iI 0), .int (iI 0), .ref w03, .ref w14, .ref w25, .ref w36, .ref w47])), (w03, .inr (2, [.ref u18, .ref u29, .ref u310])), (u18, aI (g.2.1 0) 8 (fun _ => (-1))), (u29, aI (g.2.1 1) 8 (fun _ => 0)), (u310, aI (g.2.1 0) 8 (fun _ => 8)), (w14, aI (g.2.1 0) 40 (fun _ => 0)), (w25, aI (g.2.1 1) 40 (fun _ => 0)), (w36, aI (g.2.1 1) 40 (fun _ => 0)), (w47, aI (g.2.1 0) 93 (fun _ => 0))] H := hP
  have hD : va_D A [(hd, .inr (8, dF d (va_up i 4 ((i 4) + 1)))), ((d 3), aQ (g.2.1 3) 12 (va_up fle k (some q2))), (q2, .inr (1, [.int (iI 0), .int (iI 0), .ref w03, .ref w14, .ref w25, .ref w36, .ref w47])), (w03, .inr (2, [.ref u18, .ref u29, .ref u310])), (u18, aI (g.2.1 0) 8 (fun _ => (-1))), (u29, aI (g.2.1 1) 8 (fun _ => 0)), (u310, aI (g.2.1 0) 8 (fun _ => 8)), (w14, aI (g.2.1 0) 40 (fun _ => 0)), (w25, aI (g.2.1 1) 40 (fun _ => 0)), (w36, aI (g.2.1 1) 40 (fun _ => 0)), (w47, aI (g.2.1 0) 93 (fun _ => 0))] := hD
  refine lv_aload_n hx hb dX8_learner_38 rfl (lv_at hl 0 rfl) ?_
  refine va_get (D := g.1) (ci := 8) (v := .int (iI ((i 4) + 1))) hx hb hts kX8_learner_8 hown hG.1 hP 0 rfl rfl 4 (by decide) (hts _ (List.mem_of_getElem? (i := 1) rfl)) (fun _ h9 => h9) rfl dX8_learner_39 ?_
  refine lv_iconst (v := iI (1)) hx hb dX8_learner_42 rfl ?_
  refine iv_isub hx hb dX8_learner_43 ?_
  exact Ct.iret hx hb hr hlocks (hP.sub [0, 1, 2, 3, 4, 5, 6, 7, 8, 9, 10] rfl) (hD.sub [0, 1, 2, 3, 4, 5, 6, 7, 8, 9, 10] (by decide) rfl) hS ⟨by decide, by decide⟩ dX8_learner_44 ⟨(((i 4) + 1) - 1), (va_up i 4 (i 4 + 1)), (va_up fle k (some q2)), q2, w03, w14, w25, w36, w47, u18, u29, u310, rfl, rfl, (by omega), (rfl), (rfl)⟩
abbrev q_X8_learnerF (g : GT) (hd : Nat) (d : Nat → Nat) (i : Nat → Int) (fle : Nat → Option Nat) : Option Value → va_W → Prop := fun v w => ∃ (r : Int), v = some (.int (iI r)) ∧ w = [(hd, .inr (8, dF d i)), ((d 3), aQ (g.2.1 3) 12 fle)] ∧ (r = -3)
set_option maxHeartbeats 4000000 in
set_option maxRecDepth 100000 in
theorem c_X8_learnerF (l : Launch) (g : GT) (hd : Nat) (d : Nat → Nat) (i : Nat → Int) (fle : Nat → Option Nat) (h1 : i 4 = 12) : Ct l g yX8_learner wsX8_learner ({ frames := 3, cells := 9, slots := 247, locals := 61 } : Room) [.ref hd] [(hd, .inr (8, dF d i)), ((d 3), aQ (g.2.1 3) 12 fle)] (q_X8_learnerF g hd d i fle) := by
  refine Ct.intro (maxL := 1) (ret := (some .int)) (by decide) rfl (Nat.le_of_ble_eq_true rfl) ?_
  intro p e s m below meth c A ls hx hb hr hml hown hts hlocks hnm hA hG hP hD hS hl
  have hown : s.vm.findClass RX8 = some m.cls := hown
  have hl : lv_has ls 1 [(0, .ref hd)] := hl
  have hP : va_P g.1 vwCl [(hd, .inr (8, dF d i)), ((d 3), aQ (g.2.1 3) 12 fle)] s.heap := hP
  have hS : va_S A s.heap s.heap [] := hS
  obtain ⟨H, hHe⟩ : ∃ H : Heap, H = s.heap := ⟨_, rfl⟩
  obtain ⟨locs, hLe⟩ : ∃ L : List Loc, L = [] := ⟨_, rfl⟩
  have hP : va_P g.1 vwCl [(hd, .inr (8, dF d i)), ((d 3), aQ (g.2.1 3) 12 fle)] H := by rw [hHe]; exact hP
  have hS : va_S A s.heap H locs := by rw [hHe, hLe]; exact hS
  suffices hgo : W p l e ({ frames := 3, cells := 9, slots := 247, locals := 61 } : Room) s m [.ref hd].toArray below meth c H locs 0 0 (MQ below (CQ g (q_X8_learnerF g hd d i fle) A) [.ref hd].toArray s ({ frames := 3, cells := 9, slots := 247, locals := 61 } : Room).cells ({ frames := 3, cells := 9, slots := 247, locals := 61 } : Room).slots A) (F0 m 0 ls []) by rw [hHe, hLe] at hgo; exact hgo
  clear hHe hLe
  refine lv_aload_n hx hb dX8_learner_0 rfl (lv_at hl 0 rfl) ?_
  refine va_get (D := g.1) (ci := 8) (v := .int (iI (i 4))) hx hb hts kX8_learner_8 hown hG.1 hP 0 rfl rfl 4 (by decide) (hts _ (List.mem_of_getElem? (i := 1) rfl)) (fun _ h9 => h9) rfl dX8_learner_1 ?_
  refine lv_bipush (v := iI (12)) hx hb dX8_learner_4 (by decide) ?_
  refine iv_icmp_lt (tgt := 12) hx hb dX8_learner_6 (by decide) (by omega) (fun hc1 => absurd hc1 (by omega)) (fun hc1 => ?_)
  refine lv_bipush (v := iI (-3)) hx hb dX8_learner_9 (by decide) ?_
  exact Ct.iret hx hb hr hlocks (hP.sub [0, 1] rfl) (hD.sub [0, 1] (by decide) rfl) hS ⟨by decide, by decide⟩ dX8_learner_11 ⟨(-3), rfl, rfl, (by omega)⟩
