theorem kX8_deal_8 : ∀ w ∈ u_ws RX8 TX8 13, w ∈ wsX8_deal := fun _ h => List.mem_cons_of_mem _ (List.mem_append_left _ (List.mem_append_right _ h))
abbrev q_X8_deal (g : GT) (hd : Nat) (d : Nat → Nat) (i : Nat → Int) (tw : Nat) (to_ : Nat) (tm : Int) (fw : Nat → Int) (fo : Nat → Int) (M : Nat) (way : Int) (ou : Int) : Option Value → va_W → Prop := fun v w => ∃ (r : Int), ∃ (tm' : Int), ∃ (fw' : Nat → Int), ∃ (fo' : Nat → Int), v = some (.int (iI r)) ∧ w = [(hd, .inr (8, dF d i)), ((d 11), .inr (7, [.int (iI tm'), .ref tw, .ref to_])), (tw, aI (g.2.1 0) 12 fw'), (to_, aI (g.2.1 0) 12 fo')] ∧ (((r = -1 ∧ ¬ ((0 ≤ way ∧ way ≤ 1) ∧ -999 ≤ ou ∧ ou ≤ 999)) ∧ tm' = tm ∧ fw' = fw ∧ fo' = fo) ∨ (((0 ≤ way ∧ way ≤ 1) ∧ -999 ≤ ou ∧ ou ≤ 999) ∧ ((r = -3 ∧ M = 12 ∧ tm' = tm ∧ fw' = fw ∧ fo' = fo) ∨ (r = tm + 1 ∧ M < 12 ∧ tm' = tm + 1 ∧ fw' = va_up fw M way ∧ fo' = va_up fo M ou))))
set_option maxHeartbeats 4000000 in
set_option maxRecDepth 100000 in
theorem c_X8_deal (l : Launch) (g : GT) (hd : Nat) (d : Nat → Nat) (i : Nat → Int) (tw : Nat) (to_ : Nat) (tm : Int) (fw : Nat → Int) (fo : Nat → Int) (M : Nat) (way : Int) (ou : Int) (h1 : tm = (M : Int) ∧ M ≤ 12) (h3 : (-2147483648 ≤ way ∧ way < 2147483648) ∧ (-2147483648 ≤ ou ∧ ou < 2147483648)) : Ct l g yX8_deal wsX8_deal ({ frames := 1, cells := 0, slots := 0, locals := 22 } : Room) [.ref hd, .int (iI way), .int (iI ou)] [(hd, .inr (8, dF d i)), ((d 11), .inr (7, [.int (iI tm), .ref tw, .ref to_])), (tw, aI (g.2.1 0) 12 fw), (to_, aI (g.2.1 0) 12 fo)] (q_X8_deal g hd d i tw to_ tm fw fo M way ou) := by
  refine Ct.intro (maxL := 3) (ret := (some .int)) (by decide) rfl (Nat.le_of_ble_eq_true rfl) ?_
  intro p e s m below meth c A ls hx hb hr hml hown hts hlocks hnm hA hG hP hD hS hl
  have hown : s.vm.findClass RX8 = some m.cls := hown
  have hl : lv_has ls 3 [(0, .ref hd), (1, .int (iI way)), (2, .int (iI ou))] := hl
  have hP : va_P g.1 vwCl [(hd, .inr (8, dF d i)), ((d 11), .inr (7, [.int (iI tm), .ref tw, .ref to_])), (tw, aI (g.2.1 0) 12 fw), (to_, aI (g.2.1 0) 12 fo)] s.heap := hP
  have hS : va_S A s.heap s.heap [] := hS
  obtain ⟨H, hHe⟩ : ∃ H : Heap, H = s.heap := ⟨_, rfl⟩
  obtain ⟨locs, hLe⟩ : ∃ L : List Loc, L = [] := ⟨_, rfl⟩
  have hP : va_P g.1 vwCl [(hd, .inr (8, dF d i)), ((d 11), .inr (7, [.int (iI tm), .ref tw, .ref to_])), (tw, aI (g.2.1 0) 12 fw), (to_, aI (g.2.1 0) 12 fo)] H := by rw [hHe]; exact hP
  have hS : va_S A s.heap H locs := by rw [hHe, hLe]; exact hS
  suffices hgo : W p l e ({ frames := 1, cells := 0, slots := 0, locals := 22 } : Room) s m [.ref hd, .int (iI way), .int (iI ou)].toArray below meth c H locs 0 0 (MQ below (CQ g (q_X8_deal g hd d i tw to_ tm fw fo M way ou) A) [.ref hd, .int (iI way), .int (iI ou)].toArray s ({ frames := 1, cells := 0, slots := 0, locals := 22 } : Room).cells ({ frames := 1, cells := 0, slots := 0, locals := 22 } : Room).slots A) (F0 m 0 ls []) by rw [hHe, hLe] at hgo; exact hgo
  clear hHe hLe
  refine lv_iload_n hx hb dX8_deal_0 rfl (lv_at hl 1 rfl) ?_
  refine lv_iconst (v := iI (0)) hx hb dX8_deal_1 rfl ?_
  refine lv_iconst (v := iI (1)) hx hb dX8_deal_2 rfl ?_
  refine Ct.callS (As := [.int (iI way), .int (iI 0), .int (iI 1)]) (rest := []) (wr := [(hd, .inr (8, dF d i)), ((d 11), .inr (7, [.int (iI tm), .ref tw, .ref to_])), (tw, aI (g.2.1 0) 12 fw), (to_, aI (g.2.1 0) 12 fo)]) (c1 := 0) (s1 := 0) ⟨hx, hb, hml, hown, hts⟩ (c_X8_within l g way 0 1 (by omega)) (va_cwS 3 hts gX8_deal_X8_within rfl rfl rfl (by decide +kernel) ⟨Nat.le_of_ble_eq_true rfl, Nat.le_of_ble_eq_true rfl⟩) hG hP hD hS hA [] [0, 1, 2, 3] rfl rfl (by decide) (by decide) (by decide) rfl hl.1 rfl (Nat.le_of_ble_eq_true rfl) dX8_deal_3 ⟨Nat.le_of_ble_eq_true rfl, Nat.le_of_ble_eq_true rfl⟩ rfl rfl (fun v w H locs hv hP hD hS => ?_)
  obtain ⟨⟨rfl, hb1⟩ | ⟨rfl, hb1⟩, rfl⟩ := hv
  · show W p l e _ s m _ below meth c H locs 0 0 _ (F0 m 6 ls (.int (iI 1) :: []))
    have hb1 : 0 ≤ way ∧ way ≤ 1 := hb1
    have hP : va_P g.1 vwCl [(hd, .inr (8, dF d i)), ((d 11), .inr (7, [.int (iI tm), .ref tw, .ref to_])), (tw, aI (g.2.1 0) 12 fw), (to_, aI (g.2.1 0) 12 fo)] H := hP
    have hD : va_D A [(hd, .inr (8, dF d i)), ((d 11), .inr (7, [.int (iI tm), .ref tw, .ref to_])), (tw, aI (g.2.1 0) 12 fw), (to_, aI (g.2.1 0) 12 fo)] := hD
    refine iv_if_eq (tgt := 22) hx hb dX8_deal_6 (by decide) (by decide) (fun h => absurd h (by decide)) (fun _ => ?_)
    refine lv_iload_n hx hb dX8_deal_9 rfl (lv_at hl 2 rfl) ?_
    refine lv_sipush (v := iI (-999)) hx hb dX8_deal_10 (by decide) ?_
    refine lv_sipush (v := iI (999)) hx hb dX8_deal_13 (by decide) ?_
    refine Ct.callS (As := [.int (iI ou), .int (iI (-999)), .int (iI 999)]) (rest := []) (wr := [(hd, .inr (8, dF d i)), ((d 11), .inr (7, [.int (iI tm), .ref tw, .ref to_])), (tw, aI (g.2.1 0) 12 fw), (to_, aI (g.2.1 0) 12 fo)]) (c1 := 0) (s1 := 0) ⟨hx, hb, hml, hown, hts⟩ (c_X8_within l g ou (-999) 999 (by omega)) (va_cwS 3 hts gX8_deal_X8_within rfl rfl rfl (by decide +kernel) ⟨Nat.le_of_ble_eq_true rfl, Nat.le_of_ble_eq_true rfl⟩) hG hP hD hS hA [] [0, 1, 2, 3] rfl rfl (by decide) (by decide) (by decide) rfl hl.1 rfl (Nat.le_of_ble_eq_true rfl) dX8_deal_16 ⟨Nat.le_of_ble_eq_true rfl, Nat.le_of_ble_eq_true rfl⟩ rfl rfl (fun v w H locs hv hP hD hS => ?_)
    obtain ⟨⟨rfl, hb3⟩ | ⟨rfl, hb3⟩, rfl⟩ := hv
    · show W p l e _ s m _ below meth c H locs 0 0 _ (F0 m 19 ls (.int (iI 1) :: []))
      have hb3 : (-999) ≤ ou ∧ ou ≤ 999 := hb3
      have hP : va_P g.1 vwCl [(hd, .inr (8, dF d i)), ((d 11), .inr (7, [.int (iI tm), .ref tw, .ref to_])), (tw, aI (g.2.1 0) 12 fw), (to_, aI (g.2.1 0) 12 fo)] H := hP
      have hD : va_D A [(hd, .inr (8, dF d i)), ((d 11), .inr (7, [.int (iI tm), .ref tw, .ref to_])), (tw, aI (g.2.1 0) 12 fw), (to_, aI (g.2.1 0) 12 fo)] := hD
      refine iv_if_ne (tgt := 24) hx hb dX8_deal_19 (by decide) (by decide) (fun _ => ?_) (fun h => absurd h (by decide))
      refine lv_aload_n hx hb dX8_deal_24 rfl (lv_at hl 0 rfl) ?_
      refine va_get (D := g.1) (ci := 8) (v := .ref (d 11)) hx hb hts kX8_deal_8 hown hG.1 hP 0 rfl rfl 11 (by decide) (hts _ (List.mem_of_getElem? (i := 1) rfl)) (fun _ h9 => h9) rfl dX8_deal_25 ?_
      refine lv_iload_n hx hb dX8_deal_28 rfl (lv_at hl 1 rfl) ?_
      refine lv_iload_n hx hb dX8_deal_29 rfl (lv_at hl 2 rfl) ?_
      refine Ct.callV (ci := 7) (q0 := 1) (qc := (RX7, TX7, 3)) (As := [.int (iI way), .int (iI ou)]) (rest := []) (wr := [(hd, .inr (8, dF d i))]) (c1 := 0) (s1 := 0) ⟨hx, hb, hml, hown, hts⟩ (c_X7_add l g (d 11) tw to_ tm fw fo M way ou (by omega)) rfl rfl (cwV 2 hts gX8_deal_X7_add rfl rfl rfl (by decide +kernel) ⟨Nat.le_of_ble_eq_true rfl, Nat.le_of_ble_eq_true rfl⟩) hG hP hD hS hA [1, 2, 3] [0] rfl rfl (by decide) (by decide) (by decide) rfl hl.1 rfl (Nat.le_of_ble_eq_true rfl) dX8_deal_30 ⟨Nat.le_of_ble_eq_true rfl, Nat.le_of_ble_eq_true rfl⟩ rfl rfl (fun v w H locs hv hP hD hS => ?_)
      obtain ⟨r5, tm6, fw7, fo8, rfl, rfl, hf9⟩ := hv
      show W p l e _ s m _ below meth c H locs 0 0 _ (F0 m 33 ls (.int (iI r5) :: []))
      have hP : va_P g.1 vwCl [(hd, .inr (8, dF d i)), ((d 11), .inr (7, [.int (iI tm6), .ref tw, .ref to_])), (tw, aI (g.2.1 0) 12 fw7), (to_, aI (g.2.1 0) 12 fo8)] H := hP
      have hD : va_D A [(hd, .inr (8, dF d i)), ((d 11), .inr (7, [.int (iI tm6), .ref tw, .ref to_])), (tw, aI (g.2.1 0) 12 fw7), (to_, aI (g.2.1 0) 12 fo8)] := hD
      have hf9 : (r5 = -3 ∧ M = 12 ∧ tm6 = tm ∧ fw7 = fw ∧ fo8 = fo) ∨ (r5 = tm + 1 ∧ M < 12 ∧ tm6 = tm + 1 ∧ fw7 = va_up fw M way ∧ fo8 = va_up fo M ou) := hf9
      exact Ct.iret hx hb hr hlocks (hP.sub [0, 1, 2, 3] rfl) (hD.sub [0, 1, 2, 3] (by decide) rfl) hS ⟨by decide, by decide⟩ dX8_deal_33 ⟨r5, tm6, fw7, fo8, rfl, rfl, (Or.inr ⟨by omega, by assumption⟩)⟩
    · show W p l e _ s m _ below meth c H locs 0 0 _ (F0 m 19 ls (.int (iI 0) :: []))
      have hb3 : ¬ ((-999) ≤ ou ∧ ou ≤ 999) := hb3
      have hP : va_P g.1 vwCl [(hd, .inr (8, dF d i)), ((d 11), .inr (7, [.int (iI tm), .ref tw, .ref to_])), (tw, aI (g.2.1 0) 12 fw), (to_, aI (g.2.1 0) 12 fo)] H := hP
      have hD : va_D A [(hd, .inr (8, dF d i)), ((d 11), .inr (7, [.int (iI tm), .ref tw, .ref to_])), (tw, aI (g.2.1 0) 12 fw), (to_, aI (g.2.1 0) 12 fo)] := hD
      refine iv_if_ne (tgt := 24) hx hb dX8_deal_19 (by decide) (by decide) (fun h => absurd h (by decide)) (fun _ => ?_)
      refine lv_iconst (v := iI (-1)) hx hb dX8_deal_22 rfl ?_
      exact Ct.iret hx hb hr hlocks (hP.sub [0, 1, 2, 3] rfl) (hD.sub [0, 1, 2, 3] (by decide) rfl) hS ⟨by decide, by decide⟩ dX8_deal_23 ⟨(-1), tm, fw, fo, rfl, rfl, (Or.inl ⟨⟨rfl, by omega⟩, rfl, rfl, rfl⟩)⟩
  · show W p l e _ s m _ below meth c H locs 0 0 _ (F0 m 6 ls (.int (iI 0) :: []))
    have hb1 : ¬ (0 ≤ way ∧ way ≤ 1) := hb1
    have hP : va_P g.1 vwCl [(hd, .inr (8, dF d i)), ((d 11), .inr (7, [.int (iI tm), .ref tw, .ref to_])), (tw, aI (g.2.1 0) 12 fw), (to_, aI (g.2.1 0) 12 fo)] H := hP
    have hD : va_D A [(hd, .inr (8, dF d i)), ((d 11), .inr (7, [.int (iI tm), .ref tw, .ref to_])), (tw, aI (g.2.1 0) 12 fw), (to_, aI (g.2.1 0) 12 fo)] := hD
    refine iv_if_eq (tgt := 22) hx hb dX8_deal_6 (by decide) (by decide) (fun _ => ?_) (fun h => absurd h (by decide))
    refine lv_iconst (v := iI (-1)) hx hb dX8_deal_22 rfl ?_
    exact Ct.iret hx hb hr hlocks (hP.sub [0, 1, 2, 3] rfl) (hD.sub [0, 1, 2, 3] (by decide) rfl) hS ⟨by decide, by decide⟩ dX8_deal_23 ⟨(-1), tm, fw, fo, rfl, rfl, (Or.inl ⟨⟨rfl, by omega⟩, rfl, rfl, rfl⟩)⟩
theorem kX8_ends_7 : ∀ w ∈ u_ws RX7 TX7 3, w ∈ wsX8_ends := fun _ h => List.mem_cons_of_mem _ (List.mem_append_right _ h)
theorem kX8_ends_8 : ∀ w ∈ u_ws RX8 TX8 13, w ∈ wsX8_ends := fun _ h => List.mem_cons_of_mem _ (List.mem_append_left _ (List.mem_append_right _ h))
abbrev q_X8_ends (g : GT) (hd : Nat) (d : Nat → Nat) (i : Nat → Int) (tw : Nat) (to_ : Nat) (tm : Int) (fw : Nat → Int) (fo : Nat → Int) (M : Nat) : Option Value → va_W → Prop := fun v w => v = some (.int (iI tm)) ∧ w = [(hd, .inr (8, dF d i)), ((d 11), .inr (7, [.int (iI 0), .ref tw, .ref to_])), (tw, aI (g.2.1 0) 12 fw), (to_, aI (g.2.1 0) 12 fo)]
set_option maxHeartbeats 4000000 in
set_option maxRecDepth 100000 in
theorem c_X8_ends (l : Launch) (g : GT) (hd : Nat) (d : Nat → Nat) (i : Nat → Int) (tw : Nat) (to_ : Nat) (tm : Int) (fw : Nat → Int) (fo : Nat → Int) (M : Nat) : Ct l g yX8_ends wsX8_ends ({ frames := 0, cells := 0, slots := 0, locals := 0 } : Room) [.ref hd] [(hd, .inr (8, dF d i)), ((d 11), .inr (7, [.int (iI tm), .ref tw, .ref to_])), (tw, aI (g.2.1 0) 12 fw), (to_, aI (g.2.1 0) 12 fo)] (q_X8_ends g hd d i tw to_ tm fw fo M) := by
  refine Ct.intro (maxL := 2) (ret := (some .int)) (by decide) rfl (Nat.le_of_ble_eq_true rfl) ?_
  intro p e s m below meth c A ls hx hb hr hml hown hts hlocks hnm hA hG hP hD hS hl
  have hown : s.vm.findClass RX8 = some m.cls := hown
  have hl : lv_has ls 2 [(0, .ref hd)] := hl
  have hP : va_P g.1 vwCl [(hd, .inr (8, dF d i)), ((d 11), .inr (7, [.int (iI tm), .ref tw, .ref to_])), (tw, aI (g.2.1 0) 12 fw), (to_, aI (g.2.1 0) 12 fo)] s.heap := hP
  have hS : va_S A s.heap s.heap [] := hS
  obtain ⟨H, hHe⟩ : ∃ H : Heap, H = s.heap := ⟨_, rfl⟩
  obtain ⟨locs, hLe⟩ : ∃ L : List Loc, L = [] := ⟨_, rfl⟩
  have hP : va_P g.1 vwCl [(hd, .inr (8, dF d i)), ((d 11), .inr (7, [.int (iI tm), .ref tw, .ref to_])), (tw, aI (g.2.1 0) 12 fw), (to_, aI (g.2.1 0) 12 fo)] H := by rw [hHe]; exact hP
  have hS : va_S A s.heap H locs := by rw [hHe, hLe]; exact hS
  suffices hgo : W p l e ({ frames := 0, cells := 0, slots := 0, locals := 0 } : Room) s m [.ref hd].toArray below meth c H locs 0 0 (MQ below (CQ g (q_X8_ends g hd d i tw to_ tm fw fo M) A) [.ref hd].toArray s ({ frames := 0, cells := 0, slots := 0, locals := 0 } : Room).cells ({ frames := 0, cells := 0, slots := 0, locals := 0 } : Room).slots A) (F0 m 0 ls []) by rw [hHe, hLe] at hgo; exact hgo
  clear hHe hLe
  refine lv_aload_n hx hb dX8_ends_0 rfl (lv_at hl 0 rfl) ?_
  refine va_get (D := g.1) (ci := 8) (v := .ref (d 11)) hx hb hts kX8_ends_8 hown hG.1 hP 0 rfl rfl 11 (by decide) (hts _ (List.mem_of_getElem? (i := 1) rfl)) (fun _ h9 => h9) rfl dX8_ends_1 ?_
  refine va_get (D := g.1) (ci := 7) (v := .int (iI tm)) hx hb hts kX8_ends_7 hown hG.1 hP 1 rfl rfl 0 (by decide) (hts _ (List.mem_of_getElem? (i := 2) rfl)) (fun _ h9 => h9) rfl dX8_ends_4 ?_
  refine lv_istore_n (lv' := [(1, .int (iI tm)), (0, .ref hd)]) hx hb dX8_ends_7 rfl hl (by decide) rfl (fun ls hl => ?_)
  refine lv_aload_n hx hb dX8_ends_8 rfl (lv_at hl 1 rfl) ?_
  refine va_get (D := g.1) (ci := 8) (v := .ref (d 11)) hx hb hts kX8_ends_8 hown hG.1 hP 0 rfl rfl 11 (by decide) (hts _ (List.mem_of_getElem? (i := 1) rfl)) (fun _ h9 => h9) rfl dX8_ends_9 ?_
  refine lv_iconst (v := iI (0)) hx hb dX8_ends_12 rfl ?_
  refine va_put (D := g.1) (ci := 7) (v := .int (iI 0)) hx hb hts kX8_ends_7 tyX7 tyX7_ok nmX7 hown hG.1 hP hD hS 1 rfl rfl 0 (by decide) (hts _ (List.mem_of_getElem? (i := 2) rfl)) (fun _ h9 => h9) rfl (tyX7_ok 0 (by decide)) rfl rfl (Nat.le_of_ble_eq_true rfl) dX8_ends_13 (fun H locs hP hD hS => ?_)
  have hP : va_P g.1 vwCl [(hd, .inr (8, dF d i)), ((d 11), .inr (7, [.int (iI 0), .ref tw, .ref to_])), (tw, aI (g.2.1 0) 12 fw), (to_, aI (g.2.1 0) 12 fo)] H := hP
  have hD : va_D A [(hd, .inr (8, dF d i)), ((d 11), .inr (7, [.int (iI 0), .ref tw, .ref to_])), (tw, aI (g.2.1 0) 12 fw), (to_, aI (g.2.1 0) 12 fo)] := hD
  refine lv_iload_n hx hb dX8_ends_16 rfl (lv_at hl 0 rfl) ?_
  exact Ct.iret hx hb hr hlocks (hP.sub [0, 1, 2, 3] rfl) (hD.sub [0, 1, 2, 3] (by decide) rfl) hS ⟨by decide, by decide⟩ dX8_ends_17 ⟨rfl, rfl⟩
theorem kX8_share_8 : ∀ w ∈ u_ws RX8 TX8 13, w ∈ wsX8_share := fun _ h => List.mem_cons_of_mem _ (List.mem_append_left _ (List.mem_append_right _ h))
abbrev q_X8_share (g : GT) (hd : Nat) (d : Nat → Nat) (i : Nat → Int) (tw : Nat) (to_ : Nat) (tm : Int) (fw : Nat → Int) (fo : Nat → Int) (M : Nat) : Option Value → va_W → Prop := fun v w => ∃ (r : Int), v = some (.int (iI r)) ∧ w = [(hd, .inr (8, dF d i)), ((d 11), .inr (7, [.int (iI tm), .ref tw, .ref to_])), (tw, aI (g.2.1 0) 12 fw), (to_, aI (g.2.1 0) 12 fo)] ∧ (r = shareS fw fo M)
set_option maxHeartbeats 4000000 in
set_option maxRecDepth 100000 in
theorem c_X8_share (l : Launch) (g : GT) (hd : Nat) (d : Nat → Nat) (i : Nat → Int) (tw : Nat) (to_ : Nat) (tm : Int) (fw : Nat → Int) (fo : Nat → Int) (M : Nat) (h1 : tm = (M : Int) ∧ M ≤ 12) (h2 : ∀ j, j < M → (fw j = 0 ∨ fw j = 1) ∧ -999 ≤ fo j ∧ fo j ≤ 999) : Ct l g yX8_share wsX8_share ({ frames := 2, cells := 0, slots := 0, locals := 48 } : Room) [.ref hd] [(hd, .inr (8, dF d i)), ((d 11), .inr (7, [.int (iI tm), .ref tw, .ref to_])), (tw, aI (g.2.1 0) 12 fw), (to_, aI (g.2.1 0) 12 fo)] (q_X8_share g hd d i tw to_ tm fw fo M) := by
  refine Ct.intro (maxL := 1) (ret := (some .int)) (by decide) rfl (Nat.le_of_ble_eq_true rfl) ?_
  intro p e s m below meth c A ls hx hb hr hml hown hts hlocks hnm hA hG hP hD hS hl
  have hown : s.vm.findClass RX8 = some m.cls := hown
  have hl : lv_has ls 1 [(0, .ref hd)] := hl
  have hP : va_P g.1 vwCl [(hd, .inr (8, dF d i)), ((d 11), .inr (7, [.int (iI tm), .ref tw, .ref to_])), (tw, aI (g.2.1 0) 12 fw), (to_, aI (g.2.1 0) 12 fo)] s.heap := hP
  have hS : va_S A s.heap s.heap [] := hS
  obtain ⟨H, hHe⟩ : ∃ H : Heap, H = s.heap := ⟨_, rfl⟩
  obtain ⟨locs, hLe⟩ : ∃ L : List Loc, L = [] := ⟨_, rfl⟩
  have hP : va_P g.1 vwCl [(hd, .inr (8, dF d i)), ((d 11), .inr (7, [.int (iI tm), .ref tw, .ref to_])), (tw, aI (g.2.1 0) 12 fw), (to_, aI (g.2.1 0) 12 fo)] H := by rw [hHe]; exact hP
  have hS : va_S A s.heap H locs := by rw [hHe, hLe]; exact hS
  suffices hgo : W p l e ({ frames := 2, cells := 0, slots := 0, locals := 48 } : Room) s m [.ref hd].toArray below meth c H locs 0 0 (MQ below (CQ g (q_X8_share g hd d i tw to_ tm fw fo M) A) [.ref hd].toArray s ({ frames := 2, cells := 0, slots := 0, locals := 48 } : Room).cells ({ frames := 2, cells := 0, slots := 0, locals := 48 } : Room).slots A) (F0 m 0 ls []) by rw [hHe, hLe] at hgo; exact hgo
  clear hHe hLe
  refine lv_aload_n hx hb dX8_share_0 rfl (lv_at hl 0 rfl) ?_
  refine va_get (D := g.1) (ci := 8) (v := .ref (d 11)) hx hb hts kX8_share_8 hown hG.1 hP 0 rfl rfl 11 (by decide) (hts _ (List.mem_of_getElem? (i := 1) rfl)) (fun _ h9 => h9) rfl dX8_share_1 ?_
  refine Ct.callV (ci := 7) (q0 := 1) (qc := (RX7, TX7, 3)) (As := []) (rest := []) (wr := [(hd, .inr (8, dF d i))]) (c1 := 0) (s1 := 0) ⟨hx, hb, hml, hown, hts⟩ (c_X7_lacksWay l g (d 11) tw to_ tm fw fo M (by omega) (h2)) rfl rfl (cwV 0 hts gX8_share_X7_lacksWay rfl rfl rfl (by decide +kernel) ⟨Nat.le_of_ble_eq_true rfl, Nat.le_of_ble_eq_true rfl⟩) hG hP hD hS hA [1, 2, 3] [0] rfl rfl (by decide) (by decide) (by decide) rfl hl.1 rfl (Nat.le_of_ble_eq_true rfl) dX8_share_4 ⟨Nat.le_of_ble_eq_true rfl, Nat.le_of_ble_eq_true rfl⟩ rfl rfl (fun v w H locs hv hP hD hS => ?_)
  obtain ⟨⟨rfl, hb1⟩ | ⟨rfl, hb1⟩, rfl⟩ := hv
  · show W p l e _ s m _ below meth c H locs 0 0 _ (F0 m 7 ls (.int (iI 1) :: []))
    have hb1 : mW fw 0 M = 0 ∨ mW fw 1 M = 0 := hb1
    have hP : va_P g.1 vwCl [(hd, .inr (8, dF d i)), ((d 11), .inr (7, [.int (iI tm), .ref tw, .ref to_])), (tw, aI (g.2.1 0) 12 fw), (to_, aI (g.2.1 0) 12 fo)] H := hP
    have hD : va_D A [(hd, .inr (8, dF d i)), ((d 11), .inr (7, [.int (iI tm), .ref tw, .ref to_])), (tw, aI (g.2.1 0) 12 fw), (to_, aI (g.2.1 0) 12 fo)] := hD
    refine iv_if_eq (tgt := 15) hx hb dX8_share_7 (by decide) (by decide) (fun h => absurd h (by decide)) (fun _ => ?_)
    refine lv_bipush (v := iI (-2)) hx hb dX8_share_10 (by decide) ?_
    refine lv_goto (tgt := 22) hx hb dX8_share_12 (by decide) ?_
    exact Ct.iret hx hb hr hlocks (hP.sub [0, 1, 2, 3] rfl) (hD.sub [0, 1, 2, 3] (by decide) rfl) hS ⟨by decide, by decide⟩ dX8_share_22 ⟨(-2), rfl, rfl, (by unfold shareS; first | (rw [if_pos (by assumption)]) | (rw [if_neg (by assumption)]; assumption))⟩
  · show W p l e _ s m _ below meth c H locs 0 0 _ (F0 m 7 ls (.int (iI 0) :: []))
    have hb1 : ¬ (mW fw 0 M = 0 ∨ mW fw 1 M = 0) := hb1
    have hP : va_P g.1 vwCl [(hd, .inr (8, dF d i)), ((d 11), .inr (7, [.int (iI tm), .ref tw, .ref to_])), (tw, aI (g.2.1 0) 12 fw), (to_, aI (g.2.1 0) 12 fo)] H := hP
    have hD : va_D A [(hd, .inr (8, dF d i)), ((d 11), .inr (7, [.int (iI tm), .ref tw, .ref to_])), (tw, aI (g.2.1 0) 12 fw), (to_, aI (g.2.1 0) 12 fo)] := hD
    refine iv_if_eq (tgt := 15) hx hb dX8_share_7 (by decide) (by decide) (fun _ => ?_) (fun h => absurd h (by decide))
    refine lv_aload_n hx hb dX8_share_15 rfl (lv_at hl 0 rfl) ?_
    refine va_get (D := g.1) (ci := 8) (v := .ref (d 11)) hx hb hts kX8_share_8 hown hG.1 hP 0 rfl rfl 11 (by decide) (hts _ (List.mem_of_getElem? (i := 1) rfl)) (fun _ h9 => h9) rfl dX8_share_16 ?_
    refine Ct.callV (ci := 7) (q0 := 1) (qc := (RX7, TX7, 3)) (As := []) (rest := []) (wr := [(hd, .inr (8, dF d i))]) (c1 := 0) (s1 := 0) ⟨hx, hb, hml, hown, hts⟩ (c_X7_thousandthsAsGood l g (d 11) tw to_ tm fw fo M (by omega) (h2)) rfl rfl (cwV 0 hts gX8_share_X7_thousandthsAsGood rfl rfl rfl (by decide +kernel) ⟨Nat.le_of_ble_eq_true rfl, Nat.le_of_ble_eq_true rfl⟩) hG hP hD hS hA [1, 2, 3] [0] rfl rfl (by decide) (by decide) (by decide) rfl hl.1 rfl (Nat.le_of_ble_eq_true rfl) dX8_share_19 ⟨Nat.le_of_ble_eq_true rfl, Nat.le_of_ble_eq_true rfl⟩ rfl rfl (fun v w H locs hv hP hD hS => ?_)
    obtain ⟨r4, rfl, rfl, hf5⟩ := hv
    show W p l e _ s m _ below meth c H locs 0 0 _ (F0 m 22 ls (.int (iI r4) :: []))
    have hP : va_P g.1 vwCl [(hd, .inr (8, dF d i)), ((d 11), .inr (7, [.int (iI tm), .ref tw, .ref to_])), (tw, aI (g.2.1 0) 12 fw), (to_, aI (g.2.1 0) 12 fo)] H := hP
    have hD : va_D A [(hd, .inr (8, dF d i)), ((d 11), .inr (7, [.int (iI tm), .ref tw, .ref to_])), (tw, aI (g.2.1 0) 12 fw), (to_, aI (g.2.1 0) 12 fo)] := hD
    have hf5 : r4 = shareR fw fo M := hf5
    exact Ct.iret hx hb hr hlocks (hP.sub [0, 1, 2, 3] rfl) (hD.sub [0, 1, 2, 3] (by decide) rfl) hS ⟨by decide, by decide⟩ dX8_share_22 ⟨r4, rfl, rfl, (by unfold shareS; first | (rw [if_pos (by assumption)]) | (rw [if_neg (by assumption)]; assumption))⟩
theorem kX8_verdict_8 : ∀ w ∈ u_ws RX8 TX8 13, w ∈ wsX8_verdict := fun _ h => List.mem_cons_of_mem _ (List.mem_append_left _ (List.mem_append_right _ h))
abbrev q_X8_verdict (g : GT) (hd : Nat) (d : Nat → Nat) (i : Nat → Int) (tw : Nat) (to_ : Nat) (tm : Int) (fw : Nat → Int) (fo : Nat → Int) (M : Nat) (fmk : Nat → Int) : Option Value → va_W → Prop := fun v w => ∃ (r : Int), v = some (.int (iI r)) ∧ w = [(hd, .inr (8, dF d i)), ((d 11), .inr (7, [.int (iI tm), .ref tw, .ref to_])), (tw, aI (g.2.1 0) 12 fw), (to_, aI (g.2.1 0) 12 fo), ((d 5), aI (g.2.1 0) 5 fmk)] ∧ (r = verdictS fw fo M (fmk 4))
set_option maxHeartbeats 4000000 in
set_option maxRecDepth 100000 in
theorem c_X8_verdict (l : Launch) (g : GT) (hd : Nat) (d : Nat → Nat) (i : Nat → Int) (tw : Nat) (to_ : Nat) (tm : Int) (fw : Nat → Int) (fo : Nat → Int) (M : Nat) (fmk : Nat → Int) (h1 : tm = (M : Int) ∧ M ≤ 12) (h2 : ∀ j, j < M → (fw j = 0 ∨ fw j = 1) ∧ -999 ≤ fo j ∧ fo j ≤ 999) (h3 : 1 ≤ fmk 4 ∧ fmk 4 ≤ 500) : Ct l g yX8_verdict wsX8_verdict ({ frames := 2, cells := 0, slots := 0, locals := 48 } : Room) [.ref hd] [(hd, .inr (8, dF d i)), ((d 11), .inr (7, [.int (iI tm), .ref tw, .ref to_])), (tw, aI (g.2.1 0) 12 fw), (to_, aI (g.2.1 0) 12 fo), ((d 5), aI (g.2.1 0) 5 fmk)] (q_X8_verdict g hd d i tw to_ tm fw fo M fmk) := by
  refine Ct.intro (maxL := 2) (ret := (some .int)) (by decide) rfl (Nat.le_of_ble_eq_true rfl) ?_
  intro p e s m below meth c A ls hx hb hr hml hown hts hlocks hnm hA hG hP hD hS hl
  have hown : s.vm.findClass RX8 = some m.cls := hown
  have hl : lv_has ls 2 [(0, .ref hd)] := hl
  have hP : va_P g.1 vwCl [(hd, .inr (8, dF d i)), ((d 11), .inr (7, [.int (iI tm), .ref tw, .ref to_])), (tw, aI (g.2.1 0) 12 fw), (to_, aI (g.2.1 0) 12 fo), ((d 5), aI (g.2.1 0) 5 fmk)] s.heap := hP
  have hS : va_S A s.heap s.heap [] := hS
  obtain ⟨H, hHe⟩ : ∃ H : Heap, H = s.heap := ⟨_, rfl⟩
  obtain ⟨locs, hLe⟩ : ∃ L : List Loc, L = [] := ⟨_, rfl⟩
  have hP : va_P g.1 vwCl [(hd, .inr (8, dF d i)), ((d 11), .inr (7, [.int (iI tm), .ref tw, .ref to_])), (tw, aI (g.2.1 0) 12 fw), (to_, aI (g.2.1 0) 12 fo), ((d 5), aI (g.2.1 0) 5 fmk)] H := by rw [hHe]; exact hP
  have hS : va_S A s.heap H locs := by rw [hHe, hLe]; exact hS
  suffices hgo : W p l e ({ frames := 2, cells := 0, slots := 0, locals := 48 } : Room) s m [.ref hd].toArray below meth c H locs 0 0 (MQ below (CQ g (q_X8_verdict g hd d i tw to_ tm fw fo M fmk) A) [.ref hd].toArray s ({ frames := 2, cells := 0, slots := 0, locals := 48 } : Room).cells ({ frames := 2, cells := 0, slots := 0, locals := 48 } : Room).slots A) (F0 m 0 ls []) by rw [hHe, hLe] at hgo; exact hgo
  clear hHe hLe
  refine lv_aload_n hx hb dX8_verdict_0 rfl (lv_at hl 0 rfl) ?_
  refine va_get (D := g.1) (ci := 8) (v := .ref (d 11)) hx hb hts kX8_verdict_8 hown hG.1 hP 0 rfl rfl 11 (by decide) (hts _ (List.mem_of_getElem? (i := 1) rfl)) (fun _ h9 => h9) rfl dX8_verdict_1 ?_
  refine Ct.callV (ci := 7) (q0 := 1) (qc := (RX7, TX7, 3)) (As := []) (rest := []) (wr := [(hd, .inr (8, dF d i)), ((d 5), aI (g.2.1 0) 5 fmk)]) (c1 := 0) (s1 := 0) ⟨hx, hb, hml, hown, hts⟩ (c_X7_lacksWay l g (d 11) tw to_ tm fw fo M (by omega) (h2)) rfl rfl (cwV 0 hts gX8_verdict_X7_lacksWay rfl rfl rfl (by decide +kernel) ⟨Nat.le_of_ble_eq_true rfl, Nat.le_of_ble_eq_true rfl⟩) hG hP hD hS hA [1, 2, 3] [0, 4] rfl rfl (by decide) (by decide) (by decide) rfl hl.1 rfl (Nat.le_of_ble_eq_true rfl) dX8_verdict_4 ⟨Nat.le_of_ble_eq_true rfl, Nat.le_of_ble_eq_true rfl⟩ rfl rfl (fun v w H locs hv hP hD hS => ?_)
  obtain ⟨⟨rfl, hb1⟩ | ⟨rfl, hb1⟩, rfl⟩ := hv
  · show W p l e _ s m _ below meth c H locs 0 0 _ (F0 m 7 ls (.int (iI 1) :: []))
    have hb1 : mW fw 0 M = 0 ∨ mW fw 1 M = 0 := hb1
    have hP : va_P g.1 vwCl [(hd, .inr (8, dF d i)), ((d 5), aI (g.2.1 0) 5 fmk), ((d 11), .inr (7, [.int (iI tm), .ref tw, .ref to_])), (tw, aI (g.2.1 0) 12 fw), (to_, aI (g.2.1 0) 12 fo)] H := hP
    have hD : va_D A [(hd, .inr (8, dF d i)), ((d 5), aI (g.2.1 0) 5 fmk), ((d 11), .inr (7, [.int (iI tm), .ref tw, .ref to_])), (tw, aI (g.2.1 0) 12 fw), (to_, aI (g.2.1 0) 12 fo)] := hD
    refine iv_if_eq (tgt := 13) hx hb dX8_verdict_7 (by decide) (by decide) (fun h => absurd h (by decide)) (fun _ => ?_)
    refine lv_bipush (v := iI (-2)) hx hb dX8_verdict_10 (by decide) ?_
    exact Ct.iret hx hb hr hlocks (hP.sub [0, 2, 3, 4, 1] rfl) (hD.sub [0, 2, 3, 4, 1] (by decide) rfl) hS ⟨by decide, by decide⟩ dX8_verdict_12 ⟨(-2), rfl, rfl, (by unfold verdictS; first | (rw [if_pos (by assumption)]) | (rw [if_neg (by assumption)]; (repeat' split) <;> omega))⟩
  · show W p l e _ s m _ below meth c H locs 0 0 _ (F0 m 7 ls (.int (iI 0) :: []))
    have hb1 : ¬ (mW fw 0 M = 0 ∨ mW fw 1 M = 0) := hb1
    have hP : va_P g.1 vwCl [(hd, .inr (8, dF d i)), ((d 5), aI (g.2.1 0) 5 fmk), ((d 11), .inr (7, [.int (iI tm), .ref tw, .ref to_])), (tw, aI (g.2.1 0) 12 fw), (to_, aI (g.2.1 0) 12 fo)] H := hP
    have hD : va_D A [(hd, .inr (8, dF d i)), ((d 5), aI (g.2.1 0) 5 fmk), ((d 11), .inr (7, [.int (iI tm), .ref tw, .ref to_])), (tw, aI (g.2.1 0) 12 fw), (to_, aI (g.2.1 0) 12 fo)] := hD
    refine iv_if_eq (tgt := 13) hx hb dX8_verdict_7 (by decide) (by decide) (fun _ => ?_) (fun h => absurd h (by decide))
    refine lv_aload_n hx hb dX8_verdict_13 rfl (lv_at hl 0 rfl) ?_
    refine va_get (D := g.1) (ci := 8) (v := .ref (d 11)) hx hb hts kX8_verdict_8 hown hG.1 hP 0 rfl rfl 11 (by decide) (hts _ (List.mem_of_getElem? (i := 1) rfl)) (fun _ h9 => h9) rfl dX8_verdict_14 ?_
    refine Ct.callV (ci := 7) (q0 := 2) (qc := (RX7, TX7, 3)) (As := []) (rest := []) (wr := [(hd, .inr (8, dF d i)), ((d 5), aI (g.2.1 0) 5 fmk)]) (c1 := 0) (s1 := 0) ⟨hx, hb, hml, hown, hts⟩ (c_X7_thousandthsAsGood l g (d 11) tw to_ tm fw fo M (by omega) (h2)) rfl rfl (cwV 0 hts gX8_verdict_X7_thousandthsAsGood rfl rfl rfl (by decide +kernel) ⟨Nat.le_of_ble_eq_true rfl, Nat.le_of_ble_eq_true rfl⟩) hG hP hD hS hA [2, 3, 4] [0, 1] rfl rfl (by decide) (by decide) (by decide) rfl hl.1 rfl (Nat.le_of_ble_eq_true rfl) dX8_verdict_17 ⟨Nat.le_of_ble_eq_true rfl, Nat.le_of_ble_eq_true rfl⟩ rfl rfl (fun v w H locs hv hP hD hS => ?_)
    obtain ⟨r4, rfl, rfl, hf5⟩ := hv
    show W p l e _ s m _ below meth c H locs 0 0 _ (F0 m 20 ls (.int (iI r4) :: []))
    have hP : va_P g.1 vwCl [(hd, .inr (8, dF d i)), ((d 5), aI (g.2.1 0) 5 fmk), ((d 11), .inr (7, [.int (iI tm), .ref tw, .ref to_])), (tw, aI (g.2.1 0) 12 fw), (to_, aI (g.2.1 0) 12 fo)] H := hP
    have hD : va_D A [(hd, .inr (8, dF d i)), ((d 5), aI (g.2.1 0) 5 fmk), ((d 11), .inr (7, [.int (iI tm), .ref tw, .ref to_])), (tw, aI (g.2.1 0) 12 fw), (to_, aI (g.2.1 0) 12 fo)] := hD
    have hf5 : r4 = shareR fw fo M := hf5
    refine lv_istore_n (lv' := [(1, .int (iI r4)), (0, .ref hd)]) hx hb dX8_verdict_20 rfl hl (by decide) rfl (fun ls hl => ?_)
    have hsr := shareR_rng fw fo (M := M) (by omega)
    refine lv_iload_n hx hb dX8_verdict_21 rfl (lv_at hl 0 rfl) ?_
    refine lv_aload_n hx hb dX8_verdict_22 rfl (lv_at hl 1 rfl) ?_
    refine va_get (D := g.1) (ci := 8) (v := .ref (d 5)) hx hb hts kX8_verdict_8 hown hG.1 hP 0 rfl rfl 5 (by decide) (hts _ (List.mem_of_getElem? (i := 2) rfl)) (fun _ h9 => h9) rfl dX8_verdict_23 ?_
    refine lv_iconst (v := iI (4)) hx hb dX8_verdict_26 rfl ?_
    refine iv_iald hx hb hG hP 1 rfl 4 (rfl) (by decide) (by decide) dX8_verdict_27 ?_
    refine iv_icmp_ge (tgt := 33) hx hb dX8_verdict_28 (by decide) (by omega) (fun hc6 => ?_) (fun hc6 => ?_)
    · refine lv_iload_n hx hb dX8_verdict_33 rfl (lv_at hl 0 rfl) ?_
      refine lv_sipush (v := iI (500)) hx hb dX8_verdict_34 (by decide) ?_
      refine iv_icmp_lt (tgt := 44) hx hb dX8_verdict_37 (by decide) (by omega) (fun hc7 => ?_) (fun hc7 => ?_)
      · refine lv_bipush (v := iI (-5)) hx hb dX8_verdict_44 (by decide) ?_
        exact Ct.iret hx hb hr hlocks (hP.sub [0, 2, 3, 4, 1] rfl) (hD.sub [0, 2, 3, 4, 1] (by decide) rfl) hS ⟨by decide, by decide⟩ dX8_verdict_46 ⟨(-5), rfl, rfl, (by unfold verdictS; first | (rw [if_pos (by assumption)]) | (rw [if_neg (by assumption)]; (repeat' split) <;> omega))⟩
      · refine lv_iconst (v := iI (0)) hx hb dX8_verdict_40 rfl ?_
        refine lv_goto (tgt := 46) hx hb dX8_verdict_41 (by decide) ?_
        exact Ct.iret hx hb hr hlocks (hP.sub [0, 2, 3, 4, 1] rfl) (hD.sub [0, 2, 3, 4, 1] (by decide) rfl) hS ⟨by decide, by decide⟩ dX8_verdict_46 ⟨0, rfl, rfl, (by unfold verdictS; first | (rw [if_pos (by assumption)]) | (rw [if_neg (by assumption)]; (repeat' split) <;> omega))⟩
    · refine lv_iconst (v := iI (1)) hx hb dX8_verdict_31 rfl ?_
      exact Ct.iret hx hb hr hlocks (hP.sub [0, 2, 3, 4, 1] rfl) (hD.sub [0, 2, 3, 4, 1] (by decide) rfl) hS ⟨by decide, by decide⟩ dX8_verdict_32 ⟨1, rfl, rfl, (by unfold verdictS; first | (rw [if_pos (by assumption)]) | (rw [if_neg (by assumption)]; (repeat' split) <;> omega))⟩
