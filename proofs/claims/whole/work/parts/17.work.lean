abbrev q_X8_taskNumber (g : GT) (x : Int) (y : Int) : Option Value → va_W → Prop := fun v w => v = some (.int (iI (1000 * x + y))) ∧ w = []
set_option maxHeartbeats 4000000 in
set_option maxRecDepth 100000 in
theorem c_X8_taskNumber (l : Launch) (g : GT) (x : Int) (y : Int) : Ct l g yX8_taskNumber wsX8_taskNumber ({ frames := 0, cells := 0, slots := 0, locals := 0 } : Room) [.int (iI x), .int (iI y)] [] (q_X8_taskNumber g x y) := by
  refine Ct.intro (maxL := 2) (ret := (some .int)) (by decide) rfl (Nat.le_of_ble_eq_true rfl) ?_
  intro p e s m below meth c A ls hx hb hr hml hown hts hlocks hnm hA hG hP hD hS hl
  have hown : s.vm.findClass RX8 = some m.cls := hown
  have hl : lv_has ls 2 [(0, .int (iI x)), (1, .int (iI y))] := hl
  have hP : va_P g.1 vwCl [] s.heap := hP
  have hS : va_S A s.heap s.heap [] := hS
  obtain ⟨H, hHe⟩ : ∃ H : Heap, H = s.heap := ⟨_, rfl⟩
  obtain ⟨locs, hLe⟩ : ∃ L : List Loc, L = [] := ⟨_, rfl⟩
  have hP : va_P g.1 vwCl [] H := by rw [hHe]; exact hP
  have hS : va_S A s.heap H locs := by rw [hHe, hLe]; exact hS
  suffices hgo : W p l e ({ frames := 0, cells := 0, slots := 0, locals := 0 } : Room) s m [.int (iI x), .int (iI y)].toArray below meth c H locs 0 0 (MQ below (CQ g (q_X8_taskNumber g x y) A) [.int (iI x), .int (iI y)].toArray s ({ frames := 0, cells := 0, slots := 0, locals := 0 } : Room).cells ({ frames := 0, cells := 0, slots := 0, locals := 0 } : Room).slots A) (F0 m 0 ls []) by rw [hHe, hLe] at hgo; exact hgo
  clear hHe hLe
  refine lv_sipush (v := iI (1000)) hx hb dX8_taskNumber_0 (by decide) ?_
  refine lv_iload_n hx hb dX8_taskNumber_3 rfl (lv_at hl 0 rfl) ?_
  refine iv_imul hx hb dX8_taskNumber_4 ?_
  refine lv_iload_n hx hb dX8_taskNumber_5 rfl (lv_at hl 1 rfl) ?_
  refine iv_iadd hx hb dX8_taskNumber_6 ?_
  exact Ct.iret hx hb hr hlocks (hP.sub [] rfl) (hD.sub [] (by decide) rfl) hS ⟨by decide, by decide⟩ dX8_taskNumber_7 ⟨rfl, rfl⟩
theorem kX8_work_8 : ∀ w ∈ u_ws RX8 TX8 13, w ∈ wsX8_work := fun _ h => List.mem_cons_of_mem _ (List.mem_append_left _ (List.mem_append_right _ h))
abbrev q_X8_work (g : GT) (hd : Nat) (d : Nat → Nat) (i : Nat → Int) (ad : Nat) (an : Nat) (aa : Nat) (fd : Nat → Int) (fn : Nat → Int) (fa : Nat → Int) (much : Int) (less : Int) (st : Int) : Option Value → va_W → Prop := fun v w => ∃ (r : Int), ∃ (fd' : Nat → Int), ∃ (fn' : Nat → Int), ∃ (fa' : Nat → Int), v = some (.int (iI r)) ∧ w = [(hd, .inr (8, dF d i)), ((d 0), .inr (4, [.ref ad, .ref an, .ref aa])), (ad, aI (g.2.1 0) 3 fd'), (an, aI (g.2.1 0) 3 fn'), (aa, aI (g.2.1 0) 3 fa')] ∧ (r = workS much less st)
set_option maxHeartbeats 4000000 in
set_option maxRecDepth 100000 in
theorem c_X8_work (l : Launch) (g : GT) (hd : Nat) (d : Nat → Nat) (i : Nat → Int) (ad : Nat) (an : Nat) (aa : Nat) (fd : Nat → Int) (fn : Nat → Int) (fa : Nat → Int) (much : Int) (less : Int) (st : Int) (h1 : (-2147483648 ≤ much ∧ much < 2147483648) ∧ (-2147483648 ≤ less ∧ less < 2147483648) ∧ (-2147483648 ≤ st ∧ st < 2147483648)) : Ct l g yX8_work wsX8_work ({ frames := 4, cells := 0, slots := 0, locals := 95 } : Room) [.ref hd, .int (iI much), .int (iI less), .int (iI st)] [(hd, .inr (8, dF d i)), ((d 0), .inr (4, [.ref ad, .ref an, .ref aa])), (ad, aI (g.2.1 0) 3 fd), (an, aI (g.2.1 0) 3 fn), (aa, aI (g.2.1 0) 3 fa)] (q_X8_work g hd d i ad an aa fd fn fa much less st) := by
  refine Ct.intro (maxL := 4) (ret := (some .int)) (by decide) rfl (Nat.le_of_ble_eq_true rfl) ?_
  intro p e s m below meth c A ls hx hb hr hml hown hts hlocks hnm hA hG hP hD hS hl
  have hown : s.vm.findClass RX8 = some m.cls := hown
  have hl : lv_has ls 4 [(0, .ref hd), (1, .int (iI much)), (2, .int (iI less)), (3, .int (iI st))] := hl
  have hP : va_P g.1 vwCl [(hd, .inr (8, dF d i)), ((d 0), .inr (4, [.ref ad, .ref an, .ref aa])), (ad, aI (g.2.1 0) 3 fd), (an, aI (g.2.1 0) 3 fn), (aa, aI (g.2.1 0) 3 fa)] s.heap := hP
  have hS : va_S A s.heap s.heap [] := hS
  obtain ⟨H, hHe⟩ : ∃ H : Heap, H = s.heap := ⟨_, rfl⟩
  obtain ⟨locs, hLe⟩ : ∃ L : List Loc, L = [] := ⟨_, rfl⟩
  have hP : va_P g.1 vwCl [(hd, .inr (8, dF d i)), ((d 0), .inr (4, [.ref ad, .ref an, .ref aa])), (ad, aI (g.2.1 0) 3 fd), (an, aI (g.2.1 0) 3 fn), (aa, aI (g.2.1 0) 3 fa)] H := by rw [hHe]; exact hP
  have hS : va_S A s.heap H locs := by rw [hHe, hLe]; exact hS
  suffices hgo : W p l e ({ frames := 4, cells := 0, slots := 0, locals := 95 } : Room) s m [.ref hd, .int (iI much), .int (iI less), .int (iI st)].toArray below meth c H locs 0 0 (MQ below (CQ g (q_X8_work g hd d i ad an aa fd fn fa much less st) A) [.ref hd, .int (iI much), .int (iI less), .int (iI st)].toArray s ({ frames := 4, cells := 0, slots := 0, locals := 95 } : Room).cells ({ frames := 4, cells := 0, slots := 0, locals := 95 } : Room).slots A) (F0 m 0 ls []) by rw [hHe, hLe] at hgo; exact hgo
  clear hHe hLe
  refine lv_iload_n hx hb dX8_work_0 rfl (lv_at hl 1 rfl) ?_
  refine lv_iload_n hx hb dX8_work_1 rfl (lv_at hl 2 rfl) ?_
  refine Ct.callS (As := [.int (iI much), .int (iI less)]) (rest := []) (wr := [(hd, .inr (8, dF d i)), ((d 0), .inr (4, [.ref ad, .ref an, .ref aa])), (ad, aI (g.2.1 0) 3 fd), (an, aI (g.2.1 0) 3 fn), (aa, aI (g.2.1 0) 3 fa)]) (c1 := 0) (s1 := 0) ⟨hx, hb, hml, hown, hts⟩ (c_X8_isTask l g much less (by omega)) (va_cwS 2 hts gX8_work_X8_isTask rfl rfl rfl (by decide +kernel) ⟨Nat.le_of_ble_eq_true rfl, Nat.le_of_ble_eq_true rfl⟩) hG hP hD hS hA [] [0, 1, 2, 3, 4] rfl rfl (by decide) (by decide) (by decide) rfl hl.1 rfl (Nat.le_of_ble_eq_true rfl) dX8_work_2 ⟨Nat.le_of_ble_eq_true rfl, Nat.le_of_ble_eq_true rfl⟩ rfl rfl (fun v w H locs hv hP hD hS => ?_)
  obtain ⟨⟨rfl, hb1⟩ | ⟨rfl, hb1⟩, rfl⟩ := hv
  · show W p l e _ s m _ below meth c H locs 0 0 _ (F0 m 5 ls (.int (iI 1) :: []))
    have hb1 : 0 ≤ less ∧ less ≤ much ∧ much ≤ 999 := hb1
    have hP : va_P g.1 vwCl [(hd, .inr (8, dF d i)), ((d 0), .inr (4, [.ref ad, .ref an, .ref aa])), (ad, aI (g.2.1 0) 3 fd), (an, aI (g.2.1 0) 3 fn), (aa, aI (g.2.1 0) 3 fa)] H := hP
    have hD : va_D A [(hd, .inr (8, dF d i)), ((d 0), .inr (4, [.ref ad, .ref an, .ref aa])), (ad, aI (g.2.1 0) 3 fd), (an, aI (g.2.1 0) 3 fn), (aa, aI (g.2.1 0) 3 fa)] := hD
    refine iv_if_eq (tgt := 15) hx hb dX8_work_5 (by decide) (by decide) (fun h => absurd h (by decide)) (fun _ => ?_)
    refine lv_iload_n hx hb dX8_work_8 rfl (lv_at hl 3 rfl) ?_
    refine Ct.callS (As := [.int (iI st)]) (rest := []) (wr := [(hd, .inr (8, dF d i)), ((d 0), .inr (4, [.ref ad, .ref an, .ref aa])), (ad, aI (g.2.1 0) 3 fd), (an, aI (g.2.1 0) 3 fn), (aa, aI (g.2.1 0) 3 fa)]) (c1 := 0) (s1 := 0) ⟨hx, hb, hml, hown, hts⟩ (c_X8_isSet l g st (by omega)) (va_cwS 1 hts gX8_work_X8_isSet rfl rfl rfl (by decide +kernel) ⟨Nat.le_of_ble_eq_true rfl, Nat.le_of_ble_eq_true rfl⟩) hG hP hD hS hA [] [0, 1, 2, 3, 4] rfl rfl (by decide) (by decide) (by decide) rfl hl.1 rfl (Nat.le_of_ble_eq_true rfl) dX8_work_9 ⟨Nat.le_of_ble_eq_true rfl, Nat.le_of_ble_eq_true rfl⟩ rfl rfl (fun v w H locs hv hP hD hS => ?_)
    obtain ⟨⟨rfl, hb3⟩ | ⟨rfl, hb3⟩, rfl⟩ := hv
    · show W p l e _ s m _ below meth c H locs 0 0 _ (F0 m 12 ls (.int (iI 1) :: []))
      have hb3 : 0 ≤ st ∧ st ≤ 255 := hb3
      have hP : va_P g.1 vwCl [(hd, .inr (8, dF d i)), ((d 0), .inr (4, [.ref ad, .ref an, .ref aa])), (ad, aI (g.2.1 0) 3 fd), (an, aI (g.2.1 0) 3 fn), (aa, aI (g.2.1 0) 3 fa)] H := hP
      have hD : va_D A [(hd, .inr (8, dF d i)), ((d 0), .inr (4, [.ref ad, .ref an, .ref aa])), (ad, aI (g.2.1 0) 3 fd), (an, aI (g.2.1 0) 3 fn), (aa, aI (g.2.1 0) 3 fa)] := hD
      refine iv_if_ne (tgt := 17) hx hb dX8_work_12 (by decide) (by decide) (fun _ => ?_) (fun h => absurd h (by decide))
      refine lv_aload_n hx hb dX8_work_17 rfl (lv_at hl 0 rfl) ?_
      refine va_get (D := g.1) (ci := 8) (v := .ref (d 0)) hx hb hts kX8_work_8 hown hG.1 hP 0 rfl rfl 0 (by decide) (hts _ (List.mem_of_getElem? (i := 1) rfl)) (fun _ h9 => h9) rfl dX8_work_18 ?_
      refine lv_iload_n hx hb dX8_work_21 rfl (lv_at hl 1 rfl) ?_
      refine lv_iload_n hx hb dX8_work_22 rfl (lv_at hl 2 rfl) ?_
      refine lv_iload_n hx hb dX8_work_23 rfl (lv_at hl 3 rfl) ?_
      refine Ct.callV (ci := 4) (q0 := 1) (qc := (RX4, TX4, 3)) (As := [.int (iI much), .int (iI less), .int (iI st)]) (rest := []) (wr := [(hd, .inr (8, dF d i))]) (c1 := 0) (s1 := 0) ⟨hx, hb, hml, hown, hts⟩ (c_X4_fill l g (d 0) ad an aa fd fn fa much less st (by omega)) rfl rfl (cwV 3 hts gX8_work_X4_fill rfl rfl rfl (by decide +kernel) ⟨Nat.le_of_ble_eq_true rfl, Nat.le_of_ble_eq_true rfl⟩) hG hP hD hS hA [1, 2, 3, 4] [0] rfl rfl (by decide) (by decide) (by decide) rfl hl.1 rfl (Nat.le_of_ble_eq_true rfl) dX8_work_24 ⟨Nat.le_of_ble_eq_true rfl, Nat.le_of_ble_eq_true rfl⟩ rfl rfl (fun v w H locs hv hP hD hS => ?_)
      obtain ⟨fd5, fn6, fa7, rfl, rfl, hf8, hf9⟩ := hv
      show W p l e _ s m _ below meth c H locs 0 0 _ (F0 m 27 ls (.int (iI (wk much less st)) :: []))
      have hP : va_P g.1 vwCl [(hd, .inr (8, dF d i)), ((d 0), .inr (4, [.ref ad, .ref an, .ref aa])), (ad, aI (g.2.1 0) 3 fd5), (an, aI (g.2.1 0) 3 fn6), (aa, aI (g.2.1 0) 3 fa7)] H := hP
      have hD : va_D A [(hd, .inr (8, dF d i)), ((d 0), .inr (4, [.ref ad, .ref an, .ref aa])), (ad, aI (g.2.1 0) 3 fd5), (an, aI (g.2.1 0) 3 fn6), (aa, aI (g.2.1 0) 3 fa7)] := hD
      have hf8 : ∀ j, j < 3 → fd5 j = wkG st much less j := hf8
      have hf9 : ∀ j, j < 3 → fn6 j = wkD st much less j := hf9
      exact Ct.iret hx hb hr hlocks (hP.sub [0, 1, 2, 3, 4] rfl) (hD.sub [0, 1, 2, 3, 4] (by decide) rfl) hS ⟨by decide, by decide⟩ dX8_work_27 ⟨(wk much less st), fd5, fn6, fa7, rfl, rfl, (by unfold workS; (repeat' split) <;> first | rfl | omega | (exfalso; omega))⟩
    · show W p l e _ s m _ below meth c H locs 0 0 _ (F0 m 12 ls (.int (iI 0) :: []))
      have hb3 : ¬ (0 ≤ st ∧ st ≤ 255) := hb3
      have hP : va_P g.1 vwCl [(hd, .inr (8, dF d i)), ((d 0), .inr (4, [.ref ad, .ref an, .ref aa])), (ad, aI (g.2.1 0) 3 fd), (an, aI (g.2.1 0) 3 fn), (aa, aI (g.2.1 0) 3 fa)] H := hP
      have hD : va_D A [(hd, .inr (8, dF d i)), ((d 0), .inr (4, [.ref ad, .ref an, .ref aa])), (ad, aI (g.2.1 0) 3 fd), (an, aI (g.2.1 0) 3 fn), (aa, aI (g.2.1 0) 3 fa)] := hD
      refine iv_if_ne (tgt := 17) hx hb dX8_work_12 (by decide) (by decide) (fun h => absurd h (by decide)) (fun _ => ?_)
      refine lv_iconst (v := iI (-1)) hx hb dX8_work_15 rfl ?_
      exact Ct.iret hx hb hr hlocks (hP.sub [0, 1, 2, 3, 4] rfl) (hD.sub [0, 1, 2, 3, 4] (by decide) rfl) hS ⟨by decide, by decide⟩ dX8_work_16 ⟨(-1), fd, fn, fa, rfl, rfl, (by unfold workS; (repeat' split) <;> first | rfl | omega | (exfalso; omega))⟩
  · show W p l e _ s m _ below meth c H locs 0 0 _ (F0 m 5 ls (.int (iI 0) :: []))
    have hb1 : ¬ (0 ≤ less ∧ less ≤ much ∧ much ≤ 999) := hb1
    have hP : va_P g.1 vwCl [(hd, .inr (8, dF d i)), ((d 0), .inr (4, [.ref ad, .ref an, .ref aa])), (ad, aI (g.2.1 0) 3 fd), (an, aI (g.2.1 0) 3 fn), (aa, aI (g.2.1 0) 3 fa)] H := hP
    have hD : va_D A [(hd, .inr (8, dF d i)), ((d 0), .inr (4, [.ref ad, .ref an, .ref aa])), (ad, aI (g.2.1 0) 3 fd), (an, aI (g.2.1 0) 3 fn), (aa, aI (g.2.1 0) 3 fa)] := hD
    refine iv_if_eq (tgt := 15) hx hb dX8_work_5 (by decide) (by decide) (fun _ => ?_) (fun h => absurd h (by decide))
    refine lv_iconst (v := iI (-1)) hx hb dX8_work_15 rfl ?_
    exact Ct.iret hx hb hr hlocks (hP.sub [0, 1, 2, 3, 4] rfl) (hD.sub [0, 1, 2, 3, 4] (by decide) rfl) hS ⟨by decide, by decide⟩ dX8_work_16 ⟨(-1), fd, fn, fa, rfl, rfl, (by unfold workS; (repeat' split) <;> first | rfl | omega | (exfalso; omega))⟩
theorem kX8_row_4 : ∀ w ∈ u_ws RX4 TX4 3, w ∈ wsX8_row := fun _ h => List.mem_cons_of_mem _ (List.mem_append_right _ h)
theorem kX8_row_8 : ∀ w ∈ u_ws RX8 TX8 13, w ∈ wsX8_row := fun _ h => List.mem_cons_of_mem _ (List.mem_append_left _ (List.mem_append_right _ h))
abbrev q_X8_row (g : GT) (hd : Nat) (d : Nat → Nat) (i : Nat → Int) (ad : Nat) (an : Nat) (aa : Nat) (fd : Nat → Int) (fn : Nat → Int) (fa : Nat → Int) (much : Int) (less : Int) (st : Int) (c_ : Int) : Option Value → va_W → Prop := fun v w => ∃ (r : Int), ∃ (fd' : Nat → Int), ∃ (fn' : Nat → Int), ∃ (fa' : Nat → Int), v = some (.int (iI r)) ∧ w = [(hd, .inr (8, dF d i)), ((d 0), .inr (4, [.ref ad, .ref an, .ref aa])), (ad, aI (g.2.1 0) 3 fd'), (an, aI (g.2.1 0) 3 fn'), (aa, aI (g.2.1 0) 3 fa')] ∧ (r = rowS much less st c_)
set_option maxHeartbeats 4000000 in
set_option maxRecDepth 100000 in
theorem c_X8_row (l : Launch) (g : GT) (hd : Nat) (d : Nat → Nat) (i : Nat → Int) (ad : Nat) (an : Nat) (aa : Nat) (fd : Nat → Int) (fn : Nat → Int) (fa : Nat → Int) (much : Int) (less : Int) (st : Int) (c_ : Int) (h1 : (-2147483648 ≤ much ∧ much < 2147483648) ∧ (-2147483648 ≤ less ∧ less < 2147483648) ∧ (-2147483648 ≤ st ∧ st < 2147483648) ∧ (-2147483648 ≤ c_ ∧ c_ < 2147483648)) : Ct l g yX8_row wsX8_row ({ frames := 4, cells := 0, slots := 0, locals := 95 } : Room) [.ref hd, .int (iI much), .int (iI less), .int (iI st), .int (iI c_)] [(hd, .inr (8, dF d i)), ((d 0), .inr (4, [.ref ad, .ref an, .ref aa])), (ad, aI (g.2.1 0) 3 fd), (an, aI (g.2.1 0) 3 fn), (aa, aI (g.2.1 0) 3 fa)] (q_X8_row g hd d i ad an aa fd fn fa much less st c_) := by
  refine Ct.intro (maxL := 5) (ret := (some .int)) (by decide) rfl (Nat.le_of_ble_eq_true rfl) ?_
  intro p e s m below meth c A ls hx hb hr hml hown hts hlocks hnm hA hG hP hD hS hl
  have hown : s.vm.findClass RX8 = some m.cls := hown
  have hl : lv_has ls 5 [(0, .ref hd), (1, .int (iI much)), (2, .int (iI less)), (3, .int (iI st)), (4, .int (iI c_))] := hl
  have hP : va_P g.1 vwCl [(hd, .inr (8, dF d i)), ((d 0), .inr (4, [.ref ad, .ref an, .ref aa])), (ad, aI (g.2.1 0) 3 fd), (an, aI (g.2.1 0) 3 fn), (aa, aI (g.2.1 0) 3 fa)] s.heap := hP
  have hS : va_S A s.heap s.heap [] := hS
  obtain ⟨H, hHe⟩ : ∃ H : Heap, H = s.heap := ⟨_, rfl⟩
  obtain ⟨locs, hLe⟩ : ∃ L : List Loc, L = [] := ⟨_, rfl⟩
  have hP : va_P g.1 vwCl [(hd, .inr (8, dF d i)), ((d 0), .inr (4, [.ref ad, .ref an, .ref aa])), (ad, aI (g.2.1 0) 3 fd), (an, aI (g.2.1 0) 3 fn), (aa, aI (g.2.1 0) 3 fa)] H := by rw [hHe]; exact hP
  have hS : va_S A s.heap H locs := by rw [hHe, hLe]; exact hS
  suffices hgo : W p l e ({ frames := 4, cells := 0, slots := 0, locals := 95 } : Room) s m [.ref hd, .int (iI much), .int (iI less), .int (iI st), .int (iI c_)].toArray below meth c H locs 0 0 (MQ below (CQ g (q_X8_row g hd d i ad an aa fd fn fa much less st c_) A) [.ref hd, .int (iI much), .int (iI less), .int (iI st), .int (iI c_)].toArray s ({ frames := 4, cells := 0, slots := 0, locals := 95 } : Room).cells ({ frames := 4, cells := 0, slots := 0, locals := 95 } : Room).slots A) (F0 m 0 ls []) by rw [hHe, hLe] at hgo; exact hgo
  clear hHe hLe
  refine lv_iload_n hx hb dX8_row_0 rfl (lv_at hl 1 rfl) ?_
  refine lv_iload_n hx hb dX8_row_1 rfl (lv_at hl 2 rfl) ?_
  refine Ct.callS (As := [.int (iI much), .int (iI less)]) (rest := []) (wr := [(hd, .inr (8, dF d i)), ((d 0), .inr (4, [.ref ad, .ref an, .ref aa])), (ad, aI (g.2.1 0) 3 fd), (an, aI (g.2.1 0) 3 fn), (aa, aI (g.2.1 0) 3 fa)]) (c1 := 0) (s1 := 0) ⟨hx, hb, hml, hown, hts⟩ (c_X8_isTask l g much less (by omega)) (va_cwS 2 hts gX8_row_X8_isTask rfl rfl rfl (by decide +kernel) ⟨Nat.le_of_ble_eq_true rfl, Nat.le_of_ble_eq_true rfl⟩) hG hP hD hS hA [] [0, 1, 2, 3, 4] rfl rfl (by decide) (by decide) (by decide) rfl hl.1 rfl (Nat.le_of_ble_eq_true rfl) dX8_row_2 ⟨Nat.le_of_ble_eq_true rfl, Nat.le_of_ble_eq_true rfl⟩ rfl rfl (fun v w H locs hv hP hD hS => ?_)
  obtain ⟨⟨rfl, hb1⟩ | ⟨rfl, hb1⟩, rfl⟩ := hv
  · show W p l e _ s m _ below meth c H locs 0 0 _ (F0 m 5 ls (.int (iI 1) :: []))
    have hb1 : 0 ≤ less ∧ less ≤ much ∧ much ≤ 999 := hb1
    have hP : va_P g.1 vwCl [(hd, .inr (8, dF d i)), ((d 0), .inr (4, [.ref ad, .ref an, .ref aa])), (ad, aI (g.2.1 0) 3 fd), (an, aI (g.2.1 0) 3 fn), (aa, aI (g.2.1 0) 3 fa)] H := hP
    have hD : va_D A [(hd, .inr (8, dF d i)), ((d 0), .inr (4, [.ref ad, .ref an, .ref aa])), (ad, aI (g.2.1 0) 3 fd), (an, aI (g.2.1 0) 3 fn), (aa, aI (g.2.1 0) 3 fa)] := hD
    refine iv_if_eq (tgt := 25) hx hb dX8_row_5 (by decide) (by decide) (fun h => absurd h (by decide)) (fun _ => ?_)
    refine lv_iload_n hx hb dX8_row_8 rfl (lv_at hl 3 rfl) ?_
    refine Ct.callS (As := [.int (iI st)]) (rest := []) (wr := [(hd, .inr (8, dF d i)), ((d 0), .inr (4, [.ref ad, .ref an, .ref aa])), (ad, aI (g.2.1 0) 3 fd), (an, aI (g.2.1 0) 3 fn), (aa, aI (g.2.1 0) 3 fa)]) (c1 := 0) (s1 := 0) ⟨hx, hb, hml, hown, hts⟩ (c_X8_isSet l g st (by omega)) (va_cwS 1 hts gX8_row_X8_isSet rfl rfl rfl (by decide +kernel) ⟨Nat.le_of_ble_eq_true rfl, Nat.le_of_ble_eq_true rfl⟩) hG hP hD hS hA [] [0, 1, 2, 3, 4] rfl rfl (by decide) (by decide) (by decide) rfl hl.1 rfl (Nat.le_of_ble_eq_true rfl) dX8_row_9 ⟨Nat.le_of_ble_eq_true rfl, Nat.le_of_ble_eq_true rfl⟩ rfl rfl (fun v w H locs hv hP hD hS => ?_)
    obtain ⟨⟨rfl, hb3⟩ | ⟨rfl, hb3⟩, rfl⟩ := hv
    · show W p l e _ s m _ below meth c H locs 0 0 _ (F0 m 12 ls (.int (iI 1) :: []))
      have hb3 : 0 ≤ st ∧ st ≤ 255 := hb3
      have hP : va_P g.1 vwCl [(hd, .inr (8, dF d i)), ((d 0), .inr (4, [.ref ad, .ref an, .ref aa])), (ad, aI (g.2.1 0) 3 fd), (an, aI (g.2.1 0) 3 fn), (aa, aI (g.2.1 0) 3 fa)] H := hP
      have hD : va_D A [(hd, .inr (8, dF d i)), ((d 0), .inr (4, [.ref ad, .ref an, .ref aa])), (ad, aI (g.2.1 0) 3 fd), (an, aI (g.2.1 0) 3 fn), (aa, aI (g.2.1 0) 3 fa)] := hD
      refine iv_if_eq (tgt := 25) hx hb dX8_row_12 (by decide) (by decide) (fun h => absurd h (by decide)) (fun _ => ?_)
      refine lv_iload hx hb dX8_row_15 (lv_at hl 4 rfl) ?_
      refine lv_iconst (v := iI (0)) hx hb dX8_row_17 rfl ?_
      refine lv_iconst (v := iI (2)) hx hb dX8_row_18 rfl ?_
      refine Ct.callS (As := [.int (iI c_), .int (iI 0), .int (iI 2)]) (rest := []) (wr := [(hd, .inr (8, dF d i)), ((d 0), .inr (4, [.ref ad, .ref an, .ref aa])), (ad, aI (g.2.1 0) 3 fd), (an, aI (g.2.1 0) 3 fn), (aa, aI (g.2.1 0) 3 fa)]) (c1 := 0) (s1 := 0) ⟨hx, hb, hml, hown, hts⟩ (c_X8_within l g c_ 0 2 (by omega)) (va_cwS 3 hts gX8_row_X8_within rfl rfl rfl (by decide +kernel) ⟨Nat.le_of_ble_eq_true rfl, Nat.le_of_ble_eq_true rfl⟩) hG hP hD hS hA [] [0, 1, 2, 3, 4] rfl rfl (by decide) (by decide) (by decide) rfl hl.1 rfl (Nat.le_of_ble_eq_true rfl) dX8_row_19 ⟨Nat.le_of_ble_eq_true rfl, Nat.le_of_ble_eq_true rfl⟩ rfl rfl (fun v w H locs hv hP hD hS => ?_)
      obtain ⟨⟨rfl, hb5⟩ | ⟨rfl, hb5⟩, rfl⟩ := hv
      · show W p l e _ s m _ below meth c H locs 0 0 _ (F0 m 22 ls (.int (iI 1) :: []))
        have hb5 : 0 ≤ c_ ∧ c_ ≤ 2 := hb5
        have hP : va_P g.1 vwCl [(hd, .inr (8, dF d i)), ((d 0), .inr (4, [.ref ad, .ref an, .ref aa])), (ad, aI (g.2.1 0) 3 fd), (an, aI (g.2.1 0) 3 fn), (aa, aI (g.2.1 0) 3 fa)] H := hP
        have hD : va_D A [(hd, .inr (8, dF d i)), ((d 0), .inr (4, [.ref ad, .ref an, .ref aa])), (ad, aI (g.2.1 0) 3 fd), (an, aI (g.2.1 0) 3 fn), (aa, aI (g.2.1 0) 3 fa)] := hD
        refine iv_if_ne (tgt := 27) hx hb dX8_row_22 (by decide) (by decide) (fun _ => ?_) (fun h => absurd h (by decide))
        refine lv_aload_n hx hb dX8_row_27 rfl (lv_at hl 0 rfl) ?_
        refine va_get (D := g.1) (ci := 8) (v := .ref (d 0)) hx hb hts kX8_row_8 hown hG.1 hP 0 rfl rfl 0 (by decide) (hts _ (List.mem_of_getElem? (i := 1) rfl)) (fun _ h9 => h9) rfl dX8_row_28 ?_
        refine lv_iload_n hx hb dX8_row_31 rfl (lv_at hl 1 rfl) ?_
        refine lv_iload_n hx hb dX8_row_32 rfl (lv_at hl 2 rfl) ?_
        refine lv_iload_n hx hb dX8_row_33 rfl (lv_at hl 3 rfl) ?_
        refine Ct.callV (ci := 4) (q0 := 1) (qc := (RX4, TX4, 3)) (As := [.int (iI much), .int (iI less), .int (iI st)]) (rest := []) (wr := [(hd, .inr (8, dF d i))]) (c1 := 0) (s1 := 0) ⟨hx, hb, hml, hown, hts⟩ (c_X4_fill l g (d 0) ad an aa fd fn fa much less st (by omega)) rfl rfl (cwV 3 hts gX8_row_X4_fill rfl rfl rfl (by decide +kernel) ⟨Nat.le_of_ble_eq_true rfl, Nat.le_of_ble_eq_true rfl⟩) hG hP hD hS hA [1, 2, 3, 4] [0] rfl rfl (by decide) (by decide) (by decide) rfl hl.1 rfl (Nat.le_of_ble_eq_true rfl) dX8_row_34 ⟨Nat.le_of_ble_eq_true rfl, Nat.le_of_ble_eq_true rfl⟩ rfl rfl (fun v w H locs hv hP hD hS => ?_)
        obtain ⟨fd7, fn8, fa9, rfl, rfl, hf10, hf11⟩ := hv
        show W p l e _ s m _ below meth c H locs 0 0 _ (F0 m 37 ls (.int (iI (wk much less st)) :: []))
        have hP : va_P g.1 vwCl [(hd, .inr (8, dF d i)), ((d 0), .inr (4, [.ref ad, .ref an, .ref aa])), (ad, aI (g.2.1 0) 3 fd7), (an, aI (g.2.1 0) 3 fn8), (aa, aI (g.2.1 0) 3 fa9)] H := hP
        have hD : va_D A [(hd, .inr (8, dF d i)), ((d 0), .inr (4, [.ref ad, .ref an, .ref aa])), (ad, aI (g.2.1 0) 3 fd7), (an, aI (g.2.1 0) 3 fn8), (aa, aI (g.2.1 0) 3 fa9)] := hD
        have hf10 : ∀ j, j < 3 → fd7 j = wkG st much less j := hf10
        have hf11 : ∀ j, j < 3 → fn8 j = wkD st much less j := hf11
        have hA1 := hf10 c_.toNat (by omega)
        have hA2 := hf11 c_.toNat (by omega)
        refine lv_pop hx hb dX8_row_37 rfl ?_
        refine lv_bipush (v := iI (10)) hx hb dX8_row_38 (by decide) ?_
        refine lv_aload_n hx hb dX8_row_40 rfl (lv_at hl 0 rfl) ?_
        refine va_get (D := g.1) (ci := 8) (v := .ref (d 0)) hx hb hts kX8_row_8 hown hG.1 hP 0 rfl rfl 0 (by decide) (hts _ (List.mem_of_getElem? (i := 1) rfl)) (fun _ h9 => h9) rfl dX8_row_41 ?_
        refine va_get (D := g.1) (ci := 4) (v := .ref an) hx hb hts kX8_row_4 hown hG.1 hP 1 rfl rfl 1 (by decide) (hts _ (List.mem_of_getElem? (i := 2) rfl)) (fun _ h9 => h9) rfl dX8_row_44 ?_
        refine lv_iload hx hb dX8_row_47 (lv_at hl 4 rfl) ?_
        refine iv_iald hx hb hG hP 3 rfl c_.toNat (by omega) (by omega) (by decide) dX8_row_49 ?_
        refine iv_imul hx hb dX8_row_50 ?_
        refine lv_aload_n hx hb dX8_row_51 rfl (lv_at hl 0 rfl) ?_
        refine va_get (D := g.1) (ci := 8) (v := .ref (d 0)) hx hb hts kX8_row_8 hown hG.1 hP 0 rfl rfl 0 (by decide) (hts _ (List.mem_of_getElem? (i := 1) rfl)) (fun _ h9 => h9) rfl dX8_row_52 ?_
        refine va_get (D := g.1) (ci := 4) (v := .ref ad) hx hb hts kX8_row_4 hown hG.1 hP 1 rfl rfl 0 (by decide) (hts _ (List.mem_of_getElem? (i := 3) rfl)) (fun _ h9 => h9) rfl dX8_row_55 ?_
        refine lv_iload hx hb dX8_row_58 (lv_at hl 4 rfl) ?_
        refine iv_iald hx hb hG hP 2 rfl c_.toNat (by omega) (by omega) (by decide) dX8_row_60 ?_
        refine iv_iadd hx hb dX8_row_61 ?_
        exact Ct.iret hx hb hr hlocks (hP.sub [0, 1, 2, 3, 4] rfl) (hD.sub [0, 1, 2, 3, 4] (by decide) rfl) hS ⟨by decide, by decide⟩ dX8_row_62 ⟨((10 * (fn8 c_.toNat)) + (fd7 c_.toNat)), fd7, fn8, fa9, rfl, rfl, (by unfold rowS; rw [if_pos (by omega), hA1, hA2])⟩
      · show W p l e _ s m _ below meth c H locs 0 0 _ (F0 m 22 ls (.int (iI 0) :: []))
        have hb5 : ¬ (0 ≤ c_ ∧ c_ ≤ 2) := hb5
        have hP : va_P g.1 vwCl [(hd, .inr (8, dF d i)), ((d 0), .inr (4, [.ref ad, .ref an, .ref aa])), (ad, aI (g.2.1 0) 3 fd), (an, aI (g.2.1 0) 3 fn), (aa, aI (g.2.1 0) 3 fa)] H := hP
        have hD : va_D A [(hd, .inr (8, dF d i)), ((d 0), .inr (4, [.ref ad, .ref an, .ref aa])), (ad, aI (g.2.1 0) 3 fd), (an, aI (g.2.1 0) 3 fn), (aa, aI (g.2.1 0) 3 fa)] := hD
        refine iv_if_ne (tgt := 27) hx hb dX8_row_22 (by decide) (by decide) (fun h => absurd h (by decide)) (fun _ => ?_)
        refine lv_iconst (v := iI (-1)) hx hb dX8_row_25 rfl ?_
        exact Ct.iret hx hb hr hlocks (hP.sub [0, 1, 2, 3, 4] rfl) (hD.sub [0, 1, 2, 3, 4] (by decide) rfl) hS ⟨by decide, by decide⟩ dX8_row_26 ⟨(-1), fd, fn, fa, rfl, rfl, (by unfold rowS; (repeat' split) <;> first | rfl | omega | (exfalso; omega))⟩
    · show W p l e _ s m _ below meth c H locs 0 0 _ (F0 m 12 ls (.int (iI 0) :: []))
      have hb3 : ¬ (0 ≤ st ∧ st ≤ 255) := hb3
      have hP : va_P g.1 vwCl [(hd, .inr (8, dF d i)), ((d 0), .inr (4, [.ref ad, .ref an, .ref aa])), (ad, aI (g.2.1 0) 3 fd), (an, aI (g.2.1 0) 3 fn), (aa, aI (g.2.1 0) 3 fa)] H := hP
      have hD : va_D A [(hd, .inr (8, dF d i)), ((d 0), .inr (4, [.ref ad, .ref an, .ref aa])), (ad, aI (g.2.1 0) 3 fd), (an, aI (g.2.1 0) 3 fn), (aa, aI (g.2.1 0) 3 fa)] := hD
      refine iv_if_eq (tgt := 25) hx hb dX8_row_12 (by decide) (by decide) (fun _ => ?_) (fun h => absurd h (by decide))
      refine lv_iconst (v := iI (-1)) hx hb dX8_row_25 rfl ?_
      exact Ct.iret hx hb hr hlocks (hP.sub [0, 1, 2, 3, 4] rfl) (hD.sub [0, 1, 2, 3, 4] (by decide) rfl) hS ⟨by decide, by decide⟩ dX8_row_26 ⟨(-1), fd, fn, fa, rfl, rfl, (by unfold rowS; (repeat' split) <;> first | rfl | omega | (exfalso; omega))⟩
  · show W p l e _ s m _ below meth c H locs 0 0 _ (F0 m 5 ls (.int (iI 0) :: []))
    have hb1 : ¬ (0 ≤ less ∧ less ≤ much ∧ much ≤ 999) := hb1
    have hP : va_P g.1 vwCl [(hd, .inr (8, dF d i)), ((d 0), .inr (4, [.ref ad, .ref an, .ref aa])), (ad, aI (g.2.1 0) 3 fd), (an, aI (g.2.1 0) 3 fn), (aa, aI (g.2.1 0) 3 fa)] H := hP
    have hD : va_D A [(hd, .inr (8, dF d i)), ((d 0), .inr (4, [.ref ad, .ref an, .ref aa])), (ad, aI (g.2.1 0) 3 fd), (an, aI (g.2.1 0) 3 fn), (aa, aI (g.2.1 0) 3 fa)] := hD
    refine iv_if_eq (tgt := 25) hx hb dX8_row_5 (by decide) (by decide) (fun _ => ?_) (fun h => absurd h (by decide))
    refine lv_iconst (v := iI (-1)) hx hb dX8_row_25 rfl ?_
    exact Ct.iret hx hb hr hlocks (hP.sub [0, 1, 2, 3, 4] rfl) (hD.sub [0, 1, 2, 3, 4] (by decide) rfl) hS ⟨by decide, by decide⟩ dX8_row_26 ⟨(-1), fd, fn, fa, rfl, rfl, (by unfold rowS; (repeat' split) <;> first | rfl | omega | (exfalso; omega))⟩
theorem kX8_could_8 : ∀ w ∈ u_ws RX8 TX8 13, w ∈ wsX8_could := fun _ h => List.mem_cons_of_mem _ (List.mem_append_left _ (List.mem_append_right _ h))
abbrev q_X8_could (g : GT) (hd : Nat) (d : Nat → Nat) (i : Nat → Int) (ad : Nat) (an : Nat) (aa : Nat) (fd : Nat → Int) (fn : Nat → Int) (fa : Nat → Int) (much : Int) (less : Int) (ans : Int) : Option Value → va_W → Prop := fun v w => ∃ (r : Int), ∃ (fd' : Nat → Int), ∃ (fn' : Nat → Int), ∃ (fa' : Nat → Int), v = some (.int (iI r)) ∧ w = [(hd, .inr (8, dF d i)), ((d 0), .inr (4, [.ref ad, .ref an, .ref aa])), (ad, aI (g.2.1 0) 3 fd'), (an, aI (g.2.1 0) 3 fn'), (aa, aI (g.2.1 0) 3 fa')] ∧ (r = couldS much less ans)
set_option maxHeartbeats 4000000 in
set_option maxRecDepth 100000 in
theorem c_X8_could (l : Launch) (g : GT) (hd : Nat) (d : Nat → Nat) (i : Nat → Int) (ad : Nat) (an : Nat) (aa : Nat) (fd : Nat → Int) (fn : Nat → Int) (fa : Nat → Int) (much : Int) (less : Int) (ans : Int) (h1 : (-2147483648 ≤ much ∧ much < 2147483648) ∧ (-2147483648 ≤ less ∧ less < 2147483648) ∧ (-2147483648 ≤ ans ∧ ans < 2147483648)) : Ct l g yX8_could wsX8_could ({ frames := 4, cells := 0, slots := 0, locals := 95 } : Room) [.ref hd, .int (iI much), .int (iI less), .int (iI ans)] [(hd, .inr (8, dF d i)), ((d 0), .inr (4, [.ref ad, .ref an, .ref aa])), (ad, aI (g.2.1 0) 3 fd), (an, aI (g.2.1 0) 3 fn), (aa, aI (g.2.1 0) 3 fa)] (q_X8_could g hd d i ad an aa fd fn fa much less ans) := by
  refine Ct.intro (maxL := 6) (ret := (some .int)) (by decide) rfl (Nat.le_of_ble_eq_true rfl) ?_
  intro p e s m below meth c A ls hx hb hr hml hown hts hlocks hnm hA hG hP hD hS hl
  have hown : s.vm.findClass RX8 = some m.cls := hown
  have hl : lv_has ls 6 [(0, .ref hd), (1, .int (iI much)), (2, .int (iI less)), (3, .int (iI ans))] := hl
  have hP : va_P g.1 vwCl [(hd, .inr (8, dF d i)), ((d 0), .inr (4, [.ref ad, .ref an, .ref aa])), (ad, aI (g.2.1 0) 3 fd), (an, aI (g.2.1 0) 3 fn), (aa, aI (g.2.1 0) 3 fa)] s.heap := hP
  have hS : va_S A s.heap s.heap [] := hS
  obtain ⟨H, hHe⟩ : ∃ H : Heap, H = s.heap := ⟨_, rfl⟩
  obtain ⟨locs, hLe⟩ : ∃ L : List Loc, L = [] := ⟨_, rfl⟩
  have hP : va_P g.1 vwCl [(hd, .inr (8, dF d i)), ((d 0), .inr (4, [.ref ad, .ref an, .ref aa])), (ad, aI (g.2.1 0) 3 fd), (an, aI (g.2.1 0) 3 fn), (aa, aI (g.2.1 0) 3 fa)] H := by rw [hHe]; exact hP
  have hS : va_S A s.heap H locs := by rw [hHe, hLe]; exact hS
  suffices hgo : W p l e ({ frames := 4, cells := 0, slots := 0, locals := 95 } : Room) s m [.ref hd, .int (iI much), .int (iI less), .int (iI ans)].toArray below meth c H locs 0 0 (MQ below (CQ g (q_X8_could g hd d i ad an aa fd fn fa much less ans) A) [.ref hd, .int (iI much), .int (iI less), .int (iI ans)].toArray s ({ frames := 4, cells := 0, slots := 0, locals := 95 } : Room).cells ({ frames := 4, cells := 0, slots := 0, locals := 95 } : Room).slots A) (F0 m 0 ls []) by rw [hHe, hLe] at hgo; exact hgo
  clear hHe hLe
  refine lv_iload_n hx hb dX8_could_0 rfl (lv_at hl 1 rfl) ?_
  refine lv_iload_n hx hb dX8_could_1 rfl (lv_at hl 2 rfl) ?_
  refine Ct.callS (As := [.int (iI much), .int (iI less)]) (rest := []) (wr := [(hd, .inr (8, dF d i)), ((d 0), .inr (4, [.ref ad, .ref an, .ref aa])), (ad, aI (g.2.1 0) 3 fd), (an, aI (g.2.1 0) 3 fn), (aa, aI (g.2.1 0) 3 fa)]) (c1 := 0) (s1 := 0) ⟨hx, hb, hml, hown, hts⟩ (c_X8_isTask l g much less (by omega)) (va_cwS 2 hts gX8_could_X8_isTask rfl rfl rfl (by decide +kernel) ⟨Nat.le_of_ble_eq_true rfl, Nat.le_of_ble_eq_true rfl⟩) hG hP hD hS hA [] [0, 1, 2, 3, 4] rfl rfl (by decide) (by decide) (by decide) rfl hl.1 rfl (Nat.le_of_ble_eq_true rfl) dX8_could_2 ⟨Nat.le_of_ble_eq_true rfl, Nat.le_of_ble_eq_true rfl⟩ rfl rfl (fun v w H locs hv hP hD hS => ?_)
  obtain ⟨⟨rfl, hb1⟩ | ⟨rfl, hb1⟩, rfl⟩ := hv
  · show W p l e _ s m _ below meth c H locs 0 0 _ (F0 m 5 ls (.int (iI 1) :: []))
    have hb1 : 0 ≤ less ∧ less ≤ much ∧ much ≤ 999 := hb1
    have hP : va_P g.1 vwCl [(hd, .inr (8, dF d i)), ((d 0), .inr (4, [.ref ad, .ref an, .ref aa])), (ad, aI (g.2.1 0) 3 fd), (an, aI (g.2.1 0) 3 fn), (aa, aI (g.2.1 0) 3 fa)] H := hP
    have hD : va_D A [(hd, .inr (8, dF d i)), ((d 0), .inr (4, [.ref ad, .ref an, .ref aa])), (ad, aI (g.2.1 0) 3 fd), (an, aI (g.2.1 0) 3 fn), (aa, aI (g.2.1 0) 3 fa)] := hD
    refine iv_if_eq (tgt := 15) hx hb dX8_could_5 (by decide) (by decide) (fun h => absurd h (by decide)) (fun _ => ?_)
    refine lv_iload_n hx hb dX8_could_8 rfl (lv_at hl 3 rfl) ?_
    refine Ct.callS (As := [.int (iI ans)]) (rest := []) (wr := [(hd, .inr (8, dF d i)), ((d 0), .inr (4, [.ref ad, .ref an, .ref aa])), (ad, aI (g.2.1 0) 3 fd), (an, aI (g.2.1 0) 3 fn), (aa, aI (g.2.1 0) 3 fa)]) (c1 := 0) (s1 := 0) ⟨hx, hb, hml, hown, hts⟩ (c_X8_isNumber l g ans (by omega)) (va_cwS 1 hts gX8_could_X8_isNumber rfl rfl rfl (by decide +kernel) ⟨Nat.le_of_ble_eq_true rfl, Nat.le_of_ble_eq_true rfl⟩) hG hP hD hS hA [] [0, 1, 2, 3, 4] rfl rfl (by decide) (by decide) (by decide) rfl hl.1 rfl (Nat.le_of_ble_eq_true rfl) dX8_could_9 ⟨Nat.le_of_ble_eq_true rfl, Nat.le_of_ble_eq_true rfl⟩ rfl rfl (fun v w H locs hv hP hD hS => ?_)
    obtain ⟨⟨rfl, hb3⟩ | ⟨rfl, hb3⟩, rfl⟩ := hv
    · show W p l e _ s m _ below meth c H locs 0 0 _ (F0 m 12 ls (.int (iI 1) :: []))
      have hb3 : 0 ≤ ans ∧ ans ≤ 999 := hb3
      have hP : va_P g.1 vwCl [(hd, .inr (8, dF d i)), ((d 0), .inr (4, [.ref ad, .ref an, .ref aa])), (ad, aI (g.2.1 0) 3 fd), (an, aI (g.2.1 0) 3 fn), (aa, aI (g.2.1 0) 3 fa)] H := hP
      have hD : va_D A [(hd, .inr (8, dF d i)), ((d 0), .inr (4, [.ref ad, .ref an, .ref aa])), (ad, aI (g.2.1 0) 3 fd), (an, aI (g.2.1 0) 3 fn), (aa, aI (g.2.1 0) 3 fa)] := hD
      refine iv_if_ne (tgt := 17) hx hb dX8_could_12 (by decide) (by decide) (fun _ => ?_) (fun h => absurd h (by decide))
      refine lv_iconst (v := iI (0)) hx hb dX8_could_17 rfl ?_
      refine lv_istore (lv' := [(4, .int (iI 0)), (0, .ref hd), (1, .int (iI much)), (2, .int (iI less)), (3, .int (iI ans))]) hx hb dX8_could_18 hl (by decide) rfl (fun ls hl => ?_)
      refine lv_iconst (v := iI (0)) hx hb dX8_could_20 rfl ?_
      refine lv_istore (lv' := [(5, .int (iI 0)), (4, .int (iI 0)), (0, .ref hd), (1, .int (iI much)), (2, .int (iI less)), (3, .int (iI ans))]) hx hb dX8_could_21 hl (by decide) rfl (fun ls hl => ?_)
      have hloop23 : ∀ (fuel : Nat) (mny : Int) (pl : Int) (fx : Nat → Int) (fy : Nat → Int) (fz : Nat → Int) (n : Nat) (hc : pl = (n : Int) ∧ n ≤ 93) (he : mny = cntE much less ans n) (hmeas : 93 - n < fuel), ∀ (H : Heap) (locs : List Loc) (ls : Array Slot), va_P g.1 vwCl [(hd, .inr (8, dF d i)), ((d 0), .inr (4, [.ref ad, .ref an, .ref aa])), (ad, aI (g.2.1 0) 3 fx), (an, aI (g.2.1 0) 3 fy), (aa, aI (g.2.1 0) 3 fz)] H → va_D A [(hd, .inr (8, dF d i)), ((d 0), .inr (4, [.ref ad, .ref an, .ref aa])), (ad, aI (g.2.1 0) 3 fx), (an, aI (g.2.1 0) 3 fy), (aa, aI (g.2.1 0) 3 fz)] → va_S A s.heap H locs → lv_has ls 6 [(5, .int (iI pl)), (4, .int (iI mny)), (0, .ref hd), (1, .int (iI much)), (2, .int (iI less)), (3, .int (iI ans))] → W p l e ({ frames := 4, cells := 0, slots := 0, locals := 95 } : Room) s m [.ref hd, .int (iI much), .int (iI less), .int (iI ans)].toArray below meth c H locs 0 0 (MQ below (CQ g (q_X8_could g hd d i ad an aa fd fn fa much less ans) A) [.ref hd, .int (iI much), .int (iI less), .int (iI ans)].toArray s ({ frames := 4, cells := 0, slots := 0, locals := 95 } : Room).cells ({ frames := 4, cells := 0, slots := 0, locals := 95 } : Room).slots A) (F0 m 23 ls []) := by
        intro fuel
        induction fuel with
        | zero => intro mny pl fx fy fz n hc he hmeas; exact absurd hmeas (Nat.not_lt_zero _)
        | succ fuel ih23 =>
          intro mny pl fx fy fz n hc he hmeas H locs ls hP hD hS hl
          refine lv_iload hx hb dX8_could_23 (lv_at hl 0 rfl) ?_
          refine va_gets hx hb hG.2.2.1.1 hS hown (hts _ (List.mem_of_getElem? (i := 1) rfl)) (fun _ h9 => h9) dX8_could_25 ?_
          refine iv_tlen hx hb hG.2.2.1 hS dX8_could_28 ?_
          refine iv_as 93 rfl ?_
          refine iv_icmp_ge (tgt := 60) hx hb dX8_could_29 (by decide) (by omega) (fun hc5 => ?_) (fun hc5 => ?_)
          · refine lv_iload hx hb dX8_could_60 (lv_at hl 1 rfl) ?_
            exact Ct.iret hx hb hr hlocks (hP.sub [0, 1, 2, 3, 4] rfl) (hD.sub [0, 1, 2, 3, 4] (by decide) rfl) hS ⟨by decide, by decide⟩ dX8_could_62 ⟨mny, fx, fy, fz, rfl, rfl, (by unfold couldS; rw [if_pos (by omega), he, show n = 93 from by omega])⟩
          · have ho := oT_rng n (by omega)
            refine lv_aload_n hx hb dX8_could_32 rfl (lv_at hl 2 rfl) ?_
            refine va_get (D := g.1) (ci := 8) (v := .ref (d 0)) hx hb hts kX8_could_8 hown hG.1 hP 0 rfl rfl 0 (by decide) (hts _ (List.mem_of_getElem? (i := 2) rfl)) (fun _ h9 => h9) rfl dX8_could_33 ?_
            refine lv_iload_n hx hb dX8_could_36 rfl (lv_at hl 3 rfl) ?_
            refine lv_iload_n hx hb dX8_could_37 rfl (lv_at hl 4 rfl) ?_
            refine va_gets hx hb hG.2.2.1.1 hS hown (hts _ (List.mem_of_getElem? (i := 1) rfl)) (fun _ h9 => h9) dX8_could_38 ?_
            refine lv_iload hx hb dX8_could_41 (lv_at hl 0 rfl) ?_
            refine iv_tld hx hb hG.2.2.1 hS n (by omega) (by omega) (by decide) dX8_could_43 ?_
            refine Ct.callV (ci := 4) (q0 := 1) (qc := (RX4, TX4, 3)) (As := [.int (iI much), .int (iI less), .int (iI (oT n))]) (rest := []) (wr := [(hd, .inr (8, dF d i))]) (c1 := 0) (s1 := 0) ⟨hx, hb, hml, hown, hts⟩ (c_X4_fill l g (d 0) ad an aa fx fy fz much less (oT n) (by omega)) rfl rfl (cwV 3 hts gX8_could_X4_fill rfl rfl rfl (by decide +kernel) ⟨Nat.le_of_ble_eq_true rfl, Nat.le_of_ble_eq_true rfl⟩) hG hP hD hS hA [1, 2, 3, 4] [0] rfl rfl (by decide) (by decide) (by decide) rfl hl.1 rfl (Nat.le_of_ble_eq_true rfl) dX8_could_44 ⟨Nat.le_of_ble_eq_true rfl, Nat.le_of_ble_eq_true rfl⟩ rfl rfl (fun v w H locs hv hP hD hS => ?_)
            obtain ⟨fd6, fn7, fa8, rfl, rfl, hf9, hf10⟩ := hv
            show W p l e _ s m _ below meth c H locs 0 0 _ (F0 m 47 ls (.int (iI (wk much less (oT n))) :: []))
            have hP : va_P g.1 vwCl [(hd, .inr (8, dF d i)), ((d 0), .inr (4, [.ref ad, .ref an, .ref aa])), (ad, aI (g.2.1 0) 3 fd6), (an, aI (g.2.1 0) 3 fn7), (aa, aI (g.2.1 0) 3 fa8)] H := hP
            have hD : va_D A [(hd, .inr (8, dF d i)), ((d 0), .inr (4, [.ref ad, .ref an, .ref aa])), (ad, aI (g.2.1 0) 3 fd6), (an, aI (g.2.1 0) 3 fn7), (aa, aI (g.2.1 0) 3 fa8)] := hD
            have hf9 : ∀ j, j < 3 → fd6 j = wkG (oT n) much less j := hf9
            have hf10 : ∀ j, j < 3 → fn7 j = wkD (oT n) much less j := hf10
            have hw := wk_rng much less (oT n)
            refine lv_iload_n hx hb dX8_could_47 rfl (lv_at hl 5 rfl) ?_
            refine iv_icmp_ne (tgt := 54) hx hb dX8_could_48 (by decide) (by omega) (fun hc11 => ?_) (fun hc11 => ?_)
            · refine iv_iinc (k := 0) (x := pl) (lv' := [(5, .int (iI (pl + 1))), (4, .int (iI mny)), (0, .ref hd), (1, .int (iI much)), (2, .int (iI less)), (3, .int (iI ans))]) hx hb dX8_could_54 hl rfl (by decide) rfl (fun ls hl => ?_)
              refine lv_goto (tgt := 23) hx hb dX8_could_57 (by decide) ?_
              exact ih23 mny (pl + 1) fd6 fn7 fa8 (n + 1) (by omega) (by simp only [cntE]; split <;> omega) (by omega) H locs ls (hP.sub [0, 1, 2, 3, 4] rfl) (hD.sub [0, 1, 2, 3, 4] (by decide) rfl) hS (lv_sub hl [0, 1, 2, 3, 4, 5] rfl)
            · refine iv_iinc (k := 1) (x := mny) (lv' := [(4, .int (iI (mny + 1))), (5, .int (iI pl)), (0, .ref hd), (1, .int (iI much)), (2, .int (iI less)), (3, .int (iI ans))]) hx hb dX8_could_51 hl rfl (by decide) rfl (fun ls hl => ?_)
              refine iv_iinc (k := 1) (x := pl) (lv' := [(5, .int (iI (pl + 1))), (4, .int (iI (mny + 1))), (0, .ref hd), (1, .int (iI much)), (2, .int (iI less)), (3, .int (iI ans))]) hx hb dX8_could_54 hl rfl (by decide) rfl (fun ls hl => ?_)
              refine lv_goto (tgt := 23) hx hb dX8_could_57 (by decide) ?_
              exact ih23 (mny + 1) (pl + 1) fd6 fn7 fa8 (n + 1) (by omega) (by simp only [cntE]; split <;> omega) (by omega) H locs ls (hP.sub [0, 1, 2, 3, 4] rfl) (hD.sub [0, 1, 2, 3, 4] (by decide) rfl) hS (lv_sub hl [0, 1, 2, 3, 4, 5] rfl)
      exact hloop23 _ 0 0 fd fn fa 0 (by omega) (rfl) (Nat.lt_succ_self _) H locs ls (hP.sub [0, 1, 2, 3, 4] rfl) (hD.sub [0, 1, 2, 3, 4] (by decide) rfl) hS (lv_sub hl [0, 1, 2, 3, 4, 5] rfl)
    · show W p l e _ s m _ below meth c H locs 0 0 _ (F0 m 12 ls (.int (iI 0) :: []))
      have hb3 : ¬ (0 ≤ ans ∧ ans ≤ 999) := hb3
      have hP : va_P g.1 vwCl [(hd, .inr (8, dF d i)), ((d 0), .inr (4, [.ref ad, .ref an, .ref aa])), (ad, aI (g.2.1 0) 3 fd), (an, aI (g.2.1 0) 3 fn), (aa, aI (g.2.1 0) 3 fa)] H := hP
      have hD : va_D A [(hd, .inr (8, dF d i)), ((d 0), .inr (4, [.ref ad, .ref an, .ref aa])), (ad, aI (g.2.1 0) 3 fd), (an, aI (g.2.1 0) 3 fn), (aa, aI (g.2.1 0) 3 fa)] := hD
      refine iv_if_ne (tgt := 17) hx hb dX8_could_12 (by decide) (by decide) (fun h => absurd h (by decide)) (fun _ => ?_)
      refine lv_iconst (v := iI (-1)) hx hb dX8_could_15 rfl ?_
      exact Ct.iret hx hb hr hlocks (hP.sub [0, 1, 2, 3, 4] rfl) (hD.sub [0, 1, 2, 3, 4] (by decide) rfl) hS ⟨by decide, by decide⟩ dX8_could_16 ⟨(-1), fd, fn, fa, rfl, rfl, (by unfold couldS; (repeat' split) <;> first | rfl | omega | (exfalso; omega))⟩
  · show W p l e _ s m _ below meth c H locs 0 0 _ (F0 m 5 ls (.int (iI 0) :: []))
    have hb1 : ¬ (0 ≤ less ∧ less ≤ much ∧ much ≤ 999) := hb1
    have hP : va_P g.1 vwCl [(hd, .inr (8, dF d i)), ((d 0), .inr (4, [.ref ad, .ref an, .ref aa])), (ad, aI (g.2.1 0) 3 fd), (an, aI (g.2.1 0) 3 fn), (aa, aI (g.2.1 0) 3 fa)] H := hP
    have hD : va_D A [(hd, .inr (8, dF d i)), ((d 0), .inr (4, [.ref ad, .ref an, .ref aa])), (ad, aI (g.2.1 0) 3 fd), (an, aI (g.2.1 0) 3 fn), (aa, aI (g.2.1 0) 3 fa)] := hD
    refine iv_if_eq (tgt := 15) hx hb dX8_could_5 (by decide) (by decide) (fun _ => ?_) (fun h => absurd h (by decide))
    refine lv_iconst (v := iI (-1)) hx hb dX8_could_15 rfl ?_
    exact Ct.iret hx hb hr hlocks (hP.sub [0, 1, 2, 3, 4] rfl) (hD.sub [0, 1, 2, 3, 4] (by decide) rfl) hS ⟨by decide, by decide⟩ dX8_could_16 ⟨(-1), fd, fn, fa, rfl, rfl, (by unfold couldS; (repeat' split) <;> first | rfl | omega | (exfalso; omega))⟩
theorem kX8_least_8 : ∀ w ∈ u_ws RX8 TX8 13, w ∈ wsX8_least := fun _ h => List.mem_cons_of_mem _ (List.mem_append_left _ (List.mem_append_right _ h))
abbrev q_X8_least (g : GT) (hd : Nat) (d : Nat → Nat) (i : Nat → Int) (ad : Nat) (an : Nat) (aa : Nat) (fd : Nat → Int) (fn : Nat → Int) (fa : Nat → Int) (much : Int) (less : Int) (ans : Int) (ix : Int) : Option Value → va_W → Prop := fun v w => ∃ (r : Int), ∃ (fd' : Nat → Int), ∃ (fn' : Nat → Int), ∃ (fa' : Nat → Int), v = some (.int (iI r)) ∧ w = [(hd, .inr (8, dF d i)), ((d 0), .inr (4, [.ref ad, .ref an, .ref aa])), (ad, aI (g.2.1 0) 3 fd'), (an, aI (g.2.1 0) 3 fn'), (aa, aI (g.2.1 0) 3 fa')] ∧ (r = leastS much less ans ix)
set_option maxHeartbeats 4000000 in
set_option maxRecDepth 100000 in
theorem c_X8_least (l : Launch) (g : GT) (hd : Nat) (d : Nat → Nat) (i : Nat → Int) (ad : Nat) (an : Nat) (aa : Nat) (fd : Nat → Int) (fn : Nat → Int) (fa : Nat → Int) (much : Int) (less : Int) (ans : Int) (ix : Int) (h1 : (-2147483648 ≤ much ∧ much < 2147483648) ∧ (-2147483648 ≤ less ∧ less < 2147483648) ∧ (-2147483648 ≤ ans ∧ ans < 2147483648) ∧ (-2147483648 ≤ ix ∧ ix < 2147483648)) : Ct l g yX8_least wsX8_least ({ frames := 4, cells := 0, slots := 0, locals := 95 } : Room) [.ref hd, .int (iI much), .int (iI less), .int (iI ans), .int (iI ix)] [(hd, .inr (8, dF d i)), ((d 0), .inr (4, [.ref ad, .ref an, .ref aa])), (ad, aI (g.2.1 0) 3 fd), (an, aI (g.2.1 0) 3 fn), (aa, aI (g.2.1 0) 3 fa)] (q_X8_least g hd d i ad an aa fd fn fa much less ans ix) := by
  refine Ct.intro (maxL := 7) (ret := (some .int)) (by decide) rfl (Nat.le_of_ble_eq_true rfl) ?_
  intro p e s m below meth c A ls hx hb hr hml hown hts hlocks hnm hA hG hP hD hS hl
  have hown : s.vm.findClass RX8 = some m.cls := hown
  have hl : lv_has ls 7 [(0, .ref hd), (1, .int (iI much)), (2, .int (iI less)), (3, .int (iI ans)), (4, .int (iI ix))] := hl
  have hP : va_P g.1 vwCl [(hd, .inr (8, dF d i)), ((d 0), .inr (4, [.ref ad, .ref an, .ref aa])), (ad, aI (g.2.1 0) 3 fd), (an, aI (g.2.1 0) 3 fn), (aa, aI (g.2.1 0) 3 fa)] s.heap := hP
  have hS : va_S A s.heap s.heap [] := hS
  obtain ⟨H, hHe⟩ : ∃ H : Heap, H = s.heap := ⟨_, rfl⟩
  obtain ⟨locs, hLe⟩ : ∃ L : List Loc, L = [] := ⟨_, rfl⟩
  have hP : va_P g.1 vwCl [(hd, .inr (8, dF d i)), ((d 0), .inr (4, [.ref ad, .ref an, .ref aa])), (ad, aI (g.2.1 0) 3 fd), (an, aI (g.2.1 0) 3 fn), (aa, aI (g.2.1 0) 3 fa)] H := by rw [hHe]; exact hP
  have hS : va_S A s.heap H locs := by rw [hHe, hLe]; exact hS
  suffices hgo : W p l e ({ frames := 4, cells := 0, slots := 0, locals := 95 } : Room) s m [.ref hd, .int (iI much), .int (iI less), .int (iI ans), .int (iI ix)].toArray below meth c H locs 0 0 (MQ below (CQ g (q_X8_least g hd d i ad an aa fd fn fa much less ans ix) A) [.ref hd, .int (iI much), .int (iI less), .int (iI ans), .int (iI ix)].toArray s ({ frames := 4, cells := 0, slots := 0, locals := 95 } : Room).cells ({ frames := 4, cells := 0, slots := 0, locals := 95 } : Room).slots A) (F0 m 0 ls []) by rw [hHe, hLe] at hgo; exact hgo
  clear hHe hLe
  refine lv_iload_n hx hb dX8_least_0 rfl (lv_at hl 1 rfl) ?_
  refine lv_iload_n hx hb dX8_least_1 rfl (lv_at hl 2 rfl) ?_
  refine Ct.callS (As := [.int (iI much), .int (iI less)]) (rest := []) (wr := [(hd, .inr (8, dF d i)), ((d 0), .inr (4, [.ref ad, .ref an, .ref aa])), (ad, aI (g.2.1 0) 3 fd), (an, aI (g.2.1 0) 3 fn), (aa, aI (g.2.1 0) 3 fa)]) (c1 := 0) (s1 := 0) ⟨hx, hb, hml, hown, hts⟩ (c_X8_isTask l g much less (by omega)) (va_cwS 2 hts gX8_least_X8_isTask rfl rfl rfl (by decide +kernel) ⟨Nat.le_of_ble_eq_true rfl, Nat.le_of_ble_eq_true rfl⟩) hG hP hD hS hA [] [0, 1, 2, 3, 4] rfl rfl (by decide) (by decide) (by decide) rfl hl.1 rfl (Nat.le_of_ble_eq_true rfl) dX8_least_2 ⟨Nat.le_of_ble_eq_true rfl, Nat.le_of_ble_eq_true rfl⟩ rfl rfl (fun v w H locs hv hP hD hS => ?_)
  obtain ⟨⟨rfl, hb1⟩ | ⟨rfl, hb1⟩, rfl⟩ := hv
  · show W p l e _ s m _ below meth c H locs 0 0 _ (F0 m 5 ls (.int (iI 1) :: []))
    have hb1 : 0 ≤ less ∧ less ≤ much ∧ much ≤ 999 := hb1
    have hP : va_P g.1 vwCl [(hd, .inr (8, dF d i)), ((d 0), .inr (4, [.ref ad, .ref an, .ref aa])), (ad, aI (g.2.1 0) 3 fd), (an, aI (g.2.1 0) 3 fn), (aa, aI (g.2.1 0) 3 fa)] H := hP
    have hD : va_D A [(hd, .inr (8, dF d i)), ((d 0), .inr (4, [.ref ad, .ref an, .ref aa])), (ad, aI (g.2.1 0) 3 fd), (an, aI (g.2.1 0) 3 fn), (aa, aI (g.2.1 0) 3 fa)] := hD
    refine iv_if_eq (tgt := 20) hx hb dX8_least_5 (by decide) (by decide) (fun h => absurd h (by decide)) (fun _ => ?_)
    refine lv_iload_n hx hb dX8_least_8 rfl (lv_at hl 3 rfl) ?_
    refine Ct.callS (As := [.int (iI ans)]) (rest := []) (wr := [(hd, .inr (8, dF d i)), ((d 0), .inr (4, [.ref ad, .ref an, .ref aa])), (ad, aI (g.2.1 0) 3 fd), (an, aI (g.2.1 0) 3 fn), (aa, aI (g.2.1 0) 3 fa)]) (c1 := 0) (s1 := 0) ⟨hx, hb, hml, hown, hts⟩ (c_X8_isNumber l g ans (by omega)) (va_cwS 1 hts gX8_least_X8_isNumber rfl rfl rfl (by decide +kernel) ⟨Nat.le_of_ble_eq_true rfl, Nat.le_of_ble_eq_true rfl⟩) hG hP hD hS hA [] [0, 1, 2, 3, 4] rfl rfl (by decide) (by decide) (by decide) rfl hl.1 rfl (Nat.le_of_ble_eq_true rfl) dX8_least_9 ⟨Nat.le_of_ble_eq_true rfl, Nat.le_of_ble_eq_true rfl⟩ rfl rfl (fun v w H locs hv hP hD hS => ?_)
    obtain ⟨⟨rfl, hb3⟩ | ⟨rfl, hb3⟩, rfl⟩ := hv
    · show W p l e _ s m _ below meth c H locs 0 0 _ (F0 m 12 ls (.int (iI 1) :: []))
      have hb3 : 0 ≤ ans ∧ ans ≤ 999 := hb3
      have hP : va_P g.1 vwCl [(hd, .inr (8, dF d i)), ((d 0), .inr (4, [.ref ad, .ref an, .ref aa])), (ad, aI (g.2.1 0) 3 fd), (an, aI (g.2.1 0) 3 fn), (aa, aI (g.2.1 0) 3 fa)] H := hP
      have hD : va_D A [(hd, .inr (8, dF d i)), ((d 0), .inr (4, [.ref ad, .ref an, .ref aa])), (ad, aI (g.2.1 0) 3 fd), (an, aI (g.2.1 0) 3 fn), (aa, aI (g.2.1 0) 3 fa)] := hD
      refine iv_if_eq (tgt := 20) hx hb dX8_least_12 (by decide) (by decide) (fun h => absurd h (by decide)) (fun _ => ?_)
      refine lv_iload hx hb dX8_least_15 (lv_at hl 4 rfl) ?_
      refine iv_if_ge (tgt := 22) hx hb dX8_least_17 (by decide) (by omega) (fun hc5 => ?_) (fun hc5 => ?_)
      · refine lv_iconst (v := iI (0)) hx hb dX8_least_22 rfl ?_
        refine lv_istore (lv' := [(5, .int (iI 0)), (0, .ref hd), (1, .int (iI much)), (2, .int (iI less)), (3, .int (iI ans)), (4, .int (iI ix))]) hx hb dX8_least_23 hl (by decide) rfl (fun ls hl => ?_)
        refine lv_iconst (v := iI (0)) hx hb dX8_least_25 rfl ?_
        refine lv_istore (lv' := [(6, .int (iI 0)), (5, .int (iI 0)), (0, .ref hd), (1, .int (iI much)), (2, .int (iI less)), (3, .int (iI ans)), (4, .int (iI ix))]) hx hb dX8_least_26 hl (by decide) rfl (fun ls hl => ?_)
        have hloop28 : ∀ (fuel : Nat) (mny : Int) (pl : Int) (fx : Nat → Int) (fy : Nat → Int) (fz : Nat → Int) (n : Nat) (hc : pl = (n : Int) ∧ n ≤ 93) (he : mny = cntE much less ans n) (he2 : lsF much less ans ix (93 - n) n = lsF much less ans ix 93 0) (hmeas : 93 - n < fuel), ∀ (H : Heap) (locs : List Loc) (ls : Array Slot), va_P g.1 vwCl [(hd, .inr (8, dF d i)), ((d 0), .inr (4, [.ref ad, .ref an, .ref aa])), (ad, aI (g.2.1 0) 3 fx), (an, aI (g.2.1 0) 3 fy), (aa, aI (g.2.1 0) 3 fz)] H → va_D A [(hd, .inr (8, dF d i)), ((d 0), .inr (4, [.ref ad, .ref an, .ref aa])), (ad, aI (g.2.1 0) 3 fx), (an, aI (g.2.1 0) 3 fy), (aa, aI (g.2.1 0) 3 fz)] → va_S A s.heap H locs → lv_has ls 7 [(6, .int (iI pl)), (5, .int (iI mny)), (0, .ref hd), (1, .int (iI much)), (2, .int (iI less)), (3, .int (iI ans)), (4, .int (iI ix))] → W p l e ({ frames := 4, cells := 0, slots := 0, locals := 95 } : Room) s m [.ref hd, .int (iI much), .int (iI less), .int (iI ans), .int (iI ix)].toArray below meth c H locs 0 0 (MQ below (CQ g (q_X8_least g hd d i ad an aa fd fn fa much less ans ix) A) [.ref hd, .int (iI much), .int (iI less), .int (iI ans), .int (iI ix)].toArray s ({ frames := 4, cells := 0, slots := 0, locals := 95 } : Room).cells ({ frames := 4, cells := 0, slots := 0, locals := 95 } : Room).slots A) (F0 m 28 ls []) := by
          intro fuel
          induction fuel with
          | zero => intro mny pl fx fy fz n hc he he2 hmeas; exact absurd hmeas (Nat.not_lt_zero _)
          | succ fuel ih28 =>
            intro mny pl fx fy fz n hc he he2 hmeas H locs ls hP hD hS hl
            refine lv_iload hx hb dX8_least_28 (lv_at hl 0 rfl) ?_
            refine va_gets hx hb hG.2.2.1.1 hS hown (hts _ (List.mem_of_getElem? (i := 1) rfl)) (fun _ h9 => h9) dX8_least_30 ?_
            refine iv_tlen hx hb hG.2.2.1 hS dX8_least_33 ?_
            refine iv_as 93 rfl ?_
            refine iv_icmp_ge (tgt := 79) hx hb dX8_least_34 (by decide) (by omega) (fun hc6 => ?_) (fun hc6 => ?_)
            · refine lv_bipush (v := iI (-4)) hx hb dX8_least_79 (by decide) ?_
              exact Ct.iret hx hb hr hlocks (hP.sub [0, 1, 2, 3, 4] rfl) (hD.sub [0, 1, 2, 3, 4] (by decide) rfl) hS ⟨by decide, by decide⟩ dX8_least_81 ⟨(-4), fx, fy, fz, rfl, rfl, (by unfold leastS; rw [if_pos (by omega), ← he2, show 93 - n = 0 from by omega]; rfl)⟩
            · have ho := oT_rng n (by omega)
              have hcr := cntE_rng much less ans n
              refine lv_aload_n hx hb dX8_least_37 rfl (lv_at hl 2 rfl) ?_
              refine va_get (D := g.1) (ci := 8) (v := .ref (d 0)) hx hb hts kX8_least_8 hown hG.1 hP 0 rfl rfl 0 (by decide) (hts _ (List.mem_of_getElem? (i := 2) rfl)) (fun _ h9 => h9) rfl dX8_least_38 ?_
              refine lv_iload_n hx hb dX8_least_41 rfl (lv_at hl 3 rfl) ?_
              refine lv_iload_n hx hb dX8_least_42 rfl (lv_at hl 4 rfl) ?_
              refine va_gets hx hb hG.2.2.1.1 hS hown (hts _ (List.mem_of_getElem? (i := 1) rfl)) (fun _ h9 => h9) dX8_least_43 ?_
              refine lv_iload hx hb dX8_least_46 (lv_at hl 0 rfl) ?_
              refine iv_tld hx hb hG.2.2.1 hS n (by omega) (by omega) (by decide) dX8_least_48 ?_
              refine Ct.callV (ci := 4) (q0 := 1) (qc := (RX4, TX4, 3)) (As := [.int (iI much), .int (iI less), .int (iI (oT n))]) (rest := []) (wr := [(hd, .inr (8, dF d i))]) (c1 := 0) (s1 := 0) ⟨hx, hb, hml, hown, hts⟩ (c_X4_fill l g (d 0) ad an aa fx fy fz much less (oT n) (by omega)) rfl rfl (cwV 3 hts gX8_least_X4_fill rfl rfl rfl (by decide +kernel) ⟨Nat.le_of_ble_eq_true rfl, Nat.le_of_ble_eq_true rfl⟩) hG hP hD hS hA [1, 2, 3, 4] [0] rfl rfl (by decide) (by decide) (by decide) rfl hl.1 rfl (Nat.le_of_ble_eq_true rfl) dX8_least_49 ⟨Nat.le_of_ble_eq_true rfl, Nat.le_of_ble_eq_true rfl⟩ rfl rfl (fun v w H locs hv hP hD hS => ?_)
              obtain ⟨fd7, fn8, fa9, rfl, rfl, hf10, hf11⟩ := hv
              show W p l e _ s m _ below meth c H locs 0 0 _ (F0 m 52 ls (.int (iI (wk much less (oT n))) :: []))
              have hP : va_P g.1 vwCl [(hd, .inr (8, dF d i)), ((d 0), .inr (4, [.ref ad, .ref an, .ref aa])), (ad, aI (g.2.1 0) 3 fd7), (an, aI (g.2.1 0) 3 fn8), (aa, aI (g.2.1 0) 3 fa9)] H := hP
              have hD : va_D A [(hd, .inr (8, dF d i)), ((d 0), .inr (4, [.ref ad, .ref an, .ref aa])), (ad, aI (g.2.1 0) 3 fd7), (an, aI (g.2.1 0) 3 fn8), (aa, aI (g.2.1 0) 3 fa9)] := hD
              have hf10 : ∀ j, j < 3 → fd7 j = wkG (oT n) much less j := hf10
              have hf11 : ∀ j, j < 3 → fn8 j = wkD (oT n) much less j := hf11
              have hw := wk_rng much less (oT n)
              refine lv_iload_n hx hb dX8_least_52 rfl (lv_at hl 5 rfl) ?_
              refine iv_icmp_ne (tgt := 73) hx hb dX8_least_53 (by decide) (by omega) (fun hc12 => ?_) (fun hc12 => ?_)
              · refine iv_iinc (k := 0) (x := pl) (lv' := [(6, .int (iI (pl + 1))), (5, .int (iI mny)), (0, .ref hd), (1, .int (iI much)), (2, .int (iI less)), (3, .int (iI ans)), (4, .int (iI ix))]) hx hb dX8_least_73 hl rfl (by decide) rfl (fun ls hl => ?_)
                refine lv_goto (tgt := 28) hx hb dX8_least_76 (by decide) ?_
                exact ih28 mny (pl + 1) fd7 fn8 fa9 (n + 1) (by omega) (by simp only [cntE]; split <;> omega) (by rw [← he2, show 93 - n = (93 - (n + 1)) + 1 from by omega]; simp only [lsF]; rw [if_neg (by omega)]) (by omega) H locs ls (hP.sub [0, 1, 2, 3, 4] rfl) (hD.sub [0, 1, 2, 3, 4] (by decide) rfl) hS (lv_sub hl [0, 1, 2, 3, 4, 5, 6] rfl)
              · refine lv_iload hx hb dX8_least_56 (lv_at hl 1 rfl) ?_
                refine lv_iload hx hb dX8_least_58 (lv_at hl 6 rfl) ?_
                refine iv_icmp_ne (tgt := 70) hx hb dX8_least_60 (by decide) (by omega) (fun hc13 => ?_) (fun hc13 => ?_)
                · refine iv_iinc (k := 1) (x := mny) (lv' := [(5, .int (iI (mny + 1))), (6, .int (iI pl)), (0, .ref hd), (1, .int (iI much)), (2, .int (iI less)), (3, .int (iI ans)), (4, .int (iI ix))]) hx hb dX8_least_70 hl rfl (by decide) rfl (fun ls hl => ?_)
                  refine iv_iinc (k := 1) (x := pl) (lv' := [(6, .int (iI (pl + 1))), (5, .int (iI (mny + 1))), (0, .ref hd), (1, .int (iI much)), (2, .int (iI less)), (3, .int (iI ans)), (4, .int (iI ix))]) hx hb dX8_least_73 hl rfl (by decide) rfl (fun ls hl => ?_)
                  refine lv_goto (tgt := 28) hx hb dX8_least_76 (by decide) ?_
                  exact ih28 (mny + 1) (pl + 1) fd7 fn8 fa9 (n + 1) (by omega) (by simp only [cntE]; split <;> omega) (by rw [← he2, show 93 - n = (93 - (n + 1)) + 1 from by omega]; simp only [lsF]; rw [if_neg (by omega)]) (by omega) H locs ls (hP.sub [0, 1, 2, 3, 4] rfl) (hD.sub [0, 1, 2, 3, 4] (by decide) rfl) hS (lv_sub hl [0, 1, 2, 3, 4, 5, 6] rfl)
                · refine va_gets hx hb hG.2.2.1.1 hS hown (hts _ (List.mem_of_getElem? (i := 1) rfl)) (fun _ h9 => h9) dX8_least_63 ?_
                  refine lv_iload hx hb dX8_least_66 (lv_at hl 0 rfl) ?_
                  refine iv_tld hx hb hG.2.2.1 hS n (by omega) (by omega) (by decide) dX8_least_68 ?_
                  exact Ct.iret hx hb hr hlocks (hP.sub [0, 1, 2, 3, 4] rfl) (hD.sub [0, 1, 2, 3, 4] (by decide) rfl) hS ⟨by decide, by decide⟩ dX8_least_69 ⟨(oT n), fd7, fn8, fa9, rfl, rfl, (by unfold leastS; rw [if_pos (by omega), ← he2, show 93 - n = (92 - n) + 1 from by omega, lsF, if_pos ⟨by omega, by omega⟩])⟩
        exact hloop28 _ 0 0 fd fn fa 0 (by omega) (rfl) (rfl) (Nat.lt_succ_self _) H locs ls (hP.sub [0, 1, 2, 3, 4] rfl) (hD.sub [0, 1, 2, 3, 4] (by decide) rfl) hS (lv_sub hl [0, 1, 2, 3, 4, 5, 6] rfl)
      · refine lv_iconst (v := iI (-1)) hx hb dX8_least_20 rfl ?_
        exact Ct.iret hx hb hr hlocks (hP.sub [0, 1, 2, 3, 4] rfl) (hD.sub [0, 1, 2, 3, 4] (by decide) rfl) hS ⟨by decide, by decide⟩ dX8_least_21 ⟨(-1), fd, fn, fa, rfl, rfl, (by unfold leastS; (repeat' split) <;> first | rfl | omega | (exfalso; omega))⟩
    · show W p l e _ s m _ below meth c H locs 0 0 _ (F0 m 12 ls (.int (iI 0) :: []))
      have hb3 : ¬ (0 ≤ ans ∧ ans ≤ 999) := hb3
      have hP : va_P g.1 vwCl [(hd, .inr (8, dF d i)), ((d 0), .inr (4, [.ref ad, .ref an, .ref aa])), (ad, aI (g.2.1 0) 3 fd), (an, aI (g.2.1 0) 3 fn), (aa, aI (g.2.1 0) 3 fa)] H := hP
      have hD : va_D A [(hd, .inr (8, dF d i)), ((d 0), .inr (4, [.ref ad, .ref an, .ref aa])), (ad, aI (g.2.1 0) 3 fd), (an, aI (g.2.1 0) 3 fn), (aa, aI (g.2.1 0) 3 fa)] := hD
      refine iv_if_eq (tgt := 20) hx hb dX8_least_12 (by decide) (by decide) (fun _ => ?_) (fun h => absurd h (by decide))
      refine lv_iconst (v := iI (-1)) hx hb dX8_least_20 rfl ?_
      exact Ct.iret hx hb hr hlocks (hP.sub [0, 1, 2, 3, 4] rfl) (hD.sub [0, 1, 2, 3, 4] (by decide) rfl) hS ⟨by decide, by decide⟩ dX8_least_21 ⟨(-1), fd, fn, fa, rfl, rfl, (by unfold leastS; (repeat' split) <;> first | rfl | omega | (exfalso; omega))⟩
  · show W p l e _ s m _ below meth c H locs 0 0 _ (F0 m 5 ls (.int (iI 0) :: []))
    have hb1 : ¬ (0 ≤ less ∧ less ≤ much ∧ much ≤ 999) := hb1
    have hP : va_P g.1 vwCl [(hd, .inr (8, dF d i)), ((d 0), .inr (4, [.ref ad, .ref an, .ref aa])), (ad, aI (g.2.1 0) 3 fd), (an, aI (g.2.1 0) 3 fn), (aa, aI (g.2.1 0) 3 fa)] H := hP
    have hD : va_D A [(hd, .inr (8, dF d i)), ((d 0), .inr (4, [.ref ad, .ref an, .ref aa])), (ad, aI (g.2.1 0) 3 fd), (an, aI (g.2.1 0) 3 fn), (aa, aI (g.2.1 0) 3 fa)] := hD
    refine iv_if_eq (tgt := 20) hx hb dX8_least_5 (by decide) (by decide) (fun _ => ?_) (fun h => absurd h (by decide))
    refine lv_iconst (v := iI (-1)) hx hb dX8_least_20 rfl ?_
    exact Ct.iret hx hb hr hlocks (hP.sub [0, 1, 2, 3, 4] rfl) (hD.sub [0, 1, 2, 3, 4] (by decide) rfl) hS ⟨by decide, by decide⟩ dX8_least_21 ⟨(-1), fd, fn, fa, rfl, rfl, (by unfold leastS; (repeat' split) <;> first | rfl | omega | (exfalso; omega))⟩
theorem kX8_parts_8 : ∀ w ∈ u_ws RX8 TX8 13, w ∈ wsX8_parts := fun _ h => List.mem_cons_of_mem _ (List.mem_append_left _ (List.mem_append_right _ h))
abbrev q_X8_parts (g : GT) (hd : Nat) (d : Nat → Nat) (i : Nat → Int) (ad : Nat) (an : Nat) (aa : Nat) (fd : Nat → Int) (fn : Nat → Int) (fa : Nat → Int) (pa : Int) (pb : Int) (n : Int) : Option Value → va_W → Prop := fun v w => ∃ (r : Int), ∃ (fd' : Nat → Int), ∃ (fn' : Nat → Int), ∃ (fa' : Nat → Int), v = some (.int (iI r)) ∧ w = [(hd, .inr (8, dF d i)), ((d 0), .inr (4, [.ref ad, .ref an, .ref aa])), (ad, aI (g.2.1 0) 3 fd'), (an, aI (g.2.1 0) 3 fn'), (aa, aI (g.2.1 0) 3 fa')] ∧ (r = partsS pa pb n)
set_option maxHeartbeats 4000000 in
set_option maxRecDepth 100000 in
theorem c_X8_parts (l : Launch) (g : GT) (hd : Nat) (d : Nat → Nat) (i : Nat → Int) (ad : Nat) (an : Nat) (aa : Nat) (fd : Nat → Int) (fn : Nat → Int) (fa : Nat → Int) (pa : Int) (pb : Int) (n : Int) (h1 : (-2147483648 ≤ pa ∧ pa < 2147483648) ∧ (-2147483648 ≤ pb ∧ pb < 2147483648) ∧ (-2147483648 ≤ n ∧ n < 2147483648)) : Ct l g yX8_parts wsX8_parts ({ frames := 4, cells := 0, slots := 0, locals := 95 } : Room) [.ref hd, .int (iI pa), .int (iI pb), .int (iI n)] [(hd, .inr (8, dF d i)), ((d 0), .inr (4, [.ref ad, .ref an, .ref aa])), (ad, aI (g.2.1 0) 3 fd), (an, aI (g.2.1 0) 3 fn), (aa, aI (g.2.1 0) 3 fa)] (q_X8_parts g hd d i ad an aa fd fn fa pa pb n) := by
  refine Ct.intro (maxL := 6) (ret := (some .int)) (by decide) rfl (Nat.le_of_ble_eq_true rfl) ?_
  intro p e s m below meth c A ls hx hb hr hml hown hts hlocks hnm hA hG hP hD hS hl
  have hown : s.vm.findClass RX8 = some m.cls := hown
  have hl : lv_has ls 6 [(0, .ref hd), (1, .int (iI pa)), (2, .int (iI pb)), (3, .int (iI n))] := hl
  have hP : va_P g.1 vwCl [(hd, .inr (8, dF d i)), ((d 0), .inr (4, [.ref ad, .ref an, .ref aa])), (ad, aI (g.2.1 0) 3 fd), (an, aI (g.2.1 0) 3 fn), (aa, aI (g.2.1 0) 3 fa)] s.heap := hP
  have hS : va_S A s.heap s.heap [] := hS
  obtain ⟨H, hHe⟩ : ∃ H : Heap, H = s.heap := ⟨_, rfl⟩
  obtain ⟨locs, hLe⟩ : ∃ L : List Loc, L = [] := ⟨_, rfl⟩
  have hP : va_P g.1 vwCl [(hd, .inr (8, dF d i)), ((d 0), .inr (4, [.ref ad, .ref an, .ref aa])), (ad, aI (g.2.1 0) 3 fd), (an, aI (g.2.1 0) 3 fn), (aa, aI (g.2.1 0) 3 fa)] H := by rw [hHe]; exact hP
  have hS : va_S A s.heap H locs := by rw [hHe, hLe]; exact hS
  suffices hgo : W p l e ({ frames := 4, cells := 0, slots := 0, locals := 95 } : Room) s m [.ref hd, .int (iI pa), .int (iI pb), .int (iI n)].toArray below meth c H locs 0 0 (MQ below (CQ g (q_X8_parts g hd d i ad an aa fd fn fa pa pb n) A) [.ref hd, .int (iI pa), .int (iI pb), .int (iI n)].toArray s ({ frames := 4, cells := 0, slots := 0, locals := 95 } : Room).cells ({ frames := 4, cells := 0, slots := 0, locals := 95 } : Room).slots A) (F0 m 0 ls []) by rw [hHe, hLe] at hgo; exact hgo
  clear hHe hLe
  refine lv_iload_n hx hb dX8_parts_0 rfl (lv_at hl 1 rfl) ?_
  refine Ct.callS (As := [.int (iI pa)]) (rest := []) (wr := [(hd, .inr (8, dF d i)), ((d 0), .inr (4, [.ref ad, .ref an, .ref aa])), (ad, aI (g.2.1 0) 3 fd), (an, aI (g.2.1 0) 3 fn), (aa, aI (g.2.1 0) 3 fa)]) (c1 := 0) (s1 := 0) ⟨hx, hb, hml, hown, hts⟩ (c_X8_isSet l g pa (by omega)) (va_cwS 1 hts gX8_parts_X8_isSet rfl rfl rfl (by decide +kernel) ⟨Nat.le_of_ble_eq_true rfl, Nat.le_of_ble_eq_true rfl⟩) hG hP hD hS hA [] [0, 1, 2, 3, 4] rfl rfl (by decide) (by decide) (by decide) rfl hl.1 rfl (Nat.le_of_ble_eq_true rfl) dX8_parts_1 ⟨Nat.le_of_ble_eq_true rfl, Nat.le_of_ble_eq_true rfl⟩ rfl rfl (fun v w H locs hv hP hD hS => ?_)
  obtain ⟨⟨rfl, hb1⟩ | ⟨rfl, hb1⟩, rfl⟩ := hv
  · show W p l e _ s m _ below meth c H locs 0 0 _ (F0 m 4 ls (.int (iI 1) :: []))
    have hb1 : 0 ≤ pa ∧ pa ≤ 255 := hb1
    have hP : va_P g.1 vwCl [(hd, .inr (8, dF d i)), ((d 0), .inr (4, [.ref ad, .ref an, .ref aa])), (ad, aI (g.2.1 0) 3 fd), (an, aI (g.2.1 0) 3 fn), (aa, aI (g.2.1 0) 3 fa)] H := hP
    have hD : va_D A [(hd, .inr (8, dF d i)), ((d 0), .inr (4, [.ref ad, .ref an, .ref aa])), (ad, aI (g.2.1 0) 3 fd), (an, aI (g.2.1 0) 3 fn), (aa, aI (g.2.1 0) 3 fa)] := hD
    refine iv_if_eq (tgt := 25) hx hb dX8_parts_4 (by decide) (by decide) (fun h => absurd h (by decide)) (fun _ => ?_)
    refine lv_iload_n hx hb dX8_parts_7 rfl (lv_at hl 2 rfl) ?_
    refine Ct.callS (As := [.int (iI pb)]) (rest := []) (wr := [(hd, .inr (8, dF d i)), ((d 0), .inr (4, [.ref ad, .ref an, .ref aa])), (ad, aI (g.2.1 0) 3 fd), (an, aI (g.2.1 0) 3 fn), (aa, aI (g.2.1 0) 3 fa)]) (c1 := 0) (s1 := 0) ⟨hx, hb, hml, hown, hts⟩ (c_X8_isSet l g pb (by omega)) (va_cwS 1 hts gX8_parts_X8_isSet rfl rfl rfl (by decide +kernel) ⟨Nat.le_of_ble_eq_true rfl, Nat.le_of_ble_eq_true rfl⟩) hG hP hD hS hA [] [0, 1, 2, 3, 4] rfl rfl (by decide) (by decide) (by decide) rfl hl.1 rfl (Nat.le_of_ble_eq_true rfl) dX8_parts_8 ⟨Nat.le_of_ble_eq_true rfl, Nat.le_of_ble_eq_true rfl⟩ rfl rfl (fun v w H locs hv hP hD hS => ?_)
    obtain ⟨⟨rfl, hb3⟩ | ⟨rfl, hb3⟩, rfl⟩ := hv
    · show W p l e _ s m _ below meth c H locs 0 0 _ (F0 m 11 ls (.int (iI 1) :: []))
      have hb3 : 0 ≤ pb ∧ pb ≤ 255 := hb3
      have hP : va_P g.1 vwCl [(hd, .inr (8, dF d i)), ((d 0), .inr (4, [.ref ad, .ref an, .ref aa])), (ad, aI (g.2.1 0) 3 fd), (an, aI (g.2.1 0) 3 fn), (aa, aI (g.2.1 0) 3 fa)] H := hP
      have hD : va_D A [(hd, .inr (8, dF d i)), ((d 0), .inr (4, [.ref ad, .ref an, .ref aa])), (ad, aI (g.2.1 0) 3 fd), (an, aI (g.2.1 0) 3 fn), (aa, aI (g.2.1 0) 3 fa)] := hD
      refine iv_if_eq (tgt := 25) hx hb dX8_parts_11 (by decide) (by decide) (fun h => absurd h (by decide)) (fun _ => ?_)
      refine lv_iload_n hx hb dX8_parts_14 rfl (lv_at hl 3 rfl) ?_
      refine lv_iconst (v := iI (1)) hx hb dX8_parts_15 rfl ?_
      refine lv_sipush (v := iI (200)) hx hb dX8_parts_16 (by decide) ?_
      refine Ct.callS (As := [.int (iI n), .int (iI 1), .int (iI 200)]) (rest := []) (wr := [(hd, .inr (8, dF d i)), ((d 0), .inr (4, [.ref ad, .ref an, .ref aa])), (ad, aI (g.2.1 0) 3 fd), (an, aI (g.2.1 0) 3 fn), (aa, aI (g.2.1 0) 3 fa)]) (c1 := 0) (s1 := 0) ⟨hx, hb, hml, hown, hts⟩ (c_X8_within l g n 1 200 (by omega)) (va_cwS 3 hts gX8_parts_X8_within rfl rfl rfl (by decide +kernel) ⟨Nat.le_of_ble_eq_true rfl, Nat.le_of_ble_eq_true rfl⟩) hG hP hD hS hA [] [0, 1, 2, 3, 4] rfl rfl (by decide) (by decide) (by decide) rfl hl.1 rfl (Nat.le_of_ble_eq_true rfl) dX8_parts_19 ⟨Nat.le_of_ble_eq_true rfl, Nat.le_of_ble_eq_true rfl⟩ rfl rfl (fun v w H locs hv hP hD hS => ?_)
      obtain ⟨⟨rfl, hb5⟩ | ⟨rfl, hb5⟩, rfl⟩ := hv
      · show W p l e _ s m _ below meth c H locs 0 0 _ (F0 m 22 ls (.int (iI 1) :: []))
        have hb5 : 1 ≤ n ∧ n ≤ 200 := hb5
        have hP : va_P g.1 vwCl [(hd, .inr (8, dF d i)), ((d 0), .inr (4, [.ref ad, .ref an, .ref aa])), (ad, aI (g.2.1 0) 3 fd), (an, aI (g.2.1 0) 3 fn), (aa, aI (g.2.1 0) 3 fa)] H := hP
        have hD : va_D A [(hd, .inr (8, dF d i)), ((d 0), .inr (4, [.ref ad, .ref an, .ref aa])), (ad, aI (g.2.1 0) 3 fd), (an, aI (g.2.1 0) 3 fn), (aa, aI (g.2.1 0) 3 fa)] := hD
        refine iv_if_ne (tgt := 27) hx hb dX8_parts_22 (by decide) (by decide) (fun _ => ?_) (fun h => absurd h (by decide))
        refine lv_iconst (v := iI (0)) hx hb dX8_parts_27 rfl ?_
        refine lv_istore (lv' := [(4, .int (iI 0)), (0, .ref hd), (1, .int (iI pa)), (2, .int (iI pb)), (3, .int (iI n))]) hx hb dX8_parts_28 hl (by decide) rfl (fun ls hl => ?_)
        have hloop30 : ∀ (fuel : Nat) (zm : Int) (fx : Nat → Int) (fy : Nat → Int) (fz : Nat → Int) (mu : Nat) (hmu : zm = (mu : Int) ∧ zm ≤ n) (ho1 : prO pa pb (n.toNat - mu) mu = prO pa pb n.toNat 0) (hmeas : n.toNat - mu < fuel), ∀ (H : Heap) (locs : List Loc) (ls : Array Slot), va_P g.1 vwCl [(hd, .inr (8, dF d i)), ((d 0), .inr (4, [.ref ad, .ref an, .ref aa])), (ad, aI (g.2.1 0) 3 fx), (an, aI (g.2.1 0) 3 fy), (aa, aI (g.2.1 0) 3 fz)] H → va_D A [(hd, .inr (8, dF d i)), ((d 0), .inr (4, [.ref ad, .ref an, .ref aa])), (ad, aI (g.2.1 0) 3 fx), (an, aI (g.2.1 0) 3 fy), (aa, aI (g.2.1 0) 3 fz)] → va_S A s.heap H locs → lv_has ls 6 [(4, .int (iI zm)), (0, .ref hd), (1, .int (iI pa)), (2, .int (iI pb)), (3, .int (iI n))] → W p l e ({ frames := 4, cells := 0, slots := 0, locals := 95 } : Room) s m [.ref hd, .int (iI pa), .int (iI pb), .int (iI n)].toArray below meth c H locs 0 0 (MQ below (CQ g (q_X8_parts g hd d i ad an aa fd fn fa pa pb n) A) [.ref hd, .int (iI pa), .int (iI pb), .int (iI n)].toArray s ({ frames := 4, cells := 0, slots := 0, locals := 95 } : Room).cells ({ frames := 4, cells := 0, slots := 0, locals := 95 } : Room).slots A) (F0 m 30 ls []) := by
          intro fuel
          induction fuel with
          | zero => intro zm fx fy fz mu hmu ho1 hmeas; exact absurd hmeas (Nat.not_lt_zero _)
          | succ fuel ih30 =>
            intro zm fx fy fz mu hmu ho1 hmeas H locs ls hP hD hS hl
            refine lv_iload hx hb dX8_parts_30 (lv_at hl 0 rfl) ?_
            refine lv_iload_n hx hb dX8_parts_32 rfl (lv_at hl 4 rfl) ?_
            refine iv_icmp_ge (tgt := 93) hx hb dX8_parts_33 (by decide) (by omega) (fun hc7 => ?_) (fun hc7 => ?_)
            · refine lv_bipush (v := iI (-4)) hx hb dX8_parts_93 (by decide) ?_
              exact Ct.iret hx hb hr hlocks (hP.sub [0, 1, 2, 3, 4] rfl) (hD.sub [0, 1, 2, 3, 4] (by decide) rfl) hS ⟨by decide, by decide⟩ dX8_parts_95 ⟨(-4), fx, fy, fz, rfl, rfl, (by unfold partsS; rw [if_pos (by omega), ← ho1, show n.toNat - mu = 0 from by omega]; rfl)⟩
            · refine lv_iconst (v := iI (0)) hx hb dX8_parts_36 rfl ?_
              refine lv_istore (lv' := [(5, .int (iI 0)), (4, .int (iI zm)), (0, .ref hd), (1, .int (iI pa)), (2, .int (iI pb)), (3, .int (iI n))]) hx hb dX8_parts_37 hl (by decide) rfl (fun ls hl => ?_)
              have hloop39 : ∀ (fuel : Nat) (zl : Int) (fx2 : Nat → Int) (fy2 : Nat → Int) (fz2 : Nat → Int) (k : Nat) (hk : zl = (k : Int) ∧ zl ≤ zm + 1) (hi1 : prI pa pb mu (mu + 1 - k) k = prI pa pb mu (mu + 1) 0) (hmeas : mu + 1 - k < fuel), ∀ (H : Heap) (locs : List Loc) (ls : Array Slot), va_P g.1 vwCl [(hd, .inr (8, dF d i)), ((d 0), .inr (4, [.ref ad, .ref an, .ref aa])), (ad, aI (g.2.1 0) 3 fx2), (an, aI (g.2.1 0) 3 fy2), (aa, aI (g.2.1 0) 3 fz2)] H → va_D A [(hd, .inr (8, dF d i)), ((d 0), .inr (4, [.ref ad, .ref an, .ref aa])), (ad, aI (g.2.1 0) 3 fx2), (an, aI (g.2.1 0) 3 fy2), (aa, aI (g.2.1 0) 3 fz2)] → va_S A s.heap H locs → lv_has ls 6 [(5, .int (iI zl)), (4, .int (iI zm)), (0, .ref hd), (1, .int (iI pa)), (2, .int (iI pb)), (3, .int (iI n))] → W p l e ({ frames := 4, cells := 0, slots := 0, locals := 95 } : Room) s m [.ref hd, .int (iI pa), .int (iI pb), .int (iI n)].toArray below meth c H locs 0 0 (MQ below (CQ g (q_X8_parts g hd d i ad an aa fd fn fa pa pb n) A) [.ref hd, .int (iI pa), .int (iI pb), .int (iI n)].toArray s ({ frames := 4, cells := 0, slots := 0, locals := 95 } : Room).cells ({ frames := 4, cells := 0, slots := 0, locals := 95 } : Room).slots A) (F0 m 39 ls []) := by
                intro fuel
                induction fuel with
                | zero => intro zl fx2 fy2 fz2 k hk hi1 hmeas; exact absurd hmeas (Nat.not_lt_zero _)
                | succ fuel ih39 =>
                  intro zl fx2 fy2 fz2 k hk hi1 hmeas H locs ls hP hD hS hl
                  refine lv_iload hx hb dX8_parts_39 (lv_at hl 0 rfl) ?_
                  refine lv_iload hx hb dX8_parts_41 (lv_at hl 1 rfl) ?_
                  refine iv_icmp_gt (tgt := 87) hx hb dX8_parts_43 (by decide) (by omega) (fun hc8 => ?_) (fun hc8 => ?_)
                  · refine iv_iinc (k := 1) (x := zm) (lv' := [(4, .int (iI (zm + 1))), (5, .int (iI zl)), (0, .ref hd), (1, .int (iI pa)), (2, .int (iI pb)), (3, .int (iI n))]) hx hb dX8_parts_87 hl rfl (by decide) rfl (fun ls hl => ?_)
                    refine lv_goto (tgt := 30) hx hb dX8_parts_90 (by decide) ?_
                    exact ih30 (zm + 1) fx2 fy2 fz2 (mu + 1) (by omega) (by rw [← ho1, show n.toNat - mu = (n.toNat - (mu + 1)) + 1 from by omega]; simp only [prO]; rw [if_pos (by rw [← hi1, show mu + 1 - k = 0 from by omega]; rfl)]) (by omega) H locs ls (hP.sub [0, 1, 2, 3, 4] rfl) (hD.sub [0, 1, 2, 3, 4] (by decide) rfl) hS (lv_sub hl [0, 2, 3, 4, 5] rfl)
                  · refine lv_aload_n hx hb dX8_parts_46 rfl (lv_at hl 2 rfl) ?_
                    refine va_get (D := g.1) (ci := 8) (v := .ref (d 0)) hx hb hts kX8_parts_8 hown hG.1 hP 0 rfl rfl 0 (by decide) (hts _ (List.mem_of_getElem? (i := 1) rfl)) (fun _ h9 => h9) rfl dX8_parts_47 ?_
                    refine lv_iload hx hb dX8_parts_50 (lv_at hl 1 rfl) ?_
                    refine lv_iload hx hb dX8_parts_52 (lv_at hl 0 rfl) ?_
                    refine lv_iload_n hx hb dX8_parts_54 rfl (lv_at hl 3 rfl) ?_
                    refine Ct.callV (ci := 4) (q0 := 1) (qc := (RX4, TX4, 3)) (As := [.int (iI zm), .int (iI zl), .int (iI pa)]) (rest := []) (wr := [(hd, .inr (8, dF d i))]) (c1 := 0) (s1 := 0) ⟨hx, hb, hml, hown, hts⟩ (c_X4_fill l g (d 0) ad an aa fx2 fy2 fz2 zm zl pa (by omega)) rfl rfl (cwV 3 hts gX8_parts_X4_fill rfl rfl rfl (by decide +kernel) ⟨Nat.le_of_ble_eq_true rfl, Nat.le_of_ble_eq_true rfl⟩) hG hP hD hS hA [1, 2, 3, 4] [0] rfl rfl (by decide) (by decide) (by decide) rfl hl.1 rfl (Nat.le_of_ble_eq_true rfl) dX8_parts_55 ⟨Nat.le_of_ble_eq_true rfl, Nat.le_of_ble_eq_true rfl⟩ rfl rfl (fun v w H locs hv hP hD hS => ?_)
                    obtain ⟨fd9, fn10, fa11, rfl, rfl, hf12, hf13⟩ := hv
                    show W p l e _ s m _ below meth c H locs 0 0 _ (F0 m 58 ls (.int (iI (wk zm zl pa)) :: []))
                    have hP : va_P g.1 vwCl [(hd, .inr (8, dF d i)), ((d 0), .inr (4, [.ref ad, .ref an, .ref aa])), (ad, aI (g.2.1 0) 3 fd9), (an, aI (g.2.1 0) 3 fn10), (aa, aI (g.2.1 0) 3 fa11)] H := hP
                    have hD : va_D A [(hd, .inr (8, dF d i)), ((d 0), .inr (4, [.ref ad, .ref an, .ref aa])), (ad, aI (g.2.1 0) 3 fd9), (an, aI (g.2.1 0) 3 fn10), (aa, aI (g.2.1 0) 3 fa11)] := hD
                    have hf12 : ∀ j, j < 3 → fd9 j = wkG pa zm zl j := hf12
                    have hf13 : ∀ j, j < 3 → fn10 j = wkD pa zm zl j := hf13
                    refine lv_aload_n hx hb dX8_parts_58 rfl (lv_at hl 2 rfl) ?_
                    refine va_get (D := g.1) (ci := 8) (v := .ref (d 0)) hx hb hts kX8_parts_8 hown hG.1 hP 0 rfl rfl 0 (by decide) (hts _ (List.mem_of_getElem? (i := 1) rfl)) (fun _ h9 => h9) rfl dX8_parts_59 ?_
                    refine lv_iload hx hb dX8_parts_62 (lv_at hl 1 rfl) ?_
                    refine lv_iload hx hb dX8_parts_64 (lv_at hl 0 rfl) ?_
                    refine lv_iload_n hx hb dX8_parts_66 rfl (lv_at hl 4 rfl) ?_
                    refine Ct.callV (ci := 4) (q0 := 1) (qc := (RX4, TX4, 3)) (As := [.int (iI zm), .int (iI zl), .int (iI pb)]) (rest := [.int (iI (wk zm zl pa))]) (wr := [(hd, .inr (8, dF d i))]) (c1 := 0) (s1 := 0) ⟨hx, hb, hml, hown, hts⟩ (c_X4_fill l g (d 0) ad an aa fd9 fn10 fa11 zm zl pb (by omega)) rfl rfl (cwV 3 hts gX8_parts_X4_fill rfl rfl rfl (by decide +kernel) ⟨Nat.le_of_ble_eq_true rfl, Nat.le_of_ble_eq_true rfl⟩) hG hP hD hS hA [1, 2, 3, 4] [0] rfl rfl (by decide) (by decide) (by decide) rfl hl.1 rfl (Nat.le_of_ble_eq_true rfl) dX8_parts_67 ⟨Nat.le_of_ble_eq_true rfl, Nat.le_of_ble_eq_true rfl⟩ rfl rfl (fun v w H locs hv hP hD hS => ?_)
                    obtain ⟨fd14, fn15, fa16, rfl, rfl, hf17, hf18⟩ := hv
                    show W p l e _ s m _ below meth c H locs 0 0 _ (F0 m 70 ls (.int (iI (wk zm zl pb)) :: [.int (iI (wk zm zl pa))]))
                    have hP : va_P g.1 vwCl [(hd, .inr (8, dF d i)), ((d 0), .inr (4, [.ref ad, .ref an, .ref aa])), (ad, aI (g.2.1 0) 3 fd14), (an, aI (g.2.1 0) 3 fn15), (aa, aI (g.2.1 0) 3 fa16)] H := hP
                    have hD : va_D A [(hd, .inr (8, dF d i)), ((d 0), .inr (4, [.ref ad, .ref an, .ref aa])), (ad, aI (g.2.1 0) 3 fd14), (an, aI (g.2.1 0) 3 fn15), (aa, aI (g.2.1 0) 3 fa16)] := hD
                    have hf17 : ∀ j, j < 3 → fd14 j = wkG pb zm zl j := hf17
                    have hf18 : ∀ j, j < 3 → fn15 j = wkD pb zm zl j := hf18
                    have hw1 := wk_rng zm zl pa
                    have hw2 := wk_rng zm zl pb
                    refine iv_icmp_eq (tgt := 81) hx hb dX8_parts_70 (by decide) (by omega) (fun hc19 => ?_) (fun hc19 => ?_)
                    · refine iv_iinc (k := 0) (x := zl) (lv' := [(5, .int (iI (zl + 1))), (4, .int (iI zm)), (0, .ref hd), (1, .int (iI pa)), (2, .int (iI pb)), (3, .int (iI n))]) hx hb dX8_parts_81 hl rfl (by decide) rfl (fun ls hl => ?_)
                      refine lv_goto (tgt := 39) hx hb dX8_parts_84 (by decide) ?_
                      exact ih39 (zl + 1) fd14 fn15 fa16 (k + 1) (by omega) (by rw [← hi1, show mu + 1 - k = (mu + 1 - (k + 1)) + 1 from by omega]; simp only [prI]; rw [if_pos (by rw [← hmu.1, ← hk.1]; assumption)]) (by omega) H locs ls (hP.sub [0, 1, 2, 3, 4] rfl) (hD.sub [0, 1, 2, 3, 4] (by decide) rfl) hS (lv_sub hl [0, 1, 2, 3, 4, 5] rfl)
                    · have hpi : prI pa pb mu (mu + 1) 0 = 1000 * (mu : Int) + k := by rw [← hi1, show mu + 1 - k = (mu - k) + 1 from by omega]; simp only [prI]; rw [if_neg (by rw [← hmu.1, ← hk.1]; assumption)]
                      refine lv_iload hx hb dX8_parts_73 (lv_at hl 1 rfl) ?_
                      refine lv_iload hx hb dX8_parts_75 (lv_at hl 0 rfl) ?_
                      refine Ct.callS (As := [.int (iI zm), .int (iI zl)]) (rest := []) (wr := [(hd, .inr (8, dF d i)), ((d 0), .inr (4, [.ref ad, .ref an, .ref aa])), (ad, aI (g.2.1 0) 3 fd14), (an, aI (g.2.1 0) 3 fn15), (aa, aI (g.2.1 0) 3 fa16)]) (c1 := 0) (s1 := 0) ⟨hx, hb, hml, hown, hts⟩ (c_X8_taskNumber l g zm zl ) (va_cwS 2 hts gX8_parts_X8_taskNumber rfl rfl rfl (by decide +kernel) ⟨Nat.le_of_ble_eq_true rfl, Nat.le_of_ble_eq_true rfl⟩) hG hP hD hS hA [] [0, 1, 2, 3, 4] rfl rfl (by decide) (by decide) (by decide) rfl hl.1 rfl (Nat.le_of_ble_eq_true rfl) dX8_parts_77 ⟨Nat.le_of_ble_eq_true rfl, Nat.le_of_ble_eq_true rfl⟩ rfl rfl (fun v w H locs hv hP hD hS => ?_)
                      obtain ⟨rfl, rfl⟩ := hv
                      show W p l e _ s m _ below meth c H locs 0 0 _ (F0 m 80 ls (.int (iI (1000 * zm + zl)) :: []))
                      have hP : va_P g.1 vwCl [(hd, .inr (8, dF d i)), ((d 0), .inr (4, [.ref ad, .ref an, .ref aa])), (ad, aI (g.2.1 0) 3 fd14), (an, aI (g.2.1 0) 3 fn15), (aa, aI (g.2.1 0) 3 fa16)] H := hP
                      have hD : va_D A [(hd, .inr (8, dF d i)), ((d 0), .inr (4, [.ref ad, .ref an, .ref aa])), (ad, aI (g.2.1 0) 3 fd14), (an, aI (g.2.1 0) 3 fn15), (aa, aI (g.2.1 0) 3 fa16)] := hD
                      exact Ct.iret hx hb hr hlocks (hP.sub [0, 1, 2, 3, 4] rfl) (hD.sub [0, 1, 2, 3, 4] (by decide) rfl) hS ⟨by decide, by decide⟩ dX8_parts_80 ⟨(1000 * zm + zl), fd14, fn15, fa16, rfl, rfl, (by unfold partsS; rw [if_pos (by omega), ← ho1, show n.toNat - mu = (n.toNat - (mu + 1)) + 1 from by omega]; simp only [prO]; rw [if_neg (by rw [hpi]; omega), hpi]; omega)⟩
              exact hloop39 _ 0 fx fy fz 0 (by omega) (rfl) (Nat.lt_succ_self _) H locs ls (hP.sub [0, 1, 2, 3, 4] rfl) (hD.sub [0, 1, 2, 3, 4] (by decide) rfl) hS (lv_sub hl [0, 1, 2, 3, 4, 5] rfl)
        exact hloop30 _ 0 fd fn fa 0 (by omega) (rfl) (Nat.lt_succ_self _) H locs ls (hP.sub [0, 1, 2, 3, 4] rfl) (hD.sub [0, 1, 2, 3, 4] (by decide) rfl) hS (lv_sub hl [0, 1, 2, 3, 4] rfl)
      · show W p l e _ s m _ below meth c H locs 0 0 _ (F0 m 22 ls (.int (iI 0) :: []))
        have hb5 : ¬ (1 ≤ n ∧ n ≤ 200) := hb5
        have hP : va_P g.1 vwCl [(hd, .inr (8, dF d i)), ((d 0), .inr (4, [.ref ad, .ref an, .ref aa])), (ad, aI (g.2.1 0) 3 fd), (an, aI (g.2.1 0) 3 fn), (aa, aI (g.2.1 0) 3 fa)] H := hP
        have hD : va_D A [(hd, .inr (8, dF d i)), ((d 0), .inr (4, [.ref ad, .ref an, .ref aa])), (ad, aI (g.2.1 0) 3 fd), (an, aI (g.2.1 0) 3 fn), (aa, aI (g.2.1 0) 3 fa)] := hD
        refine iv_if_ne (tgt := 27) hx hb dX8_parts_22 (by decide) (by decide) (fun h => absurd h (by decide)) (fun _ => ?_)
        refine lv_iconst (v := iI (-1)) hx hb dX8_parts_25 rfl ?_
        exact Ct.iret hx hb hr hlocks (hP.sub [0, 1, 2, 3, 4] rfl) (hD.sub [0, 1, 2, 3, 4] (by decide) rfl) hS ⟨by decide, by decide⟩ dX8_parts_26 ⟨(-1), fd, fn, fa, rfl, rfl, (by unfold partsS; (repeat' split) <;> first | rfl | omega | (exfalso; omega))⟩
    · show W p l e _ s m _ below meth c H locs 0 0 _ (F0 m 11 ls (.int (iI 0) :: []))
      have hb3 : ¬ (0 ≤ pb ∧ pb ≤ 255) := hb3
      have hP : va_P g.1 vwCl [(hd, .inr (8, dF d i)), ((d 0), .inr (4, [.ref ad, .ref an, .ref aa])), (ad, aI (g.2.1 0) 3 fd), (an, aI (g.2.1 0) 3 fn), (aa, aI (g.2.1 0) 3 fa)] H := hP
      have hD : va_D A [(hd, .inr (8, dF d i)), ((d 0), .inr (4, [.ref ad, .ref an, .ref aa])), (ad, aI (g.2.1 0) 3 fd), (an, aI (g.2.1 0) 3 fn), (aa, aI (g.2.1 0) 3 fa)] := hD
      refine iv_if_eq (tgt := 25) hx hb dX8_parts_11 (by decide) (by decide) (fun _ => ?_) (fun h => absurd h (by decide))
      refine lv_iconst (v := iI (-1)) hx hb dX8_parts_25 rfl ?_
      exact Ct.iret hx hb hr hlocks (hP.sub [0, 1, 2, 3, 4] rfl) (hD.sub [0, 1, 2, 3, 4] (by decide) rfl) hS ⟨by decide, by decide⟩ dX8_parts_26 ⟨(-1), fd, fn, fa, rfl, rfl, (by unfold partsS; (repeat' split) <;> first | rfl | omega | (exfalso; omega))⟩
  · show W p l e _ s m _ below meth c H locs 0 0 _ (F0 m 4 ls (.int (iI 0) :: []))
    have hb1 : ¬ (0 ≤ pa ∧ pa ≤ 255) := hb1
    have hP : va_P g.1 vwCl [(hd, .inr (8, dF d i)), ((d 0), .inr (4, [.ref ad, .ref an, .ref aa])), (ad, aI (g.2.1 0) 3 fd), (an, aI (g.2.1 0) 3 fn), (aa, aI (g.2.1 0) 3 fa)] H := hP
    have hD : va_D A [(hd, .inr (8, dF d i)), ((d 0), .inr (4, [.ref ad, .ref an, .ref aa])), (ad, aI (g.2.1 0) 3 fd), (an, aI (g.2.1 0) 3 fn), (aa, aI (g.2.1 0) 3 fa)] := hD
    refine iv_if_eq (tgt := 25) hx hb dX8_parts_4 (by decide) (by decide) (fun _ => ?_) (fun h => absurd h (by decide))
    refine lv_iconst (v := iI (-1)) hx hb dX8_parts_25 rfl ?_
    exact Ct.iret hx hb hr hlocks (hP.sub [0, 1, 2, 3, 4] rfl) (hD.sub [0, 1, 2, 3, 4] (by decide) rfl) hS ⟨by decide, by decide⟩ dX8_parts_26 ⟨(-1), fd, fn, fa, rfl, rfl, (by unfold partsS; (repeat' split) <;> first | rfl | omega | (exfalso; omega))⟩
