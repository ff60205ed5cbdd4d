abbrev q_X9_work (g : GT) (hm : Nat) (a : Nat → Nat) (i : Nat → Int) (fa : Nat → Int) (fd : Nat → Int) (fn : Nat → Int) (much : Int) (less : Int) (st : Int) : Option Value → va_W → Prop := fun v w => ∃ (r : Int), ∃ (fd' : Nat → Int), ∃ (fn' : Nat → Int), ∃ (fa' : Nat → Int), v = some (.int (iI r)) ∧ w = [(hm, .inr (9, mF a i)), ((a 1), aI (g.2.1 0) 3 fa'), ((a 2), aI (g.2.1 0) 3 fd'), ((a 3), aI (g.2.1 0) 3 fn')] ∧ (r = workS much less st)
set_option maxHeartbeats 4000000 in
set_option maxRecDepth 100000 in
theorem c_X9_work (l : Launch) (g : GT) (hm : Nat) (a : Nat → Nat) (i : Nat → Int) (fa : Nat → Int) (fd : Nat → Int) (fn : Nat → Int) (much : Int) (less : Int) (st : Int) (h1 : (-2147483648 ≤ much ∧ much < 2147483648) ∧ (-2147483648 ≤ less ∧ less < 2147483648) ∧ (-2147483648 ≤ st ∧ st < 2147483648)) : Ct l g yX9_work wsX9_work ({ frames := 2, cells := 0, slots := 0, locals := 51 } : Room) [.ref hm, .int (iI much), .int (iI less), .int (iI st)] [(hm, .inr (9, mF a i)), ((a 1), aI (g.2.1 0) 3 fa), ((a 2), aI (g.2.1 0) 3 fd), ((a 3), aI (g.2.1 0) 3 fn)] (q_X9_work g hm a i fa fd fn much less st) := by
  refine Ct.intro (maxL := 4) (ret := (some .int)) (by decide) rfl (Nat.le_of_ble_eq_true rfl) ?_
  intro p e s m below meth c A ls hx hb hr hml hown hts hlocks hnm hA hG hP hD hS hl
  have hown : s.vm.findClass RX9 = some m.cls := hown
  have hl : lv_has ls 4 [(0, .ref hm), (1, .int (iI much)), (2, .int (iI less)), (3, .int (iI st))] := hl
  have hP : va_P g.1 vwCl [(hm, .inr (9, mF a i)), ((a 1), aI (g.2.1 0) 3 fa), ((a 2), aI (g.2.1 0) 3 fd), ((a 3), aI (g.2.1 0) 3 fn)] s.heap := hP
  have hS : va_S A s.heap s.heap [] := hS
  obtain ⟨H, hHe⟩ : ∃ H : Heap, H = s.heap := ⟨_, rfl⟩
  obtain ⟨locs, hLe⟩ : ∃ L : List Loc, L = [] := ⟨_, rfl⟩
  have hP : va_P g.1 vwCl [(hm, .inr (9, mF a i)), ((a 1), aI (g.2.1 0) 3 fa), ((a 2), aI (g.2.1 0) 3 fd), ((a 3), aI (g.2.1 0) 3 fn)] H := by rw [hHe]; exact hP
  have hS : va_S A s.heap H locs := by rw [hHe, hLe]; exact hS
  suffices hgo : W p l e ({ frames := 2, cells := 0, slots := 0, locals := 51 } : Room) s m [.ref hm, .int (iI much), .int (iI less), .int (iI st)].toArray below meth c H locs 0 0 (MQ below (CQ g (q_X9_work g hm a i fa fd fn much less st) A) [.ref hm, .int (iI much), .int (iI less), .int (iI st)].toArray s ({ frames := 2, cells := 0, slots := 0, locals := 51 } : Room).cells ({ frames := 2, cells := 0, slots := 0, locals := 51 } : Room).slots A) (F0 m 0 ls []) by rw [hHe, hLe] at hgo; exact hgo
  clear hHe hLe
  refine lv_iload_n hx hb dX9_work_0 rfl (lv_at hl 1 rfl) ?_
  refine lv_iload_n hx hb dX9_work_1 rfl (lv_at hl 2 rfl) ?_
  refine Ct.callS (As := [.int (iI much), .int (iI less)]) (rest := []) (wr := [(hm, .inr (9, mF a i)), ((a 1), aI (g.2.1 0) 3 fa), ((a 2), aI (g.2.1 0) 3 fd), ((a 3), aI (g.2.1 0) 3 fn)]) (c1 := 0) (s1 := 0) ⟨hx, hb, hml, hown, hts⟩ (c_X9_isTask l g much less (by omega)) (va_cwS 2 hts gX9_work_X9_isTask rfl rfl rfl (by decide +kernel) ⟨Nat.le_of_ble_eq_true rfl, Nat.le_of_ble_eq_true rfl⟩) hG hP hD hS hA [] [0, 1, 2, 3] rfl rfl (by decide) (by decide) (by decide) rfl hl.1 rfl (Nat.le_of_ble_eq_true rfl) dX9_work_2 ⟨Nat.le_of_ble_eq_true rfl, Nat.le_of_ble_eq_true rfl⟩ rfl rfl (fun v w H locs hv hP hD hS => ?_)
  obtain ⟨⟨rfl, hb1⟩ | ⟨rfl, hb1⟩, rfl⟩ := hv
  · show W p l e _ s m _ below meth c H locs 0 0 _ (F0 m 5 ls (.int (iI 1) :: []))
    have hb1 : 0 ≤ less ∧ less ≤ much ∧ much ≤ 999 := hb1
    have hP : va_P g.1 vwCl [(hm, .inr (9, mF a i)), ((a 1), aI (g.2.1 0) 3 fa), ((a 2), aI (g.2.1 0) 3 fd), ((a 3), aI (g.2.1 0) 3 fn)] H := hP
    have hD : va_D A [(hm, .inr (9, mF a i)), ((a 1), aI (g.2.1 0) 3 fa), ((a 2), aI (g.2.1 0) 3 fd), ((a 3), aI (g.2.1 0) 3 fn)] := hD
    refine iv_if_eq (tgt := 25) hx hb dX9_work_5 (by decide) (by decide) (fun h => absurd h (by decide)) (fun _ => ?_)
    refine lv_iload_n hx hb dX9_work_8 rfl (lv_at hl 3 rfl) ?_
    refine Ct.callS (As := [.int (iI st)]) (rest := []) (wr := [(hm, .inr (9, mF a i)), ((a 1), aI (g.2.1 0) 3 fa), ((a 2), aI (g.2.1 0) 3 fd), ((a 3), aI (g.2.1 0) 3 fn)]) (c1 := 0) (s1 := 0) ⟨hx, hb, hml, hown, hts⟩ (c_X9_isSet l g st (by omega)) (va_cwS 1 hts gX9_work_X9_isSet rfl rfl rfl (by decide +kernel) ⟨Nat.le_of_ble_eq_true rfl, Nat.le_of_ble_eq_true rfl⟩) hG hP hD hS hA [] [0, 1, 2, 3] rfl rfl (by decide) (by decide) (by decide) rfl hl.1 rfl (Nat.le_of_ble_eq_true rfl) dX9_work_9 ⟨Nat.le_of_ble_eq_true rfl, Nat.le_of_ble_eq_true rfl⟩ rfl rfl (fun v w H locs hv hP hD hS => ?_)
    obtain ⟨⟨rfl, hb3⟩ | ⟨rfl, hb3⟩, rfl⟩ := hv
    · show W p l e _ s m _ below meth c H locs 0 0 _ (F0 m 12 ls (.int (iI 1) :: []))
      have hb3 : 0 ≤ st ∧ st ≤ 255 := hb3
      have hP : va_P g.1 vwCl [(hm, .inr (9, mF a i)), ((a 1), aI (g.2.1 0) 3 fa), ((a 2), aI (g.2.1 0) 3 fd), ((a 3), aI (g.2.1 0) 3 fn)] H := hP
      have hD : va_D A [(hm, .inr (9, mF a i)), ((a 1), aI (g.2.1 0) 3 fa), ((a 2), aI (g.2.1 0) 3 fd), ((a 3), aI (g.2.1 0) 3 fn)] := hD
      refine iv_if_eq (tgt := 25) hx hb dX9_work_12 (by decide) (by decide) (fun h => absurd h (by decide)) (fun _ => ?_)
      refine lv_aload_n hx hb dX9_work_15 rfl (lv_at hl 0 rfl) ?_
      refine lv_iload_n hx hb dX9_work_16 rfl (lv_at hl 1 rfl) ?_
      refine lv_iload_n hx hb dX9_work_17 rfl (lv_at hl 2 rfl) ?_
      refine lv_iload_n hx hb dX9_work_18 rfl (lv_at hl 3 rfl) ?_
      refine Ct.callV (ci := 9) (q0 := 0) (qc := (RX9, TX9, 37)) (As := [.int (iI much), .int (iI less), .int (iI st)]) (rest := []) (wr := []) (c1 := 0) (s1 := 0) ⟨hx, hb, hml, hown, hts⟩ (c_X9_workOf l g hm a i fa fd fn much less st (by omega)) rfl rfl (cwV 3 hts gX9_work_X9_workOf rfl rfl rfl (by decide +kernel) ⟨Nat.le_of_ble_eq_true rfl, Nat.le_of_ble_eq_true rfl⟩) hG hP hD hS hA [0, 1, 2, 3] [] rfl rfl (by decide) (by decide) (by decide) rfl hl.1 rfl (Nat.le_of_ble_eq_true rfl) dX9_work_19 ⟨Nat.le_of_ble_eq_true rfl, Nat.le_of_ble_eq_true rfl⟩ rfl rfl (fun v w H locs hv hP hD hS => ?_)
      obtain ⟨fa5, fd6, fn7, rfl, rfl, hf8, hf9⟩ := hv
      show W p l e _ s m _ below meth c H locs 0 0 _ (F0 m 22 ls (.int (iI (wk much less st)) :: []))
      have hP : va_P g.1 vwCl [(hm, .inr (9, mF a i)), ((a 1), aI (g.2.1 0) 3 fa5), ((a 2), aI (g.2.1 0) 3 fd6), ((a 3), aI (g.2.1 0) 3 fn7)] H := hP
      have hD : va_D A [(hm, .inr (9, mF a i)), ((a 1), aI (g.2.1 0) 3 fa5), ((a 2), aI (g.2.1 0) 3 fd6), ((a 3), aI (g.2.1 0) 3 fn7)] := hD
      have hf8 : ∀ j, j < 3 → fd6 j = wkG st much less j := hf8
      have hf9 : ∀ j, j < 3 → fn7 j = wkD st much less j := hf9
      refine lv_goto (tgt := 26) hx hb dX9_work_22 (by decide) ?_
      exact Ct.iret hx hb hr hlocks (hP.sub [0, 1, 2, 3] rfl) (hD.sub [0, 1, 2, 3] (by decide) rfl) hS ⟨by decide, by decide⟩ dX9_work_26 ⟨(wk much less st), fd6, fn7, fa5, rfl, rfl, (by unfold workS; (repeat' split) <;> first | rfl | omega | (exfalso; omega))⟩
    · show W p l e _ s m _ below meth c H locs 0 0 _ (F0 m 12 ls (.int (iI 0) :: []))
      have hb3 : ¬ (0 ≤ st ∧ st ≤ 255) := hb3
      have hP : va_P g.1 vwCl [(hm, .inr (9, mF a i)), ((a 1), aI (g.2.1 0) 3 fa), ((a 2), aI (g.2.1 0) 3 fd), ((a 3), aI (g.2.1 0) 3 fn)] H := hP
      have hD : va_D A [(hm, .inr (9, mF a i)), ((a 1), aI (g.2.1 0) 3 fa), ((a 2), aI (g.2.1 0) 3 fd), ((a 3), aI (g.2.1 0) 3 fn)] := hD
      refine iv_if_eq (tgt := 25) hx hb dX9_work_12 (by decide) (by decide) (fun _ => ?_) (fun h => absurd h (by decide))
      refine lv_iconst (v := iI (-1)) hx hb dX9_work_25 rfl ?_
      exact Ct.iret hx hb hr hlocks (hP.sub [0, 1, 2, 3] rfl) (hD.sub [0, 1, 2, 3] (by decide) rfl) hS ⟨by decide, by decide⟩ dX9_work_26 ⟨(-1), fd, fn, fa, rfl, rfl, (by unfold workS; (repeat' split) <;> first | rfl | omega | (exfalso; omega))⟩
  · show W p l e _ s m _ below meth c H locs 0 0 _ (F0 m 5 ls (.int (iI 0) :: []))
    have hb1 : ¬ (0 ≤ less ∧ less ≤ much ∧ much ≤ 999) := hb1
    have hP : va_P g.1 vwCl [(hm, .inr (9, mF a i)), ((a 1), aI (g.2.1 0) 3 fa), ((a 2), aI (g.2.1 0) 3 fd), ((a 3), aI (g.2.1 0) 3 fn)] H := hP
    have hD : va_D A [(hm, .inr (9, mF a i)), ((a 1), aI (g.2.1 0) 3 fa), ((a 2), aI (g.2.1 0) 3 fd), ((a 3), aI (g.2.1 0) 3 fn)] := hD
    refine iv_if_eq (tgt := 25) hx hb dX9_work_5 (by decide) (by decide) (fun _ => ?_) (fun h => absurd h (by decide))
    refine lv_iconst (v := iI (-1)) hx hb dX9_work_25 rfl ?_
    exact Ct.iret hx hb hr hlocks (hP.sub [0, 1, 2, 3] rfl) (hD.sub [0, 1, 2, 3] (by decide) rfl) hS ⟨by decide, by decide⟩ dX9_work_26 ⟨(-1), fd, fn, fa, rfl, rfl, (by unfold workS; (repeat' split) <;> first | rfl | omega | (exfalso; omega))⟩
theorem kX9_row_9 : ∀ w ∈ u_ws RX9 TX9 37, w ∈ wsX9_row := fun _ h => List.mem_cons_of_mem _ (List.mem_append_right _ h)
abbrev q_X9_row (g : GT) (hm : Nat) (a : Nat → Nat) (i : Nat → Int) (fa : Nat → Int) (fd : Nat → Int) (fn : Nat → Int) (much : Int) (less : Int) (st : Int) (c_ : Int) : Option Value → va_W → Prop := fun v w => ∃ (r : Int), ∃ (fd' : Nat → Int), ∃ (fn' : Nat → Int), ∃ (fa' : Nat → Int), v = some (.int (iI r)) ∧ w = [(hm, .inr (9, mF a i)), ((a 1), aI (g.2.1 0) 3 fa'), ((a 2), aI (g.2.1 0) 3 fd'), ((a 3), aI (g.2.1 0) 3 fn')] ∧ (r = rowS much less st c_)
set_option maxHeartbeats 4000000 in
set_option maxRecDepth 100000 in
theorem c_X9_row (l : Launch) (g : GT) (hm : Nat) (a : Nat → Nat) (i : Nat → Int) (fa : Nat → Int) (fd : Nat → Int) (fn : Nat → Int) (much : Int) (less : Int) (st : Int) (c_ : Int) (h1 : (-2147483648 ≤ much ∧ much < 2147483648) ∧ (-2147483648 ≤ less ∧ less < 2147483648) ∧ (-2147483648 ≤ st ∧ st < 2147483648) ∧ (-2147483648 ≤ c_ ∧ c_ < 2147483648)) : Ct l g yX9_row wsX9_row ({ frames := 2, cells := 0, slots := 0, locals := 51 } : Room) [.ref hm, .int (iI much), .int (iI less), .int (iI st), .int (iI c_)] [(hm, .inr (9, mF a i)), ((a 1), aI (g.2.1 0) 3 fa), ((a 2), aI (g.2.1 0) 3 fd), ((a 3), aI (g.2.1 0) 3 fn)] (q_X9_row g hm a i fa fd fn much less st c_) := by
  refine Ct.intro (maxL := 6) (ret := (some .int)) (by decide) rfl (Nat.le_of_ble_eq_true rfl) ?_
  intro p e s m below meth c A ls hx hb hr hml hown hts hlocks hnm hA hG hP hD hS hl
  have hown : s.vm.findClass RX9 = some m.cls := hown
  have hl : lv_has ls 6 [(0, .ref hm), (1, .int (iI much)), (2, .int (iI less)), (3, .int (iI st)), (4, .int (iI c_))] := hl
  have hP : va_P g.1 vwCl [(hm, .inr (9, mF a i)), ((a 1), aI (g.2.1 0) 3 fa), ((a 2), aI (g.2.1 0) 3 fd), ((a 3), aI (g.2.1 0) 3 fn)] s.heap := hP
  have hS : va_S A s.heap s.heap [] := hS
  obtain ⟨H, hHe⟩ : ∃ H : Heap, H = s.heap := ⟨_, rfl⟩
  obtain ⟨locs, hLe⟩ : ∃ L : List Loc, L = [] := ⟨_, rfl⟩
  have hP : va_P g.1 vwCl [(hm, .inr (9, mF a i)), ((a 1), aI (g.2.1 0) 3 fa), ((a 2), aI (g.2.1 0) 3 fd), ((a 3), aI (g.2.1 0) 3 fn)] H := by rw [hHe]; exact hP
  have hS : va_S A s.heap H locs := by rw [hHe, hLe]; exact hS
  suffices hgo : W p l e ({ frames := 2, cells := 0, slots := 0, locals := 51 } : Room) s m [.ref hm, .int (iI much), .int (iI less), .int (iI st), .int (iI c_)].toArray below meth c H locs 0 0 (MQ below (CQ g (q_X9_row g hm a i fa fd fn much less st c_) A) [.ref hm, .int (iI much), .int (iI less), .int (iI st), .int (iI c_)].toArray s ({ frames := 2, cells := 0, slots := 0, locals := 51 } : Room).cells ({ frames := 2, cells := 0, slots := 0, locals := 51 } : Room).slots A) (F0 m 0 ls []) by rw [hHe, hLe] at hgo; exact hgo
  clear hHe hLe
  refine lv_iload_n hx hb dX9_row_0 rfl (lv_at hl 1 rfl) ?_
  refine lv_iload_n hx hb dX9_row_1 rfl (lv_at hl 2 rfl) ?_
  refine Ct.callS (As := [.int (iI much), .int (iI less)]) (rest := []) (wr := [(hm, .inr (9, mF a i)), ((a 1), aI (g.2.1 0) 3 fa), ((a 2), aI (g.2.1 0) 3 fd), ((a 3), aI (g.2.1 0) 3 fn)]) (c1 := 0) (s1 := 0) ⟨hx, hb, hml, hown, hts⟩ (c_X9_isTask l g much less (by omega)) (va_cwS 2 hts gX9_row_X9_isTask rfl rfl rfl (by decide +kernel) ⟨Nat.le_of_ble_eq_true rfl, Nat.le_of_ble_eq_true rfl⟩) hG hP hD hS hA [] [0, 1, 2, 3] rfl rfl (by decide) (by decide) (by decide) rfl hl.1 rfl (Nat.le_of_ble_eq_true rfl) dX9_row_2 ⟨Nat.le_of_ble_eq_true rfl, Nat.le_of_ble_eq_true rfl⟩ rfl rfl (fun v w H locs hv hP hD hS => ?_)
  obtain ⟨⟨rfl, hb1⟩ | ⟨rfl, hb1⟩, rfl⟩ := hv
  · show W p l e _ s m _ below meth c H locs 0 0 _ (F0 m 5 ls (.int (iI 1) :: []))
    have hb1 : 0 ≤ less ∧ less ≤ much ∧ much ≤ 999 := hb1
    have hP : va_P g.1 vwCl [(hm, .inr (9, mF a i)), ((a 1), aI (g.2.1 0) 3 fa), ((a 2), aI (g.2.1 0) 3 fd), ((a 3), aI (g.2.1 0) 3 fn)] H := hP
    have hD : va_D A [(hm, .inr (9, mF a i)), ((a 1), aI (g.2.1 0) 3 fa), ((a 2), aI (g.2.1 0) 3 fd), ((a 3), aI (g.2.1 0) 3 fn)] := hD
    refine iv_if_eq (tgt := 28) hx hb dX9_row_5 (by decide) (by decide) (fun h => absurd h (by decide)) (fun _ => ?_)
    refine lv_iload_n hx hb dX9_row_8 rfl (lv_at hl 3 rfl) ?_
    refine Ct.callS (As := [.int (iI st)]) (rest := []) (wr := [(hm, .inr (9, mF a i)), ((a 1), aI (g.2.1 0) 3 fa), ((a 2), aI (g.2.1 0) 3 fd), ((a 3), aI (g.2.1 0) 3 fn)]) (c1 := 0) (s1 := 0) ⟨hx, hb, hml, hown, hts⟩ (c_X9_isSet l g st (by omega)) (va_cwS 1 hts gX9_row_X9_isSet rfl rfl rfl (by decide +kernel) ⟨Nat.le_of_ble_eq_true rfl, Nat.le_of_ble_eq_true rfl⟩) hG hP hD hS hA [] [0, 1, 2, 3] rfl rfl (by decide) (by decide) (by decide) rfl hl.1 rfl (Nat.le_of_ble_eq_true rfl) dX9_row_9 ⟨Nat.le_of_ble_eq_true rfl, Nat.le_of_ble_eq_true rfl⟩ rfl rfl (fun v w H locs hv hP hD hS => ?_)
    obtain ⟨⟨rfl, hb3⟩ | ⟨rfl, hb3⟩, rfl⟩ := hv
    · show W p l e _ s m _ below meth c H locs 0 0 _ (F0 m 12 ls (.int (iI 1) :: []))
      have hb3 : 0 ≤ st ∧ st ≤ 255 := hb3
      have hP : va_P g.1 vwCl [(hm, .inr (9, mF a i)), ((a 1), aI (g.2.1 0) 3 fa), ((a 2), aI (g.2.1 0) 3 fd), ((a 3), aI (g.2.1 0) 3 fn)] H := hP
      have hD : va_D A [(hm, .inr (9, mF a i)), ((a 1), aI (g.2.1 0) 3 fa), ((a 2), aI (g.2.1 0) 3 fd), ((a 3), aI (g.2.1 0) 3 fn)] := hD
      refine iv_if_eq (tgt := 28) hx hb dX9_row_12 (by decide) (by decide) (fun h => absurd h (by decide)) (fun _ => ?_)
      refine lv_iload hx hb dX9_row_15 (lv_at hl 4 rfl) ?_
      refine iv_i2l hx hb dX9_row_17 (by omega) ?_
      refine lv_lconst (v := lI (0)) hx hb dX9_row_18 (by decide) ?_
      refine iv_ldc2 (v := 2) (z := 2) hx hb hown (hts _ (List.mem_of_getElem? (i := 1) rfl)) dX9_row_19 (by decide) ?_
      refine Ct.callS (As := [.long (lI c_), .long (lI 0), .long (lI 2)]) (rest := []) (wr := [(hm, .inr (9, mF a i)), ((a 1), aI (g.2.1 0) 3 fa), ((a 2), aI (g.2.1 0) 3 fd), ((a 3), aI (g.2.1 0) 3 fn)]) (c1 := 0) (s1 := 0) ⟨hx, hb, hml, hown, hts⟩ (c_X9_in l g c_ 0 2 (by omega)) (va_cwS 3 hts gX9_row_X9_in rfl rfl rfl (by decide +kernel) ⟨Nat.le_of_ble_eq_true rfl, Nat.le_of_ble_eq_true rfl⟩) hG hP hD hS hA [] [0, 1, 2, 3] rfl rfl (by decide) (by decide) (by decide) rfl hl.1 rfl (Nat.le_of_ble_eq_true rfl) dX9_row_22 ⟨Nat.le_of_ble_eq_true rfl, Nat.le_of_ble_eq_true rfl⟩ rfl rfl (fun v w H locs hv hP hD hS => ?_)
      obtain ⟨⟨rfl, hb5⟩ | ⟨rfl, hb5⟩, rfl⟩ := hv
      · show W p l e _ s m _ below meth c H locs 0 0 _ (F0 m 25 ls (.int (iI 1) :: []))
        have hb5 : 0 ≤ c_ ∧ c_ ≤ 2 := hb5
        have hP : va_P g.1 vwCl [(hm, .inr (9, mF a i)), ((a 1), aI (g.2.1 0) 3 fa), ((a 2), aI (g.2.1 0) 3 fd), ((a 3), aI (g.2.1 0) 3 fn)] H := hP
        have hD : va_D A [(hm, .inr (9, mF a i)), ((a 1), aI (g.2.1 0) 3 fa), ((a 2), aI (g.2.1 0) 3 fd), ((a 3), aI (g.2.1 0) 3 fn)] := hD
        refine iv_if_ne (tgt := 30) hx hb dX9_row_25 (by decide) (by decide) (fun _ => ?_) (fun h => absurd h (by decide))
        refine lv_aload_n hx hb dX9_row_30 rfl (lv_at hl 0 rfl) ?_
        refine lv_iload_n hx hb dX9_row_31 rfl (lv_at hl 1 rfl) ?_
        refine lv_iload_n hx hb dX9_row_32 rfl (lv_at hl 2 rfl) ?_
        refine lv_iload_n hx hb dX9_row_33 rfl (lv_at hl 3 rfl) ?_
        refine Ct.callV (ci := 9) (q0 := 0) (qc := (RX9, TX9, 37)) (As := [.int (iI much), .int (iI less), .int (iI st)]) (rest := []) (wr := []) (c1 := 0) (s1 := 0) ⟨hx, hb, hml, hown, hts⟩ (c_X9_workOf l g hm a i fa fd fn much less st (by omega)) rfl rfl (cwV 3 hts gX9_row_X9_workOf rfl rfl rfl (by decide +kernel) ⟨Nat.le_of_ble_eq_true rfl, Nat.le_of_ble_eq_true rfl⟩) hG hP hD hS hA [0, 1, 2, 3] [] rfl rfl (by decide) (by decide) (by decide) rfl hl.1 rfl (Nat.le_of_ble_eq_true rfl) dX9_row_34 ⟨Nat.le_of_ble_eq_true rfl, Nat.le_of_ble_eq_true rfl⟩ rfl rfl (fun v w H locs hv hP hD hS => ?_)
        obtain ⟨fa7, fd8, fn9, rfl, rfl, hf10, hf11⟩ := hv
        show W p l e _ s m _ below meth c H locs 0 0 _ (F0 m 37 ls (.int (iI (wk much less st)) :: []))
        have hP : va_P g.1 vwCl [(hm, .inr (9, mF a i)), ((a 1), aI (g.2.1 0) 3 fa7), ((a 2), aI (g.2.1 0) 3 fd8), ((a 3), aI (g.2.1 0) 3 fn9)] H := hP
        have hD : va_D A [(hm, .inr (9, mF a i)), ((a 1), aI (g.2.1 0) 3 fa7), ((a 2), aI (g.2.1 0) 3 fd8), ((a 3), aI (g.2.1 0) 3 fn9)] := hD
        have hf10 : ∀ j, j < 3 → fd8 j = wkG st much less j := hf10
        have hf11 : ∀ j, j < 3 → fn9 j = wkD st much less j := hf11
        have hA1 := hf10 c_.toNat (by omega)
        have hA2 := hf11 c_.toNat (by omega)
        refine lv_istore (lv' := [(5, .int (iI (wk much less st))), (0, .ref hm), (1, .int (iI much)), (2, .int (iI less)), (3, .int (iI st)), (4, .int (iI c_))]) hx hb dX9_row_37 hl (by decide) rfl (fun ls hl => ?_)
        have hw := wk_rng much less st
        refine lv_iload hx hb dX9_row_39 (lv_at hl 0 rfl) ?_
        refine iv_if_ge (tgt := 48) hx hb dX9_row_41 (by decide) (by omega) (fun hc12 => ?_) (fun hc12 => absurd hc12 (by omega))
        refine lv_bipush (v := iI (10)) hx hb dX9_row_48 (by decide) ?_
        refine lv_aload_n hx hb dX9_row_50 rfl (lv_at hl 1 rfl) ?_
        refine va_get (D := g.1) (ci := 9) (v := .ref (a 3)) hx hb hts kX9_row_9 hown hG.1 hP 0 rfl rfl 3 (by decide) (hts _ (List.mem_of_getElem? (i := 2) rfl)) (fun _ h9 => h9) rfl dX9_row_51 ?_
        refine lv_iload hx hb dX9_row_54 (lv_at hl 5 rfl) ?_
        refine iv_iald hx hb hG hP 3 rfl c_.toNat (by omega) (by omega) (by decide) dX9_row_56 ?_
        refine iv_imul hx hb dX9_row_57 ?_
        refine lv_aload_n hx hb dX9_row_58 rfl (lv_at hl 1 rfl) ?_
        refine va_get (D := g.1) (ci := 9) (v := .ref (a 2)) hx hb hts kX9_row_9 hown hG.1 hP 0 rfl rfl 2 (by decide) (hts _ (List.mem_of_getElem? (i := 3) rfl)) (fun _ h9 => h9) rfl dX9_row_59 ?_
        refine lv_iload hx hb dX9_row_62 (lv_at hl 5 rfl) ?_
        refine iv_iald hx hb hG hP 2 rfl c_.toNat (by omega) (by omega) (by decide) dX9_row_64 ?_
        refine iv_iadd hx hb dX9_row_65 ?_
        exact Ct.iret hx hb hr hlocks (hP.sub [0, 1, 2, 3] rfl) (hD.sub [0, 1, 2, 3] (by decide) rfl) hS ⟨by decide, by decide⟩ dX9_row_66 ⟨((10 * (fn9 c_.toNat)) + (fd8 c_.toNat)), fd8, fn9, fa7, rfl, rfl, (by unfold rowS; rw [if_pos (by omega), hA1, hA2])⟩
      · show W p l e _ s m _ below meth c H locs 0 0 _ (F0 m 25 ls (.int (iI 0) :: []))
        have hb5 : ¬ (0 ≤ c_ ∧ c_ ≤ 2) := hb5
        have hP : va_P g.1 vwCl [(hm, .inr (9, mF a i)), ((a 1), aI (g.2.1 0) 3 fa), ((a 2), aI (g.2.1 0) 3 fd), ((a 3), aI (g.2.1 0) 3 fn)] H := hP
        have hD : va_D A [(hm, .inr (9, mF a i)), ((a 1), aI (g.2.1 0) 3 fa), ((a 2), aI (g.2.1 0) 3 fd), ((a 3), aI (g.2.1 0) 3 fn)] := hD
        refine iv_if_ne (tgt := 30) hx hb dX9_row_25 (by decide) (by decide) (fun h => absurd h (by decide)) (fun _ => ?_)
        refine lv_iconst (v := iI (-1)) hx hb dX9_row_28 rfl ?_
        exact Ct.iret hx hb hr hlocks (hP.sub [0, 1, 2, 3] rfl) (hD.sub [0, 1, 2, 3] (by decide) rfl) hS ⟨by decide, by decide⟩ dX9_row_29 ⟨(-1), fd, fn, fa, rfl, rfl, (by unfold rowS; (repeat' split) <;> first | rfl | omega | (exfalso; omega))⟩
    · show W p l e _ s m _ below meth c H locs 0 0 _ (F0 m 12 ls (.int (iI 0) :: []))
      have hb3 : ¬ (0 ≤ st ∧ st ≤ 255) := hb3
      have hP : va_P g.1 vwCl [(hm, .inr (9, mF a i)), ((a 1), aI (g.2.1 0) 3 fa), ((a 2), aI (g.2.1 0) 3 fd), ((a 3), aI (g.2.1 0) 3 fn)] H := hP
      have hD : va_D A [(hm, .inr (9, mF a i)), ((a 1), aI (g.2.1 0) 3 fa), ((a 2), aI (g.2.1 0) 3 fd), ((a 3), aI (g.2.1 0) 3 fn)] := hD
      refine iv_if_eq (tgt := 28) hx hb dX9_row_12 (by decide) (by decide) (fun _ => ?_) (fun h => absurd h (by decide))
      refine lv_iconst (v := iI (-1)) hx hb dX9_row_28 rfl ?_
      exact Ct.iret hx hb hr hlocks (hP.sub [0, 1, 2, 3] rfl) (hD.sub [0, 1, 2, 3] (by decide) rfl) hS ⟨by decide, by decide⟩ dX9_row_29 ⟨(-1), fd, fn, fa, rfl, rfl, (by unfold rowS; (repeat' split) <;> first | rfl | omega | (exfalso; omega))⟩
  · show W p l e _ s m _ below meth c H locs 0 0 _ (F0 m 5 ls (.int (iI 0) :: []))
    have hb1 : ¬ (0 ≤ less ∧ less ≤ much ∧ much ≤ 999) := hb1
    have hP : va_P g.1 vwCl [(hm, .inr (9, mF a i)), ((a 1), aI (g.2.1 0) 3 fa), ((a 2), aI (g.2.1 0) 3 fd), ((a 3), aI (g.2.1 0) 3 fn)] H := hP
    have hD : va_D A [(hm, .inr (9, mF a i)), ((a 1), aI (g.2.1 0) 3 fa), ((a 2), aI (g.2.1 0) 3 fd), ((a 3), aI (g.2.1 0) 3 fn)] := hD
    refine iv_if_eq (tgt := 28) hx hb dX9_row_5 (by decide) (by decide) (fun _ => ?_) (fun h => absurd h (by decide))
    refine lv_iconst (v := iI (-1)) hx hb dX9_row_28 rfl ?_
    exact Ct.iret hx hb hr hlocks (hP.sub [0, 1, 2, 3] rfl) (hD.sub [0, 1, 2, 3] (by decide) rfl) hS ⟨by decide, by decide⟩ dX9_row_29 ⟨(-1), fd, fn, fa, rfl, rfl, (by unfold rowS; (repeat' split) <;> first | rfl | omega | (exfalso; omega))⟩
theorem kX9_could_9 : ∀ w ∈ u_ws RX9 TX9 37, w ∈ wsX9_could := fun _ h => List.mem_cons_of_mem _ (List.mem_append_right _ h)
abbrev q_X9_could (g : GT) (hm : Nat) (a : Nat → Nat) (i : Nat → Int) (fa : Nat → Int) (fd : Nat → Int) (fn : Nat → Int) (fk : Nat → Int) (much : Int) (less : Int) (ans : Int) : Option Value → va_W → Prop := fun v w => ∃ (r : Int), ∃ (fd' : Nat → Int), ∃ (fn' : Nat → Int), ∃ (fa' : Nat → Int), v = some (.int (iI r)) ∧ w = [(hm, .inr (9, mF a i)), ((a 1), aI (g.2.1 0) 3 fa'), ((a 2), aI (g.2.1 0) 3 fd'), ((a 3), aI (g.2.1 0) 3 fn'), ((a 0), aI (g.2.1 0) 93 fk)] ∧ (r = couldS much less ans)
set_option maxHeartbeats 4000000 in
set_option maxRecDepth 100000 in
theorem c_X9_could (l : Launch) (g : GT) (hm : Nat) (a : Nat → Nat) (i : Nat → Int) (fa : Nat → Int) (fd : Nat → Int) (fn : Nat → Int) (fk : Nat → Int) (much : Int) (less : Int) (ans : Int) (h1 : (-2147483648 ≤ much ∧ much < 2147483648) ∧ (-2147483648 ≤ less ∧ less < 2147483648) ∧ (-2147483648 ≤ ans ∧ ans < 2147483648)) (hk0 : ∀ j, j < 93 → fk j = oT j) : Ct l g yX9_could wsX9_could ({ frames := 2, cells := 0, slots := 0, locals := 51 } : Room) [.ref hm, .int (iI much), .int (iI less), .int (iI ans)] [(hm, .inr (9, mF a i)), ((a 1), aI (g.2.1 0) 3 fa), ((a 2), aI (g.2.1 0) 3 fd), ((a 3), aI (g.2.1 0) 3 fn), ((a 0), aI (g.2.1 0) 93 fk)] (q_X9_could g hm a i fa fd fn fk much less ans) := by
  refine Ct.intro (maxL := 6) (ret := (some .int)) (by decide) rfl (Nat.le_of_ble_eq_true rfl) ?_
  intro p e s m below meth c A ls hx hb hr hml hown hts hlocks hnm hA hG hP hD hS hl
  have hown : s.vm.findClass RX9 = some m.cls := hown
  have hl : lv_has ls 6 [(0, .ref hm), (1, .int (iI much)), (2, .int (iI less)), (3, .int (iI ans))] := hl
  have hP : va_P g.1 vwCl [(hm, .inr (9, mF a i)), ((a 1), aI (g.2.1 0) 3 fa), ((a 2), aI (g.2.1 0) 3 fd), ((a 3), aI (g.2.1 0) 3 fn), ((a 0), aI (g.2.1 0) 93 fk)] s.heap := hP
  have hS : va_S A s.heap s.heap [] := hS
  obtain ⟨H, hHe⟩ : ∃ H : Heap, H = s.heap := ⟨_, rfl⟩
  obtain ⟨locs, hLe⟩ : ∃ L : List Loc, L = [] := ⟨_, rfl⟩
  have hP : va_P g.1 vwCl [(hm, .inr (9, mF a i)), ((a 1), aI (g.2.1 0) 3 fa), ((a 2), aI (g.2.1 0) 3 fd), ((a 3), aI (g.2.1 0) 3 fn), ((a 0), aI (g.2.1 0) 93 fk)] H := by rw [hHe]; exact hP
  have hS : va_S A s.heap H locs := by rw [hHe, hLe]; exact hS
  suffices hgo : W p l e ({ frames := 2, cells := 0, slots := 0, locals := 51 } : Room) s m [.ref hm, .int (iI much), .int (iI less), .int (iI ans)].toArray below meth c H locs 0 0 (MQ below (CQ g (q_X9_could g hm a i fa fd fn fk much less ans) A) [.ref hm, .int (iI much), .int (iI less), .int (iI ans)].toArray s ({ frames := 2, cells := 0, slots := 0, locals := 51 } : Room).cells ({ frames := 2, cells := 0, slots := 0, locals := 51 } : Room).slots A) (F0 m 0 ls []) by rw [hHe, hLe] at hgo; exact hgo
  clear hHe hLe
  refine lv_iload_n hx hb dX9_could_0 rfl (lv_at hl 1 rfl) ?_
  refine lv_iload_n hx hb dX9_could_1 rfl (lv_at hl 2 rfl) ?_
  refine Ct.callS (As := [.int (iI much), .int (iI less)]) (rest := []) (wr := [(hm, .inr (9, mF a i)), ((a 1), aI (g.2.1 0) 3 fa), ((a 2), aI (g.2.1 0) 3 fd), ((a 3), aI (g.2.1 0) 3 fn), ((a 0), aI (g.2.1 0) 93 fk)]) (c1 := 0) (s1 := 0) ⟨hx, hb, hml, hown, hts⟩ (c_X9_isTask l g much less (by omega)) (va_cwS 2 hts gX9_could_X9_isTask rfl rfl rfl (by decide +kernel) ⟨Nat.le_of_ble_eq_true rfl, Nat.le_of_ble_eq_true rfl⟩) hG hP hD hS hA [] [0, 1, 2, 3, 4] rfl rfl (by decide) (by decide) (by decide) rfl hl.1 rfl (Nat.le_of_ble_eq_true rfl) dX9_could_2 ⟨Nat.le_of_ble_eq_true rfl, Nat.le_of_ble_eq_true rfl⟩ rfl rfl (fun v w H locs hv hP hD hS => ?_)
  obtain ⟨⟨rfl, hb1⟩ | ⟨rfl, hb1⟩, rfl⟩ := hv
  · show W p l e _ s m _ below meth c H locs 0 0 _ (F0 m 5 ls (.int (iI 1) :: []))
    have hb1 : 0 ≤ less ∧ less ≤ much ∧ much ≤ 999 := hb1
    have hP : va_P g.1 vwCl [(hm, .inr (9, mF a i)), ((a 1), aI (g.2.1 0) 3 fa), ((a 2), aI (g.2.1 0) 3 fd), ((a 3), aI (g.2.1 0) 3 fn), ((a 0), aI (g.2.1 0) 93 fk)] H := hP
    have hD : va_D A [(hm, .inr (9, mF a i)), ((a 1), aI (g.2.1 0) 3 fa), ((a 2), aI (g.2.1 0) 3 fd), ((a 3), aI (g.2.1 0) 3 fn), ((a 0), aI (g.2.1 0) 93 fk)] := hD
    refine iv_if_eq (tgt := 20) hx hb dX9_could_5 (by decide) (by decide) (fun h => absurd h (by decide)) (fun _ => ?_)
    refine lv_iload_n hx hb dX9_could_8 rfl (lv_at hl 3 rfl) ?_
    refine iv_i2l hx hb dX9_could_9 (by omega) ?_
    refine lv_lconst (v := lI (0)) hx hb dX9_could_10 (by decide) ?_
    refine iv_ldc2 (v := 999) (z := 999) hx hb hown (hts _ (List.mem_of_getElem? (i := 1) rfl)) dX9_could_11 (by decide) ?_
    refine Ct.callS (As := [.long (lI ans), .long (lI 0), .long (lI 999)]) (rest := []) (wr := [(hm, .inr (9, mF a i)), ((a 1), aI (g.2.1 0) 3 fa), ((a 2), aI (g.2.1 0) 3 fd), ((a 3), aI (g.2.1 0) 3 fn), ((a 0), aI (g.2.1 0) 93 fk)]) (c1 := 0) (s1 := 0) ⟨hx, hb, hml, hown, hts⟩ (c_X9_in l g ans 0 999 (by omega)) (va_cwS 3 hts gX9_could_X9_in rfl rfl rfl (by decide +kernel) ⟨Nat.le_of_ble_eq_true rfl, Nat.le_of_ble_eq_true rfl⟩) hG hP hD hS hA [] [0, 1, 2, 3, 4] rfl rfl (by decide) (by decide) (by decide) rfl hl.1 rfl (Nat.le_of_ble_eq_true rfl) dX9_could_14 ⟨Nat.le_of_ble_eq_true rfl, Nat.le_of_ble_eq_true rfl⟩ rfl rfl (fun v w H locs hv hP hD hS => ?_)
    obtain ⟨⟨rfl, hb3⟩ | ⟨rfl, hb3⟩, rfl⟩ := hv
    · show W p l e _ s m _ below meth c H locs 0 0 _ (F0 m 17 ls (.int (iI 1) :: []))
      have hb3 : 0 ≤ ans ∧ ans ≤ 999 := hb3
      have hP : va_P g.1 vwCl [(hm, .inr (9, mF a i)), ((a 1), aI (g.2.1 0) 3 fa), ((a 2), aI (g.2.1 0) 3 fd), ((a 3), aI (g.2.1 0) 3 fn), ((a 0), aI (g.2.1 0) 93 fk)] H := hP
      have hD : va_D A [(hm, .inr (9, mF a i)), ((a 1), aI (g.2.1 0) 3 fa), ((a 2), aI (g.2.1 0) 3 fd), ((a 3), aI (g.2.1 0) 3 fn), ((a 0), aI (g.2.1 0) 93 fk)] := hD
      refine iv_if_ne (tgt := 22) hx hb dX9_could_17 (by decide) (by decide) (fun _ => ?_) (fun h => absurd h (by decide))
      refine lv_iconst (v := iI (0)) hx hb dX9_could_22 rfl ?_
      refine lv_istore (lv' := [(4, .int (iI 0)), (0, .ref hm), (1, .int (iI much)), (2, .int (iI less)), (3, .int (iI ans))]) hx hb dX9_could_23 hl (by decide) rfl (fun ls hl => ?_)
      refine lv_iconst (v := iI (0)) hx hb dX9_could_25 rfl ?_
      refine lv_istore (lv' := [(5, .int (iI 0)), (4, .int (iI 0)), (0, .ref hm), (1, .int (iI much)), (2, .int (iI less)), (3, .int (iI ans))]) hx hb dX9_could_26 hl (by decide) rfl (fun ls hl => ?_)
      have hloop28 : ∀ (fuel : Nat) (mny : Int) (pl : Int) (fz : Nat → Int) (fx : Nat → Int) (fy : Nat → Int) (n : Nat) (hc : pl = (n : Int) ∧ n ≤ 93) (he : mny = cntE much less ans n) (hmeas : 93 - n < fuel), ∀ (H : Heap) (locs : List Loc) (ls : Array Slot), va_P g.1 vwCl [(hm, .inr (9, mF a i)), ((a 1), aI (g.2.1 0) 3 fz), ((a 2), aI (g.2.1 0) 3 fx), ((a 3), aI (g.2.1 0) 3 fy), ((a 0), aI (g.2.1 0) 93 fk)] H → va_D A [(hm, .inr (9, mF a i)), ((a 1), aI (g.2.1 0) 3 fz), ((a 2), aI (g.2.1 0) 3 fx), ((a 3), aI (g.2.1 0) 3 fy), ((a 0), aI (g.2.1 0) 93 fk)] → va_S A s.heap H locs → lv_has ls 6 [(5, .int (iI pl)), (4, .int (iI mny)), (0, .ref hm), (1, .int (iI much)), (2, .int (iI less)), (3, .int (iI ans))] → W p l e ({ frames := 2, cells := 0, slots := 0, locals := 51 } : Room) s m [.ref hm, .int (iI much), .int (iI less), .int (iI ans)].toArray below meth c H locs 0 0 (MQ below (CQ g (q_X9_could g hm a i fa fd fn fk much less ans) A) [.ref hm, .int (iI much), .int (iI less), .int (iI ans)].toArray s ({ frames := 2, cells := 0, slots := 0, locals := 51 } : Room).cells ({ frames := 2, cells := 0, slots := 0, locals := 51 } : Room).slots A) (F0 m 28 ls []) := by
        intro fuel
        induction fuel with
        | zero => intro mny pl fz fx fy n hc he hmeas; exact absurd hmeas (Nat.not_lt_zero _)
        | succ fuel ih28 =>
          intro mny pl fz fx fy n hc he hmeas H locs ls hP hD hS hl
          refine lv_iload hx hb dX9_could_28 (lv_at hl 0 rfl) ?_
          refine lv_bipush (v := iI (93)) hx hb dX9_could_30 (by decide) ?_
          refine iv_icmp_ge (tgt := 68) hx hb dX9_could_32 (by decide) (by omega) (fun hc5 => ?_) (fun hc5 => ?_)
          · refine lv_iload hx hb dX9_could_68 (lv_at hl 1 rfl) ?_
            exact Ct.iret hx hb hr hlocks (hP.sub [0, 1, 2, 3, 4] rfl) (hD.sub [0, 1, 2, 3, 4] (by decide) rfl) hS ⟨by decide, by decide⟩ dX9_could_70 ⟨mny, fx, fy, fz, rfl, rfl, (by unfold couldS; rw [if_pos (by omega), he, show n = 93 from by omega])⟩
          · have ho := oT_rng n (by omega)
            have hkn := hk0 n (by omega)
            refine lv_iload hx hb dX9_could_35 (lv_at hl 1 rfl) ?_
            refine lv_aload_n hx hb dX9_could_37 rfl (lv_at hl 2 rfl) ?_
            refine lv_iload_n hx hb dX9_could_38 rfl (lv_at hl 3 rfl) ?_
            refine lv_iload_n hx hb dX9_could_39 rfl (lv_at hl 4 rfl) ?_
            refine lv_aload_n hx hb dX9_could_40 rfl (lv_at hl 2 rfl) ?_
            refine va_get (D := g.1) (ci := 9) (v := .ref (a 0)) hx hb hts kX9_could_9 hown hG.1 hP 0 rfl rfl 0 (by decide) (hts _ (List.mem_of_getElem? (i := 2) rfl)) (fun _ h9 => h9) rfl dX9_could_41 ?_
            refine lv_iload hx hb dX9_could_44 (lv_at hl 0 rfl) ?_
            refine iv_iald hx hb hG hP 4 rfl n (by omega) (by omega) (by decide) dX9_could_46 ?_
            refine iv_as (oT n) (hkn) ?_
            refine Ct.callV (ci := 9) (q0 := 0) (qc := (RX9, TX9, 37)) (As := [.int (iI much), .int (iI less), .int (iI (oT n))]) (rest := [.int (iI mny)]) (wr := [((a 0), aI (g.2.1 0) 93 fk)]) (c1 := 0) (s1 := 0) ⟨hx, hb, hml, hown, hts⟩ (c_X9_workOf l g hm a i fz fx fy much less (oT n) (by omega)) rfl rfl (cwV 3 hts gX9_could_X9_workOf rfl rfl rfl (by decide +kernel) ⟨Nat.le_of_ble_eq_true rfl, Nat.le_of_ble_eq_true rfl⟩) hG hP hD hS hA [0, 1, 2, 3] [4] rfl rfl (by decide) (by decide) (by decide) rfl hl.1 rfl (Nat.le_of_ble_eq_true rfl) dX9_could_47 ⟨Nat.le_of_ble_eq_true rfl, Nat.le_of_ble_eq_true rfl⟩ rfl rfl (fun v w H locs hv hP hD hS => ?_)
            obtain ⟨fa6, fd7, fn8, rfl, rfl, hf9, hf10⟩ := hv
            show W p l e _ s m _ below meth c H locs 0 0 _ (F0 m 50 ls (.int (iI (wk much less (oT n))) :: [.int (iI mny)]))
            have hP : va_P g.1 vwCl [((a 0), aI (g.2.1 0) 93 fk), (hm, .inr (9, mF a i)), ((a 1), aI (g.2.1 0) 3 fa6), ((a 2), aI (g.2.1 0) 3 fd7), ((a 3), aI (g.2.1 0) 3 fn8)] H := hP
            have hD : va_D A [((a 0), aI (g.2.1 0) 93 fk), (hm, .inr (9, mF a i)), ((a 1), aI (g.2.1 0) 3 fa6), ((a 2), aI (g.2.1 0) 3 fd7), ((a 3), aI (g.2.1 0) 3 fn8)] := hD
            have hf9 : ∀ j, j < 3 → fd7 j = wkG (oT n) much less j := hf9
            have hf10 : ∀ j, j < 3 → fn8 j = wkD (oT n) much less j := hf10
            have hw := wk_rng much less (oT n)
            refine lv_iload_n hx hb dX9_could_50 rfl (lv_at hl 5 rfl) ?_
            refine iv_icmp_ne (tgt := 58) hx hb dX9_could_51 (by decide) (by omega) (fun hc11 => ?_) (fun hc11 => ?_)
            · refine lv_iconst (v := iI (0)) hx hb dX9_could_58 rfl ?_
              refine iv_iadd hx hb dX9_could_59 ?_
              refine lv_istore (lv' := [(4, .int (iI (mny + 0))), (5, .int (iI pl)), (0, .ref hm), (1, .int (iI much)), (2, .int (iI less)), (3, .int (iI ans))]) hx hb dX9_could_60 hl (by decide) rfl (fun ls hl => ?_)
              refine iv_iinc (k := 1) (x := pl) (lv' := [(5, .int (iI (pl + 1))), (4, .int (iI (mny + 0))), (0, .ref hm), (1, .int (iI much)), (2, .int (iI less)), (3, .int (iI ans))]) hx hb dX9_could_62 hl rfl (by decide) rfl (fun ls hl => ?_)
              refine lv_goto (tgt := 28) hx hb dX9_could_65 (by decide) ?_
              exact ih28 (mny + 0) (pl + 1) fa6 fd7 fn8 (n + 1) (by omega) (by simp only [cntE]; split <;> omega) (by omega) H locs ls (hP.sub [1, 2, 3, 4, 0] rfl) (hD.sub [1, 2, 3, 4, 0] (by decide) rfl) hS (lv_sub hl [0, 1, 2, 3, 4, 5] rfl)
            · refine lv_iconst (v := iI (1)) hx hb dX9_could_54 rfl ?_
              refine lv_goto (tgt := 59) hx hb dX9_could_55 (by decide) ?_
              refine iv_iadd hx hb dX9_could_59 ?_
              refine lv_istore (lv' := [(4, .int (iI (mny + 1))), (5, .int (iI pl)), (0, .ref hm), (1, .int (iI much)), (2, .int (iI less)), (3, .int (iI ans))]) hx hb dX9_could_60 hl (by decide) rfl (fun ls hl => ?_)
              refine iv_iinc (k := 1) (x := pl) (lv' := [(5, .int (iI (pl + 1))), (4, .int (iI (mny + 1))), (0, .ref hm), (1, .int (iI much)), (2, .int (iI less)), (3, .int (iI ans))]) hx hb dX9_could_62 hl rfl (by decide) rfl (fun ls hl => ?_)
              refine lv_goto (tgt := 28) hx hb dX9_could_65 (by decide) ?_
              exact ih28 (mny + 1) (pl + 1) fa6 fd7 fn8 (n + 1) (by omega) (by simp only [cntE]; split <;> omega) (by omega) H locs ls (hP.sub [1, 2, 3, 4, 0] rfl) (hD.sub [1, 2, 3, 4, 0] (by decide) rfl) hS (lv_sub hl [0, 1, 2, 3, 4, 5] rfl)
      exact hloop28 _ 0 0 fa fd fn 0 (by omega) (rfl) (Nat.lt_succ_self _) H locs ls (hP.sub [0, 1, 2, 3, 4] rfl) (hD.sub [0, 1, 2, 3, 4] (by decide) rfl) hS (lv_sub hl [0, 1, 2, 3, 4, 5] rfl)
    · show W p l e _ s m _ below meth c H locs 0 0 _ (F0 m 17 ls (.int (iI 0) :: []))
      have hb3 : ¬ (0 ≤ ans ∧ ans ≤ 999) := hb3
      have hP : va_P g.1 vwCl [(hm, .inr (9, mF a i)), ((a 1), aI (g.2.1 0) 3 fa), ((a 2), aI (g.2.1 0) 3 fd), ((a 3), aI (g.2.1 0) 3 fn), ((a 0), aI (g.2.1 0) 93 fk)] H := hP
      have hD : va_D A [(hm, .inr (9, mF a i)), ((a 1), aI (g.2.1 0) 3 fa), ((a 2), aI (g.2.1 0) 3 fd), ((a 3), aI (g.2.1 0) 3 fn), ((a 0), aI (g.2.1 0) 93 fk)] := hD
      refine iv_if_ne (tgt := 22) hx hb dX9_could_17 (by decide) (by decide) (fun h => absurd h (by decide)) (fun _ => ?_)
      refine lv_iconst (v := iI (-1)) hx hb dX9_could_20 rfl ?_
      exact Ct.iret hx hb hr hlocks (hP.sub [0, 1, 2, 3, 4] rfl) (hD.sub [0, 1, 2, 3, 4] (by decide) rfl) hS ⟨by decide, by decide⟩ dX9_could_21 ⟨(-1), fd, fn, fa, rfl, rfl, (by unfold couldS; (repeat' split) <;> first | rfl | omega | (exfalso; omega))⟩
  · show W p l e _ s m _ below meth c H locs 0 0 _ (F0 m 5 ls (.int (iI 0) :: []))
    have hb1 : ¬ (0 ≤ less ∧ less ≤ much ∧ much ≤ 999) := hb1
    have hP : va_P g.1 vwCl [(hm, .inr (9, mF a i)), ((a 1), aI (g.2.1 0) 3 fa), ((a 2), aI (g.2.1 0) 3 fd), ((a 3), aI (g.2.1 0) 3 fn), ((a 0), aI (g.2.1 0) 93 fk)] H := hP
    have hD : va_D A [(hm, .inr (9, mF a i)), ((a 1), aI (g.2.1 0) 3 fa), ((a 2), aI (g.2.1 0) 3 fd), ((a 3), aI (g.2.1 0) 3 fn), ((a 0), aI (g.2.1 0) 93 fk)] := hD
    refine iv_if_eq (tgt := 20) hx hb dX9_could_5 (by decide) (by decide) (fun _ => ?_) (fun h => absurd h (by decide))
    refine lv_iconst (v := iI (-1)) hx hb dX9_could_20 rfl ?_
    exact Ct.iret hx hb hr hlocks (hP.sub [0, 1, 2, 3, 4] rfl) (hD.sub [0, 1, 2, 3, 4] (by decide) rfl) hS ⟨by decide, by decide⟩ dX9_could_21 ⟨(-1), fd, fn, fa, rfl, rfl, (by unfold couldS; (repeat' split) <;> first | rfl | omega | (exfalso; omega))⟩
theorem kX9_least_9 : ∀ w ∈ u_ws RX9 TX9 37, w ∈ wsX9_least := fun _ h => List.mem_cons_of_mem _ (List.mem_append_right _ h)
abbrev q_X9_least (g : GT) (hm : Nat) (a : Nat → Nat) (i : Nat → Int) (fa : Nat → Int) (fd : Nat → Int) (fn : Nat → Int) (fk : Nat → Int) (much : Int) (less : Int) (ans : Int) (ix : Int) : Option Value → va_W → Prop := fun v w => ∃ (r : Int), ∃ (fd' : Nat → Int), ∃ (fn' : Nat → Int), ∃ (fa' : Nat → Int), v = some (.int (iI r)) ∧ w = [(hm, .inr (9, mF a i)), ((a 1), aI (g.2.1 0) 3 fa'), ((a 2), aI (g.2.1 0) 3 fd'), ((a 3), aI (g.2.1 0) 3 fn'), ((a 0), aI (g.2.1 0) 93 fk)] ∧ (r = leastS much less ans ix)
set_option maxHeartbeats 4000000 in
set_option maxRecDepth 100000 in
theorem c_X9_least (l : Launch) (g : GT) (hm : Nat) (a : Nat → Nat) (i : Nat → Int) (fa : Nat → Int) (fd : Nat → Int) (fn : Nat → Int) (fk : Nat → Int) (much : Int) (less : Int) (ans : Int) (ix : Int) (h1 : (-2147483648 ≤ much ∧ much < 2147483648) ∧ (-2147483648 ≤ less ∧ less < 2147483648) ∧ (-2147483648 ≤ ans ∧ ans < 2147483648) ∧ (-2147483648 ≤ ix ∧ ix < 2147483648)) (hk0 : ∀ j, j < 93 → fk j = oT j) : Ct l g yX9_least wsX9_least ({ frames := 2, cells := 0, slots := 0, locals := 51 } : Room) [.ref hm, .int (iI much), .int (iI less), .int (iI ans), .int (iI ix)] [(hm, .inr (9, mF a i)), ((a 1), aI (g.2.1 0) 3 fa), ((a 2), aI (g.2.1 0) 3 fd), ((a 3), aI (g.2.1 0) 3 fn), ((a 0), aI (g.2.1 0) 93 fk)] (q_X9_least g hm a i fa fd fn fk much less ans ix) := by
  refine Ct.intro (maxL := 8) (ret := (some .int)) (by decide) rfl (Nat.le_of_ble_eq_true rfl) ?_
  intro p e s m below meth c A ls hx hb hr hml hown hts hlocks hnm hA hG hP hD hS hl
  have hown : s.vm.findClass RX9 = some m.cls := hown
  have hl : lv_has ls 8 [(0, .ref hm), (1, .int (iI much)), (2, .int (iI less)), (3, .int (iI ans)), (4, .int (iI ix))] := hl
  have hP : va_P g.1 vwCl [(hm, .inr (9, mF a i)), ((a 1), aI (g.2.1 0) 3 fa), ((a 2), aI (g.2.1 0) 3 fd), ((a 3), aI (g.2.1 0) 3 fn), ((a 0), aI (g.2.1 0) 93 fk)] s.heap := hP
  have hS : va_S A s.heap s.heap [] := hS
  obtain ⟨H, hHe⟩ : ∃ H : Heap, H = s.heap := ⟨_, rfl⟩
  obtain ⟨locs, hLe⟩ : ∃ L : List Loc, L = [] := ⟨_, rfl⟩
  have hP : va_P g.1 vwCl [(hm, .inr (9, mF a i)), ((a 1), aI (g.2.1 0) 3 fa), ((a 2), aI (g.2.1 0) 3 fd), ((a 3), aI (g.2.1 0) 3 fn), ((a 0), aI (g.2.1 0) 93 fk)] H := by rw [hHe]; exact hP
  have hS : va_S A s.heap H locs := by rw [hHe, hLe]; exact hS
  suffices hgo : W p l e ({ frames := 2, cells := 0, slots := 0, locals := 51 } : Room) s m [.ref hm, .int (iI much), .int (iI less), .int (iI ans), .int (iI ix)].toArray below meth c H locs 0 0 (MQ below (CQ g (q_X9_least g hm a i fa fd fn fk much less ans ix) A) [.ref hm, .int (iI much), .int (iI less), .int (iI ans), .int (iI ix)].toArray s ({ frames := 2, cells := 0, slots := 0, locals := 51 } : Room).cells ({ frames := 2, cells := 0, slots := 0, locals := 51 } : Room).slots A) (F0 m 0 ls []) by rw [hHe, hLe] at hgo; exact hgo
  clear hHe hLe
  refine lv_iload_n hx hb dX9_least_0 rfl (lv_at hl 1 rfl) ?_
  refine lv_iload_n hx hb dX9_least_1 rfl (lv_at hl 2 rfl) ?_
  refine Ct.callS (As := [.int (iI much), .int (iI less)]) (rest := []) (wr := [(hm, .inr (9, mF a i)), ((a 1), aI (g.2.1 0) 3 fa), ((a 2), aI (g.2.1 0) 3 fd), ((a 3), aI (g.2.1 0) 3 fn), ((a 0), aI (g.2.1 0) 93 fk)]) (c1 := 0) (s1 := 0) ⟨hx, hb, hml, hown, hts⟩ (c_X9_isTask l g much less (by omega)) (va_cwS 2 hts gX9_least_X9_isTask rfl rfl rfl (by decide +kernel) ⟨Nat.le_of_ble_eq_true rfl, Nat.le_of_ble_eq_true rfl⟩) hG hP hD hS hA [] [0, 1, 2, 3, 4] rfl rfl (by decide) (by decide) (by decide) rfl hl.1 rfl (Nat.le_of_ble_eq_true rfl) dX9_least_2 ⟨Nat.le_of_ble_eq_true rfl, Nat.le_of_ble_eq_true rfl⟩ rfl rfl (fun v w H locs hv hP hD hS => ?_)
  obtain ⟨⟨rfl, hb1⟩ | ⟨rfl, hb1⟩, rfl⟩ := hv
  · show W p l e _ s m _ below meth c H locs 0 0 _ (F0 m 5 ls (.int (iI 1) :: []))
    have hb1 : 0 ≤ less ∧ less ≤ much ∧ much ≤ 999 := hb1
    have hP : va_P g.1 vwCl [(hm, .inr (9, mF a i)), ((a 1), aI (g.2.1 0) 3 fa), ((a 2), aI (g.2.1 0) 3 fd), ((a 3), aI (g.2.1 0) 3 fn), ((a 0), aI (g.2.1 0) 93 fk)] H := hP
    have hD : va_D A [(hm, .inr (9, mF a i)), ((a 1), aI (g.2.1 0) 3 fa), ((a 2), aI (g.2.1 0) 3 fd), ((a 3), aI (g.2.1 0) 3 fn), ((a 0), aI (g.2.1 0) 93 fk)] := hD
    refine iv_if_eq (tgt := 25) hx hb dX9_least_5 (by decide) (by decide) (fun h => absurd h (by decide)) (fun _ => ?_)
    refine lv_iload_n hx hb dX9_least_8 rfl (lv_at hl 3 rfl) ?_
    refine iv_i2l hx hb dX9_least_9 (by omega) ?_
    refine lv_lconst (v := lI (0)) hx hb dX9_least_10 (by decide) ?_
    refine iv_ldc2 (v := 999) (z := 999) hx hb hown (hts _ (List.mem_of_getElem? (i := 1) rfl)) dX9_least_11 (by decide) ?_
    refine Ct.callS (As := [.long (lI ans), .long (lI 0), .long (lI 999)]) (rest := []) (wr := [(hm, .inr (9, mF a i)), ((a 1), aI (g.2.1 0) 3 fa), ((a 2), aI (g.2.1 0) 3 fd), ((a 3), aI (g.2.1 0) 3 fn), ((a 0), aI (g.2.1 0) 93 fk)]) (c1 := 0) (s1 := 0) ⟨hx, hb, hml, hown, hts⟩ (c_X9_in l g ans 0 999 (by omega)) (va_cwS 3 hts gX9_least_X9_in rfl rfl rfl (by decide +kernel) ⟨Nat.le_of_ble_eq_true rfl, Nat.le_of_ble_eq_true rfl⟩) hG hP hD hS hA [] [0, 1, 2, 3, 4] rfl rfl (by decide) (by decide) (by decide) rfl hl.1 rfl (Nat.le_of_ble_eq_true rfl) dX9_least_14 ⟨Nat.le_of_ble_eq_true rfl, Nat.le_of_ble_eq_true rfl⟩ rfl rfl (fun v w H locs hv hP hD hS => ?_)
    obtain ⟨⟨rfl, hb3⟩ | ⟨rfl, hb3⟩, rfl⟩ := hv
    · show W p l e _ s m _ below meth c H locs 0 0 _ (F0 m 17 ls (.int (iI 1) :: []))
      have hb3 : 0 ≤ ans ∧ ans ≤ 999 := hb3
      have hP : va_P g.1 vwCl [(hm, .inr (9, mF a i)), ((a 1), aI (g.2.1 0) 3 fa), ((a 2), aI (g.2.1 0) 3 fd), ((a 3), aI (g.2.1 0) 3 fn), ((a 0), aI (g.2.1 0) 93 fk)] H := hP
      have hD : va_D A [(hm, .inr (9, mF a i)), ((a 1), aI (g.2.1 0) 3 fa), ((a 2), aI (g.2.1 0) 3 fd), ((a 3), aI (g.2.1 0) 3 fn), ((a 0), aI (g.2.1 0) 93 fk)] := hD
      refine iv_if_eq (tgt := 25) hx hb dX9_least_17 (by decide) (by decide) (fun h => absurd h (by decide)) (fun _ => ?_)
      refine lv_iload hx hb dX9_least_20 (lv_at hl 4 rfl) ?_
      refine iv_if_ge (tgt := 27) hx hb dX9_least_22 (by decide) (by omega) (fun hc5 => ?_) (fun hc5 => ?_)
      · refine lv_iconst (v := iI (0)) hx hb dX9_least_27 rfl ?_
        refine lv_istore (lv' := [(5, .int (iI 0)), (0, .ref hm), (1, .int (iI much)), (2, .int (iI less)), (3, .int (iI ans)), (4, .int (iI ix))]) hx hb dX9_least_28 hl (by decide) rfl (fun ls hl => ?_)
        refine lv_iconst (v := iI (0)) hx hb dX9_least_30 rfl ?_
        refine lv_istore (lv' := [(6, .int (iI 0)), (5, .int (iI 0)), (0, .ref hm), (1, .int (iI much)), (2, .int (iI less)), (3, .int (iI ans)), (4, .int (iI ix))]) hx hb dX9_least_31 hl (by decide) rfl (fun ls hl => ?_)
        have hloop33 : ∀ (fuel : Nat) (mny : Int) (pl : Int) (fz : Nat → Int) (fx : Nat → Int) (fy : Nat → Int) (n : Nat) (hc : pl = (n : Int) ∧ n ≤ 93) (he : mny = cntE much less ans n) (he2 : lsF much less ans ix (93 - n) n = lsF much less ans ix 93 0) (hmeas : 93 - n < fuel), ∀ (H : Heap) (locs : List Loc) (ls : Array Slot), va_P g.1 vwCl [(hm, .inr (9, mF a i)), ((a 1), aI (g.2.1 0) 3 fz), ((a 2), aI (g.2.1 0) 3 fx), ((a 3), aI (g.2.1 0) 3 fy), ((a 0), aI (g.2.1 0) 93 fk)] H → va_D A [(hm, .inr (9, mF a i)), ((a 1), aI (g.2.1 0) 3 fz), ((a 2), aI (g.2.1 0) 3 fx), ((a 3), aI (g.2.1 0) 3 fy), ((a 0), aI (g.2.1 0) 93 fk)] → va_S A s.heap H locs → lv_has ls 8 [(6, .int (iI pl)), (5, .int (iI mny)), (0, .ref hm), (1, .int (iI much)), (2, .int (iI less)), (3, .int (iI ans)), (4, .int (iI ix))] → W p l e ({ frames := 2, cells := 0, slots := 0, locals := 51 } : Room) s m [.ref hm, .int (iI much), .int (iI less), .int (iI ans), .int (iI ix)].toArray below meth c H locs 0 0 (MQ below (CQ g (q_X9_least g hm a i fa fd fn fk much less ans ix) A) [.ref hm, .int (iI much), .int (iI less), .int (iI ans), .int (iI ix)].toArray s ({ frames := 2, cells := 0, slots := 0, locals := 51 } : Room).cells ({ frames := 2, cells := 0, slots := 0, locals := 51 } : Room).slots A) (F0 m 33 ls []) := by
          intro fuel
          induction fuel with
          | zero => intro mny pl fz fx fy n hc he he2 hmeas; exact absurd hmeas (Nat.not_lt_zero _)
          | succ fuel ih33 =>
            intro mny pl fz fx fy n hc he he2 hmeas H locs ls hP hD hS hl
            refine lv_iload hx hb dX9_least_33 (lv_at hl 0 rfl) ?_
            refine lv_bipush (v := iI (93)) hx hb dX9_least_35 (by decide) ?_
            refine iv_icmp_ge (tgt := 105) hx hb dX9_least_37 (by decide) (by omega) (fun hc6 => ?_) (fun hc6 => ?_)
            · refine lv_bipush (v := iI (-4)) hx hb dX9_least_105 (by decide) ?_
              exact Ct.iret hx hb hr hlocks (hP.sub [0, 1, 2, 3, 4] rfl) (hD.sub [0, 1, 2, 3, 4] (by decide) rfl) hS ⟨by decide, by decide⟩ dX9_least_107 ⟨(-4), fx, fy, fz, rfl, rfl, (by unfold leastS; rw [if_pos (by omega), ← he2, show 93 - n = 0 from by omega]; rfl)⟩
            · have ho := oT_rng n (by omega)
              have hcr := cntE_rng much less ans n
              have hkn := hk0 n (by omega)
              refine lv_aload_n hx hb dX9_least_40 rfl (lv_at hl 2 rfl) ?_
              refine lv_iload_n hx hb dX9_least_41 rfl (lv_at hl 3 rfl) ?_
              refine lv_iload_n hx hb dX9_least_42 rfl (lv_at hl 4 rfl) ?_
              refine lv_aload_n hx hb dX9_least_43 rfl (lv_at hl 2 rfl) ?_
              refine va_get (D := g.1) (ci := 9) (v := .ref (a 0)) hx hb hts kX9_least_9 hown hG.1 hP 0 rfl rfl 0 (by decide) (hts _ (List.mem_of_getElem? (i := 2) rfl)) (fun _ h9 => h9) rfl dX9_least_44 ?_
              refine lv_iload hx hb dX9_least_47 (lv_at hl 0 rfl) ?_
              refine iv_iald hx hb hG hP 4 rfl n (by omega) (by omega) (by decide) dX9_least_49 ?_
              refine iv_as (oT n) (hkn) ?_
              refine Ct.callV (ci := 9) (q0 := 0) (qc := (RX9, TX9, 37)) (As := [.int (iI much), .int (iI less), .int (iI (oT n))]) (rest := []) (wr := [((a 0), aI (g.2.1 0) 93 fk)]) (c1 := 0) (s1 := 0) ⟨hx, hb, hml, hown, hts⟩ (c_X9_workOf l g hm a i fz fx fy much less (oT n) (by omega)) rfl rfl (cwV 3 hts gX9_least_X9_workOf rfl rfl rfl (by decide +kernel) ⟨Nat.le_of_ble_eq_true rfl, Nat.le_of_ble_eq_true rfl⟩) hG hP hD hS hA [0, 1, 2, 3] [4] rfl rfl (by decide) (by decide) (by decide) rfl hl.1 rfl (Nat.le_of_ble_eq_true rfl) dX9_least_50 ⟨Nat.le_of_ble_eq_true rfl, Nat.le_of_ble_eq_true rfl⟩ rfl rfl (fun v w H locs hv hP hD hS => ?_)
              obtain ⟨fa7, fd8, fn9, rfl, rfl, hf10, hf11⟩ := hv
              show W p l e _ s m _ below meth c H locs 0 0 _ (F0 m 53 ls (.int (iI (wk much less (oT n))) :: []))
              have hP : va_P g.1 vwCl [((a 0), aI (g.2.1 0) 93 fk), (hm, .inr (9, mF a i)), ((a 1), aI (g.2.1 0) 3 fa7), ((a 2), aI (g.2.1 0) 3 fd8), ((a 3), aI (g.2.1 0) 3 fn9)] H := hP
              have hD : va_D A [((a 0), aI (g.2.1 0) 93 fk), (hm, .inr (9, mF a i)), ((a 1), aI (g.2.1 0) 3 fa7), ((a 2), aI (g.2.1 0) 3 fd8), ((a 3), aI (g.2.1 0) 3 fn9)] := hD
              have hf10 : ∀ j, j < 3 → fd8 j = wkG (oT n) much less j := hf10
              have hf11 : ∀ j, j < 3 → fn9 j = wkD (oT n) much less j := hf11
              have hw := wk_rng much less (oT n)
              refine lv_iload_n hx hb dX9_least_53 rfl (lv_at hl 5 rfl) ?_
              refine iv_icmp_ne (tgt := 61) hx hb dX9_least_54 (by decide) (by omega) (fun hc12 => ?_) (fun hc12 => ?_)
              · refine lv_iconst (v := iI (0)) hx hb dX9_least_61 rfl ?_
                refine lv_istore (lv' := [(7, .int (iI 0)), (6, .int (iI pl)), (5, .int (iI mny)), (0, .ref hm), (1, .int (iI much)), (2, .int (iI less)), (3, .int (iI ans)), (4, .int (iI ix))]) hx hb dX9_least_62 hl (by decide) rfl (fun ls hl => ?_)
                refine lv_iload hx hb dX9_least_64 (lv_at hl 0 rfl) ?_
                refine iv_if_eq (tgt := 84) hx hb dX9_least_66 (by decide) (by decide) (fun _ => ?_) (fun h => absurd h (by decide))
                refine lv_iload hx hb dX9_least_84 (lv_at hl 2 rfl) ?_
                refine lv_iload hx hb dX9_least_86 (lv_at hl 0 rfl) ?_
                refine iv_if_eq (tgt := 95) hx hb dX9_least_88 (by decide) (by decide) (fun _ => ?_) (fun h => absurd h (by decide))
                refine lv_iconst (v := iI (0)) hx hb dX9_least_95 rfl ?_
                refine iv_iadd hx hb dX9_least_96 ?_
                refine lv_istore (lv' := [(5, .int (iI (mny + 0))), (7, .int (iI 0)), (6, .int (iI pl)), (0, .ref hm), (1, .int (iI much)), (2, .int (iI less)), (3, .int (iI ans)), (4, .int (iI ix))]) hx hb dX9_least_97 hl (by decide) rfl (fun ls hl => ?_)
                refine iv_iinc (k := 2) (x := pl) (lv' := [(6, .int (iI (pl + 1))), (5, .int (iI (mny + 0))), (7, .int (iI 0)), (0, .ref hm), (1, .int (iI much)), (2, .int (iI less)), (3, .int (iI ans)), (4, .int (iI ix))]) hx hb dX9_least_99 hl rfl (by decide) rfl (fun ls hl => ?_)
                refine lv_goto (tgt := 33) hx hb dX9_least_102 (by decide) ?_
                exact ih33 (mny + 0) (pl + 1) fa7 fd8 fn9 (n + 1) (by omega) (by simp only [cntE]; split <;> omega) (by rw [← he2, show 93 - n = (93 - (n + 1)) + 1 from by omega]; simp only [lsF]; rw [if_neg (by omega)]) (by omega) H locs ls (hP.sub [1, 2, 3, 4, 0] rfl) (hD.sub [1, 2, 3, 4, 0] (by decide) rfl) hS (lv_sub hl [0, 1, 3, 4, 5, 6, 7] rfl)
              · refine lv_iconst (v := iI (1)) hx hb dX9_least_57 rfl ?_
                refine lv_goto (tgt := 62) hx hb dX9_least_58 (by decide) ?_
                refine lv_istore (lv' := [(7, .int (iI 1)), (6, .int (iI pl)), (5, .int (iI mny)), (0, .ref hm), (1, .int (iI much)), (2, .int (iI less)), (3, .int (iI ans)), (4, .int (iI ix))]) hx hb dX9_least_62 hl (by decide) rfl (fun ls hl => ?_)
                refine lv_iload hx hb dX9_least_64 (lv_at hl 0 rfl) ?_
                refine iv_if_eq (tgt := 84) hx hb dX9_least_66 (by decide) (by decide) (fun h => absurd h (by decide)) (fun _ => ?_)
                refine lv_iload hx hb dX9_least_69 (lv_at hl 2 rfl) ?_
                refine lv_iload hx hb dX9_least_71 (lv_at hl 7 rfl) ?_
                refine iv_icmp_ne (tgt := 84) hx hb dX9_least_73 (by decide) (by omega) (fun hc16 => ?_) (fun hc16 => ?_)
                · refine lv_iload hx hb dX9_least_84 (lv_at hl 2 rfl) ?_
                  refine lv_iload hx hb dX9_least_86 (lv_at hl 0 rfl) ?_
                  refine iv_if_eq (tgt := 95) hx hb dX9_least_88 (by decide) (by decide) (fun h => absurd h (by decide)) (fun _ => ?_)
                  refine lv_iconst (v := iI (1)) hx hb dX9_least_91 rfl ?_
                  refine lv_goto (tgt := 96) hx hb dX9_least_92 (by decide) ?_
                  refine iv_iadd hx hb dX9_least_96 ?_
                  refine lv_istore (lv' := [(5, .int (iI (mny + 1))), (7, .int (iI 1)), (6, .int (iI pl)), (0, .ref hm), (1, .int (iI much)), (2, .int (iI less)), (3, .int (iI ans)), (4, .int (iI ix))]) hx hb dX9_least_97 hl (by decide) rfl (fun ls hl => ?_)
                  refine iv_iinc (k := 2) (x := pl) (lv' := [(6, .int (iI (pl + 1))), (5, .int (iI (mny + 1))), (7, .int (iI 1)), (0, .ref hm), (1, .int (iI much)), (2, .int (iI less)), (3, .int (iI ans)), (4, .int (iI ix))]) hx hb dX9_least_99 hl rfl (by decide) rfl (fun ls hl => ?_)
                  refine lv_goto (tgt := 33) hx hb dX9_least_102 (by decide) ?_
                  exact ih33 (mny + 1) (pl + 1) fa7 fd8 fn9 (n + 1) (by omega) (by simp only [cntE]; split <;> omega) (by rw [← he2, show 93 - n = (93 - (n + 1)) + 1 from by omega]; simp only [lsF]; rw [if_neg (by omega)]) (by omega) H locs ls (hP.sub [1, 2, 3, 4, 0] rfl) (hD.sub [1, 2, 3, 4, 0] (by decide) rfl) hS (lv_sub hl [0, 1, 3, 4, 5, 6, 7] rfl)
                · refine lv_aload_n hx hb dX9_least_76 rfl (lv_at hl 3 rfl) ?_
                  refine va_get (D := g.1) (ci := 9) (v := .ref (a 0)) hx hb hts kX9_least_9 hown hG.1 hP 1 rfl rfl 0 (by decide) (hts _ (List.mem_of_getElem? (i := 2) rfl)) (fun _ h9 => h9) rfl dX9_least_77 ?_
                  refine lv_iload hx hb dX9_least_80 (lv_at hl 1 rfl) ?_
                  refine iv_iald hx hb hG hP 0 rfl n (by omega) (by omega) (by decide) dX9_least_82 ?_
                  refine iv_as (oT n) (hkn) ?_
                  exact Ct.iret hx hb hr hlocks (hP.sub [1, 2, 3, 4, 0] rfl) (hD.sub [1, 2, 3, 4, 0] (by decide) rfl) hS ⟨by decide, by decide⟩ dX9_least_83 ⟨(oT n), fd8, fn9, fa7, rfl, rfl, (by unfold leastS; rw [if_pos (by omega), ← he2, show 93 - n = (92 - n) + 1 from by omega, lsF, if_pos ⟨by omega, by omega⟩])⟩
        exact hloop33 _ 0 0 fa fd fn 0 (by omega) (rfl) (rfl) (Nat.lt_succ_self _) H locs ls (hP.sub [0, 1, 2, 3, 4] rfl) (hD.sub [0, 1, 2, 3, 4] (by decide) rfl) hS (lv_sub hl [0, 1, 2, 3, 4, 5, 6] rfl)
      · refine lv_iconst (v := iI (-1)) hx hb dX9_least_25 rfl ?_
        exact Ct.iret hx hb hr hlocks (hP.sub [0, 1, 2, 3, 4] rfl) (hD.sub [0, 1, 2, 3, 4] (by decide) rfl) hS ⟨by decide, by decide⟩ dX9_least_26 ⟨(-1), fd, fn, fa, rfl, rfl, (by unfold leastS; (repeat' split) <;> first | rfl | omega | (exfalso; omega))⟩
    · show W p l e _ s m _ below meth c H locs 0 0 _ (F0 m 17 ls (.int (iI 0) :: []))
      have hb3 : ¬ (0 ≤ ans ∧ ans ≤ 999) := hb3
      have hP : va_P g.1 vwCl [(hm, .inr (9, mF a i)), ((a 1), aI (g.2.1 0) 3 fa), ((a 2), aI (g.2.1 0) 3 fd), ((a 3), aI (g.2.1 0) 3 fn), ((a 0), aI (g.2.1 0) 93 fk)] H := hP
      have hD : va_D A [(hm, .inr (9, mF a i)), ((a 1), aI (g.2.1 0) 3 fa), ((a 2), aI (g.2.1 0) 3 fd), ((a 3), aI (g.2.1 0) 3 fn), ((a 0), aI (g.2.1 0) 93 fk)] := hD
      refine iv_if_eq (tgt := 25) hx hb dX9_least_17 (by decide) (by decide) (fun _ => ?_) (fun h => absurd h (by decide))
      refine lv_iconst (v := iI (-1)) hx hb dX9_least_25 rfl ?_
      exact Ct.iret hx hb hr hlocks (hP.sub [0, 1, 2, 3, 4] rfl) (hD.sub [0, 1, 2, 3, 4] (by decide) rfl) hS ⟨by decide, by decide⟩ dX9_least_26 ⟨(-1), fd, fn, fa, rfl, rfl, (by unfold leastS; (repeat' split) <;> first | rfl | omega | (exfalso; omega))⟩
  · show W p l e _ s m _ below meth c H locs 0 0 _ (F0 m 5 ls (.int (iI 0) :: []))
    have hb1 : ¬ (0 ≤ less ∧ less ≤ much ∧ much ≤ 999) := hb1
    have hP : va_P g.1 vwCl [(hm, .inr (9, mF a i)), ((a 1), aI (g.2.1 0) 3 fa), ((a 2), aI (g.2.1 0) 3 fd), ((a 3), aI (g.2.1 0) 3 fn), ((a 0), aI (g.2.1 0) 93 fk)] H := hP
    have hD : va_D A [(hm, .inr (9, mF a i)), ((a 1), aI (g.2.1 0) 3 fa), ((a 2), aI (g.2.1 0) 3 fd), ((a 3), aI (g.2.1 0) 3 fn), ((a 0), aI (g.2.1 0) 93 fk)] := hD
    refine iv_if_eq (tgt := 25) hx hb dX9_least_5 (by decide) (by decide) (fun _ => ?_) (fun h => absurd h (by decide))
    refine lv_iconst (v := iI (-1)) hx hb dX9_least_25 rfl ?_
    exact Ct.iret hx hb hr hlocks (hP.sub [0, 1, 2, 3, 4] rfl) (hD.sub [0, 1, 2, 3, 4] (by decide) rfl) hS ⟨by decide, by decide⟩ dX9_least_26 ⟨(-1), fd, fn, fa, rfl, rfl, (by unfold leastS; (repeat' split) <;> first | rfl | omega | (exfalso; omega))⟩
abbrev q_X9_parts (g : GT) (hm : Nat) (a : Nat → Nat) (i : Nat → Int) (fa : Nat → Int) (fd : Nat → Int) (fn : Nat → Int) (pa : Int) (pb : Int) (n : Int) : Option Value → va_W → Prop := fun v w => ∃ (r : Int), ∃ (fd' : Nat → Int), ∃ (fn' : Nat → Int), ∃ (fa' : Nat → Int), v = some (.int (iI r)) ∧ w = [(hm, .inr (9, mF a i)), ((a 1), aI (g.2.1 0) 3 fa'), ((a 2), aI (g.2.1 0) 3 fd'), ((a 3), aI (g.2.1 0) 3 fn')] ∧ (r = partsS pa pb n)
set_option maxHeartbeats 4000000 in
set_option maxRecDepth 100000 in
theorem c_X9_parts (l : Launch) (g : GT) (hm : Nat) (a : Nat → Nat) (i : Nat → Int) (fa : Nat → Int) (fd : Nat → Int) (fn : Nat → Int) (pa : Int) (pb : Int) (n : Int) (h1 : (-2147483648 ≤ pa ∧ pa < 2147483648) ∧ (-2147483648 ≤ pb ∧ pb < 2147483648) ∧ (-2147483648 ≤ n ∧ n < 2147483648)) : Ct l g yX9_parts wsX9_parts ({ frames := 2, cells := 0, slots := 0, locals := 51 } : Room) [.ref hm, .int (iI pa), .int (iI pb), .int (iI n)] [(hm, .inr (9, mF a i)), ((a 1), aI (g.2.1 0) 3 fa), ((a 2), aI (g.2.1 0) 3 fd), ((a 3), aI (g.2.1 0) 3 fn)] (q_X9_parts g hm a i fa fd fn pa pb n) := by
  refine Ct.intro (maxL := 6) (ret := (some .int)) (by decide) rfl (Nat.le_of_ble_eq_true rfl) ?_
  intro p e s m below meth c A ls hx hb hr hml hown hts hlocks hnm hA hG hP hD hS hl
  have hown : s.vm.findClass RX9 = some m.cls := hown
  have hl : lv_has ls 6 [(0, .ref hm), (1, .int (iI pa)), (2, .int (iI pb)), (3, .int (iI n))] := hl
  have hP : va_P g.1 vwCl [(hm, .inr (9, mF a i)), ((a 1), aI (g.2.1 0) 3 fa), ((a 2), aI (g.2.1 0) 3 fd), ((a 3), aI (g.2.1 0) 3 fn)] s.heap := hP
  have hS : va_S A s.heap s.heap [] := hS
  obtain ⟨H, hHe⟩ : ∃ H : Heap, H = s.heap := ⟨_, rfl⟩
  obtain ⟨locs, hLe⟩ : ∃ L : List Loc, L = [] := ⟨_, rfl⟩
  have hP : va_P g.1 vwCl [(hm, .inr (9, mF a i)), ((a 1), aI (g.2.1 0) 3 fa), ((a 2), aI (g.2.1 0) 3 fd), ((a 3), aI (g.2.1 0) 3 fn)] H := by rw [hHe]; exact hP
  have hS : va_S A s.heap H locs := by rw [hHe, hLe]; exact hS
  suffices hgo : W p l e ({ frames := 2, cells := 0, slots := 0, locals := 51 } : Room) s m [.ref hm, .int (iI pa), .int (iI pb), .int (iI n)].toArray below meth c H locs 0 0 (MQ below (CQ g (q_X9_parts g hm a i fa fd fn pa pb n) A) [.ref hm, .int (iI pa), .int (iI pb), .int (iI n)].toArray s ({ frames := 2, cells := 0, slots := 0, locals := 51 } : Room).cells ({ frames := 2, cells := 0, slots := 0, locals := 51 } : Room).slots A) (F0 m 0 ls []) by rw [hHe, hLe] at hgo; exact hgo
  clear hHe hLe
  refine lv_iload_n hx hb dX9_parts_0 rfl (lv_at hl 1 rfl) ?_
  refine Ct.callS (As := [.int (iI pa)]) (rest := []) (wr := [(hm, .inr (9, mF a i)), ((a 1), aI (g.2.1 0) 3 fa), ((a 2), aI (g.2.1 0) 3 fd), ((a 3), aI (g.2.1 0) 3 fn)]) (c1 := 0) (s1 := 0) ⟨hx, hb, hml, hown, hts⟩ (c_X9_isSet l g pa (by omega)) (va_cwS 1 hts gX9_parts_X9_isSet rfl rfl rfl (by decide +kernel) ⟨Nat.le_of_ble_eq_true rfl, Nat.le_of_ble_eq_true rfl⟩) hG hP hD hS hA [] [0, 1, 2, 3] rfl rfl (by decide) (by decide) (by decide) rfl hl.1 rfl (Nat.le_of_ble_eq_true rfl) dX9_parts_1 ⟨Nat.le_of_ble_eq_true rfl, Nat.le_of_ble_eq_true rfl⟩ rfl rfl (fun v w H locs hv hP hD hS => ?_)
  obtain ⟨⟨rfl, hb1⟩ | ⟨rfl, hb1⟩, rfl⟩ := hv
  · show W p l e _ s m _ below meth c H locs 0 0 _ (F0 m 4 ls (.int (iI 1) :: []))
    have hb1 : 0 ≤ pa ∧ pa ≤ 255 := hb1
    have hP : va_P g.1 vwCl [(hm, .inr (9, mF a i)), ((a 1), aI (g.2.1 0) 3 fa), ((a 2), aI (g.2.1 0) 3 fd), ((a 3), aI (g.2.1 0) 3 fn)] H := hP
    have hD : va_D A [(hm, .inr (9, mF a i)), ((a 1), aI (g.2.1 0) 3 fa), ((a 2), aI (g.2.1 0) 3 fd), ((a 3), aI (g.2.1 0) 3 fn)] := hD
    refine iv_if_eq (tgt := 26) hx hb dX9_parts_4 (by decide) (by decide) (fun h => absurd h (by decide)) (fun _ => ?_)
    refine lv_iload_n hx hb dX9_parts_7 rfl (lv_at hl 2 rfl) ?_
    refine Ct.callS (As := [.int (iI pb)]) (rest := []) (wr := [(hm, .inr (9, mF a i)), ((a 1), aI (g.2.1 0) 3 fa), ((a 2), aI (g.2.1 0) 3 fd), ((a 3), aI (g.2.1 0) 3 fn)]) (c1 := 0) (s1 := 0) ⟨hx, hb, hml, hown, hts⟩ (c_X9_isSet l g pb (by omega)) (va_cwS 1 hts gX9_parts_X9_isSet rfl rfl rfl (by decide +kernel) ⟨Nat.le_of_ble_eq_true rfl, Nat.le_of_ble_eq_true rfl⟩) hG hP hD hS hA [] [0, 1, 2, 3] rfl rfl (by decide) (by decide) (by decide) rfl hl.1 rfl (Nat.le_of_ble_eq_true rfl) dX9_parts_8 ⟨Nat.le_of_ble_eq_true rfl, Nat.le_of_ble_eq_true rfl⟩ rfl rfl (fun v w H locs hv hP hD hS => ?_)
    obtain ⟨⟨rfl, hb3⟩ | ⟨rfl, hb3⟩, rfl⟩ := hv
    · show W p l e _ s m _ below meth c H locs 0 0 _ (F0 m 11 ls (.int (iI 1) :: []))
      have hb3 : 0 ≤ pb ∧ pb ≤ 255 := hb3
      have hP : va_P g.1 vwCl [(hm, .inr (9, mF a i)), ((a 1), aI (g.2.1 0) 3 fa), ((a 2), aI (g.2.1 0) 3 fd), ((a 3), aI (g.2.1 0) 3 fn)] H := hP
      have hD : va_D A [(hm, .inr (9, mF a i)), ((a 1), aI (g.2.1 0) 3 fa), ((a 2), aI (g.2.1 0) 3 fd), ((a 3), aI (g.2.1 0) 3 fn)] := hD
      refine iv_if_eq (tgt := 26) hx hb dX9_parts_11 (by decide) (by decide) (fun h => absurd h (by decide)) (fun _ => ?_)
      refine lv_iload_n hx hb dX9_parts_14 rfl (lv_at hl 3 rfl) ?_
      refine iv_i2l hx hb dX9_parts_15 (by omega) ?_
      refine lv_lconst (v := lI (1)) hx hb dX9_parts_16 (by decide) ?_
      refine iv_ldc2 (v := 200) (z := 200) hx hb hown (hts _ (List.mem_of_getElem? (i := 1) rfl)) dX9_parts_17 (by decide) ?_
      refine Ct.callS (As := [.long (lI n), .long (lI 1), .long (lI 200)]) (rest := []) (wr := [(hm, .inr (9, mF a i)), ((a 1), aI (g.2.1 0) 3 fa), ((a 2), aI (g.2.1 0) 3 fd), ((a 3), aI (g.2.1 0) 3 fn)]) (c1 := 0) (s1 := 0) ⟨hx, hb, hml, hown, hts⟩ (c_X9_in l g n 1 200 (by omega)) (va_cwS 3 hts gX9_parts_X9_in rfl rfl rfl (by decide +kernel) ⟨Nat.le_of_ble_eq_true rfl, Nat.le_of_ble_eq_true rfl⟩) hG hP hD hS hA [] [0, 1, 2, 3] rfl rfl (by decide) (by decide) (by decide) rfl hl.1 rfl (Nat.le_of_ble_eq_true rfl) dX9_parts_20 ⟨Nat.le_of_ble_eq_true rfl, Nat.le_of_ble_eq_true rfl⟩ rfl rfl (fun v w H locs hv hP hD hS => ?_)
      obtain ⟨⟨rfl, hb5⟩ | ⟨rfl, hb5⟩, rfl⟩ := hv
      · show W p l e _ s m _ below meth c H locs 0 0 _ (F0 m 23 ls (.int (iI 1) :: []))
        have hb5 : 1 ≤ n ∧ n ≤ 200 := hb5
        have hP : va_P g.1 vwCl [(hm, .inr (9, mF a i)), ((a 1), aI (g.2.1 0) 3 fa), ((a 2), aI (g.2.1 0) 3 fd), ((a 3), aI (g.2.1 0) 3 fn)] H := hP
        have hD : va_D A [(hm, .inr (9, mF a i)), ((a 1), aI (g.2.1 0) 3 fa), ((a 2), aI (g.2.1 0) 3 fd), ((a 3), aI (g.2.1 0) 3 fn)] := hD
        refine iv_if_ne (tgt := 28) hx hb dX9_parts_23 (by decide) (by decide) (fun _ => ?_) (fun h => absurd h (by decide))
        refine lv_iconst (v := iI (0)) hx hb dX9_parts_28 rfl ?_
        refine lv_istore (lv' := [(4, .int (iI 0)), (0, .ref hm), (1, .int (iI pa)), (2, .int (iI pb)), (3, .int (iI n))]) hx hb dX9_parts_29 hl (by decide) rfl (fun ls hl => ?_)
        have hloop31 : ∀ (fuel : Nat) (zm : Int) (fx : Nat → Int) (fy : Nat → Int) (fz : Nat → Int) (mu : Nat) (hmu : zm = (mu : Int) ∧ zm ≤ n) (ho1 : prO pa pb (n.toNat - mu) mu = prO pa pb n.toNat 0) (hmeas : n.toNat - mu < fuel), ∀ (H : Heap) (locs : List Loc) (ls : Array Slot), va_P g.1 vwCl [(hm, .inr (9, mF a i)), ((a 1), aI (g.2.1 0) 3 fx), ((a 2), aI (g.2.1 0) 3 fy), ((a 3), aI (g.2.1 0) 3 fz)] H → va_D A [(hm, .inr (9, mF a i)), ((a 1), aI (g.2.1 0) 3 fx), ((a 2), aI (g.2.1 0) 3 fy), ((a 3), aI (g.2.1 0) 3 fz)] → va_S A s.heap H locs → lv_has ls 6 [(4, .int (iI zm)), (0, .ref hm), (1, .int (iI pa)), (2, .int (iI pb)), (3, .int (iI n))] → W p l e ({ frames := 2, cells := 0, slots := 0, locals := 51 } : Room) s m [.ref hm, .int (iI pa), .int (iI pb), .int (iI n)].toArray below meth c H locs 0 0 (MQ below (CQ g (q_X9_parts g hm a i fa fd fn pa pb n) A) [.ref hm, .int (iI pa), .int (iI pb), .int (iI n)].toArray s ({ frames := 2, cells := 0, slots := 0, locals := 51 } : Room).cells ({ frames := 2, cells := 0, slots := 0, locals := 51 } : Room).slots A) (F0 m 31 ls []) := by
          intro fuel
          induction fuel with
          | zero => intro zm fx fy fz mu hmu ho1 hmeas; exact absurd hmeas (Nat.not_lt_zero _)
          | succ fuel ih31 =>
            intro zm fx fy fz mu hmu ho1 hmeas H locs ls hP hD hS hl
            refine lv_iload hx hb dX9_parts_31 (lv_at hl 0 rfl) ?_
            refine lv_iload_n hx hb dX9_parts_33 rfl (lv_at hl 4 rfl) ?_
            refine iv_icmp_ge (tgt := 90) hx hb dX9_parts_34 (by decide) (by omega) (fun hc7 => ?_) (fun hc7 => ?_)
            · refine lv_bipush (v := iI (-4)) hx hb dX9_parts_90 (by decide) ?_
              exact Ct.iret hx hb hr hlocks (hP.sub [0, 1, 2, 3] rfl) (hD.sub [0, 1, 2, 3] (by decide) rfl) hS ⟨by decide, by decide⟩ dX9_parts_92 ⟨(-4), fy, fz, fx, rfl, rfl, (by unfold partsS; rw [if_pos (by omega), ← ho1, show n.toNat - mu = 0 from by omega]; rfl)⟩
            · refine lv_iconst (v := iI (0)) hx hb dX9_parts_37 rfl ?_
              refine lv_istore (lv' := [(5, .int (iI 0)), (4, .int (iI zm)), (0, .ref hm), (1, .int (iI pa)), (2, .int (iI pb)), (3, .int (iI n))]) hx hb dX9_parts_38 hl (by decide) rfl (fun ls hl => ?_)
              have hloop40 : ∀ (fuel : Nat) (zl : Int) (fx2 : Nat → Int) (fy2 : Nat → Int) (fz2 : Nat → Int) (k : Nat) (hk : zl = (k : Int) ∧ zl ≤ zm + 1) (hi1 : prI pa pb mu (mu + 1 - k) k = prI pa pb mu (mu + 1) 0) (hmeas : mu + 1 - k < fuel), ∀ (H : Heap) (locs : List Loc) (ls : Array Slot), va_P g.1 vwCl [(hm, .inr (9, mF a i)), ((a 1), aI (g.2.1 0) 3 fx2), ((a 2), aI (g.2.1 0) 3 fy2), ((a 3), aI (g.2.1 0) 3 fz2)] H → va_D A [(hm, .inr (9, mF a i)), ((a 1), aI (g.2.1 0) 3 fx2), ((a 2), aI (g.2.1 0) 3 fy2), ((a 3), aI (g.2.1 0) 3 fz2)] → va_S A s.heap H locs → lv_has ls 6 [(5, .int (iI zl)), (4, .int (iI zm)), (0, .ref hm), (1, .int (iI pa)), (2, .int (iI pb)), (3, .int (iI n))] → W p l e ({ frames := 2, cells := 0, slots := 0, locals := 51 } : Room) s m [.ref hm, .int (iI pa), .int (iI pb), .int (iI n)].toArray below meth c H locs 0 0 (MQ below (CQ g (q_X9_parts g hm a i fa fd fn pa pb n) A) [.ref hm, .int (iI pa), .int (iI pb), .int (iI n)].toArray s ({ frames := 2, cells := 0, slots := 0, locals := 51 } : Room).cells ({ frames := 2, cells := 0, slots := 0, locals := 51 } : Room).slots A) (F0 m 40 ls []) := by
                intro fuel
                induction fuel with
                | zero => intro zl fx2 fy2 fz2 k hk hi1 hmeas; exact absurd hmeas (Nat.not_lt_zero _)
                | succ fuel ih40 =>
                  intro zl fx2 fy2 fz2 k hk hi1 hmeas H locs ls hP hD hS hl
                  refine lv_iload hx hb dX9_parts_40 (lv_at hl 0 rfl) ?_
                  refine lv_iload hx hb dX9_parts_42 (lv_at hl 1 rfl) ?_
                  refine iv_icmp_gt (tgt := 84) hx hb dX9_parts_44 (by decide) (by omega) (fun hc8 => ?_) (fun hc8 => ?_)
                  · refine iv_iinc (k := 1) (x := zm) (lv' := [(4, .int (iI (zm + 1))), (5, .int (iI zl)), (0, .ref hm), (1, .int (iI pa)), (2, .int (iI pb)), (3, .int (iI n))]) hx hb dX9_parts_84 hl rfl (by decide) rfl (fun ls hl => ?_)
                    refine lv_goto (tgt := 31) hx hb dX9_parts_87 (by decide) ?_
                    exact ih31 (zm + 1) fx2 fy2 fz2 (mu + 1) (by omega) (by rw [← ho1, show n.toNat - mu = (n.toNat - (mu + 1)) + 1 from by omega]; simp only [prO]; rw [if_pos (by rw [← hi1, show mu + 1 - k = 0 from by omega]; rfl)]) (by omega) H locs ls (hP.sub [0, 1, 2, 3] rfl) (hD.sub [0, 1, 2, 3] (by decide) rfl) hS (lv_sub hl [0, 2, 3, 4, 5] rfl)
                  · refine lv_aload_n hx hb dX9_parts_47 rfl (lv_at hl 2 rfl) ?_
                    refine lv_iload hx hb dX9_parts_48 (lv_at hl 1 rfl) ?_
                    refine lv_iload hx hb dX9_parts_50 (lv_at hl 0 rfl) ?_
                    refine lv_iload_n hx hb dX9_parts_52 rfl (lv_at hl 3 rfl) ?_
                    refine Ct.callV (ci := 9) (q0 := 0) (qc := (RX9, TX9, 37)) (As := [.int (iI zm), .int (iI zl), .int (iI pa)]) (rest := []) (wr := []) (c1 := 0) (s1 := 0) ⟨hx, hb, hml, hown, hts⟩ (c_X9_workOf l g hm a i fx2 fy2 fz2 zm zl pa (by omega)) rfl rfl (cwV 3 hts gX9_parts_X9_workOf rfl rfl rfl (by decide +kernel) ⟨Nat.le_of_ble_eq_true rfl, Nat.le_of_ble_eq_true rfl⟩) hG hP hD hS hA [0, 1, 2, 3] [] rfl rfl (by decide) (by decide) (by decide) rfl hl.1 rfl (Nat.le_of_ble_eq_true rfl) dX9_parts_53 ⟨Nat.le_of_ble_eq_true rfl, Nat.le_of_ble_eq_true rfl⟩ rfl rfl (fun v w H locs hv hP hD hS => ?_)
                    obtain ⟨fa9, fd10, fn11, rfl, rfl, hf12, hf13⟩ := hv
                    show W p l e _ s m _ below meth c H locs 0 0 _ (F0 m 56 ls (.int (iI (wk zm zl pa)) :: []))
                    have hP : va_P g.1 vwCl [(hm, .inr (9, mF a i)), ((a 1), aI (g.2.1 0) 3 fa9), ((a 2), aI (g.2.1 0) 3 fd10), ((a 3), aI (g.2.1 0) 3 fn11)] H := hP
                    have hD : va_D A [(hm, .inr (9, mF a i)), ((a 1), aI (g.2.1 0) 3 fa9), ((a 2), aI (g.2.1 0) 3 fd10), ((a 3), aI (g.2.1 0) 3 fn11)] := hD
                    have hf12 : ∀ j, j < 3 → fd10 j = wkG pa zm zl j := hf12
                    have hf13 : ∀ j, j < 3 → fn11 j = wkD pa zm zl j := hf13
                    refine lv_aload_n hx hb dX9_parts_56 rfl (lv_at hl 2 rfl) ?_
                    refine lv_iload hx hb dX9_parts_57 (lv_at hl 1 rfl) ?_
                    refine lv_iload hx hb dX9_parts_59 (lv_at hl 0 rfl) ?_
                    refine lv_iload_n hx hb dX9_parts_61 rfl (lv_at hl 4 rfl) ?_
                    refine Ct.callV (ci := 9) (q0 := 0) (qc := (RX9, TX9, 37)) (As := [.int (iI zm), .int (iI zl), .int (iI pb)]) (rest := [.int (iI (wk zm zl pa))]) (wr := []) (c1 := 0) (s1 := 0) ⟨hx, hb, hml, hown, hts⟩ (c_X9_workOf l g hm a i fa9 fd10 fn11 zm zl pb (by omega)) rfl rfl (cwV 3 hts gX9_parts_X9_workOf rfl rfl rfl (by decide +kernel) ⟨Nat.le_of_ble_eq_true rfl, Nat.le_of_ble_eq_true rfl⟩) hG hP hD hS hA [0, 1, 2, 3] [] rfl rfl (by decide) (by decide) (by decide) rfl hl.1 rfl (Nat.le_of_ble_eq_true rfl) dX9_parts_62 ⟨Nat.le_of_ble_eq_true rfl, Nat.le_of_ble_eq_true rfl⟩ rfl rfl (fun v w H locs hv hP hD hS => ?_)
                    obtain ⟨fa14, fd15, fn16, rfl, rfl, hf17, hf18⟩ := hv
                    show W p l e _ s m _ below meth c H locs 0 0 _ (F0 m 65 ls (.int (iI (wk zm zl pb)) :: [.int (iI (wk zm zl pa))]))
                    have hP : va_P g.1 vwCl [(hm, .inr (9, mF a i)), ((a 1), aI (g.2.1 0) 3 fa14), ((a 2), aI (g.2.1 0) 3 fd15), ((a 3), aI (g.2.1 0) 3 fn16)] H := hP
                    have hD : va_D A [(hm, .inr (9, mF a i)), ((a 1), aI (g.2.1 0) 3 fa14), ((a 2), aI (g.2.1 0) 3 fd15), ((a 3), aI (g.2.1 0) 3 fn16)] := hD
                    have hf17 : ∀ j, j < 3 → fd15 j = wkG pb zm zl j := hf17
                    have hf18 : ∀ j, j < 3 → fn16 j = wkD pb zm zl j := hf18
                    have hw1 := wk_rng zm zl pa
                    have hw2 := wk_rng zm zl pb
                    refine iv_icmp_eq (tgt := 78) hx hb dX9_parts_65 (by decide) (by omega) (fun hc19 => ?_) (fun hc19 => ?_)
                    · refine iv_iinc (k := 0) (x := zl) (lv' := [(5, .int (iI (zl + 1))), (4, .int (iI zm)), (0, .ref hm), (1, .int (iI pa)), (2, .int (iI pb)), (3, .int (iI n))]) hx hb dX9_parts_78 hl rfl (by decide) rfl (fun ls hl => ?_)
                      refine lv_goto (tgt := 40) hx hb dX9_parts_81 (by decide) ?_
                      exact ih40 (zl + 1) fa14 fd15 fn16 (k + 1) (by omega) (by rw [← hi1, show mu + 1 - k = (mu + 1 - (k + 1)) + 1 from by omega]; simp only [prI]; rw [if_pos (by rw [← hmu.1, ← hk.1]; assumption)]) (by omega) H locs ls (hP.sub [0, 1, 2, 3] rfl) (hD.sub [0, 1, 2, 3] (by decide) rfl) hS (lv_sub hl [0, 1, 2, 3, 4, 5] rfl)
                    · have hpi : prI pa pb mu (mu + 1) 0 = 1000 * (mu : Int) + k := by rw [← hi1, show mu + 1 - k = (mu - k) + 1 from by omega]; simp only [prI]; rw [if_neg (by rw [← hmu.1, ← hk.1]; assumption)]
                      refine lv_sipush (v := iI (1000)) hx hb dX9_parts_68 (by decide) ?_
                      refine lv_iload hx hb dX9_parts_71 (lv_at hl 1 rfl) ?_
                      refine iv_imul hx hb dX9_parts_73 ?_
                      refine lv_iload hx hb dX9_parts_74 (lv_at hl 0 rfl) ?_
                      refine iv_iadd hx hb dX9_parts_76 ?_
                      exact Ct.iret hx hb hr hlocks (hP.sub [0, 1, 2, 3] rfl) (hD.sub [0, 1, 2, 3] (by decide) rfl) hS ⟨by decide, by decide⟩ dX9_parts_77 ⟨((1000 * zm) + zl), fd15, fn16, fa14, rfl, rfl, (by unfold partsS; rw [if_pos (by omega), ← ho1, show n.toNat - mu = (n.toNat - (mu + 1)) + 1 from by omega]; simp only [prO]; rw [if_neg (by rw [hpi]; omega), hpi]; omega)⟩
              exact hloop40 _ 0 fx fy fz 0 (by omega) (rfl) (Nat.lt_succ_self _) H locs ls (hP.sub [0, 1, 2, 3] rfl) (hD.sub [0, 1, 2, 3] (by decide) rfl) hS (lv_sub hl [0, 1, 2, 3, 4, 5] rfl)
        exact hloop31 _ 0 fa fd fn 0 (by omega) (rfl) (Nat.lt_succ_self _) H locs ls (hP.sub [0, 1, 2, 3] rfl) (hD.sub [0, 1, 2, 3] (by decide) rfl) hS (lv_sub hl [0, 1, 2, 3, 4] rfl)
      · show W p l e _ s m _ below meth c H locs 0 0 _ (F0 m 23 ls (.int (iI 0) :: []))
        have hb5 : ¬ (1 ≤ n ∧ n ≤ 200) := hb5
        have hP : va_P g.1 vwCl [(hm, .inr (9, mF a i)), ((a 1), aI (g.2.1 0) 3 fa), ((a 2), aI (g.2.1 0) 3 fd), ((a 3), aI (g.2.1 0) 3 fn)] H := hP
        have hD : va_D A [(hm, .inr (9, mF a i)), ((a 1), aI (g.2.1 0) 3 fa), ((a 2), aI (g.2.1 0) 3 fd), ((a 3), aI (g.2.1 0) 3 fn)] := hD
        refine iv_if_ne (tgt := 28) hx hb dX9_parts_23 (by decide) (by decide) (fun h => absurd h (by decide)) (fun _ => ?_)
        refine lv_iconst (v := iI (-1)) hx hb dX9_parts_26 rfl ?_
        exact Ct.iret hx hb hr hlocks (hP.sub [0, 1, 2, 3] rfl) (hD.sub [0, 1, 2, 3] (by decide) rfl) hS ⟨by decide, by decide⟩ dX9_parts_27 ⟨(-1), fd, fn, fa, rfl, rfl, (by unfold partsS; (repeat' split) <;> first | rfl | omega | (exfalso; omega))⟩
    · show W p l e _ s m _ below meth c H locs 0 0 _ (F0 m 11 ls (.int (iI 0) :: []))
      have hb3 : ¬ (0 ≤ pb ∧ pb ≤ 255) := hb3
      have hP : va_P g.1 vwCl [(hm, .inr (9, mF a i)), ((a 1), aI (g.2.1 0) 3 fa), ((a 2), aI (g.2.1 0) 3 fd), ((a 3), aI (g.2.1 0) 3 fn)] H := hP
      have hD : va_D A [(hm, .inr (9, mF a i)), ((a 1), aI (g.2.1 0) 3 fa), ((a 2), aI (g.2.1 0) 3 fd), ((a 3), aI (g.2.1 0) 3 fn)] := hD
      refine iv_if_eq (tgt := 26) hx hb dX9_parts_11 (by decide) (by decide) (fun _ => ?_) (fun h => absurd h (by decide))
      refine lv_iconst (v := iI (-1)) hx hb dX9_parts_26 rfl ?_
      exact Ct.iret hx hb hr hlocks (hP.sub [0, 1, 2, 3] rfl) (hD.sub [0, 1, 2, 3] (by decide) rfl) hS ⟨by decide, by decide⟩ dX9_parts_27 ⟨(-1), fd, fn, fa, rfl, rfl, (by unfold partsS; (repeat' split) <;> first | rfl | omega | (exfalso; omega))⟩
  · show W p l e _ s m _ below meth c H locs 0 0 _ (F0 m 4 ls (.int (iI 0) :: []))
    have hb1 : ¬ (0 ≤ pa ∧ pa ≤ 255) := hb1
    have hP : va_P g.1 vwCl [(hm, .inr (9, mF a i)), ((a 1), aI (g.2.1 0) 3 fa), ((a 2), aI (g.2.1 0) 3 fd), ((a 3), aI (g.2.1 0) 3 fn)] H := hP
    have hD : va_D A [(hm, .inr (9, mF a i)), ((a 1), aI (g.2.1 0) 3 fa), ((a 2), aI (g.2.1 0) 3 fd), ((a 3), aI (g.2.1 0) 3 fn)] := hD
    refine iv_if_eq (tgt := 26) hx hb dX9_parts_4 (by decide) (by decide) (fun _ => ?_) (fun h => absurd h (by decide))
    refine lv_iconst (v := iI (-1)) hx hb dX9_parts_26 rfl ?_
    exact Ct.iret hx hb hr hlocks (hP.sub [0, 1, 2, 3] rfl) (hD.sub [0, 1, 2, 3] (by decide) rfl) hS ⟨by decide, by decide⟩ dX9_parts_27 ⟨(-1), fd, fn, fa, rfl, rfl, (by unfold partsS; (repeat' split) <;> first | rfl | omega | (exfalso; omega))⟩
