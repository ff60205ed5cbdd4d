abbrev q_X8_sheet (g : GT) (hd : Nat) (d : Nat → Nat) (i : Nat → Int) (fsh : Nat → Option Nat) (y : Nat) (yi : Nat) (ln : Int) (la : Int) (it : Nat → Int) (k : Nat) (x : Int) (lane : Int) (n : Int) : Option Value → va_W → Prop := fun v w => ∃ (r : Int), ∃ (ln' : Int), ∃ (la' : Int), ∃ (it' : Nat → Int), v = some (.int (iI r)) ∧ w = [(hd, .inr (8, dF d i)), ((d 12), aQ (g.2.1 4) 4 fsh), (y, .inr (5, [.int (iI ln'), .int (iI la'), .ref yi])), (yi, aI (g.2.1 0) 40 it')] ∧ (r = sheetS x lane n) ∧ (0 ≤ r → ln' = n ∧ la' = lane ∧ ∀ j, j < 40 → it' j = 0) ∧ (r < 0 → ln' = ln ∧ la' = la ∧ it' = it)
set_option maxHeartbeats 4000000 in
set_option maxRecDepth 100000 in
theorem c_X8_sheet (l : Launch) (g : GT) (hd : Nat) (d : Nat → Nat) (i : Nat → Int) (fsh : Nat → Option Nat) (y : Nat) (yi : Nat) (ln : Int) (la : Int) (it : Nat → Int) (k : Nat) (x : Int) (lane : Int) (n : Int) (h1 : x = (k : Int) ∧ k < 4) (h2 : fsh k = some y) (h3 : -1 ≤ ln ∧ ln ≤ 40 ∧ 0 ≤ la ∧ la ≤ 2) (h4 : (-2147483648 ≤ lane ∧ lane < 2147483648) ∧ (-2147483648 ≤ n ∧ n < 2147483648)) : Ct l g yX8_sheet wsX8_sheet ({ frames := 2, cells := 0, slots := 0, locals := 43 } : Room) [.ref hd, .int (iI x), .int (iI lane), .int (iI n)] [(hd, .inr (8, dF d i)), ((d 12), aQ (g.2.1 4) 4 fsh), (y, .inr (5, [.int (iI ln), .int (iI la), .ref yi])), (yi, aI (g.2.1 0) 40 it)] (q_X8_sheet g hd d i fsh y yi ln la it k x lane n) := by
  refine Ct.intro (maxL := 5) (ret := (some .int)) (by decide) rfl (Nat.le_of_ble_eq_true rfl) ?_
  intro p e s m below meth c A ls hx hb hr hml hown hts hlocks hnm hA hG hP hD hS hl
  have hown : s.vm.findClass RX8 = some m.cls := hown
  have hl : lv_has ls 5 [(0, .ref hd), (1, .int (iI x)), (2, .int (iI lane)), (3, .int (iI n))] := hl
  have hP : va_P g.1 vwCl [(hd, .inr (8, dF d i)), ((d 12), aQ (g.2.1 4) 4 fsh), (y, .inr (5, [.int (iI ln), .int (iI la), .ref yi])), (yi, aI (g.2.1 0) 40 it)] s.heap := hP
  have hS : va_S A s.heap s.heap [] := hS
  obtain ⟨H, hHe⟩ : ∃ H : Heap, H = s.heap := ⟨_, rfl⟩
  obtain ⟨locs, hLe⟩ : ∃ L : List Loc, L = [] := ⟨_, rfl⟩
  have hP : va_P g.1 vwCl [(hd, .inr (8, dF d i)), ((d 12), aQ (g.2.1 4) 4 fsh), (y, .inr (5, [.int (iI ln), .int (iI la), .ref yi])), (yi, aI (g.2.1 0) 40 it)] H := by rw [hHe]; exact hP
  have hS : va_S A s.heap H locs := by rw [hHe, hLe]; exact hS
  suffices hgo : W p l e ({ frames := 2, cells := 0, slots := 0, locals := 43 } : Room) s m [.ref hd, .int (iI x), .int (iI lane), .int (iI n)].toArray below meth c H locs 0 0 (MQ below (CQ g (q_X8_sheet g hd d i fsh y yi ln la it k x lane n) A) [.ref hd, .int (iI x), .int (iI lane), .int (iI n)].toArray s ({ frames := 2, cells := 0, slots := 0, locals := 43 } : Room).cells ({ frames := 2, cells := 0, slots := 0, locals := 43 } : Room).slots A) (F0 m 0 ls []) by rw [hHe, hLe] at hgo; exact hgo
  clear hHe hLe
  refine lv_aload_n hx hb dX8_sheet_0 rfl (lv_at hl 0 rfl) ?_
  refine lv_iload_n hx hb dX8_sheet_1 rfl (lv_at hl 1 rfl) ?_
  refine Ct.callV (ci := 8) (q0 := 0) (qc := (RX8, TX8, 13)) (As := [.int (iI x)]) (rest := []) (wr := [(y, .inr (5, [.int (iI ln), .int (iI la), .ref yi])), (yi, aI (g.2.1 0) 40 it)]) (c1 := 0) (s1 := 0) ⟨hx, hb, hml, hown, hts⟩ (c_X8_sheetAt l g hd d i fsh x k y (by omega) (h2)) rfl rfl (cwV 1 hts gX8_sheet_X8_sheetAt rfl rfl rfl (by decide +kernel) ⟨Nat.le_of_ble_eq_true rfl, Nat.le_of_ble_eq_true rfl⟩) hG hP hD hS hA [0, 1] [2, 3] rfl rfl (by decide) (by decide) (by decide) rfl hl.1 rfl (Nat.le_of_ble_eq_true rfl) dX8_sheet_2 ⟨Nat.le_of_ble_eq_true rfl, Nat.le_of_ble_eq_true rfl⟩ rfl rfl (fun v w H locs hv hP hD hS => ?_)
  obtain ⟨rfl, rfl⟩ := hv
  show W p l e _ s m _ below meth c H locs 0 0 _ (F0 m 5 ls (.ref y :: []))
  have hP : va_P g.1 vwCl [(y, .inr (5, [.int (iI ln), .int (iI la), .ref yi])), (yi, aI (g.2.1 0) 40 it), (hd, .inr (8, dF d i)), ((d 12), aQ (g.2.1 4) 4 fsh)] H := hP
  have hD : va_D A [(y, .inr (5, [.int (iI ln), .int (iI la), .ref yi])), (yi, aI (g.2.1 0) 40 it), (hd, .inr (8, dF d i)), ((d 12), aQ (g.2.1 4) 4 fsh)] := hD
  refine lv_astore (lv' := [(4, .ref y), (0, .ref hd), (1, .int (iI x)), (2, .int (iI lane)), (3, .int (iI n))]) hx hb dX8_sheet_5 hl (by decide) rfl (fun ls hl => ?_)
  refine lv_aload hx hb dX8_sheet_7 (lv_at hl 0 rfl) ?_
  refine lv_ifnull hx hb dX8_sheet_9 ?_
  refine lv_iload_n hx hb dX8_sheet_12 rfl (lv_at hl 3 rfl) ?_
  refine Ct.callS (As := [.int (iI lane)]) (rest := []) (wr := [(y, .inr (5, [.int (iI ln), .int (iI la), .ref yi])), (yi, aI (g.2.1 0) 40 it), (hd, .inr (8, dF d i)), ((d 12), aQ (g.2.1 4) 4 fsh)]) (c1 := 0) (s1 := 0) ⟨hx, hb, hml, hown, hts⟩ (c_X8_isLane l g lane (by omega)) (va_cwS 1 hts gX8_sheet_X8_isLane rfl rfl rfl (by decide +kernel) ⟨Nat.le_of_ble_eq_true rfl, Nat.le_of_ble_eq_true rfl⟩) hG hP hD hS hA [] [0, 1, 2, 3] rfl rfl (by decide) (by decide) (by decide) rfl hl.1 rfl (Nat.le_of_ble_eq_true rfl) dX8_sheet_13 ⟨Nat.le_of_ble_eq_true rfl, Nat.le_of_ble_eq_true rfl⟩ rfl rfl (fun v w H locs hv hP hD hS => ?_)
  obtain ⟨⟨rfl, hb1⟩ | ⟨rfl, hb1⟩, rfl⟩ := hv
  · show W p l e _ s m _ below meth c H locs 0 0 _ (F0 m 16 ls (.int (iI 1) :: []))
    have hb1 : 0 ≤ lane ∧ lane ≤ 2 := hb1
    have hP : va_P g.1 vwCl [(y, .inr (5, [.int (iI ln), .int (iI la), .ref yi])), (yi, aI (g.2.1 0) 40 it), (hd, .inr (8, dF d i)), ((d 12), aQ (g.2.1 4) 4 fsh)] H := hP
    have hD : va_D A [(y, .inr (5, [.int (iI ln), .int (iI la), .ref yi])), (yi, aI (g.2.1 0) 40 it), (hd, .inr (8, dF d i)), ((d 12), aQ (g.2.1 4) 4 fsh)] := hD
    refine iv_if_eq (tgt := 25) hx hb dX8_sheet_16 (by decide) (by decide) (fun h => absurd h (by decide)) (fun _ => ?_)
    refine lv_iload_n hx hb dX8_sheet_19 rfl (lv_at hl 4 rfl) ?_
    refine lv_bipush (v := iI (40)) hx hb dX8_sheet_20 (by decide) ?_
    refine iv_icmp_le (tgt := 27) hx hb dX8_sheet_22 (by decide) (by omega) (fun hc3 => ?_) (fun hc3 => ?_)
    · refine lv_iload_n hx hb dX8_sheet_27 rfl (lv_at hl 4 rfl) ?_
      refine iv_if_ge (tgt := 34) hx hb dX8_sheet_28 (by decide) (by omega) (fun hc4 => ?_) (fun hc4 => ?_)
      · refine lv_aload hx hb dX8_sheet_34 (lv_at hl 0 rfl) ?_
        refine lv_iload_n hx hb dX8_sheet_36 rfl (lv_at hl 3 rfl) ?_
        refine lv_iload_n hx hb dX8_sheet_37 rfl (lv_at hl 4 rfl) ?_
        refine Ct.callV (ci := 5) (q0 := 0) (qc := (RX5, TX5, 3)) (As := [.int (iI lane), .int (iI n)]) (rest := []) (wr := [(hd, .inr (8, dF d i)), ((d 12), aQ (g.2.1 4) 4 fsh)]) (c1 := 0) (s1 := 0) ⟨hx, hb, hml, hown, hts⟩ (c_X5_renew l g y yi ln la it lane n (by omega)) rfl rfl (cwV 2 hts gX8_sheet_X5_renew rfl rfl rfl (by decide +kernel) ⟨Nat.le_of_ble_eq_true rfl, Nat.le_of_ble_eq_true rfl⟩) hG hP hD hS hA [0, 1] [2, 3] rfl rfl (by decide) (by decide) (by decide) rfl hl.1 rfl (Nat.le_of_ble_eq_true rfl) dX8_sheet_38 ⟨Nat.le_of_ble_eq_true rfl, Nat.le_of_ble_eq_true rfl⟩ rfl rfl (fun v w H locs hv hP hD hS => ?_)
        obtain ⟨it5, rfl, rfl, hf6⟩ := hv
        show W p l e _ s m _ below meth c H locs 0 0 _ (F0 m 41 ls [])
        have hP : va_P g.1 vwCl [(hd, .inr (8, dF d i)), ((d 12), aQ (g.2.1 4) 4 fsh), (y, .inr (5, [.int (iI n), .int (iI lane), .ref yi])), (yi, aI (g.2.1 0) 40 it5)] H := hP
        have hD : va_D A [(hd, .inr (8, dF d i)), ((d 12), aQ (g.2.1 4) 4 fsh), (y, .inr (5, [.int (iI n), .int (iI lane), .ref yi])), (yi, aI (g.2.1 0) 40 it5)] := hD
        have hf6 : ∀ j, j < 40 → it5 j = 0 := hf6
        refine lv_iload_n hx hb dX8_sheet_41 rfl (lv_at hl 4 rfl) ?_
        exact Ct.iret hx hb hr hlocks (hP.sub [0, 1, 2, 3] rfl) (hD.sub [0, 1, 2, 3] (by decide) rfl) hS ⟨by decide, by decide⟩ dX8_sheet_42 ⟨n, n, lane, it5, rfl, rfl, (by unfold sheetS; (repeat' split) <;> first | rfl | omega | (exfalso; omega)), (fun _ => ⟨rfl, rfl, by assumption⟩), (fun h => absurd h (by omega))⟩
      · refine lv_bipush (v := iI (-14)) hx hb dX8_sheet_31 (by decide) ?_
        exact Ct.iret hx hb hr hlocks (hP.sub [2, 3, 0, 1] rfl) (hD.sub [2, 3, 0, 1] (by decide) rfl) hS ⟨by decide, by decide⟩ dX8_sheet_33 ⟨(-14), ln, la, it, rfl, rfl, (by unfold sheetS; (repeat' split) <;> first | rfl | omega | (exfalso; omega)), (fun h => absurd h (by omega)), (fun _ => ⟨rfl, rfl, rfl⟩)⟩
    · refine lv_iconst (v := iI (-1)) hx hb dX8_sheet_25 rfl ?_
      exact Ct.iret hx hb hr hlocks (hP.sub [2, 3, 0, 1] rfl) (hD.sub [2, 3, 0, 1] (by decide) rfl) hS ⟨by decide, by decide⟩ dX8_sheet_26 ⟨(-1), ln, la, it, rfl, rfl, (by unfold sheetS; (repeat' split) <;> first | rfl | omega | (exfalso; omega)), (fun h => absurd h (by omega)), (fun _ => ⟨rfl, rfl, rfl⟩)⟩
  · show W p l e _ s m _ below meth c H locs 0 0 _ (F0 m 16 ls (.int (iI 0) :: []))
    have hb1 : ¬ (0 ≤ lane ∧ lane ≤ 2) := hb1
    have hP : va_P g.1 vwCl [(y, .inr (5, [.int (iI ln), .int (iI la), .ref yi])), (yi, aI (g.2.1 0) 40 it), (hd, .inr (8, dF d i)), ((d 12), aQ (g.2.1 4) 4 fsh)] H := hP
    have hD : va_D A [(y, .inr (5, [.int (iI ln), .int (iI la), .ref yi])), (yi, aI (g.2.1 0) 40 it), (hd, .inr (8, dF d i)), ((d 12), aQ (g.2.1 4) 4 fsh)] := hD
    refine iv_if_eq (tgt := 25) hx hb dX8_sheet_16 (by decide) (by decide) (fun _ => ?_) (fun h => absurd h (by decide))
    refine lv_iconst (v := iI (-1)) hx hb dX8_sheet_25 rfl ?_
    exact Ct.iret hx hb hr hlocks (hP.sub [2, 3, 0, 1] rfl) (hD.sub [2, 3, 0, 1] (by decide) rfl) hS ⟨by decide, by decide⟩ dX8_sheet_26 ⟨(-1), ln, la, it, rfl, rfl, (by unfold sheetS; (repeat' split) <;> first | rfl | omega | (exfalso; omega)), (fun h => absurd h (by omega)), (fun _ => ⟨rfl, rfl, rfl⟩)⟩
abbrev q_X8_sheetB (g : GT) (hd : Nat) (d : Nat → Nat) (i : Nat → Int) (fsh : Nat → Option Nat) (x : Int) (lane : Int) (n : Int) : Option Value → va_W → Prop := fun v w => ∃ (r : Int), v = some (.int (iI r)) ∧ w = [(hd, .inr (8, dF d i)), ((d 12), aQ (g.2.1 4) 4 fsh)] ∧ (r = -1)
set_option maxHeartbeats 4000000 in
set_option maxRecDepth 100000 in
theorem c_X8_sheetB (l : Launch) (g : GT) (hd : Nat) (d : Nat → Nat) (i : Nat → Int) (fsh : Nat → Option Nat) (x : Int) (lane : Int) (n : Int) (h1 : ¬ (0 ≤ x ∧ x ≤ 3) ∧ (-2147483648 ≤ x ∧ x < 2147483648)) : Ct l g yX8_sheet wsX8_sheet ({ frames := 2, cells := 0, slots := 0, locals := 43 } : Room) [.ref hd, .int (iI x), .int (iI lane), .int (iI n)] [(hd, .inr (8, dF d i)), ((d 12), aQ (g.2.1 4) 4 fsh)] (q_X8_sheetB g hd d i fsh x lane n) := by
  refine Ct.intro (maxL := 5) (ret := (some .int)) (by decide) rfl (Nat.le_of_ble_eq_true rfl) ?_
  intro p e s m below meth c A ls hx hb hr hml hown hts hlocks hnm hA hG hP hD hS hl
  have hown : s.vm.findClass RX8 = some m.cls := hown
  have hl : lv_has ls 5 [(0, .ref hd), (1, .int (iI x)), (2, .int (iI lane)), (3, .int (iI n))] := hl
  have hP : va_P g.1 vwCl [(hd, .inr (8, dF d i)), ((d 12), aQ (g.2.1 4) 4 fsh)] s.heap := hP
  have hS : va_S A s.heap s.heap [] := hS
  obtain ⟨H, hHe⟩ : ∃ H : Heap, H = s.heap := ⟨_, rfl⟩
  obtain ⟨locs, hLe⟩ : ∃ L : List Loc, L = [] := ⟨_, rfl⟩
  have hP : va_P g.1 vwCl [(hd, .inr (8, dF d i)), ((d 12), aQ (g.2.1 4) 4 fsh)] H := by rw [hHe]; exact hP
  have hS : va_S A s.heap H locs := by rw [hHe, hLe]; exact hS
  suffices hgo : W p l e ({ frames := 2, cells := 0, slots := 0, locals := 43 } : Room) s m [.ref hd, .int (iI x), .int (iI lane), .int (iI n)].toArray below meth c H locs 0 0 (MQ below (CQ g (q_X8_sheetB g hd d i fsh x lane n) A) [.ref hd, .int (iI x), .int (iI lane), .int (iI n)].toArray s ({ frames := 2, cells := 0, slots := 0, locals := 43 } : Room).cells ({ frames := 2, cells := 0, slots := 0, locals := 43 } : Room).slots A) (F0 m 0 ls []) by rw [hHe, hLe] at hgo; exact hgo
  clear hHe hLe
  refine lv_aload_n hx hb dX8_sheet_0 rfl (lv_at hl 0 rfl) ?_
  refine lv_iload_n hx hb dX8_sheet_1 rfl (lv_at hl 1 rfl) ?_
  refine Ct.callV (ci := 8) (q0 := 0) (qc := (RX8, TX8, 13)) (As := [.int (iI x)]) (rest := []) (wr := []) (c1 := 0) (s1 := 0) ⟨hx, hb, hml, hown, hts⟩ (c_X8_sheetAtB l g hd d i fsh x (by omega)) rfl rfl (cwV 1 hts gX8_sheet_X8_sheetAt rfl rfl rfl (by decide +kernel) ⟨Nat.le_of_ble_eq_true rfl, Nat.le_of_ble_eq_true rfl⟩) hG hP hD hS hA [0, 1] [] rfl rfl (by decide) (by decide) (by decide) rfl hl.1 rfl (Nat.le_of_ble_eq_true rfl) dX8_sheet_2 ⟨Nat.le_of_ble_eq_true rfl, Nat.le_of_ble_eq_true rfl⟩ rfl rfl (fun v w H locs hv hP hD hS => ?_)
  obtain ⟨rfl, rfl⟩ := hv
  show W p l e _ s m _ below meth c H locs 0 0 _ (F0 m 5 ls (.null :: []))
  have hP : va_P g.1 vwCl [(hd, .inr (8, dF d i)), ((d 12), aQ (g.2.1 4) 4 fsh)] H := hP
  have hD : va_D A [(hd, .inr (8, dF d i)), ((d 12), aQ (g.2.1 4) 4 fsh)] := hD
  refine lv_astoreN (lv' := [(4, .null), (0, .ref hd), (1, .int (iI x)), (2, .int (iI lane)), (3, .int (iI n))]) hx hb dX8_sheet_5 hl (by decide) rfl (fun ls hl => ?_)
  refine lv_aloadN hx hb dX8_sheet_7 (lv_at hl 0 rfl) ?_
  refine lv_ifnullN (tgt := 25) hx hb dX8_sheet_9 (by decide) ?_
  refine lv_iconst (v := iI (-1)) hx hb dX8_sheet_25 rfl ?_
  exact Ct.iret hx hb hr hlocks (hP.sub [0, 1] rfl) (hD.sub [0, 1] (by decide) rfl) hS ⟨by decide, by decide⟩ dX8_sheet_26 ⟨(-1), rfl, rfl, (by omega)⟩
theorem kX8_drop_5 : ∀ w ∈ u_ws RX5 TX5 3, w ∈ wsX8_drop := fun _ h => List.mem_cons_of_mem _ (List.mem_append_left _ (List.mem_append_right _ h))
abbrev q_X8_drop (g : GT) (hd : Nat) (d : Nat → Nat) (i : Nat → Int) (fsh : Nat → Option Nat) (y : Nat) (yi : Nat) (ln : Int) (la : Int) (it : Nat → Int) (k : Nat) (x : Int) : Option Value → va_W → Prop := fun v w => ∃ (r : Int), ∃ (ln' : Int), v = some (.int (iI r)) ∧ w = [(hd, .inr (8, dF d i)), ((d 12), aQ (g.2.1 4) 4 fsh), (y, .inr (5, [.int (iI ln'), .int (iI la), .ref yi])), (yi, aI (g.2.1 0) 40 it)] ∧ (r = (if ln < 0 then -11 else ln)) ∧ (ln' = -1)
set_option maxHeartbeats 4000000 in
set_option maxRecDepth 100000 in
theorem c_X8_drop (l : Launch) (g : GT) (hd : Nat) (d : Nat → Nat) (i : Nat → Int) (fsh : Nat → Option Nat) (y : Nat) (yi : Nat) (ln : Int) (la : Int) (it : Nat → Int) (k : Nat) (x : Int) (h1 : x = (k : Int) ∧ k < 4) (h2 : fsh k = some y) (h3 : -1 ≤ ln ∧ ln ≤ 40 ∧ 0 ≤ la ∧ la ≤ 2) : Ct l g yX8_drop wsX8_drop ({ frames := 2, cells := 0, slots := 0, locals := 43 } : Room) [.ref hd, .int (iI x)] [(hd, .inr (8, dF d i)), ((d 12), aQ (g.2.1 4) 4 fsh), (y, .inr (5, [.int (iI ln), .int (iI la), .ref yi])), (yi, aI (g.2.1 0) 40 it)] (q_X8_drop g hd d i fsh y yi ln la it k x) := by
  refine Ct.intro (maxL := 4) (ret := (some .int)) (by decide) rfl (Nat.le_of_ble_eq_true rfl) ?_
  intro p e s m below meth c A ls hx hb hr hml hown hts hlocks hnm hA hG hP hD hS hl
  have hown : s.vm.findClass RX8 = some m.cls := hown
  have hl : lv_has ls 4 [(0, .ref hd), (1, .int (iI x))] := hl
  have hP : va_P g.1 vwCl [(hd, .inr (8, dF d i)), ((d 12), aQ (g.2.1 4) 4 fsh), (y, .inr (5, [.int (iI ln), .int (iI la), .ref yi])), (yi, aI (g.2.1 0) 40 it)] s.heap := hP
  have hS : va_S A s.heap s.heap [] := hS
  obtain ⟨H, hHe⟩ : ∃ H : Heap, H = s.heap := ⟨_, rfl⟩
  obtain ⟨locs, hLe⟩ : ∃ L : List Loc, L = [] := ⟨_, rfl⟩
  have hP : va_P g.1 vwCl [(hd, .inr (8, dF d i)), ((d 12), aQ (g.2.1 4) 4 fsh), (y, .inr (5, [.int (iI ln), .int (iI la), .ref yi])), (yi, aI (g.2.1 0) 40 it)] H := by rw [hHe]; exact hP
  have hS : va_S A s.heap H locs := by rw [hHe, hLe]; exact hS
  suffices hgo : W p l e ({ frames := 2, cells := 0, slots := 0, locals := 43 } : Room) s m [.ref hd, .int (iI x)].toArray below meth c H locs 0 0 (MQ below (CQ g (q_X8_drop g hd d i fsh y yi ln la it k x) A) [.ref hd, .int (iI x)].toArray s ({ frames := 2, cells := 0, slots := 0, locals := 43 } : Room).cells ({ frames := 2, cells := 0, slots := 0, locals := 43 } : Room).slots A) (F0 m 0 ls []) by rw [hHe, hLe] at hgo; exact hgo
  clear hHe hLe
  refine lv_aload_n hx hb dX8_drop_0 rfl (lv_at hl 0 rfl) ?_
  refine lv_iload_n hx hb dX8_drop_1 rfl (lv_at hl 1 rfl) ?_
  refine Ct.callV (ci := 8) (q0 := 0) (qc := (RX8, TX8, 13)) (As := [.int (iI x)]) (rest := []) (wr := [(y, .inr (5, [.int (iI ln), .int (iI la), .ref yi])), (yi, aI (g.2.1 0) 40 it)]) (c1 := 0) (s1 := 0) ⟨hx, hb, hml, hown, hts⟩ (c_X8_sheetAt l g hd d i fsh x k y (by omega) (h2)) rfl rfl (cwV 1 hts gX8_drop_X8_sheetAt rfl rfl rfl (by decide +kernel) ⟨Nat.le_of_ble_eq_true rfl, Nat.le_of_ble_eq_true rfl⟩) hG hP hD hS hA [0, 1] [2, 3] rfl rfl (by decide) (by decide) (by decide) rfl hl.1 rfl (Nat.le_of_ble_eq_true rfl) dX8_drop_2 ⟨Nat.le_of_ble_eq_true rfl, Nat.le_of_ble_eq_true rfl⟩ rfl rfl (fun v w H locs hv hP hD hS => ?_)
  obtain ⟨rfl, rfl⟩ := hv
  show W p l e _ s m _ below meth c H locs 0 0 _ (F0 m 5 ls (.ref y :: []))
  have hP : va_P g.1 vwCl [(y, .inr (5, [.int (iI ln), .int (iI la), .ref yi])), (yi, aI (g.2.1 0) 40 it), (hd, .inr (8, dF d i)), ((d 12), aQ (g.2.1 4) 4 fsh)] H := hP
  have hD : va_D A [(y, .inr (5, [.int (iI ln), .int (iI la), .ref yi])), (yi, aI (g.2.1 0) 40 it), (hd, .inr (8, dF d i)), ((d 12), aQ (g.2.1 4) 4 fsh)] := hD
  refine lv_astore_n (lv' := [(2, .ref y), (0, .ref hd), (1, .int (iI x))]) hx hb dX8_drop_5 rfl hl (by decide) rfl (fun ls hl => ?_)
  refine lv_aload_n hx hb dX8_drop_6 rfl (lv_at hl 0 rfl) ?_
  refine lv_ifnonnull (tgt := 12) hx hb dX8_drop_7 (by decide) ?_
  refine lv_aload_n hx hb dX8_drop_12 rfl (lv_at hl 0 rfl) ?_
  refine Ct.callV (ci := 5) (q0 := 0) (qc := (RX5, TX5, 3)) (As := []) (rest := []) (wr := [(hd, .inr (8, dF d i)), ((d 12), aQ (g.2.1 4) 4 fsh)]) (c1 := 0) (s1 := 0) ⟨hx, hb, hml, hown, hts⟩ (c_X5_isMissing l g y yi ln la it (by omega)) rfl rfl (cwV 0 hts gX8_drop_X5_isMissing rfl rfl rfl (by decide +kernel) ⟨Nat.le_of_ble_eq_true rfl, Nat.le_of_ble_eq_true rfl⟩) hG hP hD hS hA [0, 1] [2, 3] rfl rfl (by decide) (by decide) (by decide) rfl hl.1 rfl (Nat.le_of_ble_eq_true rfl) dX8_drop_13 ⟨Nat.le_of_ble_eq_true rfl, Nat.le_of_ble_eq_true rfl⟩ rfl rfl (fun v w H locs hv hP hD hS => ?_)
  obtain ⟨⟨rfl, hb1⟩ | ⟨rfl, hb1⟩, rfl⟩ := hv
  · show W p l e _ s m _ below meth c H locs 0 0 _ (F0 m 16 ls (.int (iI 1) :: []))
    have hb1 : ln < 0 := hb1
    have hP : va_P g.1 vwCl [(hd, .inr (8, dF d i)), ((d 12), aQ (g.2.1 4) 4 fsh), (y, .inr (5, [.int (iI ln), .int (iI la), .ref yi])), (yi, aI (g.2.1 0) 40 it)] H := hP
    have hD : va_D A [(hd, .inr (8, dF d i)), ((d 12), aQ (g.2.1 4) 4 fsh), (y, .inr (5, [.int (iI ln), .int (iI la), .ref yi])), (yi, aI (g.2.1 0) 40 it)] := hD
    refine iv_if_eq (tgt := 22) hx hb dX8_drop_16 (by decide) (by decide) (fun h => absurd h (by decide)) (fun _ => ?_)
    refine lv_bipush (v := iI (-11)) hx hb dX8_drop_19 (by decide) ?_
    exact Ct.iret hx hb hr hlocks (hP.sub [0, 1, 2, 3] rfl) (hD.sub [0, 1, 2, 3] (by decide) rfl) hS ⟨by decide, by decide⟩ dX8_drop_21 ⟨(-11), ln, rfl, rfl, (by split <;> omega), (by omega)⟩
  · show W p l e _ s m _ below meth c H locs 0 0 _ (F0 m 16 ls (.int (iI 0) :: []))
    have hb1 : ¬ (ln < 0) := hb1
    have hP : va_P g.1 vwCl [(hd, .inr (8, dF d i)), ((d 12), aQ (g.2.1 4) 4 fsh), (y, .inr (5, [.int (iI ln), .int (iI la), .ref yi])), (yi, aI (g.2.1 0) 40 it)] H := hP
    have hD : va_D A [(hd, .inr (8, dF d i)), ((d 12), aQ (g.2.1 4) 4 fsh), (y, .inr (5, [.int (iI ln), .int (iI la), .ref yi])), (yi, aI (g.2.1 0) 40 it)] := hD
    refine iv_if_eq (tgt := 22) hx hb dX8_drop_16 (by decide) (by decide) (fun _ => ?_) (fun h => absurd h (by decide))
    refine lv_aload_n hx hb dX8_drop_22 rfl (lv_at hl 0 rfl) ?_
    refine va_get (D := g.1) (ci := 5) (v := .int (iI ln)) hx hb hts kX8_drop_5 hown hG.1 hP 2 rfl rfl 0 (by decide) (hts _ (List.mem_of_getElem? (i := 1) rfl)) (fun _ h9 => h9) rfl dX8_drop_23 ?_
    refine lv_istore_n (lv' := [(3, .int (iI ln)), (2, .ref y), (0, .ref hd), (1, .int (iI x))]) hx hb dX8_drop_26 rfl hl (by decide) rfl (fun ls hl => ?_)
    refine lv_aload_n hx hb dX8_drop_27 rfl (lv_at hl 1 rfl) ?_
    refine lv_iconst (v := iI (-1)) hx hb dX8_drop_28 rfl ?_
    refine va_put (D := g.1) (ci := 5) (v := .int (iI (-1))) hx hb hts kX8_drop_5 tyX5 tyX5_ok nmX5 hown hG.1 hP hD hS 2 rfl rfl 0 (by decide) (hts _ (List.mem_of_getElem? (i := 1) rfl)) (fun _ h9 => h9) rfl (tyX5_ok 0 (by decide)) rfl rfl (Nat.le_of_ble_eq_true rfl) dX8_drop_29 (fun H locs hP hD hS => ?_)
    have hP : va_P g.1 vwCl [(hd, .inr (8, dF d i)), ((d 12), aQ (g.2.1 4) 4 fsh), (y, .inr (5, [.int (iI (-1)), .int (iI la), .ref yi])), (yi, aI (g.2.1 0) 40 it)] H := hP
    have hD : va_D A [(hd, .inr (8, dF d i)), ((d 12), aQ (g.2.1 4) 4 fsh), (y, .inr (5, [.int (iI (-1)), .int (iI la), .ref yi])), (yi, aI (g.2.1 0) 40 it)] := hD
    refine lv_iload_n hx hb dX8_drop_32 rfl (lv_at hl 0 rfl) ?_
    exact Ct.iret hx hb hr hlocks (hP.sub [0, 1, 2, 3] rfl) (hD.sub [0, 1, 2, 3] (by decide) rfl) hS ⟨by decide, by decide⟩ dX8_drop_33 ⟨ln, (-1), rfl, rfl, (by split <;> omega), (by omega)⟩
abbrev q_X8_dropB (g : GT) (hd : Nat) (d : Nat → Nat) (i : Nat → Int) (fsh : Nat → Option Nat) (x : Int) : Option Value → va_W → Prop := fun v w => ∃ (r : Int), v = some (.int (iI r)) ∧ w = [(hd, .inr (8, dF d i)), ((d 12), aQ (g.2.1 4) 4 fsh)] ∧ (r = -1)
set_option maxHeartbeats 4000000 in
set_option maxRecDepth 100000 in
theorem c_X8_dropB (l : Launch) (g : GT) (hd : Nat) (d : Nat → Nat) (i : Nat → Int) (fsh : Nat → Option Nat) (x : Int) (h1 : ¬ (0 ≤ x ∧ x ≤ 3) ∧ (-2147483648 ≤ x ∧ x < 2147483648)) : Ct l g yX8_drop wsX8_drop ({ frames := 2, cells := 0, slots := 0, locals := 43 } : Room) [.ref hd, .int (iI x)] [(hd, .inr (8, dF d i)), ((d 12), aQ (g.2.1 4) 4 fsh)] (q_X8_dropB g hd d i fsh x) := by
  refine Ct.intro (maxL := 4) (ret := (some .int)) (by decide) rfl (Nat.le_of_ble_eq_true rfl) ?_
  intro p e s m below meth c A ls hx hb hr hml hown hts hlocks hnm hA hG hP hD hS hl
  have hown : s.vm.findClass RX8 = some m.cls := hown
  have hl : lv_has ls 4 [(0, .ref hd), (1, .int (iI x))] := hl
  have hP : va_P g.1 vwCl [(hd, .inr (8, dF d i)), ((d 12), aQ (g.2.1 4) 4 fsh)] s.heap := hP
  have hS : va_S A s.heap s.heap [] := hS
  obtain ⟨H, hHe⟩ : ∃ H : Heap, H = s.heap := ⟨_, rfl⟩
  obtain ⟨locs, hLe⟩ : ∃ L : List Loc, L = [] := ⟨_, rfl⟩
  have hP : va_P g.1 vwCl [(hd, .inr (8, dF d i)), ((d 12), aQ (g.2.1 4) 4 fsh)] H := by rw [hHe]; exact hP
  have hS : va_S A s.heap H locs := by rw [hHe, hLe]; exact hS
  suffices hgo : W p l e ({ frames := 2, cells := 0, slots := 0, locals := 43 } : Room) s m [.ref hd, .int (iI x)].toArray below meth c H locs 0 0 (MQ below (CQ g (q_X8_dropB g hd d i fsh x) A) [.ref hd, .int (iI x)].toArray s ({ frames := 2, cells := 0, slots := 0, locals := 43 } : Room).cells ({ frames := 2, cells := 0, slots := 0, locals := 43 } : Room).slots A) (F0 m 0 ls []) by rw [hHe, hLe] at hgo; exact hgo
  clear hHe hLe
  refine lv_aload_n hx hb dX8_drop_0 rfl (lv_at hl 0 rfl) ?_
  refine lv_iload_n hx hb dX8_drop_1 rfl (lv_at hl 1 rfl) ?_
  refine Ct.callV (ci := 8) (q0 := 0) (qc := (RX8, TX8, 13)) (As := [.int (iI x)]) (rest := []) (wr := []) (c1 := 0) (s1 := 0) ⟨hx, hb, hml, hown, hts⟩ (c_X8_sheetAtB l g hd d i fsh x (by omega)) rfl rfl (cwV 1 hts gX8_drop_X8_sheetAt rfl rfl rfl (by decide +kernel) ⟨Nat.le_of_ble_eq_true rfl, Nat.le_of_ble_eq_true rfl⟩) hG hP hD hS hA [0, 1] [] rfl rfl (by decide) (by decide) (by decide) rfl hl.1 rfl (Nat.le_of_ble_eq_true rfl) dX8_drop_2 ⟨Nat.le_of_ble_eq_true rfl, Nat.le_of_ble_eq_true rfl⟩ rfl rfl (fun v w H locs hv hP hD hS => ?_)
  obtain ⟨rfl, rfl⟩ := hv
  show W p l e _ s m _ below meth c H locs 0 0 _ (F0 m 5 ls (.null :: []))
  have hP : va_P g.1 vwCl [(hd, .inr (8, dF d i)), ((d 12), aQ (g.2.1 4) 4 fsh)] H := hP
  have hD : va_D A [(hd, .inr (8, dF d i)), ((d 12), aQ (g.2.1 4) 4 fsh)] := hD
  refine lv_astore_nN (lv' := [(2, .null), (0, .ref hd), (1, .int (iI x))]) hx hb dX8_drop_5 rfl hl (by decide) rfl (fun ls hl => ?_)
  refine lv_aload_nN hx hb dX8_drop_6 rfl (lv_at hl 0 rfl) ?_
  refine lv_ifnonnullN hx hb dX8_drop_7 ?_
  refine lv_iconst (v := iI (-1)) hx hb dX8_drop_10 rfl ?_
  exact Ct.iret hx hb hr hlocks (hP.sub [0, 1] rfl) (hD.sub [0, 1] (by decide) rfl) hS ⟨by decide, by decide⟩ dX8_drop_11 ⟨(-1), rfl, rfl, (by omega)⟩
abbrev q_X8_item (g : GT) (hd : Nat) (d : Nat → Nat) (i : Nat → Int) (fsh : Nat → Option Nat) (y : Nat) (yi : Nat) (ln : Int) (la : Int) (it : Nat → Int) (k : Nat) (x : Int) (lane : Int) (x2 : Int) (v_ : Int) : Option Value → va_W → Prop := fun v w => ∃ (r : Int), ∃ (it' : Nat → Int), v = some (.int (iI r)) ∧ w = [(hd, .inr (8, dF d i)), ((d 12), aQ (g.2.1 4) 4 fsh), (y, .inr (5, [.int (iI ln), .int (iI la), .ref yi])), (yi, aI (g.2.1 0) 40 it')] ∧ (r = (if ¬ (0 ≤ lane ∧ lane ≤ 2) then -1 else if refS ln la lane x2 1 < 0 then refS ln la lane x2 1 else 1)) ∧ (r = 1 → it' = va_up it x2.toNat (cutS la v_)) ∧ (r < 0 → it' = it)
set_option maxHeartbeats 4000000 in
set_option maxRecDepth 100000 in
theorem c_X8_item (l : Launch) (g : GT) (hd : Nat) (d : Nat → Nat) (i : Nat → Int) (fsh : Nat → Option Nat) (y : Nat) (yi : Nat) (ln : Int) (la : Int) (it : Nat → Int) (k : Nat) (x : Int) (lane : Int) (x2 : Int) (v_ : Int) (h1 : x = (k : Int) ∧ k < 4) (h2 : fsh k = some y) (h3 : -1 ≤ ln ∧ ln ≤ 40 ∧ 0 ≤ la ∧ la ≤ 2) (h4 : (-2147483648 ≤ lane ∧ lane < 2147483648) ∧ (-2147483648 ≤ x2 ∧ x2 < 2147483648) ∧ (-2147483648 ≤ v_ ∧ v_ < 2147483648)) : Ct l g yX8_item wsX8_item ({ frames := 2, cells := 0, slots := 0, locals := 45 } : Room) [.ref hd, .int (iI x), .int (iI lane), .int (iI x2), .int (iI v_)] [(hd, .inr (8, dF d i)), ((d 12), aQ (g.2.1 4) 4 fsh), (y, .inr (5, [.int (iI ln), .int (iI la), .ref yi])), (yi, aI (g.2.1 0) 40 it)] (q_X8_item g hd d i fsh y yi ln la it k x lane x2 v_) := by
  refine Ct.intro (maxL := 7) (ret := (some .int)) (by decide) rfl (Nat.le_of_ble_eq_true rfl) ?_
  intro p e s m below meth c A ls hx hb hr hml hown hts hlocks hnm hA hG hP hD hS hl
  have hown : s.vm.findClass RX8 = some m.cls := hown
  have hl : lv_has ls 7 [(0, .ref hd), (1, .int (iI x)), (2, .int (iI lane)), (3, .int (iI x2)), (4, .int (iI v_))] := hl
  have hP : va_P g.1 vwCl [(hd, .inr (8, dF d i)), ((d 12), aQ (g.2.1 4) 4 fsh), (y, .inr (5, [.int (iI ln), .int (iI la), .ref yi])), (yi, aI (g.2.1 0) 40 it)] s.heap := hP
  have hS : va_S A s.heap s.heap [] := hS
  obtain ⟨H, hHe⟩ : ∃ H : Heap, H = s.heap := ⟨_, rfl⟩
  obtain ⟨locs, hLe⟩ : ∃ L : List Loc, L = [] := ⟨_, rfl⟩
  have hP : va_P g.1 vwCl [(hd, .inr (8, dF d i)), ((d 12), aQ (g.2.1 4) 4 fsh), (y, .inr (5, [.int (iI ln), .int (iI la), .ref yi])), (yi, aI (g.2.1 0) 40 it)] H := by rw [hHe]; exact hP
  have hS : va_S A s.heap H locs := by rw [hHe, hLe]; exact hS
  suffices hgo : W p l e ({ frames := 2, cells := 0, slots := 0, locals := 45 } : Room) s m [.ref hd, .int (iI x), .int (iI lane), .int (iI x2), .int (iI v_)].toArray below meth c H locs 0 0 (MQ below (CQ g (q_X8_item g hd d i fsh y yi ln la it k x lane x2 v_) A) [.ref hd, .int (iI x), .int (iI lane), .int (iI x2), .int (iI v_)].toArray s ({ frames := 2, cells := 0, slots := 0, locals := 45 } : Room).cells ({ frames := 2, cells := 0, slots := 0, locals := 45 } : Room).slots A) (F0 m 0 ls []) by rw [hHe, hLe] at hgo; exact hgo
  clear hHe hLe
  refine lv_aload_n hx hb dX8_item_0 rfl (lv_at hl 0 rfl) ?_
  refine lv_iload_n hx hb dX8_item_1 rfl (lv_at hl 1 rfl) ?_
  refine Ct.callV (ci := 8) (q0 := 0) (qc := (RX8, TX8, 13)) (As := [.int (iI x)]) (rest := []) (wr := [(y, .inr (5, [.int (iI ln), .int (iI la), .ref yi])), (yi, aI (g.2.1 0) 40 it)]) (c1 := 0) (s1 := 0) ⟨hx, hb, hml, hown, hts⟩ (c_X8_sheetAt l g hd d i fsh x k y (by omega) (h2)) rfl rfl (cwV 1 hts gX8_item_X8_sheetAt rfl rfl rfl (by decide +kernel) ⟨Nat.le_of_ble_eq_true rfl, Nat.le_of_ble_eq_true rfl⟩) hG hP hD hS hA [0, 1] [2, 3] rfl rfl (by decide) (by decide) (by decide) rfl hl.1 rfl (Nat.le_of_ble_eq_true rfl) dX8_item_2 ⟨Nat.le_of_ble_eq_true rfl, Nat.le_of_ble_eq_true rfl⟩ rfl rfl (fun v w H locs hv hP hD hS => ?_)
  obtain ⟨rfl, rfl⟩ := hv
  show W p l e _ s m _ below meth c H locs 0 0 _ (F0 m 5 ls (.ref y :: []))
  have hP : va_P g.1 vwCl [(y, .inr (5, [.int (iI ln), .int (iI la), .ref yi])), (yi, aI (g.2.1 0) 40 it), (hd, .inr (8, dF d i)), ((d 12), aQ (g.2.1 4) 4 fsh)] H := hP
  have hD : va_D A [(y, .inr (5, [.int (iI ln), .int (iI la), .ref yi])), (yi, aI (g.2.1 0) 40 it), (hd, .inr (8, dF d i)), ((d 12), aQ (g.2.1 4) 4 fsh)] := hD
  refine lv_astore (lv' := [(5, .ref y), (0, .ref hd), (1, .int (iI x)), (2, .int (iI lane)), (3, .int (iI x2)), (4, .int (iI v_))]) hx hb dX8_item_5 hl (by decide) rfl (fun ls hl => ?_)
  refine lv_aload hx hb dX8_item_7 (lv_at hl 0 rfl) ?_
  refine lv_ifnull hx hb dX8_item_9 ?_
  refine lv_iload_n hx hb dX8_item_12 rfl (lv_at hl 3 rfl) ?_
  refine Ct.callS (As := [.int (iI lane)]) (rest := []) (wr := [(y, .inr (5, [.int (iI ln), .int (iI la), .ref yi])), (yi, aI (g.2.1 0) 40 it), (hd, .inr (8, dF d i)), ((d 12), aQ (g.2.1 4) 4 fsh)]) (c1 := 0) (s1 := 0) ⟨hx, hb, hml, hown, hts⟩ (c_X8_isLane l g lane (by omega)) (va_cwS 1 hts gX8_item_X8_isLane rfl rfl rfl (by decide +kernel) ⟨Nat.le_of_ble_eq_true rfl, Nat.le_of_ble_eq_true rfl⟩) hG hP hD hS hA [] [0, 1, 2, 3] rfl rfl (by decide) (by decide) (by decide) rfl hl.1 rfl (Nat.le_of_ble_eq_true rfl) dX8_item_13 ⟨Nat.le_of_ble_eq_true rfl, Nat.le_of_ble_eq_true rfl⟩ rfl rfl (fun v w H locs hv hP hD hS => ?_)
  obtain ⟨⟨rfl, hb1⟩ | ⟨rfl, hb1⟩, rfl⟩ := hv
  · show W p l e _ s m _ below meth c H locs 0 0 _ (F0 m 16 ls (.int (iI 1) :: []))
    have hb1 : 0 ≤ lane ∧ lane ≤ 2 := hb1
    have hP : va_P g.1 vwCl [(y, .inr (5, [.int (iI ln), .int (iI la), .ref yi])), (yi, aI (g.2.1 0) 40 it), (hd, .inr (8, dF d i)), ((d 12), aQ (g.2.1 4) 4 fsh)] H := hP
    have hD : va_D A [(y, .inr (5, [.int (iI ln), .int (iI la), .ref yi])), (yi, aI (g.2.1 0) 40 it), (hd, .inr (8, dF d i)), ((d 12), aQ (g.2.1 4) 4 fsh)] := hD
    refine iv_if_ne (tgt := 21) hx hb dX8_item_16 (by decide) (by decide) (fun _ => ?_) (fun h => absurd h (by decide))
    refine lv_aload hx hb dX8_item_21 (lv_at hl 0 rfl) ?_
    refine lv_iload_n hx hb dX8_item_23 rfl (lv_at hl 3 rfl) ?_
    refine lv_iload_n hx hb dX8_item_24 rfl (lv_at hl 4 rfl) ?_
    refine lv_iconst (v := iI (1)) hx hb dX8_item_25 rfl ?_
    refine Ct.callV (ci := 5) (q0 := 0) (qc := (RX5, TX5, 3)) (As := [.int (iI lane), .int (iI x2), .int (iI 1)]) (rest := []) (wr := [(hd, .inr (8, dF d i)), ((d 12), aQ (g.2.1 4) 4 fsh)]) (c1 := 0) (s1 := 0) ⟨hx, hb, hml, hown, hts⟩ (c_X5_refusal l g y yi ln la it lane x2 1 (by omega)) rfl rfl (cwV 3 hts gX8_item_X5_refusal rfl rfl rfl (by decide +kernel) ⟨Nat.le_of_ble_eq_true rfl, Nat.le_of_ble_eq_true rfl⟩) hG hP hD hS hA [0, 1] [2, 3] rfl rfl (by decide) (by decide) (by decide) rfl hl.1 rfl (Nat.le_of_ble_eq_true rfl) dX8_item_26 ⟨Nat.le_of_ble_eq_true rfl, Nat.le_of_ble_eq_true rfl⟩ rfl rfl (fun v w H locs hv hP hD hS => ?_)
    obtain ⟨r3, rfl, rfl, hf4⟩ := hv
    show W p l e _ s m _ below meth c H locs 0 0 _ (F0 m 29 ls (.int (iI r3) :: []))
    have hP : va_P g.1 vwCl [(hd, .inr (8, dF d i)), ((d 12), aQ (g.2.1 4) 4 fsh), (y, .inr (5, [.int (iI ln), .int (iI la), .ref yi])), (yi, aI (g.2.1 0) 40 it)] H := hP
    have hD : va_D A [(hd, .inr (8, dF d i)), ((d 12), aQ (g.2.1 4) 4 fsh), (y, .inr (5, [.int (iI ln), .int (iI la), .ref yi])), (yi, aI (g.2.1 0) 40 it)] := hD
    have hf4 : r3 = refS ln la lane x2 1 := hf4
    have hrf : refS ln la lane x2 1 = -11 ∨ refS ln la lane x2 1 = -12 ∨ refS ln la lane x2 1 = -13 ∨ (refS ln la lane x2 1 = 0 ∧ 0 ≤ x2 ∧ x2 < ln) := by unfold refS; (repeat' split) <;> omega
    refine lv_istore (lv' := [(6, .int (iI r3)), (5, .ref y), (0, .ref hd), (1, .int (iI x)), (2, .int (iI lane)), (3, .int (iI x2)), (4, .int (iI v_))]) hx hb dX8_item_29 hl (by decide) rfl (fun ls hl => ?_)
    refine lv_iload hx hb dX8_item_31 (lv_at hl 0 rfl) ?_
    refine iv_if_ge (tgt := 39) hx hb dX8_item_33 (by decide) (by omega) (fun hc5 => ?_) (fun hc5 => ?_)
    · refine lv_aload hx hb dX8_item_39 (lv_at hl 1 rfl) ?_
      refine lv_iload_n hx hb dX8_item_41 rfl (lv_at hl 5 rfl) ?_
      refine lv_iload hx hb dX8_item_42 (lv_at hl 6 rfl) ?_
      refine Ct.callV (ci := 5) (q0 := 2) (qc := (RX5, TX5, 3)) (As := [.int (iI x2), .int (iI v_)]) (rest := []) (wr := [(hd, .inr (8, dF d i)), ((d 12), aQ (g.2.1 4) 4 fsh)]) (c1 := 0) (s1 := 0) ⟨hx, hb, hml, hown, hts⟩ (c_X5_write l g y yi ln la it x2 v_ (by omega)) rfl rfl (cwV 2 hts gX8_item_X5_write rfl rfl rfl (by decide +kernel) ⟨Nat.le_of_ble_eq_true rfl, Nat.le_of_ble_eq_true rfl⟩) hG hP hD hS hA [2, 3] [0, 1] rfl rfl (by decide) (by decide) (by decide) rfl hl.1 rfl (Nat.le_of_ble_eq_true rfl) dX8_item_44 ⟨Nat.le_of_ble_eq_true rfl, Nat.le_of_ble_eq_true rfl⟩ rfl rfl (fun v w H locs hv hP hD hS => ?_)
      obtain ⟨it6, rfl, rfl, hf7⟩ := hv
      show W p l e _ s m _ below meth c H locs 0 0 _ (F0 m 47 ls [])
      have hP : va_P g.1 vwCl [(hd, .inr (8, dF d i)), ((d 12), aQ (g.2.1 4) 4 fsh), (y, .inr (5, [.int (iI ln), .int (iI la), .ref yi])), (yi, aI (g.2.1 0) 40 it6)] H := hP
      have hD : va_D A [(hd, .inr (8, dF d i)), ((d 12), aQ (g.2.1 4) 4 fsh), (y, .inr (5, [.int (iI ln), .int (iI la), .ref yi])), (yi, aI (g.2.1 0) 40 it6)] := hD
      have hf7 : it6 = va_up it x2.toNat (cutS la v_) := hf7
      refine lv_iconst (v := iI (1)) hx hb dX8_item_47 rfl ?_
      exact Ct.iret hx hb hr hlocks (hP.sub [0, 1, 2, 3] rfl) (hD.sub [0, 1, 2, 3] (by decide) rfl) hS ⟨by decide, by decide⟩ dX8_item_48 ⟨1, it6, rfl, rfl, (by rw [if_neg (by omega), if_neg (by omega)]), (fun _ => by assumption), (fun h => absurd h (by omega))⟩
    · refine lv_iload hx hb dX8_item_36 (lv_at hl 0 rfl) ?_
      exact Ct.iret hx hb hr hlocks (hP.sub [0, 1, 2, 3] rfl) (hD.sub [0, 1, 2, 3] (by decide) rfl) hS ⟨by decide, by decide⟩ dX8_item_38 ⟨r3, it, rfl, rfl, (by rw [if_neg (by omega), if_pos (by omega)]; assumption), (fun h => absurd h (by omega)), (fun _ => rfl)⟩
  · show W p l e _ s m _ below meth c H locs 0 0 _ (F0 m 16 ls (.int (iI 0) :: []))
    have hb1 : ¬ (0 ≤ lane ∧ lane ≤ 2) := hb1
    have hP : va_P g.1 vwCl [(y, .inr (5, [.int (iI ln), .int (iI la), .ref yi])), (yi, aI (g.2.1 0) 40 it), (hd, .inr (8, dF d i)), ((d 12), aQ (g.2.1 4) 4 fsh)] H := hP
    have hD : va_D A [(y, .inr (5, [.int (iI ln), .int (iI la), .ref yi])), (yi, aI (g.2.1 0) 40 it), (hd, .inr (8, dF d i)), ((d 12), aQ (g.2.1 4) 4 fsh)] := hD
    refine iv_if_ne (tgt := 21) hx hb dX8_item_16 (by decide) (by decide) (fun h => absurd h (by decide)) (fun _ => ?_)
    refine lv_iconst (v := iI (-1)) hx hb dX8_item_19 rfl ?_
    exact Ct.iret hx hb hr hlocks (hP.sub [2, 3, 0, 1] rfl) (hD.sub [2, 3, 0, 1] (by decide) rfl) hS ⟨by decide, by decide⟩ dX8_item_20 ⟨(-1), it, rfl, rfl, (by rw [if_pos (by omega)]), (fun h => absurd h (by omega)), (fun _ => rfl)⟩
abbrev q_X8_itemB (g : GT) (hd : Nat) (d : Nat → Nat) (i : Nat → Int) (fsh : Nat → Option Nat) (x : Int) (lane : Int) (x2 : Int) (v_ : Int) : Option Value → va_W → Prop := fun v w => ∃ (r : Int), v = some (.int (iI r)) ∧ w = [(hd, .inr (8, dF d i)), ((d 12), aQ (g.2.1 4) 4 fsh)] ∧ (r = -1)
set_option maxHeartbeats 4000000 in
set_option maxRecDepth 100000 in
theorem c_X8_itemB (l : Launch) (g : GT) (hd : Nat) (d : Nat → Nat) (i : Nat → Int) (fsh : Nat → Option Nat) (x : Int) (lane : Int) (x2 : Int) (v_ : Int) (h1 : ¬ (0 ≤ x ∧ x ≤ 3) ∧ (-2147483648 ≤ x ∧ x < 2147483648)) : Ct l g yX8_item wsX8_item ({ frames := 2, cells := 0, slots := 0, locals := 45 } : Room) [.ref hd, .int (iI x), .int (iI lane), .int (iI x2), .int (iI v_)] [(hd, .inr (8, dF d i)), ((d 12), aQ (g.2.1 4) 4 fsh)] (q_X8_itemB g hd d i fsh x lane x2 v_) := by
  refine Ct.intro (maxL := 7) (ret := (some .int)) (by decide) rfl (Nat.le_of_ble_eq_true rfl) ?_
  intro p e s m below meth c A ls hx hb hr hml hown hts hlocks hnm hA hG hP hD hS hl
  have hown : s.vm.findClass RX8 = some m.cls := hown
  have hl : lv_has ls 7 [(0, .ref hd), (1, .int (iI x)), (2, .int (iI lane)), (3, .int (iI x2)), (4, .int (iI v_))] := hl
  have hP : va_P g.1 vwCl [(hd, .inr (8, dF d i)), ((d 12), aQ (g.2.1 4) 4 fsh)] s.heap := hP
  have hS : va_S A s.heap s.heap [] := hS
  obtain ⟨H, hHe⟩ : ∃ H : Heap, H = s.heap := ⟨_, rfl⟩
  obtain ⟨locs, hLe⟩ : ∃ L : List Loc, L = [] := ⟨_, rfl⟩
  have hP : va_P g.1 vwCl [(hd, .inr (8, dF d i)), ((d 12), aQ (g.2.1 4) 4 fsh)] H := by rw [hHe]; exact hP
  have hS : va_S A s.heap H locs := by rw [hHe, hLe]; exact hS
  suffices hgo : W p l e ({ frames := 2, cells := 0, slots := 0, locals := 45 } : Room) s m [.ref hd, .int (iI x), .int (iI lane), .int (iI x2), .int (iI v_)].toArray below meth c H locs 0 0 (MQ below (CQ g (q_X8_itemB g hd d i fsh x lane x2 v_) A) [.ref hd, .int (iI x), .int (iI lane), .int (iI x2), .int (iI v_)].toArray s ({ frames := 2, cells := 0, slots := 0, locals := 45 } : Room).cells ({ frames := 2, cells := 0, slots := 0, locals := 45 } : Room).slots A) (F0 m 0 ls []) by rw [hHe, hLe] at hgo; exact hgo
  clear hHe hLe
  refine lv_aload_n hx hb dX8_item_0 rfl (lv_at hl 0 rfl) ?_
  refine lv_iload_n hx hb dX8_item_1 rfl (lv_at hl 1 rfl) ?_
  refine Ct.callV (ci := 8) (q0 := 0) (qc := (RX8, TX8, 13)) (As := [.int (iI x)]) (rest := []) (wr := []) (c1 := 0) (s1 := 0) ⟨hx, hb, hml, hown, hts⟩ (c_X8_sheetAtB l g hd d i fsh x (by omega)) rfl rfl (cwV 1 hts gX8_item_X8_sheetAt rfl rfl rfl (by decide +kernel) ⟨Nat.le_of_ble_eq_true rfl, Nat.le_of_ble_eq_true rfl⟩) hG hP hD hS hA [0, 1] [] rfl rfl (by decide) (by decide) (by decide) rfl hl.1 rfl (Nat.le_of_ble_eq_true rfl) dX8_item_2 ⟨Nat.le_of_ble_eq_true rfl, Nat.le_of_ble_eq_true rfl⟩ rfl rfl (fun v w H locs hv hP hD hS => ?_)
  obtain ⟨rfl, rfl⟩ := hv
  show W p l e _ s m _ below meth c H locs 0 0 _ (F0 m 5 ls (.null :: []))
  have hP : va_P g.1 vwCl [(hd, .inr (8, dF d i)), ((d 12), aQ (g.2.1 4) 4 fsh)] H := hP
  have hD : va_D A [(hd, .inr (8, dF d i)), ((d 12), aQ (g.2.1 4) 4 fsh)] := hD
  refine lv_astoreN (lv' := [(5, .null), (0, .ref hd), (1, .int (iI x)), (2, .int (iI lane)), (3, .int (iI x2)), (4, .int (iI v_))]) hx hb dX8_item_5 hl (by decide) rfl (fun ls hl => ?_)
  refine lv_aloadN hx hb dX8_item_7 (lv_at hl 0 rfl) ?_
  refine lv_ifnullN (tgt := 19) hx hb dX8_item_9 (by decide) ?_
  refine lv_iconst (v := iI (-1)) hx hb dX8_item_19 rfl ?_
  exact Ct.iret hx hb hr hlocks (hP.sub [0, 1] rfl) (hD.sub [0, 1] (by decide) rfl) hS ⟨by decide, by decide⟩ dX8_item_20 ⟨(-1), rfl, rfl, (by omega)⟩
