theorem kX9_finds_9 : ∀ w ∈ u_ws RX9 TX9 37, w ∈ wsX9_finds := fun _ h => List.mem_cons_of_mem _ (List.mem_append_right _ h)
abbrev q_X9_finds (g : GT) (hm : Nat) (a : Nat → Nat) (i : Nat → Int) (fl : Nat → Int) (fz : Nat → Int) (x : Int) (lane : Int) (x2 : Int) (n : Int) (k : Nat) : Option Value → va_W → Prop := fun v w => ∃ (r : Int), v = some (.int (iI r)) ∧ w = [(hm, .inr (9, mF a i)), ((a 33), aI (g.2.1 0) 4 fl), ((a 34), aI (g.2.1 0) 4 fz)] ∧ (r = findS (fl k) (fz k) lane x2 n)
set_option maxHeartbeats 4000000 in
set_option maxRecDepth 100000 in
theorem c_X9_finds (l : Launch) (g : GT) (hm : Nat) (a : Nat → Nat) (i : Nat → Int) (fl : Nat → Int) (fz : Nat → Int) (x : Int) (lane : Int) (x2 : Int) (n : Int) (k : Nat) (h1 : x = (k : Int) ∧ k < 4 ∧ (-2147483648 ≤ lane ∧ lane < 2147483648) ∧ (-2147483648 ≤ x2 ∧ x2 < 2147483648) ∧ (-2147483648 ≤ n ∧ n < 2147483648)) (hL : ∀ j, j < 4 → -1 ≤ fl j ∧ fl j ≤ 2 ∧ 0 ≤ fz j ∧ fz j ≤ 40) : Ct l g yX9_finds wsX9_finds ({ frames := 0, cells := 0, slots := 0, locals := 0 } : Room) [.ref hm, .int (iI x), .int (iI lane), .int (iI x2), .int (iI n)] [(hm, .inr (9, mF a i)), ((a 33), aI (g.2.1 0) 4 fl), ((a 34), aI (g.2.1 0) 4 fz)] (q_X9_finds g hm a i fl fz x lane x2 n k) := by
  refine Ct.intro (maxL := 5) (ret := (some .int)) (by decide) rfl (Nat.le_of_ble_eq_true rfl) ?_
  intro p e s m below meth c A ls hx hb hr hml hown hts hlocks hnm hA hG hP hD hS hl
  have hown : s.vm.findClass RX9 = some m.cls := hown
  have hl : lv_has ls 5 [(0, .ref hm), (1, .int (iI x)), (2, .int (iI lane)), (3, .int (iI x2)), (4, .int (iI n))] := hl
  have hP : va_P g.1 vwCl [(hm, .inr (9, mF a i)), ((a 33), aI (g.2.1 0) 4 fl), ((a 34), aI (g.2.1 0) 4 fz)] s.heap := hP
  have hS : va_S A s.heap s.heap [] := hS
  have hk := hL k (by omega)
  obtain ⟨H, hHe⟩ : ∃ H : Heap, H = s.heap := ⟨_, rfl⟩
  obtain ⟨locs, hLe⟩ : ∃ L : List Loc, L = [] := ⟨_, rfl⟩
  have hP : va_P g.1 vwCl [(hm, .inr (9, mF a i)), ((a 33), aI (g.2.1 0) 4 fl), ((a 34), aI (g.2.1 0) 4 fz)] H := by rw [hHe]; exact hP
  have hS : va_S A s.heap H locs := by rw [hHe, hLe]; exact hS
  suffices hgo : W p l e ({ frames := 0, cells := 0, slots := 0, locals := 0 } : Room) s m [.ref hm, .int (iI x), .int (iI lane), .int (iI x2), .int (iI n)].toArray below meth c H locs 0 0 (MQ below (CQ g (q_X9_finds g hm a i fl fz x lane x2 n k) A) [.ref hm, .int (iI x), .int (iI lane), .int (iI x2), .int (iI n)].toArray s ({ frames := 0, cells := 0, slots := 0, locals := 0 } : Room).cells ({ frames := 0, cells := 0, slots := 0, locals := 0 } : Room).slots A) (F0 m 0 ls []) by rw [hHe, hLe] at hgo; exact hgo
  clear hHe hLe
  refine lv_aload_n hx hb dX9_finds_0 rfl (lv_at hl 0 rfl) ?_
  refine va_get (D := g.1) (ci := 9) (v := .ref (a 33)) hx hb hts kX9_finds_9 hown hG.1 hP 0 rfl rfl 33 (by decide) (hts _ (List.mem_of_getElem? (i := 1) rfl)) (fun _ h9 => h9) rfl dX9_finds_1 ?_
  refine lv_iload_n hx hb dX9_finds_4 rfl (lv_at hl 1 rfl) ?_
  refine iv_iald hx hb hG hP 1 rfl k (by omega) (by omega) (by decide) dX9_finds_5 ?_
  refine iv_if_ge (tgt := 12) hx hb dX9_finds_6 (by decide) (by omega) (fun hc1 => ?_) (fun hc1 => ?_)
  · refine lv_aload_n hx hb dX9_finds_12 rfl (lv_at hl 0 rfl) ?_
    refine va_get (D := g.1) (ci := 9) (v := .ref (a 33)) hx hb hts kX9_finds_9 hown hG.1 hP 0 rfl rfl 33 (by decide) (hts _ (List.mem_of_getElem? (i := 1) rfl)) (fun _ h9 => h9) rfl dX9_finds_13 ?_
    refine lv_iload_n hx hb dX9_finds_16 rfl (lv_at hl 1 rfl) ?_
    refine iv_iald hx hb hG hP 1 rfl k (by omega) (by omega) (by decide) dX9_finds_17 ?_
    refine lv_iload_n hx hb dX9_finds_18 rfl (lv_at hl 2 rfl) ?_
    refine iv_icmp_eq (tgt := 25) hx hb dX9_finds_19 (by decide) (by omega) (fun hc2 => ?_) (fun hc2 => ?_)
    · refine lv_iload_n hx hb dX9_finds_25 rfl (lv_at hl 3 rfl) ?_
      refine iv_if_lt (tgt := 46) hx hb dX9_finds_26 (by decide) (by omega) (fun hc3 => ?_) (fun hc3 => ?_)
      · refine lv_bipush (v := iI (-13)) hx hb dX9_finds_46 (by decide) ?_
        refine lv_goto (tgt := 52) hx hb dX9_finds_48 (by decide) ?_
        exact Ct.iret hx hb hr hlocks (hP.sub [0, 1, 2] rfl) (hD.sub [0, 1, 2] (by decide) rfl) hS ⟨by decide, by decide⟩ dX9_finds_52 ⟨(-13), rfl, rfl, (by unfold findS; (repeat' split) <;> first | rfl | omega | (exfalso; omega))⟩
      · refine lv_iload_n hx hb dX9_finds_29 rfl (lv_at hl 3 rfl) ?_
        refine iv_i2l hx hb dX9_finds_30 (by omega) ?_
        refine lv_iload hx hb dX9_finds_31 (lv_at hl 4 rfl) ?_
        refine iv_i2l hx hb dX9_finds_33 (by omega) ?_
        refine iv_ladd hx hb dX9_finds_34 ?_
        refine lv_aload_n hx hb dX9_finds_35 rfl (lv_at hl 0 rfl) ?_
        refine va_get (D := g.1) (ci := 9) (v := .ref (a 34)) hx hb hts kX9_finds_9 hown hG.1 hP 0 rfl rfl 34 (by decide) (hts _ (List.mem_of_getElem? (i := 2) rfl)) (fun _ h9 => h9) rfl dX9_finds_36 ?_
        refine lv_iload_n hx hb dX9_finds_39 rfl (lv_at hl 1 rfl) ?_
        refine iv_iald hx hb hG hP 2 rfl k (by omega) (by omega) (by decide) dX9_finds_40 ?_
        refine iv_i2l hx hb dX9_finds_41 (by omega) ?_
        refine iv_lcmp hx hb dX9_finds_42 (by omega) (fun hc4 => ?_) (fun hc4 => ?_) (fun hc4 => ?_)
        · refine iv_if_le (tgt := 51) hx hb dX9_finds_43 (by decide) (by decide) (fun _ => ?_) (fun h => absurd h (by decide))
          refine lv_iconst (v := iI (0)) hx hb dX9_finds_51 rfl ?_
          exact Ct.iret hx hb hr hlocks (hP.sub [0, 1, 2] rfl) (hD.sub [0, 1, 2] (by decide) rfl) hS ⟨by decide, by decide⟩ dX9_finds_52 ⟨0, rfl, rfl, (by unfold findS; (repeat' split) <;> first | rfl | omega | (exfalso; omega))⟩
        · refine iv_if_le (tgt := 51) hx hb dX9_finds_43 (by decide) (by decide) (fun _ => ?_) (fun h => absurd h (by decide))
          refine lv_iconst (v := iI (0)) hx hb dX9_finds_51 rfl ?_
          exact Ct.iret hx hb hr hlocks (hP.sub [0, 1, 2] rfl) (hD.sub [0, 1, 2] (by decide) rfl) hS ⟨by decide, by decide⟩ dX9_finds_52 ⟨0, rfl, rfl, (by unfold findS; (repeat' split) <;> first | rfl | omega | (exfalso; omega))⟩
        · refine iv_if_le (tgt := 51) hx hb dX9_finds_43 (by decide) (by decide) (fun h => absurd h (by decide)) (fun _ => ?_)
          refine lv_bipush (v := iI (-13)) hx hb dX9_finds_46 (by decide) ?_
          refine lv_goto (tgt := 52) hx hb dX9_finds_48 (by decide) ?_
          exact Ct.iret hx hb hr hlocks (hP.sub [0, 1, 2] rfl) (hD.sub [0, 1, 2] (by decide) rfl) hS ⟨by decide, by decide⟩ dX9_finds_52 ⟨(-13), rfl, rfl, (by unfold findS; (repeat' split) <;> first | rfl | omega | (exfalso; omega))⟩
    · refine lv_bipush (v := iI (-12)) hx hb dX9_finds_22 (by decide) ?_
      exact Ct.iret hx hb hr hlocks (hP.sub [0, 1, 2] rfl) (hD.sub [0, 1, 2] (by decide) rfl) hS ⟨by decide, by decide⟩ dX9_finds_24 ⟨(-12), rfl, rfl, (by unfold findS; (repeat' split) <;> first | rfl | omega | (exfalso; omega))⟩
  · refine lv_bipush (v := iI (-11)) hx hb dX9_finds_9 (by decide) ?_
    exact Ct.iret hx hb hr hlocks (hP.sub [0, 1, 2] rfl) (hD.sub [0, 1, 2] (by decide) rfl) hS ⟨by decide, by decide⟩ dX9_finds_11 ⟨(-11), rfl, rfl, (by unfold findS; (repeat' split) <;> first | rfl | omega | (exfalso; omega))⟩
theorem kX9_sheet_9 : ∀ w ∈ u_ws RX9 TX9 37, w ∈ wsX9_sheet := fun _ h => List.mem_cons_of_mem _ (List.mem_append_right _ h)
abbrev q_X9_sheet (g : GT) (hm : Nat) (a : Nat → Nat) (i : Nat → Int) (fl : Nat → Int) (fz : Nat → Int) (fi : Nat → Int) (x : Int) (lane : Int) (n : Int) : Option Value → va_W → Prop := fun v w => ∃ (r : Int), ∃ (fl' : Nat → Int), ∃ (fz' : Nat → Int), ∃ (fi' : Nat → Int), v = some (.int (iI r)) ∧ w = [(hm, .inr (9, mF a i)), ((a 33), aI (g.2.1 0) 4 fl'), ((a 34), aI (g.2.1 0) 4 fz'), ((a 35), aI (g.2.1 0) 160 fi')] ∧ (r = sheetS x lane n) ∧ (0 ≤ r → fl' = va_up fl x.toNat lane ∧ fz' = va_up fz x.toNat n ∧ (∀ j, j < 40 → fi' (40 * x.toNat + j) = 0) ∧ ∀ j, (j < 40 * x.toNat ∨ 40 * x.toNat + 40 ≤ j) → fi' j = fi j) ∧ (r < 0 → fl' = fl ∧ fz' = fz ∧ fi' = fi)
set_option maxHeartbeats 4000000 in
set_option maxRecDepth 100000 in
theorem c_X9_sheet (l : Launch) (g : GT) (hm : Nat) (a : Nat → Nat) (i : Nat → Int) (fl : Nat → Int) (fz : Nat → Int) (fi : Nat → Int) (x : Int) (lane : Int) (n : Int) (h1 : (-2147483648 ≤ x ∧ x < 2147483648) ∧ (-2147483648 ≤ lane ∧ lane < 2147483648) ∧ (-2147483648 ≤ n ∧ n < 2147483648)) (hL : ∀ j, j < 4 → -1 ≤ fl j ∧ fl j ≤ 2 ∧ 0 ≤ fz j ∧ fz j ≤ 40) : Ct l g yX9_sheet wsX9_sheet ({ frames := 2, cells := 0, slots := 0, locals := 45 } : Room) [.ref hm, .int (iI x), .int (iI lane), .int (iI n)] [(hm, .inr (9, mF a i)), ((a 33), aI (g.2.1 0) 4 fl), ((a 34), aI (g.2.1 0) 4 fz), ((a 35), aI (g.2.1 0) 160 fi)] (q_X9_sheet g hm a i fl fz fi x lane n) := by
  refine Ct.intro (maxL := 5) (ret := (some .int)) (by decide) rfl (Nat.le_of_ble_eq_true rfl) ?_
  intro p e s m below meth c A ls hx hb hr hml hown hts hlocks hnm hA hG hP hD hS hl
  have hown : s.vm.findClass RX9 = some m.cls := hown
  have hl : lv_has ls 5 [(0, .ref hm), (1, .int (iI x)), (2, .int (iI lane)), (3, .int (iI n))] := hl
  have hP : va_P g.1 vwCl [(hm, .inr (9, mF a i)), ((a 33), aI (g.2.1 0) 4 fl), ((a 34), aI (g.2.1 0) 4 fz), ((a 35), aI (g.2.1 0) 160 fi)] s.heap := hP
  have hS : va_S A s.heap s.heap [] := hS
  obtain ⟨H, hHe⟩ : ∃ H : Heap, H = s.heap := ⟨_, rfl⟩
  obtain ⟨locs, hLe⟩ : ∃ L : List Loc, L = [] := ⟨_, rfl⟩
  have hP : va_P g.1 vwCl [(hm, .inr (9, mF a i)), ((a 33), aI (g.2.1 0) 4 fl), ((a 34), aI (g.2.1 0) 4 fz), ((a 35), aI (g.2.1 0) 160 fi)] H := by rw [hHe]; exact hP
  have hS : va_S A s.heap H locs := by rw [hHe, hLe]; exact hS
  suffices hgo : W p l e ({ frames := 2, cells := 0, slots := 0, locals := 45 } : Room) s m [.ref hm, .int (iI x), .int (iI lane), .int (iI n)].toArray below meth c H locs 0 0 (MQ below (CQ g (q_X9_sheet g hm a i fl fz fi x lane n) A) [.ref hm, .int (iI x), .int (iI lane), .int (iI n)].toArray s ({ frames := 2, cells := 0, slots := 0, locals := 45 } : Room).cells ({ frames := 2, cells := 0, slots := 0, locals := 45 } : Room).slots A) (F0 m 0 ls []) by rw [hHe, hLe] at hgo; exact hgo
  clear hHe hLe
  refine lv_iload_n hx hb dX9_sheet_0 rfl (lv_at hl 1 rfl) ?_
  refine Ct.callS (As := [.int (iI x)]) (rest := []) (wr := [(hm, .inr (9, mF a i)), ((a 33), aI (g.2.1 0) 4 fl), ((a 34), aI (g.2.1 0) 4 fz), ((a 35), aI (g.2.1 0) 160 fi)]) (c1 := 0) (s1 := 0) ⟨hx, hb, hml, hown, hts⟩ (c_X9_isSheet l g x (by omega)) (va_cwS 1 hts gX9_sheet_X9_isSheet rfl rfl rfl (by decide +kernel) ⟨Nat.le_of_ble_eq_true rfl, Nat.le_of_ble_eq_true rfl⟩) hG hP hD hS hA [] [0, 1, 2, 3] rfl rfl (by decide) (by decide) (by decide) rfl hl.1 rfl (Nat.le_of_ble_eq_true rfl) dX9_sheet_1 ⟨Nat.le_of_ble_eq_true rfl, Nat.le_of_ble_eq_true rfl⟩ rfl rfl (fun v w H locs hv hP hD hS => ?_)
  obtain ⟨⟨rfl, hb1⟩ | ⟨rfl, hb1⟩, rfl⟩ := hv
  · show W p l e _ s m _ below meth c H locs 0 0 _ (F0 m 4 ls (.int (iI 1) :: []))
    have hb1 : 0 ≤ x ∧ x ≤ 3 := hb1
    have hP : va_P g.1 vwCl [(hm, .inr (9, mF a i)), ((a 33), aI (g.2.1 0) 4 fl), ((a 34), aI (g.2.1 0) 4 fz), ((a 35), aI (g.2.1 0) 160 fi)] H := hP
    have hD : va_D A [(hm, .inr (9, mF a i)), ((a 33), aI (g.2.1 0) 4 fl), ((a 34), aI (g.2.1 0) 4 fz), ((a 35), aI (g.2.1 0) 160 fi)] := hD
    refine iv_if_eq (tgt := 20) hx hb dX9_sheet_4 (by decide) (by decide) (fun h => absurd h (by decide)) (fun _ => ?_)
    refine lv_iload_n hx hb dX9_sheet_7 rfl (lv_at hl 2 rfl) ?_
    refine Ct.callS (As := [.int (iI lane)]) (rest := []) (wr := [(hm, .inr (9, mF a i)), ((a 33), aI (g.2.1 0) 4 fl), ((a 34), aI (g.2.1 0) 4 fz), ((a 35), aI (g.2.1 0) 160 fi)]) (c1 := 0) (s1 := 0) ⟨hx, hb, hml, hown, hts⟩ (c_X9_isLane l g lane (by omega)) (va_cwS 1 hts gX9_sheet_X9_isLane rfl rfl rfl (by decide +kernel) ⟨Nat.le_of_ble_eq_true rfl, Nat.le_of_ble_eq_true rfl⟩) hG hP hD hS hA [] [0, 1, 2, 3] rfl rfl (by decide) (by decide) (by decide) rfl hl.1 rfl (Nat.le_of_ble_eq_true rfl) dX9_sheet_8 ⟨Nat.le_of_ble_eq_true rfl, Nat.le_of_ble_eq_true rfl⟩ rfl rfl (fun v w H locs hv hP hD hS => ?_)
    obtain ⟨⟨rfl, hb3⟩ | ⟨rfl, hb3⟩, rfl⟩ := hv
    · show W p l e _ s m _ below meth c H locs 0 0 _ (F0 m 11 ls (.int (iI 1) :: []))
      have hb3 : 0 ≤ lane ∧ lane ≤ 2 := hb3
      have hP : va_P g.1 vwCl [(hm, .inr (9, mF a i)), ((a 33), aI (g.2.1 0) 4 fl), ((a 34), aI (g.2.1 0) 4 fz), ((a 35), aI (g.2.1 0) 160 fi)] H := hP
      have hD : va_D A [(hm, .inr (9, mF a i)), ((a 33), aI (g.2.1 0) 4 fl), ((a 34), aI (g.2.1 0) 4 fz), ((a 35), aI (g.2.1 0) 160 fi)] := hD
      refine iv_if_eq (tgt := 20) hx hb dX9_sheet_11 (by decide) (by decide) (fun h => absurd h (by decide)) (fun _ => ?_)
      refine lv_iload_n hx hb dX9_sheet_14 rfl (lv_at hl 3 rfl) ?_
      refine lv_bipush (v := iI (40)) hx hb dX9_sheet_15 (by decide) ?_
      refine iv_icmp_le (tgt := 22) hx hb dX9_sheet_17 (by decide) (by omega) (fun hc5 => ?_) (fun hc5 => ?_)
      · refine lv_iload_n hx hb dX9_sheet_22 rfl (lv_at hl 3 rfl) ?_
        refine iv_if_ge (tgt := 29) hx hb dX9_sheet_23 (by decide) (by omega) (fun hc6 => ?_) (fun hc6 => ?_)
        · refine lv_aload_n hx hb dX9_sheet_29 rfl (lv_at hl 0 rfl) ?_
          refine va_get (D := g.1) (ci := 9) (v := .ref (a 33)) hx hb hts kX9_sheet_9 hown hG.1 hP 0 rfl rfl 33 (by decide) (hts _ (List.mem_of_getElem? (i := 1) rfl)) (fun _ h9 => h9) rfl dX9_sheet_30 ?_
          refine lv_iload_n hx hb dX9_sheet_33 rfl (lv_at hl 1 rfl) ?_
          refine lv_iload_n hx hb dX9_sheet_34 rfl (lv_at hl 2 rfl) ?_
          refine iv_iast hx hb hG hP hD hS 1 rfl x.toNat (by omega) (by omega) (by decide) dX9_sheet_35 (fun H locs hP hD hS => ?_)
          have hP : va_P g.1 vwCl [(hm, .inr (9, mF a i)), ((a 33), aI (g.2.1 0) 4 (va_up fl x.toNat lane)), ((a 34), aI (g.2.1 0) 4 fz), ((a 35), aI (g.2.1 0) 160 fi)] H := hP
          have hD : va_D A [(hm, .inr (9, mF a i)), ((a 33), aI (g.2.1 0) 4 (va_up fl x.toNat lane)), ((a 34), aI (g.2.1 0) 4 fz), ((a 35), aI (g.2.1 0) 160 fi)] := hD
          refine lv_aload_n hx hb dX9_sheet_36 rfl (lv_at hl 0 rfl) ?_
          refine va_get (D := g.1) (ci := 9) (v := .ref (a 34)) hx hb hts kX9_sheet_9 hown hG.1 hP 0 rfl rfl 34 (by decide) (hts _ (List.mem_of_getElem? (i := 2) rfl)) (fun _ h9 => h9) rfl dX9_sheet_37 ?_
          refine lv_iload_n hx hb dX9_sheet_40 rfl (lv_at hl 1 rfl) ?_
          refine lv_iload_n hx hb dX9_sheet_41 rfl (lv_at hl 3 rfl) ?_
          refine iv_iast hx hb hG hP hD hS 2 rfl x.toNat (by omega) (by omega) (by decide) dX9_sheet_42 (fun H locs hP hD hS => ?_)
          have hP : va_P g.1 vwCl [(hm, .inr (9, mF a i)), ((a 33), aI (g.2.1 0) 4 (va_up fl x.toNat lane)), ((a 34), aI (g.2.1 0) 4 (va_up fz x.toNat n)), ((a 35), aI (g.2.1 0) 160 fi)] H := hP
          have hD : va_D A [(hm, .inr (9, mF a i)), ((a 33), aI (g.2.1 0) 4 (va_up fl x.toNat lane)), ((a 34), aI (g.2.1 0) 4 (va_up fz x.toNat n)), ((a 35), aI (g.2.1 0) 160 fi)] := hD
          refine lv_iconst (v := iI (0)) hx hb dX9_sheet_43 rfl ?_
          refine lv_istore (lv' := [(4, .int (iI 0)), (0, .ref hm), (1, .int (iI x)), (2, .int (iI lane)), (3, .int (iI n))]) hx hb dX9_sheet_44 hl (by decide) rfl (fun ls hl => ?_)
          have hloop46 : ∀ (fuel : Nat) (k : Int) (fx : Nat → Int) (m_ : Nat) (hc : k = (m_ : Int) ∧ m_ ≤ 40) (he : ∀ j, j < m_ → fx (40 * x.toNat + j) = 0) (he2 : ∀ j, (j < 40 * x.toNat ∨ 40 * x.toNat + 40 ≤ j) → fx j = fi j) (hmeas : 40 - m_ < fuel), ∀ (H : Heap) (locs : List Loc) (ls : Array Slot), va_P g.1 vwCl [(hm, .inr (9, mF a i)), ((a 33), aI (g.2.1 0) 4 (va_up fl x.toNat lane)), ((a 34), aI (g.2.1 0) 4 (va_up fz x.toNat n)), ((a 35), aI (g.2.1 0) 160 fx)] H → va_D A [(hm, .inr (9, mF a i)), ((a 33), aI (g.2.1 0) 4 (va_up fl x.toNat lane)), ((a 34), aI (g.2.1 0) 4 (va_up fz x.toNat n)), ((a 35), aI (g.2.1 0) 160 fx)] → va_S A s.heap H locs → lv_has ls 5 [(4, .int (iI k)), (0, .ref hm), (1, .int (iI x)), (2, .int (iI lane)), (3, .int (iI n))] → W p l e ({ frames := 2, cells := 0, slots := 0, locals := 45 } : Room) s m [.ref hm, .int (iI x), .int (iI lane), .int (iI n)].toArray below meth c H locs 0 0 (MQ below (CQ g (q_X9_sheet g hm a i fl fz fi x lane n) A) [.ref hm, .int (iI x), .int (iI lane), .int (iI n)].toArray s ({ frames := 2, cells := 0, slots := 0, locals := 45 } : Room).cells ({ frames := 2, cells := 0, slots := 0, locals := 45 } : Room).slots A) (F0 m 46 ls []) := by
            intro fuel
            induction fuel with
            | zero => intro k fx m_ hc he he2 hmeas; exact absurd hmeas (Nat.not_lt_zero _)
            | succ fuel ih46 =>
              intro k fx m_ hc he he2 hmeas H locs ls hP hD hS hl
              refine lv_iload hx hb dX9_sheet_46 (lv_at hl 0 rfl) ?_
              refine lv_bipush (v := iI (40)) hx hb dX9_sheet_48 (by decide) ?_
              refine iv_icmp_ge (tgt := 72) hx hb dX9_sheet_50 (by decide) (by omega) (fun hc7 => ?_) (fun hc7 => ?_)
              · refine lv_iload_n hx hb dX9_sheet_72 rfl (lv_at hl 4 rfl) ?_
                exact Ct.iret hx hb hr hlocks (hP.sub [0, 1, 2, 3] rfl) (hD.sub [0, 1, 2, 3] (by decide) rfl) hS ⟨by decide, by decide⟩ dX9_sheet_73 ⟨n, (va_up fl x.toNat lane), (va_up fz x.toNat n), fx, rfl, rfl, (by unfold sheetS; (repeat' split) <;> first | rfl | omega | (exfalso; omega)), (fun _ => ⟨rfl, rfl, fun j hj => he j (by omega), he2⟩), (fun h => absurd h (by omega))⟩
              · refine lv_aload_n hx hb dX9_sheet_53 rfl (lv_at hl 1 rfl) ?_
                refine va_get (D := g.1) (ci := 9) (v := .ref (a 35)) hx hb hts kX9_sheet_9 hown hG.1 hP 0 rfl rfl 35 (by decide) (hts _ (List.mem_of_getElem? (i := 3) rfl)) (fun _ h9 => h9) rfl dX9_sheet_54 ?_
                refine lv_bipush (v := iI (40)) hx hb dX9_sheet_57 (by decide) ?_
                refine lv_iload_n hx hb dX9_sheet_59 rfl (lv_at hl 2 rfl) ?_
                refine iv_imul hx hb dX9_sheet_60 ?_
                refine lv_iload hx hb dX9_sheet_61 (lv_at hl 0 rfl) ?_
                refine iv_iadd hx hb dX9_sheet_63 ?_
                refine lv_iconst (v := iI (0)) hx hb dX9_sheet_64 rfl ?_
                refine iv_iast hx hb hG hP hD hS 3 rfl (40 * x.toNat + m_) (by omega) (by omega) (by decide) dX9_sheet_65 (fun H locs hP hD hS => ?_)
                have hP : va_P g.1 vwCl [(hm, .inr (9, mF a i)), ((a 33), aI (g.2.1 0) 4 (va_up fl x.toNat lane)), ((a 34), aI (g.2.1 0) 4 (va_up fz x.toNat n)), ((a 35), aI (g.2.1 0) 160 (va_up fx (40 * x.toNat + m_) 0))] H := hP
                have hD : va_D A [(hm, .inr (9, mF a i)), ((a 33), aI (g.2.1 0) 4 (va_up fl x.toNat lane)), ((a 34), aI (g.2.1 0) 4 (va_up fz x.toNat n)), ((a 35), aI (g.2.1 0) 160 (va_up fx (40 * x.toNat + m_) 0))] := hD
                refine iv_iinc (k := 0) (x := k) (lv' := [(4, .int (iI (k + 1))), (0, .ref hm), (1, .int (iI x)), (2, .int (iI lane)), (3, .int (iI n))]) hx hb dX9_sheet_66 hl rfl (by decide) rfl (fun ls hl => ?_)
                refine lv_goto (tgt := 46) hx hb dX9_sheet_69 (by decide) ?_
                exact ih46 (k + 1) (va_up fx (40 * x.toNat + m_) 0) (m_ + 1) (by omega) (fun j hj => if hq : j = m_ then (by rw [hq, up_s]) else (by rw [up_n _ _ _ _ (by omega)]; exact he j (by omega))) (fun j hj => by rw [up_n _ _ _ _ (by omega)]; exact he2 j hj) (by omega) H locs ls (hP.sub [0, 1, 2, 3] rfl) (hD.sub [0, 1, 2, 3] (by decide) rfl) hS (lv_sub hl [0, 1, 2, 3, 4] rfl)
          exact hloop46 _ 0 fi 0 (by omega) (fun j hj => absurd hj (Nat.not_lt_zero j)) (fun j _ => rfl) (Nat.lt_succ_self _) H locs ls (hP.sub [0, 1, 2, 3] rfl) (hD.sub [0, 1, 2, 3] (by decide) rfl) hS (lv_sub hl [0, 1, 2, 3, 4] rfl)
        · refine lv_bipush (v := iI (-14)) hx hb dX9_sheet_26 (by decide) ?_
          exact Ct.iret hx hb hr hlocks (hP.sub [0, 1, 2, 3] rfl) (hD.sub [0, 1, 2, 3] (by decide) rfl) hS ⟨by decide, by decide⟩ dX9_sheet_28 ⟨(-14), fl, fz, fi, rfl, rfl, (by unfold sheetS; (repeat' split) <;> first | rfl | omega | (exfalso; omega)), (fun h => absurd h (by omega)), (fun _ => ⟨rfl, rfl, rfl⟩)⟩
      · refine lv_iconst (v := iI (-1)) hx hb dX9_sheet_20 rfl ?_
        exact Ct.iret hx hb hr hlocks (hP.sub [0, 1, 2, 3] rfl) (hD.sub [0, 1, 2, 3] (by decide) rfl) hS ⟨by decide, by decide⟩ dX9_sheet_21 ⟨(-1), fl, fz, fi, rfl, rfl, (by unfold sheetS; (repeat' split) <;> first | rfl | omega | (exfalso; omega)), (fun h => absurd h (by omega)), (fun _ => ⟨rfl, rfl, rfl⟩)⟩
    · show W p l e _ s m _ below meth c H locs 0 0 _ (F0 m 11 ls (.int (iI 0) :: []))
      have hb3 : ¬ (0 ≤ lane ∧ lane ≤ 2) := hb3
      have hP : va_P g.1 vwCl [(hm, .inr (9, mF a i)), ((a 33), aI (g.2.1 0) 4 fl), ((a 34), aI (g.2.1 0) 4 fz), ((a 35), aI (g.2.1 0) 160 fi)] H := hP
      have hD : va_D A [(hm, .inr (9, mF a i)), ((a 33), aI (g.2.1 0) 4 fl), ((a 34), aI (g.2.1 0) 4 fz), ((a 35), aI (g.2.1 0) 160 fi)] := hD
      refine iv_if_eq (tgt := 20) hx hb dX9_sheet_11 (by decide) (by decide) (fun _ => ?_) (fun h => absurd h (by decide))
      refine lv_iconst (v := iI (-1)) hx hb dX9_sheet_20 rfl ?_
      exact Ct.iret hx hb hr hlocks (hP.sub [0, 1, 2, 3] rfl) (hD.sub [0, 1, 2, 3] (by decide) rfl) hS ⟨by decide, by decide⟩ dX9_sheet_21 ⟨(-1), fl, fz, fi, rfl, rfl, (by unfold sheetS; (repeat' split) <;> first | rfl | omega | (exfalso; omega)), (fun h => absurd h (by omega)), (fun _ => ⟨rfl, rfl, rfl⟩)⟩
  · show W p l e _ s m _ below meth c H locs 0 0 _ (F0 m 4 ls (.int (iI 0) :: []))
    have hb1 : ¬ (0 ≤ x ∧ x ≤ 3) := hb1
    have hP : va_P g.1 vwCl [(hm, .inr (9, mF a i)), ((a 33), aI (g.2.1 0) 4 fl), ((a 34), aI (g.2.1 0) 4 fz), ((a 35), aI (g.2.1 0) 160 fi)] H := hP
    have hD : va_D A [(hm, .inr (9, mF a i)), ((a 33), aI (g.2.1 0) 4 fl), ((a 34), aI (g.2.1 0) 4 fz), ((a 35), aI (g.2.1 0) 160 fi)] := hD
    refine iv_if_eq (tgt := 20) hx hb dX9_sheet_4 (by decide) (by decide) (fun _ => ?_) (fun h => absurd h (by decide))
    refine lv_iconst (v := iI (-1)) hx hb dX9_sheet_20 rfl ?_
    exact Ct.iret hx hb hr hlocks (hP.sub [0, 1, 2, 3] rfl) (hD.sub [0, 1, 2, 3] (by decide) rfl) hS ⟨by decide, by decide⟩ dX9_sheet_21 ⟨(-1), fl, fz, fi, rfl, rfl, (by unfold sheetS; (repeat' split) <;> first | rfl | omega | (exfalso; omega)), (fun h => absurd h (by omega)), (fun _ => ⟨rfl, rfl, rfl⟩)⟩
theorem kX9_drop_9 : ∀ w ∈ u_ws RX9 TX9 37, w ∈ wsX9_drop := fun _ h => List.mem_cons_of_mem _ (List.mem_append_right _ h)
abbrev q_X9_drop (g : GT) (hm : Nat) (a : Nat → Nat) (i : Nat → Int) (fl : Nat → Int) (fz : Nat → Int) (x : Int) : Option Value → va_W → Prop := fun v w => ∃ (r : Int), ∃ (fl' : Nat → Int), v = some (.int (iI r)) ∧ w = [(hm, .inr (9, mF a i)), ((a 33), aI (g.2.1 0) 4 fl'), ((a 34), aI (g.2.1 0) 4 fz)] ∧ ((r = -1 ∧ ¬ (0 ≤ x ∧ x ≤ 3) ∧ fl' = fl) ∨ ((0 ≤ x ∧ x ≤ 3) ∧ r = (if fl x.toNat < 0 then -11 else fz x.toNat) ∧ fl' = va_up fl x.toNat (-1)))
set_option maxHeartbeats 4000000 in
set_option maxRecDepth 100000 in
theorem c_X9_drop (l : Launch) (g : GT) (hm : Nat) (a : Nat → Nat) (i : Nat → Int) (fl : Nat → Int) (fz : Nat → Int) (x : Int) (h1 : (-2147483648 ≤ x ∧ x < 2147483648)) (hL : ∀ j, j < 4 → -1 ≤ fl j ∧ fl j ≤ 2 ∧ 0 ≤ fz j ∧ fz j ≤ 40) : Ct l g yX9_drop wsX9_drop ({ frames := 2, cells := 0, slots := 0, locals := 45 } : Room) [.ref hm, .int (iI x)] [(hm, .inr (9, mF a i)), ((a 33), aI (g.2.1 0) 4 fl), ((a 34), aI (g.2.1 0) 4 fz)] (q_X9_drop g hm a i fl fz x) := by
  refine Ct.intro (maxL := 2) (ret := (some .int)) (by decide) rfl (Nat.le_of_ble_eq_true rfl) ?_
  intro p e s m below meth c A ls hx hb hr hml hown hts hlocks hnm hA hG hP hD hS hl
  have hown : s.vm.findClass RX9 = some m.cls := hown
  have hl : lv_has ls 2 [(0, .ref hm), (1, .int (iI x))] := hl
  have hP : va_P g.1 vwCl [(hm, .inr (9, mF a i)), ((a 33), aI (g.2.1 0) 4 fl), ((a 34), aI (g.2.1 0) 4 fz)] s.heap := hP
  have hS : va_S A s.heap s.heap [] := hS
  obtain ⟨H, hHe⟩ : ∃ H : Heap, H = s.heap := ⟨_, rfl⟩
  obtain ⟨locs, hLe⟩ : ∃ L : List Loc, L = [] := ⟨_, rfl⟩
  have hP : va_P g.1 vwCl [(hm, .inr (9, mF a i)), ((a 33), aI (g.2.1 0) 4 fl), ((a 34), aI (g.2.1 0) 4 fz)] H := by rw [hHe]; exact hP
  have hS : va_S A s.heap H locs := by rw [hHe, hLe]; exact hS
  suffices hgo : W p l e ({ frames := 2, cells := 0, slots := 0, locals := 45 } : Room) s m [.ref hm, .int (iI x)].toArray below meth c H locs 0 0 (MQ below (CQ g (q_X9_drop g hm a i fl fz x) A) [.ref hm, .int (iI x)].toArray s ({ frames := 2, cells := 0, slots := 0, locals := 45 } : Room).cells ({ frames := 2, cells := 0, slots := 0, locals := 45 } : Room).slots A) (F0 m 0 ls []) by rw [hHe, hLe] at hgo; exact hgo
  clear hHe hLe
  refine lv_iload_n hx hb dX9_drop_0 rfl (lv_at hl 1 rfl) ?_
  refine Ct.callS (As := [.int (iI x)]) (rest := []) (wr := [(hm, .inr (9, mF a i)), ((a 33), aI (g.2.1 0) 4 fl), ((a 34), aI (g.2.1 0) 4 fz)]) (c1 := 0) (s1 := 0) ⟨hx, hb, hml, hown, hts⟩ (c_X9_isSheet l g x (by omega)) (va_cwS 1 hts gX9_drop_X9_isSheet rfl rfl rfl (by decide +kernel) ⟨Nat.le_of_ble_eq_true rfl, Nat.le_of_ble_eq_true rfl⟩) hG hP hD hS hA [] [0, 1, 2] rfl rfl (by decide) (by decide) (by decide) rfl hl.1 rfl (Nat.le_of_ble_eq_true rfl) dX9_drop_1 ⟨Nat.le_of_ble_eq_true rfl, Nat.le_of_ble_eq_true rfl⟩ rfl rfl (fun v w H locs hv hP hD hS => ?_)
  obtain ⟨⟨rfl, hb1⟩ | ⟨rfl, hb1⟩, rfl⟩ := hv
  · show W p l e _ s m _ below meth c H locs 0 0 _ (F0 m 4 ls (.int (iI 1) :: []))
    have hb1 : 0 ≤ x ∧ x ≤ 3 := hb1
    have hP : va_P g.1 vwCl [(hm, .inr (9, mF a i)), ((a 33), aI (g.2.1 0) 4 fl), ((a 34), aI (g.2.1 0) 4 fz)] H := hP
    have hD : va_D A [(hm, .inr (9, mF a i)), ((a 33), aI (g.2.1 0) 4 fl), ((a 34), aI (g.2.1 0) 4 fz)] := hD
    refine iv_if_ne (tgt := 9) hx hb dX9_drop_4 (by decide) (by decide) (fun _ => ?_) (fun h => absurd h (by decide))
    have hk := hL x.toNat (by omega)
    refine lv_aload_n hx hb dX9_drop_9 rfl (lv_at hl 0 rfl) ?_
    refine va_get (D := g.1) (ci := 9) (v := .ref (a 33)) hx hb hts kX9_drop_9 hown hG.1 hP 0 rfl rfl 33 (by decide) (hts _ (List.mem_of_getElem? (i := 1) rfl)) (fun _ h9 => h9) rfl dX9_drop_10 ?_
    refine lv_iload_n hx hb dX9_drop_13 rfl (lv_at hl 1 rfl) ?_
    refine iv_iald hx hb hG hP 1 rfl x.toNat (by omega) (by omega) (by decide) dX9_drop_14 ?_
    refine iv_if_ge (tgt := 21) hx hb dX9_drop_15 (by decide) (by omega) (fun hc3 => ?_) (fun hc3 => ?_)
    · refine lv_aload_n hx hb dX9_drop_21 rfl (lv_at hl 0 rfl) ?_
      refine va_get (D := g.1) (ci := 9) (v := .ref (a 33)) hx hb hts kX9_drop_9 hown hG.1 hP 0 rfl rfl 33 (by decide) (hts _ (List.mem_of_getElem? (i := 1) rfl)) (fun _ h9 => h9) rfl dX9_drop_22 ?_
      refine lv_iload_n hx hb dX9_drop_25 rfl (lv_at hl 1 rfl) ?_
      refine lv_iconst (v := iI (-1)) hx hb dX9_drop_26 rfl ?_
      refine iv_iast hx hb hG hP hD hS 1 rfl x.toNat (by omega) (by omega) (by decide) dX9_drop_27 (fun H locs hP hD hS => ?_)
      have hP : va_P g.1 vwCl [(hm, .inr (9, mF a i)), ((a 33), aI (g.2.1 0) 4 (va_up fl x.toNat (-1))), ((a 34), aI (g.2.1 0) 4 fz)] H := hP
      have hD : va_D A [(hm, .inr (9, mF a i)), ((a 33), aI (g.2.1 0) 4 (va_up fl x.toNat (-1))), ((a 34), aI (g.2.1 0) 4 fz)] := hD
      refine lv_aload_n hx hb dX9_drop_28 rfl (lv_at hl 0 rfl) ?_
      refine va_get (D := g.1) (ci := 9) (v := .ref (a 34)) hx hb hts kX9_drop_9 hown hG.1 hP 0 rfl rfl 34 (by decide) (hts _ (List.mem_of_getElem? (i := 2) rfl)) (fun _ h9 => h9) rfl dX9_drop_29 ?_
      refine lv_iload_n hx hb dX9_drop_32 rfl (lv_at hl 1 rfl) ?_
      refine iv_iald hx hb hG hP 2 rfl x.toNat (by omega) (by omega) (by decide) dX9_drop_33 ?_
      exact Ct.iret hx hb hr hlocks (hP.sub [0, 1, 2] rfl) (hD.sub [0, 1, 2] (by decide) rfl) hS ⟨by decide, by decide⟩ dX9_drop_34 ⟨(fz x.toNat), (va_up fl x.toNat (-1)), rfl, rfl, (Or.inr ⟨by omega, by rw [if_neg (by omega)], rfl⟩)⟩
    · refine lv_bipush (v := iI (-11)) hx hb dX9_drop_18 (by decide) ?_
      exact Ct.iret hx hb hr hlocks (hP.sub [0, 1, 2] rfl) (hD.sub [0, 1, 2] (by decide) rfl) hS ⟨by decide, by decide⟩ dX9_drop_20 ⟨(-11), fl, rfl, rfl, (Or.inr ⟨by omega, by rw [if_pos (by omega)], (up_id (show fl x.toNat = -1 by omega)).symm⟩)⟩
  · show W p l e _ s m _ below meth c H locs 0 0 _ (F0 m 4 ls (.int (iI 0) :: []))
    have hb1 : ¬ (0 ≤ x ∧ x ≤ 3) := hb1
    have hP : va_P g.1 vwCl [(hm, .inr (9, mF a i)), ((a 33), aI (g.2.1 0) 4 fl), ((a 34), aI (g.2.1 0) 4 fz)] H := hP
    have hD : va_D A [(hm, .inr (9, mF a i)), ((a 33), aI (g.2.1 0) 4 fl), ((a 34), aI (g.2.1 0) 4 fz)] := hD
    refine iv_if_ne (tgt := 9) hx hb dX9_drop_4 (by decide) (by decide) (fun h => absurd h (by decide)) (fun _ => ?_)
    refine lv_iconst (v := iI (-1)) hx hb dX9_drop_7 rfl ?_
    exact Ct.iret hx hb hr hlocks (hP.sub [0, 1, 2] rfl) (hD.sub [0, 1, 2] (by decide) rfl) hS ⟨by decide, by decide⟩ dX9_drop_8 ⟨(-1), fl, rfl, rfl, (Or.inl ⟨rfl, by omega, rfl⟩)⟩
theorem kX9_item_9 : ∀ w ∈ u_ws RX9 TX9 37, w ∈ wsX9_item := fun _ h => List.mem_cons_of_mem _ (List.mem_append_right _ h)
abbrev q_X9_item (g : GT) (hm : Nat) (a : Nat → Nat) (i : Nat → Int) (fl : Nat → Int) (fz : Nat → Int) (fi : Nat → Int) (x : Int) (lane : Int) (x2 : Int) (v_ : Int) : Option Value → va_W → Prop := fun v w => ∃ (r : Int), ∃ (fi' : Nat → Int), v = some (.int (iI r)) ∧ w = [(hm, .inr (9, mF a i)), ((a 33), aI (g.2.1 0) 4 fl), ((a 34), aI (g.2.1 0) 4 fz), ((a 35), aI (g.2.1 0) 160 fi')] ∧ (r = (if ¬ (0 ≤ x ∧ x ≤ 3) ∨ ¬ (0 ≤ lane ∧ lane ≤ 2) then -1 else if findS (fl x.toNat) (fz x.toNat) lane x2 1 < 0 then findS (fl x.toNat) (fz x.toNat) lane x2 1 else 1)) ∧ (r = 1 → fi' = va_up fi (40 * x.toNat + x2.toNat) (cutS lane v_)) ∧ (r < 0 → fi' = fi)
set_option maxHeartbeats 4000000 in
set_option maxRecDepth 100000 in
theorem c_X9_item (l : Launch) (g : GT) (hm : Nat) (a : Nat → Nat) (i : Nat → Int) (fl : Nat → Int) (fz : Nat → Int) (fi : Nat → Int) (x : Int) (lane : Int) (x2 : Int) (v_ : Int) (h1 : (-2147483648 ≤ x ∧ x < 2147483648) ∧ (-2147483648 ≤ lane ∧ lane < 2147483648) ∧ (-2147483648 ≤ x2 ∧ x2 < 2147483648) ∧ (-2147483648 ≤ v_ ∧ v_ < 2147483648)) (hL : ∀ j, j < 4 → -1 ≤ fl j ∧ fl j ≤ 2 ∧ 0 ≤ fz j ∧ fz j ≤ 40) : Ct l g yX9_item wsX9_item ({ frames := 2, cells := 0, slots := 0, locals := 45 } : Room) [.ref hm, .int (iI x), .int (iI lane), .int (iI x2), .int (iI v_)] [(hm, .inr (9, mF a i)), ((a 33), aI (g.2.1 0) 4 fl), ((a 34), aI (g.2.1 0) 4 fz), ((a 35), aI (g.2.1 0) 160 fi)] (q_X9_item g hm a i fl fz fi x lane x2 v_) := by
  refine Ct.intro (maxL := 6) (ret := (some .int)) (by decide) rfl (Nat.le_of_ble_eq_true rfl) ?_
  intro p e s m below meth c A ls hx hb hr hml hown hts hlocks hnm hA hG hP hD hS hl
  have hown : s.vm.findClass RX9 = some m.cls := hown
  have hl : lv_has ls 6 [(0, .ref hm), (1, .int (iI x)), (2, .int (iI lane)), (3, .int (iI x2)), (4, .int (iI v_))] := hl
  have hP : va_P g.1 vwCl [(hm, .inr (9, mF a i)), ((a 33), aI (g.2.1 0) 4 fl), ((a 34), aI (g.2.1 0) 4 fz), ((a 35), aI (g.2.1 0) 160 fi)] s.heap := hP
  have hS : va_S A s.heap s.heap [] := hS
  obtain ⟨H, hHe⟩ : ∃ H : Heap, H = s.heap := ⟨_, rfl⟩
  obtain ⟨locs, hLe⟩ : ∃ L : List Loc, L = [] := ⟨_, rfl⟩
  have hP : va_P g.1 vwCl [(hm, .inr (9, mF a i)), ((a 33), aI (g.2.1 0) 4 fl), ((a 34), aI (g.2.1 0) 4 fz), ((a 35), aI (g.2.1 0) 160 fi)] H := by rw [hHe]; exact hP
  have hS : va_S A s.heap H locs := by rw [hHe, hLe]; exact hS
  suffices hgo : W p l e ({ frames := 2, cells := 0, slots := 0, locals := 45 } : Room) s m [.ref hm, .int (iI x), .int (iI lane), .int (iI x2), .int (iI v_)].toArray below meth c H locs 0 0 (MQ below (CQ g (q_X9_item g hm a i fl fz fi x lane x2 v_) A) [.ref hm, .int (iI x), .int (iI lane), .int (iI x2), .int (iI v_)].toArray s ({ frames := 2, cells := 0, slots := 0, locals := 45 } : Room).cells ({ frames := 2, cells := 0, slots := 0, locals := 45 } : Room).slots A) (F0 m 0 ls []) by rw [hHe, hLe] at hgo; exact hgo
  clear hHe hLe
  refine lv_iload_n hx hb dX9_item_0 rfl (lv_at hl 1 rfl) ?_
  refine Ct.callS (As := [.int (iI x)]) (rest := []) (wr := [(hm, .inr (9, mF a i)), ((a 33), aI (g.2.1 0) 4 fl), ((a 34), aI (g.2.1 0) 4 fz), ((a 35), aI (g.2.1 0) 160 fi)]) (c1 := 0) (s1 := 0) ⟨hx, hb, hml, hown, hts⟩ (c_X9_isSheet l g x (by omega)) (va_cwS 1 hts gX9_item_X9_isSheet rfl rfl rfl (by decide +kernel) ⟨Nat.le_of_ble_eq_true rfl, Nat.le_of_ble_eq_true rfl⟩) hG hP hD hS hA [] [0, 1, 2, 3] rfl rfl (by decide) (by decide) (by decide) rfl hl.1 rfl (Nat.le_of_ble_eq_true rfl) dX9_item_1 ⟨Nat.le_of_ble_eq_true rfl, Nat.le_of_ble_eq_true rfl⟩ rfl rfl (fun v w H locs hv hP hD hS => ?_)
  obtain ⟨⟨rfl, hb1⟩ | ⟨rfl, hb1⟩, rfl⟩ := hv
  · show W p l e _ s m _ below meth c H locs 0 0 _ (F0 m 4 ls (.int (iI 1) :: []))
    have hb1 : 0 ≤ x ∧ x ≤ 3 := hb1
    have hP : va_P g.1 vwCl [(hm, .inr (9, mF a i)), ((a 33), aI (g.2.1 0) 4 fl), ((a 34), aI (g.2.1 0) 4 fz), ((a 35), aI (g.2.1 0) 160 fi)] H := hP
    have hD : va_D A [(hm, .inr (9, mF a i)), ((a 33), aI (g.2.1 0) 4 fl), ((a 34), aI (g.2.1 0) 4 fz), ((a 35), aI (g.2.1 0) 160 fi)] := hD
    refine iv_if_eq (tgt := 14) hx hb dX9_item_4 (by decide) (by decide) (fun h => absurd h (by decide)) (fun _ => ?_)
    refine lv_iload_n hx hb dX9_item_7 rfl (lv_at hl 2 rfl) ?_
    refine Ct.callS (As := [.int (iI lane)]) (rest := []) (wr := [(hm, .inr (9, mF a i)), ((a 33), aI (g.2.1 0) 4 fl), ((a 34), aI (g.2.1 0) 4 fz), ((a 35), aI (g.2.1 0) 160 fi)]) (c1 := 0) (s1 := 0) ⟨hx, hb, hml, hown, hts⟩ (c_X9_isLane l g lane (by omega)) (va_cwS 1 hts gX9_item_X9_isLane rfl rfl rfl (by decide +kernel) ⟨Nat.le_of_ble_eq_true rfl, Nat.le_of_ble_eq_true rfl⟩) hG hP hD hS hA [] [0, 1, 2, 3] rfl rfl (by decide) (by decide) (by decide) rfl hl.1 rfl (Nat.le_of_ble_eq_true rfl) dX9_item_8 ⟨Nat.le_of_ble_eq_true rfl, Nat.le_of_ble_eq_true rfl⟩ rfl rfl (fun v w H locs hv hP hD hS => ?_)
    obtain ⟨⟨rfl, hb3⟩ | ⟨rfl, hb3⟩, rfl⟩ := hv
    · show W p l e _ s m _ below meth c H locs 0 0 _ (F0 m 11 ls (.int (iI 1) :: []))
      have hb3 : 0 ≤ lane ∧ lane ≤ 2 := hb3
      have hP : va_P g.1 vwCl [(hm, .inr (9, mF a i)), ((a 33), aI (g.2.1 0) 4 fl), ((a 34), aI (g.2.1 0) 4 fz), ((a 35), aI (g.2.1 0) 160 fi)] H := hP
      have hD : va_D A [(hm, .inr (9, mF a i)), ((a 33), aI (g.2.1 0) 4 fl), ((a 34), aI (g.2.1 0) 4 fz), ((a 35), aI (g.2.1 0) 160 fi)] := hD
      refine iv_if_ne (tgt := 16) hx hb dX9_item_11 (by decide) (by decide) (fun _ => ?_) (fun h => absurd h (by decide))
      have hk := hL x.toNat (by omega)
      refine lv_aload_n hx hb dX9_item_16 rfl (lv_at hl 0 rfl) ?_
      refine lv_iload_n hx hb dX9_item_17 rfl (lv_at hl 1 rfl) ?_
      refine lv_iload_n hx hb dX9_item_18 rfl (lv_at hl 2 rfl) ?_
      refine lv_iload_n hx hb dX9_item_19 rfl (lv_at hl 3 rfl) ?_
      refine lv_iconst (v := iI (1)) hx hb dX9_item_20 rfl ?_
      refine Ct.callV (ci := 9) (q0 := 0) (qc := (RX9, TX9, 37)) (As := [.int (iI x), .int (iI lane), .int (iI x2), .int (iI 1)]) (rest := []) (wr := [((a 35), aI (g.2.1 0) 160 fi)]) (c1 := 0) (s1 := 0) ⟨hx, hb, hml, hown, hts⟩ (c_X9_finds l g hm a i fl fz x lane x2 1 x.toNat (by omega) (hL)) rfl rfl (cwV 4 hts gX9_item_X9_finds rfl rfl rfl (by decide +kernel) ⟨Nat.le_of_ble_eq_true rfl, Nat.le_of_ble_eq_true rfl⟩) hG hP hD hS hA [0, 1, 2] [3] rfl rfl (by decide) (by decide) (by decide) rfl hl.1 rfl (Nat.le_of_ble_eq_true rfl) dX9_item_21 ⟨Nat.le_of_ble_eq_true rfl, Nat.le_of_ble_eq_true rfl⟩ rfl rfl (fun v w H locs hv hP hD hS => ?_)
      obtain ⟨r5, rfl, rfl, hf6⟩ := hv
      show W p l e _ s m _ below meth c H locs 0 0 _ (F0 m 24 ls (.int (iI r5) :: []))
      have hP : va_P g.1 vwCl [((a 35), aI (g.2.1 0) 160 fi), (hm, .inr (9, mF a i)), ((a 33), aI (g.2.1 0) 4 fl), ((a 34), aI (g.2.1 0) 4 fz)] H := hP
      have hD : va_D A [((a 35), aI (g.2.1 0) 160 fi), (hm, .inr (9, mF a i)), ((a 33), aI (g.2.1 0) 4 fl), ((a 34), aI (g.2.1 0) 4 fz)] := hD
      have hf6 : r5 = findS (fl x.toNat) (fz x.toNat) lane x2 1 := hf6
      have hrf : findS (fl x.toNat) (fz x.toNat) lane x2 1 = -11 ∨ findS (fl x.toNat) (fz x.toNat) lane x2 1 = -12 ∨ findS (fl x.toNat) (fz x.toNat) lane x2 1 = -13 ∨ (findS (fl x.toNat) (fz x.toNat) lane x2 1 = 0 ∧ 0 ≤ x2 ∧ x2 < 40) := by unfold findS; (repeat' split) <;> omega
      refine lv_istore (lv' := [(5, .int (iI r5)), (0, .ref hm), (1, .int (iI x)), (2, .int (iI lane)), (3, .int (iI x2)), (4, .int (iI v_))]) hx hb dX9_item_24 hl (by decide) rfl (fun ls hl => ?_)
      refine lv_iload hx hb dX9_item_26 (lv_at hl 0 rfl) ?_
      refine iv_if_ge (tgt := 34) hx hb dX9_item_28 (by decide) (by omega) (fun hc7 => ?_) (fun hc7 => ?_)
      · refine lv_aload_n hx hb dX9_item_34 rfl (lv_at hl 1 rfl) ?_
        refine va_get (D := g.1) (ci := 9) (v := .ref (a 35)) hx hb hts kX9_item_9 hown hG.1 hP 1 rfl rfl 35 (by decide) (hts _ (List.mem_of_getElem? (i := 1) rfl)) (fun _ h9 => h9) rfl dX9_item_35 ?_
        refine lv_bipush (v := iI (40)) hx hb dX9_item_38 (by decide) ?_
        refine lv_iload_n hx hb dX9_item_40 rfl (lv_at hl 2 rfl) ?_
        refine iv_imul hx hb dX9_item_41 ?_
        refine lv_iload_n hx hb dX9_item_42 rfl (lv_at hl 4 rfl) ?_
        refine iv_iadd hx hb dX9_item_43 ?_
        refine lv_iload_n hx hb dX9_item_44 rfl (lv_at hl 3 rfl) ?_
        refine iv_if_ne (tgt := 54) hx hb dX9_item_45 (by decide) (by omega) (fun hc8 => ?_) (fun hc8 => ?_)
        · refine lv_iload_n hx hb dX9_item_54 rfl (lv_at hl 3 rfl) ?_
          refine lv_iconst (v := iI (1)) hx hb dX9_item_55 rfl ?_
          refine iv_icmp_ne (tgt := 65) hx hb dX9_item_56 (by decide) (by omega) (fun hc9 => ?_) (fun hc9 => ?_)
          · refine lv_iload hx hb dX9_item_65 (lv_at hl 5 rfl) ?_
            refine iv_iast hx hb hG hP hD hS 0 rfl (40 * x.toNat + x2.toNat) (by omega) (by omega) (by decide) dX9_item_67 (fun H locs hP hD hS => ?_)
            have hP : va_P g.1 vwCl [((a 35), aI (g.2.1 0) 160 (va_up fi (40 * x.toNat + x2.toNat) v_)), (hm, .inr (9, mF a i)), ((a 33), aI (g.2.1 0) 4 fl), ((a 34), aI (g.2.1 0) 4 fz)] H := hP
            have hD : va_D A [((a 35), aI (g.2.1 0) 160 (va_up fi (40 * x.toNat + x2.toNat) v_)), (hm, .inr (9, mF a i)), ((a 33), aI (g.2.1 0) 4 fl), ((a 34), aI (g.2.1 0) 4 fz)] := hD
            refine lv_iconst (v := iI (1)) hx hb dX9_item_68 rfl ?_
            exact Ct.iret hx hb hr hlocks (hP.sub [1, 2, 3, 0] rfl) (hD.sub [1, 2, 3, 0] (by decide) rfl) hS ⟨by decide, by decide⟩ dX9_item_69 ⟨1, (va_up fi (40 * x.toNat + x2.toNat) v_), rfl, rfl, (by rw [if_neg (by omega), if_neg (by omega)]), (fun _ => by unfold cutS; first | rw [if_pos (by omega)] | rw [if_neg (by omega), if_pos (by omega)] | rw [if_neg (by omega), if_neg (by omega)]), (fun h => absurd h (by omega))⟩
          · refine lv_iload hx hb dX9_item_59 (lv_at hl 5 rfl) ?_
            refine lv_i2s (v := iI (shortI v_)) hx hb dX9_item_61 (shortI_eq v_) ?_
            refine lv_goto (tgt := 67) hx hb dX9_item_62 (by decide) ?_
            refine iv_iast hx hb hG hP hD hS 0 rfl (40 * x.toNat + x2.toNat) (by omega) (by omega) (by decide) dX9_item_67 (fun H locs hP hD hS => ?_)
            have hP : va_P g.1 vwCl [((a 35), aI (g.2.1 0) 160 (va_up fi (40 * x.toNat + x2.toNat) (shortI v_))), (hm, .inr (9, mF a i)), ((a 33), aI (g.2.1 0) 4 fl), ((a 34), aI (g.2.1 0) 4 fz)] H := hP
            have hD : va_D A [((a 35), aI (g.2.1 0) 160 (va_up fi (40 * x.toNat + x2.toNat) (shortI v_))), (hm, .inr (9, mF a i)), ((a 33), aI (g.2.1 0) 4 fl), ((a 34), aI (g.2.1 0) 4 fz)] := hD
            refine lv_iconst (v := iI (1)) hx hb dX9_item_68 rfl ?_
            exact Ct.iret hx hb hr hlocks (hP.sub [1, 2, 3, 0] rfl) (hD.sub [1, 2, 3, 0] (by decide) rfl) hS ⟨by decide, by decide⟩ dX9_item_69 ⟨1, (va_up fi (40 * x.toNat + x2.toNat) (shortI v_)), rfl, rfl, (by rw [if_neg (by omega), if_neg (by omega)]), (fun _ => by unfold cutS; first | rw [if_pos (by omega)] | rw [if_neg (by omega), if_pos (by omega)] | rw [if_neg (by omega), if_neg (by omega)]), (fun h => absurd h (by omega))⟩
        · refine lv_iload hx hb dX9_item_48 (lv_at hl 5 rfl) ?_
          refine lv_i2b (v := iI (byteI v_)) hx hb dX9_item_50 (byteI_eq v_) ?_
          refine lv_goto (tgt := 67) hx hb dX9_item_51 (by decide) ?_
          refine iv_iast hx hb hG hP hD hS 0 rfl (40 * x.toNat + x2.toNat) (by omega) (by omega) (by decide) dX9_item_67 (fun H locs hP hD hS => ?_)
          have hP : va_P g.1 vwCl [((a 35), aI (g.2.1 0) 160 (va_up fi (40 * x.toNat + x2.toNat) (byteI v_))), (hm, .inr (9, mF a i)), ((a 33), aI (g.2.1 0) 4 fl), ((a 34), aI (g.2.1 0) 4 fz)] H := hP
          have hD : va_D A [((a 35), aI (g.2.1 0) 160 (va_up fi (40 * x.toNat + x2.toNat) (byteI v_))), (hm, .inr (9, mF a i)), ((a 33), aI (g.2.1 0) 4 fl), ((a 34), aI (g.2.1 0) 4 fz)] := hD
          refine lv_iconst (v := iI (1)) hx hb dX9_item_68 rfl ?_
          exact Ct.iret hx hb hr hlocks (hP.sub [1, 2, 3, 0] rfl) (hD.sub [1, 2, 3, 0] (by decide) rfl) hS ⟨by decide, by decide⟩ dX9_item_69 ⟨1, (va_up fi (40 * x.toNat + x2.toNat) (byteI v_)), rfl, rfl, (by rw [if_neg (by omega), if_neg (by omega)]), (fun _ => by unfold cutS; first | rw [if_pos (by omega)] | rw [if_neg (by omega), if_pos (by omega)] | rw [if_neg (by omega), if_neg (by omega)]), (fun h => absurd h (by omega))⟩
      · refine lv_iload hx hb dX9_item_31 (lv_at hl 0 rfl) ?_
        exact Ct.iret hx hb hr hlocks (hP.sub [1, 2, 3, 0] rfl) (hD.sub [1, 2, 3, 0] (by decide) rfl) hS ⟨by decide, by decide⟩ dX9_item_33 ⟨r5, fi, rfl, rfl, (by rw [if_neg (by omega), if_pos (by omega)]; assumption), (fun h => absurd h (by omega)), (fun _ => rfl)⟩
    · show W p l e _ s m _ below meth c H locs 0 0 _ (F0 m 11 ls (.int (iI 0) :: []))
      have hb3 : ¬ (0 ≤ lane ∧ lane ≤ 2) := hb3
      have hP : va_P g.1 vwCl [(hm, .inr (9, mF a i)), ((a 33), aI (g.2.1 0) 4 fl), ((a 34), aI (g.2.1 0) 4 fz), ((a 35), aI (g.2.1 0) 160 fi)] H := hP
      have hD : va_D A [(hm, .inr (9, mF a i)), ((a 33), aI (g.2.1 0) 4 fl), ((a 34), aI (g.2.1 0) 4 fz), ((a 35), aI (g.2.1 0) 160 fi)] := hD
      refine iv_if_ne (tgt := 16) hx hb dX9_item_11 (by decide) (by decide) (fun h => absurd h (by decide)) (fun _ => ?_)
      refine lv_iconst (v := iI (-1)) hx hb dX9_item_14 rfl ?_
      exact Ct.iret hx hb hr hlocks (hP.sub [0, 1, 2, 3] rfl) (hD.sub [0, 1, 2, 3] (by decide) rfl) hS ⟨by decide, by decide⟩ dX9_item_15 ⟨(-1), fi, rfl, rfl, (by rw [if_pos (by omega)]), (fun h => absurd h (by omega)), (fun _ => rfl)⟩
  · show W p l e _ s m _ below meth c H locs 0 0 _ (F0 m 4 ls (.int (iI 0) :: []))
    have hb1 : ¬ (0 ≤ x ∧ x ≤ 3) := hb1
    have hP : va_P g.1 vwCl [(hm, .inr (9, mF a i)), ((a 33), aI (g.2.1 0) 4 fl), ((a 34), aI (g.2.1 0) 4 fz), ((a 35), aI (g.2.1 0) 160 fi)] H := hP
    have hD : va_D A [(hm, .inr (9, mF a i)), ((a 33), aI (g.2.1 0) 4 fl), ((a 34), aI (g.2.1 0) 4 fz), ((a 35), aI (g.2.1 0) 160 fi)] := hD
    refine iv_if_eq (tgt := 14) hx hb dX9_item_4 (by decide) (by decide) (fun _ => ?_) (fun h => absurd h (by decide))
    refine lv_iconst (v := iI (-1)) hx hb dX9_item_14 rfl ?_
    exact Ct.iret hx hb hr hlocks (hP.sub [0, 1, 2, 3] rfl) (hD.sub [0, 1, 2, 3] (by decide) rfl) hS ⟨by decide, by decide⟩ dX9_item_15 ⟨(-1), fi, rfl, rfl, (by rw [if_pos (by omega)]), (fun h => absurd h (by omega)), (fun _ => rfl)⟩
