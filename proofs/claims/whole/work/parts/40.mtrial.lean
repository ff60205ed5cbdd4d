theorem kX9_deal_9 : ∀ w ∈ u_ws RX9 TX9 37, w ∈ wsX9_deal := fun _ h => List.mem_cons_of_mem _ (List.mem_append_right _ h)
abbrev q_X9_deal (g : GT) (hm : Nat) (a : Nat → Nat) (i : Nat → Int) (fw : Nat → Int) (fo : Nat → Int) (M : Nat) (way : Int) (ou : Int) : Option Value → va_W → Prop := fun v w => ∃ (r : Int), ∃ (i' : Nat → Int), ∃ (fw' : Nat → Int), ∃ (fo' : Nat → Int), v = some (.int (iI r)) ∧ w = [(hm, .inr (9, mF a i')), ((a 31), aI (g.2.1 0) 12 fw'), ((a 32), aI (g.2.1 0) 12 fo')] ∧ (((r = -1 ∧ ¬ ((0 ≤ way ∧ way ≤ 1) ∧ -999 ≤ ou ∧ ou ≤ 999)) ∧ i' = i ∧ fw' = fw ∧ fo' = fo) ∨ (((0 ≤ way ∧ way ≤ 1) ∧ -999 ≤ ou ∧ ou ≤ 999) ∧ ((r = -3 ∧ M = 12 ∧ i' = i ∧ fw' = fw ∧ fo' = fo) ∨ (r = i 30 + 1 ∧ M < 12 ∧ i' = va_up i 30 (i 30 + 1) ∧ fw' = va_up fw M way ∧ fo' = va_up fo M ou))))
set_option maxHeartbeats 4000000 in
set_option maxRecDepth 100000 in
theorem c_X9_deal (l : Launch) (g : GT) (hm : Nat) (a : Nat → Nat) (i : Nat → Int) (fw : Nat → Int) (fo : Nat → Int) (M : Nat) (way : Int) (ou : Int) (h1 : i 30 = (M : Int) ∧ M ≤ 12) (h3 : (-2147483648 ≤ way ∧ way < 2147483648) ∧ (-2147483648 ≤ ou ∧ ou < 2147483648)) : Ct l g yX9_deal wsX9_deal ({ frames := 1, cells := 0, slots := 0, locals := 25 } : Room) [.ref hm, .int (iI way), .int (iI ou)] [(hm, .inr (9, mF a i)), ((a 31), aI (g.2.1 0) 12 fw), ((a 32), aI (g.2.1 0) 12 fo)] (q_X9_deal g hm a i fw fo M way ou) := by
  refine Ct.intro (maxL := 3) (ret := (some .int)) (by decide) rfl (Nat.le_of_ble_eq_true rfl) ?_
  intro p e s m below meth c A ls hx hb hr hml hown hts hlocks hnm hA hG hP hD hS hl
  have hown : s.vm.findClass RX9 = some m.cls := hown
  have hl : lv_has ls 3 [(0, .ref hm), (1, .int (iI way)), (2, .int (iI ou))] := hl
  have hP : va_P g.1 vwCl [(hm, .inr (9, mF a i)), ((a 31), aI (g.2.1 0) 12 fw), ((a 32), aI (g.2.1 0) 12 fo)] s.heap := hP
  have hS : va_S A s.heap s.heap [] := hS
  obtain ⟨H, hHe⟩ : ∃ H : Heap, H = s.heap := ⟨_, rfl⟩
  obtain ⟨locs, hLe⟩ : ∃ L : List Loc, L = [] := ⟨_, rfl⟩
  have hP : va_P g.1 vwCl [(hm, .inr (9, mF a i)), ((a 31), aI (g.2.1 0) 12 fw), ((a 32), aI (g.2.1 0) 12 fo)] H := by rw [hHe]; exact hP
  have hS : va_S A s.heap H locs := by rw [hHe, hLe]; exact hS
  suffices hgo : W p l e ({ frames := 1, cells := 0, slots := 0, locals := 25 } : Room) s m [.ref hm, .int (iI way), .int (iI ou)].toArray below meth c H locs 0 0 (MQ below (CQ g (q_X9_deal g hm a i fw fo M way ou) A) [.ref hm, .int (iI way), .int (iI ou)].toArray s ({ frames := 1, cells := 0, slots := 0, locals := 25 } : Room).cells ({ frames := 1, cells := 0, slots := 0, locals := 25 } : Room).slots A) (F0 m 0 ls []) by rw [hHe, hLe] at hgo; exact hgo
  clear hHe hLe
  refine lv_iload_n hx hb dX9_deal_0 rfl (lv_at hl 1 rfl) ?_
  refine iv_i2l hx hb dX9_deal_1 (by omega) ?_
  refine lv_lconst (v := lI (0)) hx hb dX9_deal_2 (by decide) ?_
  refine lv_lconst (v := lI (1)) hx hb dX9_deal_3 (by decide) ?_
  refine Ct.callS (As := [.long (lI way), .long (lI 0), .long (lI 1)]) (rest := []) (wr := [(hm, .inr (9, mF a i)), ((a 31), aI (g.2.1 0) 12 fw), ((a 32), aI (g.2.1 0) 12 fo)]) (c1 := 0) (s1 := 0) ⟨hx, hb, hml, hown, hts⟩ (c_X9_in l g way 0 1 (by omega)) (va_cwS 3 hts gX9_deal_X9_in rfl rfl rfl (by decide +kernel) ⟨Nat.le_of_ble_eq_true rfl, Nat.le_of_ble_eq_true rfl⟩) hG hP hD hS hA [] [0, 1, 2] rfl rfl (by decide) (by decide) (by decide) rfl hl.1 rfl (Nat.le_of_ble_eq_true rfl) dX9_deal_4 ⟨Nat.le_of_ble_eq_true rfl, Nat.le_of_ble_eq_true rfl⟩ rfl rfl (fun v w H locs hv hP hD hS => ?_)
  obtain ⟨⟨rfl, hb1⟩ | ⟨rfl, hb1⟩, rfl⟩ := hv
  · show W p l e _ s m _ below meth c H locs 0 0 _ (F0 m 7 ls (.int (iI 1) :: []))
    have hb1 : 0 ≤ way ∧ way ≤ 1 := hb1
    have hP : va_P g.1 vwCl [(hm, .inr (9, mF a i)), ((a 31), aI (g.2.1 0) 12 fw), ((a 32), aI (g.2.1 0) 12 fo)] H := hP
    have hD : va_D A [(hm, .inr (9, mF a i)), ((a 31), aI (g.2.1 0) 12 fw), ((a 32), aI (g.2.1 0) 12 fo)] := hD
    refine iv_if_eq (tgt := 24) hx hb dX9_deal_7 (by decide) (by decide) (fun h => absurd h (by decide)) (fun _ => ?_)
    refine lv_iload_n hx hb dX9_deal_10 rfl (lv_at hl 2 rfl) ?_
    refine iv_i2l hx hb dX9_deal_11 (by omega) ?_
    refine iv_ldc2 (v := -999) (z := -999) hx hb hown (hts _ (List.mem_of_getElem? (i := 1) rfl)) dX9_deal_12 (by decide) ?_
    refine iv_ldc2 (v := 999) (z := 999) hx hb hown (hts _ (List.mem_of_getElem? (i := 2) rfl)) dX9_deal_15 (by decide) ?_
    refine Ct.callS (As := [.long (lI ou), .long (lI (-999)), .long (lI 999)]) (rest := []) (wr := [(hm, .inr (9, mF a i)), ((a 31), aI (g.2.1 0) 12 fw), ((a 32), aI (g.2.1 0) 12 fo)]) (c1 := 0) (s1 := 0) ⟨hx, hb, hml, hown, hts⟩ (c_X9_in l g ou (-999) 999 (by omega)) (va_cwS 3 hts gX9_deal_X9_in rfl rfl rfl (by decide +kernel) ⟨Nat.le_of_ble_eq_true rfl, Nat.le_of_ble_eq_true rfl⟩) hG hP hD hS hA [] [0, 1, 2] rfl rfl (by decide) (by decide) (by decide) rfl hl.1 rfl (Nat.le_of_ble_eq_true rfl) dX9_deal_18 ⟨Nat.le_of_ble_eq_true rfl, Nat.le_of_ble_eq_true rfl⟩ rfl rfl (fun v w H locs hv hP hD hS => ?_)
    obtain ⟨⟨rfl, hb3⟩ | ⟨rfl, hb3⟩, rfl⟩ := hv
    · show W p l e _ s m _ below meth c H locs 0 0 _ (F0 m 21 ls (.int (iI 1) :: []))
      have hb3 : (-999) ≤ ou ∧ ou ≤ 999 := hb3
      have hP : va_P g.1 vwCl [(hm, .inr (9, mF a i)), ((a 31), aI (g.2.1 0) 12 fw), ((a 32), aI (g.2.1 0) 12 fo)] H := hP
      have hD : va_D A [(hm, .inr (9, mF a i)), ((a 31), aI (g.2.1 0) 12 fw), ((a 32), aI (g.2.1 0) 12 fo)] := hD
      refine iv_if_ne (tgt := 26) hx hb dX9_deal_21 (by decide) (by decide) (fun _ => ?_) (fun h => absurd h (by decide))
      refine lv_aload_n hx hb dX9_deal_26 rfl (lv_at hl 0 rfl) ?_
      refine va_get (D := g.1) (ci := 9) (v := .int (iI (i 30))) hx hb hts kX9_deal_9 hown hG.1 hP 0 rfl rfl 30 (by decide) (hts _ (List.mem_of_getElem? (i := 3) rfl)) (fun _ h9 => h9) rfl dX9_deal_27 ?_
      refine lv_bipush (v := iI (12)) hx hb dX9_deal_30 (by decide) ?_
      refine iv_icmp_ne (tgt := 38) hx hb dX9_deal_32 (by decide) (by omega) (fun hc5 => ?_) (fun hc5 => ?_)
      · refine lv_aload_n hx hb dX9_deal_38 rfl (lv_at hl 0 rfl) ?_
        refine va_get (D := g.1) (ci := 9) (v := .ref (a 31)) hx hb hts kX9_deal_9 hown hG.1 hP 0 rfl rfl 31 (by decide) (hts _ (List.mem_of_getElem? (i := 4) rfl)) (fun _ h9 => h9) rfl dX9_deal_39 ?_
        refine lv_aload_n hx hb dX9_deal_42 rfl (lv_at hl 0 rfl) ?_
        refine va_get (D := g.1) (ci := 9) (v := .int (iI (i 30))) hx hb hts kX9_deal_9 hown hG.1 hP 0 rfl rfl 30 (by decide) (hts _ (List.mem_of_getElem? (i := 3) rfl)) (fun _ h9 => h9) rfl dX9_deal_43 ?_
        refine lv_iload_n hx hb dX9_deal_46 rfl (lv_at hl 1 rfl) ?_
        refine iv_iast hx hb hG hP hD hS 1 rfl M (by omega) (by omega) (by decide) dX9_deal_47 (fun H locs hP hD hS => ?_)
        have hP : va_P g.1 vwCl [(hm, .inr (9, mF a i)), ((a 31), aI (g.2.1 0) 12 (va_up fw M way)), ((a 32), aI (g.2.1 0) 12 fo)] H := hP
        have hD : va_D A [(hm, .inr (9, mF a i)), ((a 31), aI (g.2.1 0) 12 (va_up fw M way)), ((a 32), aI (g.2.1 0) 12 fo)] := hD
        refine lv_aload_n hx hb dX9_deal_48 rfl (lv_at hl 0 rfl) ?_
        refine va_get (D := g.1) (ci := 9) (v := .ref (a 32)) hx hb hts kX9_deal_9 hown hG.1 hP 0 rfl rfl 32 (by decide) (hts _ (List.mem_of_getElem? (i := 5) rfl)) (fun _ h9 => h9) rfl dX9_deal_49 ?_
        refine lv_aload_n hx hb dX9_deal_52 rfl (lv_at hl 0 rfl) ?_
        refine va_get (D := g.1) (ci := 9) (v := .int (iI (i 30))) hx hb hts kX9_deal_9 hown hG.1 hP 0 rfl rfl 30 (by decide) (hts _ (List.mem_of_getElem? (i := 3) rfl)) (fun _ h9 => h9) rfl dX9_deal_53 ?_
        refine lv_iload_n hx hb dX9_deal_56 rfl (lv_at hl 2 rfl) ?_
        refine iv_iast hx hb hG hP hD hS 2 rfl M (by omega) (by omega) (by decide) dX9_deal_57 (fun H locs hP hD hS => ?_)
        have hP : va_P g.1 vwCl [(hm, .inr (9, mF a i)), ((a 31), aI (g.2.1 0) 12 (va_up fw M way)), ((a 32), aI (g.2.1 0) 12 (va_up fo M ou))] H := hP
        have hD : va_D A [(hm, .inr (9, mF a i)), ((a 31), aI (g.2.1 0) 12 (va_up fw M way)), ((a 32), aI (g.2.1 0) 12 (va_up fo M ou))] := hD
        refine lv_aload_n hx hb dX9_deal_58 rfl (lv_at hl 0 rfl) ?_
        refine lv_dup hx hb dX9_deal_59 rfl ?_
        refine va_get (D := g.1) (ci := 9) (v := .int (iI (i 30))) hx hb hts kX9_deal_9 hown hG.1 hP 0 rfl rfl 30 (by decide) (hts _ (List.mem_of_getElem? (i := 3) rfl)) (fun _ h9 => h9) rfl dX9_deal_60 ?_
        refine lv_iconst (v := iI (1)) hx hb dX9_deal_63 rfl ?_
        refine iv_iadd hx hb dX9_deal_64 ?_
        refine va_put (D := g.1) (ci := 9) (v := .int (iI ((i 30) + 1))) hx hb hts kX9_deal_9 tyX9 tyX9_ok nmX9 hown hG.1 hP hD hS 0 rfl rfl 30 (by decide) (hts _ (List.mem_of_getElem? (i := 3) rfl)) (fun _ h9 => h9) rfl (tyX9_ok 30 (by decide)) rfl rfl (Nat.le_of_ble_eq_true rfl) dX9_deal_65 (fun H locs hP hD hS => ?_)
        have hP : va_P g.1 vwCl [(hm, .inr (9, mF a (va_up i 30 ((i 30) + 1)))), ((a 31), aI (g.2.1 0) 12 (va_up fw M way)), ((a 32), aI (g.2.1 0) 12 (va_up fo M ou))] H := hP
        have hD : va_D A [(hm, .inr (9, mF a (va_up i 30 ((i 30) + 1)))), ((a 31), aI (g.2.1 0) 12 (va_up fw M way)), ((a 32), aI (g.2.1 0) 12 (va_up fo M ou))] := hD
        refine lv_aload_n hx hb dX9_deal_68 rfl (lv_at hl 0 rfl) ?_
        refine va_get (D := g.1) (ci := 9) (v := .int (iI ((i 30) + 1))) hx hb hts kX9_deal_9 hown hG.1 hP 0 rfl rfl 30 (by decide) (hts _ (List.mem_of_getElem? (i := 3) rfl)) (fun _ h9 => h9) rfl dX9_deal_69 ?_
        exact Ct.iret hx hb hr hlocks (hP.sub [0, 1, 2] rfl) (hD.sub [0, 1, 2] (by decide) rfl) hS ⟨by decide, by decide⟩ dX9_deal_72 ⟨((i 30) + 1), (va_up i 30 (i 30 + 1)), (va_up fw M way), (va_up fo M ou), rfl, rfl, (Or.inr ⟨by omega, Or.inr ⟨rfl, by omega, rfl, rfl, rfl⟩⟩)⟩
      · refine lv_bipush (v := iI (-3)) hx hb dX9_deal_35 (by decide) ?_
        exact Ct.iret hx hb hr hlocks (hP.sub [0, 1, 2] rfl) (hD.sub [0, 1, 2] (by decide) rfl) hS ⟨by decide, by decide⟩ dX9_deal_37 ⟨(-3), i, fw, fo, rfl, rfl, (Or.inr ⟨by omega, Or.inl ⟨rfl, by omega, rfl, rfl, rfl⟩⟩)⟩
    · show W p l e _ s m _ below meth c H locs 0 0 _ (F0 m 21 ls (.int (iI 0) :: []))
      have hb3 : ¬ ((-999) ≤ ou ∧ ou ≤ 999) := hb3
      have hP : va_P g.1 vwCl [(hm, .inr (9, mF a i)), ((a 31), aI (g.2.1 0) 12 fw), ((a 32), aI (g.2.1 0) 12 fo)] H := hP
      have hD : va_D A [(hm, .inr (9, mF a i)), ((a 31), aI (g.2.1 0) 12 fw), ((a 32), aI (g.2.1 0) 12 fo)] := hD
      refine iv_if_ne (tgt := 26) hx hb dX9_deal_21 (by decide) (by decide) (fun h => absurd h (by decide)) (fun _ => ?_)
      refine lv_iconst (v := iI (-1)) hx hb dX9_deal_24 rfl ?_
      exact Ct.iret hx hb hr hlocks (hP.sub [0, 1, 2] rfl) (hD.sub [0, 1, 2] (by decide) rfl) hS ⟨by decide, by decide⟩ dX9_deal_25 ⟨(-1), i, fw, fo, rfl, rfl, (Or.inl ⟨⟨rfl, by omega⟩, rfl, rfl, rfl⟩)⟩
  · show W p l e _ s m _ below meth c H locs 0 0 _ (F0 m 7 ls (.int (iI 0) :: []))
    have hb1 : ¬ (0 ≤ way ∧ way ≤ 1) := hb1
    have hP : va_P g.1 vwCl [(hm, .inr (9, mF a i)), ((a 31), aI (g.2.1 0) 12 fw), ((a 32), aI (g.2.1 0) 12 fo)] H := hP
    have hD : va_D A [(hm, .inr (9, mF a i)), ((a 31), aI (g.2.1 0) 12 fw), ((a 32), aI (g.2.1 0) 12 fo)] := hD
    refine iv_if_eq (tgt := 24) hx hb dX9_deal_7 (by decide) (by decide) (fun _ => ?_) (fun h => absurd h (by decide))
    refine lv_iconst (v := iI (-1)) hx hb dX9_deal_24 rfl ?_
    exact Ct.iret hx hb hr hlocks (hP.sub [0, 1, 2] rfl) (hD.sub [0, 1, 2] (by decide) rfl) hS ⟨by decide, by decide⟩ dX9_deal_25 ⟨(-1), i, fw, fo, rfl, rfl, (Or.inl ⟨⟨rfl, by omega⟩, rfl, rfl, rfl⟩)⟩
theorem kX9_ends_9 : ∀ w ∈ u_ws RX9 TX9 37, w ∈ wsX9_ends := fun _ h => List.mem_cons_of_mem _ (List.mem_append_right _ h)
abbrev q_X9_ends (g : GT) (hm : Nat) (a : Nat → Nat) (i : Nat → Int) : Option Value → va_W → Prop := fun v w => ∃ (i' : Nat → Int), v = some (.int (iI (i 30))) ∧ w = [(hm, .inr (9, mF a i'))] ∧ (i' = va_up i 30 0)
set_option maxHeartbeats 4000000 in
set_option maxRecDepth 100000 in
theorem c_X9_ends (l : Launch) (g : GT) (hm : Nat) (a : Nat → Nat) (i : Nat → Int) : Ct l g yX9_ends wsX9_ends ({ frames := 0, cells := 0, slots := 0, locals := 0 } : Room) [.ref hm] [(hm, .inr (9, mF a i))] (q_X9_ends g hm a i) := by
  refine Ct.intro (maxL := 2) (ret := (some .int)) (by decide) rfl (Nat.le_of_ble_eq_true rfl) ?_
  intro p e s m below meth c A ls hx hb hr hml hown hts hlocks hnm hA hG hP hD hS hl
  have hown : s.vm.findClass RX9 = some m.cls := hown
  have hl : lv_has ls 2 [(0, .ref hm)] := hl
  have hP : va_P g.1 vwCl [(hm, .inr (9, mF a i))] s.heap := hP
  have hS : va_S A s.heap s.heap [] := hS
  obtain ⟨H, hHe⟩ : ∃ H : Heap, H = s.heap := ⟨_, rfl⟩
  obtain ⟨locs, hLe⟩ : ∃ L : List Loc, L = [] := ⟨_, rfl⟩
  have hP : va_P g.1 vwCl [(hm, .inr (9, mF a i))] H := by rw [hHe]; exact hP
  have hS : va_S A s.heap H locs := by rw [hHe, hLe]; exact hS
  suffices hgo : W p l e ({ frames := 0, cells := 0, slots := 0, locals := 0 } : Room) s m [.ref hm].toArray below meth c H locs 0 0 (MQ below (CQ g (q_X9_ends g hm a i) A) [.ref hm].toArray s ({ frames := 0, cells := 0, slots := 0, locals := 0 } : Room).cells ({ frames := 0, cells := 0, slots := 0, locals := 0 } : Room).slots A) (F0 m 0 ls []) by rw [hHe, hLe] at hgo; exact hgo
  clear hHe hLe
  refine lv_aload_n hx hb dX9_ends_0 rfl (lv_at hl 0 rfl) ?_
  refine va_get (D := g.1) (ci := 9) (v := .int (iI (i 30))) hx hb hts kX9_ends_9 hown hG.1 hP 0 rfl rfl 30 (by decide) (hts _ (List.mem_of_getElem? (i := 1) rfl)) (fun _ h9 => h9) rfl dX9_ends_1 ?_
  refine lv_istore_n (lv' := [(1, .int (iI (i 30))), (0, .ref hm)]) hx hb dX9_ends_4 rfl hl (by decide) rfl (fun ls hl => ?_)
  refine lv_aload_n hx hb dX9_ends_5 rfl (lv_at hl 1 rfl) ?_
  refine lv_iconst (v := iI (0)) hx hb dX9_ends_6 rfl ?_
  refine va_put (D := g.1) (ci := 9) (v := .int (iI 0)) hx hb hts kX9_ends_9 tyX9 tyX9_ok nmX9 hown hG.1 hP hD hS 0 rfl rfl 30 (by decide) (hts _ (List.mem_of_getElem? (i := 1) rfl)) (fun _ h9 => h9) rfl (tyX9_ok 30 (by decide)) rfl rfl (Nat.le_of_ble_eq_true rfl) dX9_ends_7 (fun H locs hP hD hS => ?_)
  have hP : va_P g.1 vwCl [(hm, .inr (9, mF a (va_up i 30 0)))] H := hP
  have hD : va_D A [(hm, .inr (9, mF a (va_up i 30 0)))] := hD
  refine lv_iload_n hx hb dX9_ends_10 rfl (lv_at hl 0 rfl) ?_
  exact Ct.iret hx hb hr hlocks (hP.sub [0] rfl) (hD.sub [0] (by decide) rfl) hS ⟨by decide, by decide⟩ dX9_ends_11 ⟨(va_up i 30 0), rfl, rfl, (rfl)⟩
theorem kX9_dealt_9 : ∀ w ∈ u_ws RX9 TX9 37, w ∈ wsX9_dealt := fun _ h => List.mem_cons_of_mem _ (List.mem_append_right _ h)
abbrev q_X9_dealt (g : GT) (hm : Nat) (a : Nat → Nat) (i : Nat → Int) (fw : Nat → Int) (fo : Nat → Int) (M : Nat) (way : Int) : Option Value → va_W → Prop := fun v w => ∃ (r : Int), v = some (.int (iI r)) ∧ w = [(hm, .inr (9, mF a i)), ((a 31), aI (g.2.1 0) 12 fw), ((a 32), aI (g.2.1 0) 12 fo)] ∧ (r = mW fw way M)
set_option maxHeartbeats 4000000 in
set_option maxRecDepth 100000 in
theorem c_X9_dealt (l : Launch) (g : GT) (hm : Nat) (a : Nat → Nat) (i : Nat → Int) (fw : Nat → Int) (fo : Nat → Int) (M : Nat) (way : Int) (h1 : i 30 = (M : Int) ∧ M ≤ 12 ∧ 0 ≤ way ∧ way ≤ 1) (h2 : ∀ j, j < M → (fw j = 0 ∨ fw j = 1) ∧ -999 ≤ fo j ∧ fo j ≤ 999) : Ct l g yX9_dealt wsX9_dealt ({ frames := 0, cells := 0, slots := 0, locals := 0 } : Room) [.ref hm, .int (iI way)] [(hm, .inr (9, mF a i)), ((a 31), aI (g.2.1 0) 12 fw), ((a 32), aI (g.2.1 0) 12 fo)] (q_X9_dealt g hm a i fw fo M way) := by
  refine Ct.intro (maxL := 4) (ret := (some .int)) (by decide) rfl (Nat.le_of_ble_eq_true rfl) ?_
  intro p e s m below meth c A ls hx hb hr hml hown hts hlocks hnm hA hG hP hD hS hl
  have hown : s.vm.findClass RX9 = some m.cls := hown
  have hl : lv_has ls 4 [(0, .ref hm), (1, .int (iI way))] := hl
  have hP : va_P g.1 vwCl [(hm, .inr (9, mF a i)), ((a 31), aI (g.2.1 0) 12 fw), ((a 32), aI (g.2.1 0) 12 fo)] s.heap := hP
  have hS : va_S A s.heap s.heap [] := hS
  obtain ⟨H, hHe⟩ : ∃ H : Heap, H = s.heap := ⟨_, rfl⟩
  obtain ⟨locs, hLe⟩ : ∃ L : List Loc, L = [] := ⟨_, rfl⟩
  have hP : va_P g.1 vwCl [(hm, .inr (9, mF a i)), ((a 31), aI (g.2.1 0) 12 fw), ((a 32), aI (g.2.1 0) 12 fo)] H := by rw [hHe]; exact hP
  have hS : va_S A s.heap H locs := by rw [hHe, hLe]; exact hS
  suffices hgo : W p l e ({ frames := 0, cells := 0, slots := 0, locals := 0 } : Room) s m [.ref hm, .int (iI way)].toArray below meth c H locs 0 0 (MQ below (CQ g (q_X9_dealt g hm a i fw fo M way) A) [.ref hm, .int (iI way)].toArray s ({ frames := 0, cells := 0, slots := 0, locals := 0 } : Room).cells ({ frames := 0, cells := 0, slots := 0, locals := 0 } : Room).slots A) (F0 m 0 ls []) by rw [hHe, hLe] at hgo; exact hgo
  clear hHe hLe
  refine lv_iconst (v := iI (0)) hx hb dX9_dealt_0 rfl ?_
  refine lv_istore_n (lv' := [(2, .int (iI 0)), (0, .ref hm), (1, .int (iI way))]) hx hb dX9_dealt_1 rfl hl (by decide) rfl (fun ls hl => ?_)
  refine lv_iconst (v := iI (0)) hx hb dX9_dealt_2 rfl ?_
  refine lv_istore_n (lv' := [(3, .int (iI 0)), (2, .int (iI 0)), (0, .ref hm), (1, .int (iI way))]) hx hb dX9_dealt_3 rfl hl (by decide) rfl (fun ls hl => ?_)
  have hloop4 : ∀ (fuel : Nat) (sm : Int) (zj : Int) (j : Nat) (hc : zj = (j : Int) ∧ j ≤ M) (he : sm = mW fw way j) (hmeas : M - j < fuel), ∀ (H : Heap) (locs : List Loc) (ls : Array Slot), va_P g.1 vwCl [(hm, .inr (9, mF a i)), ((a 31), aI (g.2.1 0) 12 fw), ((a 32), aI (g.2.1 0) 12 fo)] H → va_D A [(hm, .inr (9, mF a i)), ((a 31), aI (g.2.1 0) 12 fw), ((a 32), aI (g.2.1 0) 12 fo)] → va_S A s.heap H locs → lv_has ls 4 [(3, .int (iI zj)), (2, .int (iI sm)), (0, .ref hm), (1, .int (iI way))] → W p l e ({ frames := 0, cells := 0, slots := 0, locals := 0 } : Room) s m [.ref hm, .int (iI way)].toArray below meth c H locs 0 0 (MQ below (CQ g (q_X9_dealt g hm a i fw fo M way) A) [.ref hm, .int (iI way)].toArray s ({ frames := 0, cells := 0, slots := 0, locals := 0 } : Room).cells ({ frames := 0, cells := 0, slots := 0, locals := 0 } : Room).slots A) (F0 m 4 ls []) := by
    intro fuel
    induction fuel with
    | zero => intro sm zj j hc he hmeas; exact absurd hmeas (Nat.not_lt_zero _)
    | succ fuel ih4 =>
      intro sm zj j hc he hmeas H locs ls hP hD hS hl
      refine lv_iload_n hx hb dX9_dealt_4 rfl (lv_at hl 0 rfl) ?_
      refine lv_aload_n hx hb dX9_dealt_5 rfl (lv_at hl 2 rfl) ?_
      refine va_get (D := g.1) (ci := 9) (v := .int (iI (i 30))) hx hb hts kX9_dealt_9 hown hG.1 hP 0 rfl rfl 30 (by decide) (hts _ (List.mem_of_getElem? (i := 1) rfl)) (fun _ h9 => h9) rfl dX9_dealt_6 ?_
      refine iv_icmp_ge (tgt := 36) hx hb dX9_dealt_9 (by decide) (by omega) (fun hc1 => ?_) (fun hc1 => ?_)
      · refine lv_iload_n hx hb dX9_dealt_36 rfl (lv_at hl 1 rfl) ?_
        exact Ct.iret hx hb hr hlocks (hP.sub [0, 1, 2] rfl) (hD.sub [0, 1, 2] (by decide) rfl) hS ⟨by decide, by decide⟩ dX9_dealt_37 ⟨sm, rfl, rfl, (by rw [he, show j = M from by omega])⟩
      · have hq := h2 j (by omega)
        refine lv_iload_n hx hb dX9_dealt_12 rfl (lv_at hl 1 rfl) ?_
        refine lv_aload_n hx hb dX9_dealt_13 rfl (lv_at hl 2 rfl) ?_
        refine va_get (D := g.1) (ci := 9) (v := .ref (a 31)) hx hb hts kX9_dealt_9 hown hG.1 hP 0 rfl rfl 31 (by decide) (hts _ (List.mem_of_getElem? (i := 2) rfl)) (fun _ h9 => h9) rfl dX9_dealt_14 ?_
        refine lv_iload_n hx hb dX9_dealt_17 rfl (lv_at hl 0 rfl) ?_
        refine iv_iald hx hb hG hP 1 rfl j (by omega) (by omega) (by decide) dX9_dealt_18 ?_
        refine lv_iload_n hx hb dX9_dealt_19 rfl (lv_at hl 3 rfl) ?_
        refine iv_icmp_ne (tgt := 27) hx hb dX9_dealt_20 (by decide) (by omega) (fun hc2 => ?_) (fun hc2 => ?_)
        · refine lv_iconst (v := iI (0)) hx hb dX9_dealt_27 rfl ?_
          refine iv_iadd hx hb dX9_dealt_28 ?_
          refine lv_istore_n (lv' := [(2, .int (iI (sm + 0))), (3, .int (iI zj)), (0, .ref hm), (1, .int (iI way))]) hx hb dX9_dealt_29 rfl hl (by decide) rfl (fun ls hl => ?_)
          refine iv_iinc (k := 1) (x := zj) (lv' := [(3, .int (iI (zj + 1))), (2, .int (iI (sm + 0))), (0, .ref hm), (1, .int (iI way))]) hx hb dX9_dealt_30 hl rfl (by decide) rfl (fun ls hl => ?_)
          refine lv_goto (tgt := 4) hx hb dX9_dealt_33 (by decide) ?_
          exact ih4 (sm + 0) (zj + 1) (j + 1) (by omega) (by simp only [mW]; split <;> omega) (by omega) H locs ls (hP.sub [0, 1, 2] rfl) (hD.sub [0, 1, 2] (by decide) rfl) hS (lv_sub hl [0, 1, 2, 3] rfl)
        · refine lv_iconst (v := iI (1)) hx hb dX9_dealt_23 rfl ?_
          refine lv_goto (tgt := 28) hx hb dX9_dealt_24 (by decide) ?_
          refine iv_iadd hx hb dX9_dealt_28 ?_
          refine lv_istore_n (lv' := [(2, .int (iI (sm + 1))), (3, .int (iI zj)), (0, .ref hm), (1, .int (iI way))]) hx hb dX9_dealt_29 rfl hl (by decide) rfl (fun ls hl => ?_)
          refine iv_iinc (k := 1) (x := zj) (lv' := [(3, .int (iI (zj + 1))), (2, .int (iI (sm + 1))), (0, .ref hm), (1, .int (iI way))]) hx hb dX9_dealt_30 hl rfl (by decide) rfl (fun ls hl => ?_)
          refine lv_goto (tgt := 4) hx hb dX9_dealt_33 (by decide) ?_
          exact ih4 (sm + 1) (zj + 1) (j + 1) (by omega) (by simp only [mW]; split <;> omega) (by omega) H locs ls (hP.sub [0, 1, 2] rfl) (hD.sub [0, 1, 2] (by decide) rfl) hS (lv_sub hl [0, 1, 2, 3] rfl)
  exact hloop4 _ 0 0 0 (by omega) (rfl) (Nat.lt_succ_self _) H locs ls (hP.sub [0, 1, 2] rfl) (hD.sub [0, 1, 2] (by decide) rfl) hS (lv_sub hl [0, 1, 2, 3] rfl)
theorem kX9_sumBy_9 : ∀ w ∈ u_ws RX9 TX9 37, w ∈ wsX9_sumBy := fun _ h => List.mem_cons_of_mem _ (List.mem_append_right _ h)
abbrev q_X9_sumBy (g : GT) (hm : Nat) (a : Nat → Nat) (i : Nat → Int) (fw : Nat → Int) (fo : Nat → Int) (M : Nat) (way : Int) : Option Value → va_W → Prop := fun v w => ∃ (r : Int), v = some (.int (iI r)) ∧ w = [(hm, .inr (9, mF a i)), ((a 31), aI (g.2.1 0) 12 fw), ((a 32), aI (g.2.1 0) 12 fo)] ∧ (r = sW fw fo way M)
set_option maxHeartbeats 4000000 in
set_option maxRecDepth 100000 in
theorem c_X9_sumBy (l : Launch) (g : GT) (hm : Nat) (a : Nat → Nat) (i : Nat → Int) (fw : Nat → Int) (fo : Nat → Int) (M : Nat) (way : Int) (h1 : i 30 = (M : Int) ∧ M ≤ 12 ∧ 0 ≤ way ∧ way ≤ 1) (h2 : ∀ j, j < M → (fw j = 0 ∨ fw j = 1) ∧ -999 ≤ fo j ∧ fo j ≤ 999) : Ct l g yX9_sumBy wsX9_sumBy ({ frames := 0, cells := 0, slots := 0, locals := 0 } : Room) [.ref hm, .int (iI way)] [(hm, .inr (9, mF a i)), ((a 31), aI (g.2.1 0) 12 fw), ((a 32), aI (g.2.1 0) 12 fo)] (q_X9_sumBy g hm a i fw fo M way) := by
  refine Ct.intro (maxL := 4) (ret := (some .int)) (by decide) rfl (Nat.le_of_ble_eq_true rfl) ?_
  intro p e s m below meth c A ls hx hb hr hml hown hts hlocks hnm hA hG hP hD hS hl
  have hown : s.vm.findClass RX9 = some m.cls := hown
  have hl : lv_has ls 4 [(0, .ref hm), (1, .int (iI way))] := hl
  have hP : va_P g.1 vwCl [(hm, .inr (9, mF a i)), ((a 31), aI (g.2.1 0) 12 fw), ((a 32), aI (g.2.1 0) 12 fo)] s.heap := hP
  have hS : va_S A s.heap s.heap [] := hS
  obtain ⟨H, hHe⟩ : ∃ H : Heap, H = s.heap := ⟨_, rfl⟩
  obtain ⟨locs, hLe⟩ : ∃ L : List Loc, L = [] := ⟨_, rfl⟩
  have hP : va_P g.1 vwCl [(hm, .inr (9, mF a i)), ((a 31), aI (g.2.1 0) 12 fw), ((a 32), aI (g.2.1 0) 12 fo)] H := by rw [hHe]; exact hP
  have hS : va_S A s.heap H locs := by rw [hHe, hLe]; exact hS
  suffices hgo : W p l e ({ frames := 0, cells := 0, slots := 0, locals := 0 } : Room) s m [.ref hm, .int (iI way)].toArray below meth c H locs 0 0 (MQ below (CQ g (q_X9_sumBy g hm a i fw fo M way) A) [.ref hm, .int (iI way)].toArray s ({ frames := 0, cells := 0, slots := 0, locals := 0 } : Room).cells ({ frames := 0, cells := 0, slots := 0, locals := 0 } : Room).slots A) (F0 m 0 ls []) by rw [hHe, hLe] at hgo; exact hgo
  clear hHe hLe
  refine lv_iconst (v := iI (0)) hx hb dX9_sumBy_0 rfl ?_
  refine lv_istore_n (lv' := [(2, .int (iI 0)), (0, .ref hm), (1, .int (iI way))]) hx hb dX9_sumBy_1 rfl hl (by decide) rfl (fun ls hl => ?_)
  refine lv_iconst (v := iI (0)) hx hb dX9_sumBy_2 rfl ?_
  refine lv_istore_n (lv' := [(3, .int (iI 0)), (2, .int (iI 0)), (0, .ref hm), (1, .int (iI way))]) hx hb dX9_sumBy_3 rfl hl (by decide) rfl (fun ls hl => ?_)
  have hloop4 : ∀ (fuel : Nat) (sm : Int) (zj : Int) (j : Nat) (hc : zj = (j : Int) ∧ j ≤ M) (he : sm = sW fw fo way j) (hmeas : M - j < fuel), ∀ (H : Heap) (locs : List Loc) (ls : Array Slot), va_P g.1 vwCl [(hm, .inr (9, mF a i)), ((a 31), aI (g.2.1 0) 12 fw), ((a 32), aI (g.2.1 0) 12 fo)] H → va_D A [(hm, .inr (9, mF a i)), ((a 31), aI (g.2.1 0) 12 fw), ((a 32), aI (g.2.1 0) 12 fo)] → va_S A s.heap H locs → lv_has ls 4 [(3, .int (iI zj)), (2, .int (iI sm)), (0, .ref hm), (1, .int (iI way))] → W p l e ({ frames := 0, cells := 0, slots := 0, locals := 0 } : Room) s m [.ref hm, .int (iI way)].toArray below meth c H locs 0 0 (MQ below (CQ g (q_X9_sumBy g hm a i fw fo M way) A) [.ref hm, .int (iI way)].toArray s ({ frames := 0, cells := 0, slots := 0, locals := 0 } : Room).cells ({ frames := 0, cells := 0, slots := 0, locals := 0 } : Room).slots A) (F0 m 4 ls []) := by
    intro fuel
    induction fuel with
    | zero => intro sm zj j hc he hmeas; exact absurd hmeas (Nat.not_lt_zero _)
    | succ fuel ih4 =>
      intro sm zj j hc he hmeas H locs ls hP hD hS hl
      refine lv_iload_n hx hb dX9_sumBy_4 rfl (lv_at hl 0 rfl) ?_
      refine lv_aload_n hx hb dX9_sumBy_5 rfl (lv_at hl 2 rfl) ?_
      refine va_get (D := g.1) (ci := 9) (v := .int (iI (i 30))) hx hb hts kX9_sumBy_9 hown hG.1 hP 0 rfl rfl 30 (by decide) (hts _ (List.mem_of_getElem? (i := 1) rfl)) (fun _ h9 => h9) rfl dX9_sumBy_6 ?_
      refine iv_icmp_ge (tgt := 41) hx hb dX9_sumBy_9 (by decide) (by omega) (fun hc1 => ?_) (fun hc1 => ?_)
      · refine lv_iload_n hx hb dX9_sumBy_41 rfl (lv_at hl 1 rfl) ?_
        exact Ct.iret hx hb hr hlocks (hP.sub [0, 1, 2] rfl) (hD.sub [0, 1, 2] (by decide) rfl) hS ⟨by decide, by decide⟩ dX9_sumBy_42 ⟨sm, rfl, rfl, (by rw [he, show j = M from by omega])⟩
      · have hq := h2 j (by omega)
        refine lv_iload_n hx hb dX9_sumBy_12 rfl (lv_at hl 1 rfl) ?_
        refine lv_aload_n hx hb dX9_sumBy_13 rfl (lv_at hl 2 rfl) ?_
        refine va_get (D := g.1) (ci := 9) (v := .ref (a 31)) hx hb hts kX9_sumBy_9 hown hG.1 hP 0 rfl rfl 31 (by decide) (hts _ (List.mem_of_getElem? (i := 2) rfl)) (fun _ h9 => h9) rfl dX9_sumBy_14 ?_
        refine lv_iload_n hx hb dX9_sumBy_17 rfl (lv_at hl 0 rfl) ?_
        refine iv_iald hx hb hG hP 1 rfl j (by omega) (by omega) (by decide) dX9_sumBy_18 ?_
        refine lv_iload_n hx hb dX9_sumBy_19 rfl (lv_at hl 3 rfl) ?_
        refine iv_icmp_ne (tgt := 32) hx hb dX9_sumBy_20 (by decide) (by omega) (fun hc2 => ?_) (fun hc2 => ?_)
        · refine lv_iconst (v := iI (0)) hx hb dX9_sumBy_32 rfl ?_
          refine iv_iadd hx hb dX9_sumBy_33 ?_
          refine lv_istore_n (lv' := [(2, .int (iI (sm + 0))), (3, .int (iI zj)), (0, .ref hm), (1, .int (iI way))]) hx hb dX9_sumBy_34 rfl hl (by decide) rfl (fun ls hl => ?_)
          refine iv_iinc (k := 1) (x := zj) (lv' := [(3, .int (iI (zj + 1))), (2, .int (iI (sm + 0))), (0, .ref hm), (1, .int (iI way))]) hx hb dX9_sumBy_35 hl rfl (by decide) rfl (fun ls hl => ?_)
          refine lv_goto (tgt := 4) hx hb dX9_sumBy_38 (by decide) ?_
          exact ih4 (sm + 0) (zj + 1) (j + 1) (by omega) (by simp only [sW]; split <;> omega) (by omega) H locs ls (hP.sub [0, 1, 2] rfl) (hD.sub [0, 1, 2] (by decide) rfl) hS (lv_sub hl [0, 1, 2, 3] rfl)
        · refine lv_aload_n hx hb dX9_sumBy_23 rfl (lv_at hl 2 rfl) ?_
          refine va_get (D := g.1) (ci := 9) (v := .ref (a 32)) hx hb hts kX9_sumBy_9 hown hG.1 hP 0 rfl rfl 32 (by decide) (hts _ (List.mem_of_getElem? (i := 3) rfl)) (fun _ h9 => h9) rfl dX9_sumBy_24 ?_
          refine lv_iload_n hx hb dX9_sumBy_27 rfl (lv_at hl 0 rfl) ?_
          refine iv_iald hx hb hG hP 2 rfl j (by omega) (by omega) (by decide) dX9_sumBy_28 ?_
          refine lv_goto (tgt := 33) hx hb dX9_sumBy_29 (by decide) ?_
          refine iv_iadd hx hb dX9_sumBy_33 ?_
          refine lv_istore_n (lv' := [(2, .int (iI (sm + (fo j)))), (3, .int (iI zj)), (0, .ref hm), (1, .int (iI way))]) hx hb dX9_sumBy_34 rfl hl (by decide) rfl (fun ls hl => ?_)
          refine iv_iinc (k := 1) (x := zj) (lv' := [(3, .int (iI (zj + 1))), (2, .int (iI (sm + (fo j)))), (0, .ref hm), (1, .int (iI way))]) hx hb dX9_sumBy_35 hl rfl (by decide) rfl (fun ls hl => ?_)
          refine lv_goto (tgt := 4) hx hb dX9_sumBy_38 (by decide) ?_
          exact ih4 (sm + (fo j)) (zj + 1) (j + 1) (by omega) (by simp only [sW]; split <;> omega) (by omega) H locs ls (hP.sub [0, 1, 2] rfl) (hD.sub [0, 1, 2] (by decide) rfl) hS (lv_sub hl [0, 1, 2, 3] rfl)
  exact hloop4 _ 0 0 0 (by omega) (rfl) (Nat.lt_succ_self _) H locs ls (hP.sub [0, 1, 2] rfl) (hD.sub [0, 1, 2] (by decide) rfl) hS (lv_sub hl [0, 1, 2, 3] rfl)
abbrev q_X9_isTrial (g : GT) (hm : Nat) (a : Nat → Nat) (i : Nat → Int) (fw : Nat → Int) (fo : Nat → Int) (M : Nat) : Option Value → va_W → Prop := fun v w => (v = some (.int (iI 1)) ∧ (¬ (mW fw 0 M = 0 ∨ mW fw 1 M = 0)) ∨ v = some (.int (iI 0)) ∧ ¬ (¬ (mW fw 0 M = 0 ∨ mW fw 1 M = 0))) ∧ w = [(hm, .inr (9, mF a i)), ((a 31), aI (g.2.1 0) 12 fw), ((a 32), aI (g.2.1 0) 12 fo)]
set_option maxHeartbeats 4000000 in
set_option maxRecDepth 100000 in
theorem c_X9_isTrial (l : Launch) (g : GT) (hm : Nat) (a : Nat → Nat) (i : Nat → Int) (fw : Nat → Int) (fo : Nat → Int) (M : Nat) (h1 : i 30 = (M : Int) ∧ M ≤ 12) (h2 : ∀ j, j < M → (fw j = 0 ∨ fw j = 1) ∧ -999 ≤ fo j ∧ fo j ≤ 999) : Ct l g yX9_isTrial wsX9_isTrial ({ frames := 1, cells := 0, slots := 0, locals := 23 } : Room) [.ref hm] [(hm, .inr (9, mF a i)), ((a 31), aI (g.2.1 0) 12 fw), ((a 32), aI (g.2.1 0) 12 fo)] (q_X9_isTrial g hm a i fw fo M) := by
  refine Ct.intro (maxL := 1) (ret := (some .boolean)) (by decide) rfl (Nat.le_of_ble_eq_true rfl) ?_
  intro p e s m below meth c A ls hx hb hr hml hown hts hlocks hnm hA hG hP hD hS hl
  have hown : s.vm.findClass RX9 = some m.cls := hown
  have hl : lv_has ls 1 [(0, .ref hm)] := hl
  have hP : va_P g.1 vwCl [(hm, .inr (9, mF a i)), ((a 31), aI (g.2.1 0) 12 fw), ((a 32), aI (g.2.1 0) 12 fo)] s.heap := hP
  have hS : va_S A s.heap s.heap [] := hS
  obtain ⟨H, hHe⟩ : ∃ H : Heap, H = s.heap := ⟨_, rfl⟩
  obtain ⟨locs, hLe⟩ : ∃ L : List Loc, L = [] := ⟨_, rfl⟩
  have hP : va_P g.1 vwCl [(hm, .inr (9, mF a i)), ((a 31), aI (g.2.1 0) 12 fw), ((a 32), aI (g.2.1 0) 12 fo)] H := by rw [hHe]; exact hP
  have hS : va_S A s.heap H locs := by rw [hHe, hLe]; exact hS
  suffices hgo : W p l e ({ frames := 1, cells := 0, slots := 0, locals := 23 } : Room) s m [.ref hm].toArray below meth c H locs 0 0 (MQ below (CQ g (q_X9_isTrial g hm a i fw fo M) A) [.ref hm].toArray s ({ frames := 1, cells := 0, slots := 0, locals := 23 } : Room).cells ({ frames := 1, cells := 0, slots := 0, locals := 23 } : Room).slots A) (F0 m 0 ls []) by rw [hHe, hLe] at hgo; exact hgo
  clear hHe hLe
  refine lv_aload_n hx hb dX9_isTrial_0 rfl (lv_at hl 0 rfl) ?_
  refine lv_iconst (v := iI (0)) hx hb dX9_isTrial_1 rfl ?_
  refine Ct.callV (ci := 9) (q0 := 0) (qc := (RX9, TX9, 37)) (As := [.int (iI 0)]) (rest := []) (wr := []) (c1 := 0) (s1 := 0) ⟨hx, hb, hml, hown, hts⟩ (c_X9_dealt l g hm a i fw fo M 0 (by omega) (h2)) rfl rfl (cwV 1 hts gX9_isTrial_X9_dealt rfl rfl rfl (by decide +kernel) ⟨Nat.le_of_ble_eq_true rfl, Nat.le_of_ble_eq_true rfl⟩) hG hP hD hS hA [0, 1, 2] [] rfl rfl (by decide) (by decide) (by decide) rfl hl.1 rfl (Nat.le_of_ble_eq_true rfl) dX9_isTrial_2 ⟨Nat.le_of_ble_eq_true rfl, Nat.le_of_ble_eq_true rfl⟩ rfl rfl (fun v w H locs hv hP hD hS => ?_)
  obtain ⟨r1, rfl, rfl, hf2⟩ := hv
  show W p l e _ s m _ below meth c H locs 0 0 _ (F0 m 5 ls (.int (iI r1) :: []))
  have hP : va_P g.1 vwCl [(hm, .inr (9, mF a i)), ((a 31), aI (g.2.1 0) 12 fw), ((a 32), aI (g.2.1 0) 12 fo)] H := hP
  have hD : va_D A [(hm, .inr (9, mF a i)), ((a 31), aI (g.2.1 0) 12 fw), ((a 32), aI (g.2.1 0) 12 fo)] := hD
  have hf2 : r1 = mW fw 0 M := hf2
  have hm0 := mW_rng fw 0 M
  refine iv_if_le (tgt := 20) hx hb dX9_isTrial_5 (by decide) (by omega) (fun hc3 => ?_) (fun hc3 => ?_)
  · refine lv_iconst (v := iI (0)) hx hb dX9_isTrial_20 rfl ?_
    exact Ct.zret hx hb hr hlocks (hP.sub [0, 1, 2] rfl) (hD.sub [0, 1, 2] (by decide) rfl) hS ⟨by decide, by decide⟩ dX9_isTrial_21 (by decide) ⟨Or.inr ⟨rfl, by omega⟩, rfl⟩
  · refine lv_aload_n hx hb dX9_isTrial_8 rfl (lv_at hl 0 rfl) ?_
    refine lv_iconst (v := iI (1)) hx hb dX9_isTrial_9 rfl ?_
    refine Ct.callV (ci := 9) (q0 := 0) (qc := (RX9, TX9, 37)) (As := [.int (iI 1)]) (rest := []) (wr := []) (c1 := 0) (s1 := 0) ⟨hx, hb, hml, hown, hts⟩ (c_X9_dealt l g hm a i fw fo M 1 (by omega) (h2)) rfl rfl (cwV 1 hts gX9_isTrial_X9_dealt rfl rfl rfl (by decide +kernel) ⟨Nat.le_of_ble_eq_true rfl, Nat.le_of_ble_eq_true rfl⟩) hG hP hD hS hA [0, 1, 2] [] rfl rfl (by decide) (by decide) (by decide) rfl hl.1 rfl (Nat.le_of_ble_eq_true rfl) dX9_isTrial_10 ⟨Nat.le_of_ble_eq_true rfl, Nat.le_of_ble_eq_true rfl⟩ rfl rfl (fun v w H locs hv hP hD hS => ?_)
    obtain ⟨r4, rfl, rfl, hf5⟩ := hv
    show W p l e _ s m _ below meth c H locs 0 0 _ (F0 m 13 ls (.int (iI r4) :: []))
    have hP : va_P g.1 vwCl [(hm, .inr (9, mF a i)), ((a 31), aI (g.2.1 0) 12 fw), ((a 32), aI (g.2.1 0) 12 fo)] H := hP
    have hD : va_D A [(hm, .inr (9, mF a i)), ((a 31), aI (g.2.1 0) 12 fw), ((a 32), aI (g.2.1 0) 12 fo)] := hD
    have hf5 : r4 = mW fw 1 M := hf5
    have hm1 := mW_rng fw 1 M
    refine iv_if_le (tgt := 20) hx hb dX9_isTrial_13 (by decide) (by omega) (fun hc6 => ?_) (fun hc6 => ?_)
    · refine lv_iconst (v := iI (0)) hx hb dX9_isTrial_20 rfl ?_
      exact Ct.zret hx hb hr hlocks (hP.sub [0, 1, 2] rfl) (hD.sub [0, 1, 2] (by decide) rfl) hS ⟨by decide, by decide⟩ dX9_isTrial_21 (by decide) ⟨Or.inr ⟨rfl, by omega⟩, rfl⟩
    · refine lv_iconst (v := iI (1)) hx hb dX9_isTrial_16 rfl ?_
      refine lv_goto (tgt := 21) hx hb dX9_isTrial_17 (by decide) ?_
      exact Ct.zret hx hb hr hlocks (hP.sub [0, 1, 2] rfl) (hD.sub [0, 1, 2] (by decide) rfl) hS ⟨by decide, by decide⟩ dX9_isTrial_21 (by decide) ⟨Or.inl ⟨rfl, by omega⟩, rfl⟩
