theorem kX8_set_8 : ∀ w ∈ u_ws RX8 TX8 13, w ∈ wsX8_set := fun _ h => List.mem_cons_of_mem _ (List.mem_append_right _ h)
abbrev q_X8_set (g : GT) (hd : Nat) (d : Nat → Nat) (i : Nat → Int) (fmk : Nat → Int) (what : Int) (v_ : Int) : Option Value → va_W → Prop := fun v w => ∃ (r : Int), ∃ (fmk' : Nat → Int), v = some (.int (iI r)) ∧ w = [(hd, .inr (8, dF d i)), ((d 5), aI (g.2.1 0) 5 fmk')] ∧ ((¬ SetP what v_ ∧ r = -1 ∧ fmk' = fmk) ∨ (SetP what v_ ∧ r = fmk what.toNat ∧ fmk' = va_up fmk what.toNat v_))
set_option maxHeartbeats 4000000 in
set_option maxRecDepth 100000 in
theorem c_X8_set (l : Launch) (g : GT) (hd : Nat) (d : Nat → Nat) (i : Nat → Int) (fmk : Nat → Int) (what : Int) (v_ : Int) (h1 : (-2147483648 ≤ what ∧ what < 2147483648) ∧ (-2147483648 ≤ v_ ∧ v_ < 2147483648)) : Ct l g yX8_set wsX8_set ({ frames := 1, cells := 0, slots := 0, locals := 22 } : Room) [.ref hd, .int (iI what), .int (iI v_)] [(hd, .inr (8, dF d i)), ((d 5), aI (g.2.1 0) 5 fmk)] (q_X8_set g hd d i fmk what v_) := by
  refine Ct.intro (maxL := 4) (ret := (some .int)) (by decide) rfl (Nat.le_of_ble_eq_true rfl) ?_
  intro p e s m below meth c A ls hx hb hr hml hown hts hlocks hnm hA hG hP hD hS hl
  have hown : s.vm.findClass RX8 = some m.cls := hown
  have hl : lv_has ls 4 [(0, .ref hd), (1, .int (iI what)), (2, .int (iI v_))] := hl
  have hP : va_P g.1 vwCl [(hd, .inr (8, dF d i)), ((d 5), aI (g.2.1 0) 5 fmk)] s.heap := hP
  have hS : va_S A s.heap s.heap [] := hS
  obtain ⟨H, hHe⟩ : ∃ H : Heap, H = s.heap := ⟨_, rfl⟩
  obtain ⟨locs, hLe⟩ : ∃ L : List Loc, L = [] := ⟨_, rfl⟩
  have hP : va_P g.1 vwCl [(hd, .inr (8, dF d i)), ((d 5), aI (g.2.1 0) 5 fmk)] H := by rw [hHe]; exact hP
  have hS : va_S A s.heap H locs := by rw [hHe, hLe]; exact hS
  suffices hgo : W p l e ({ frames := 1, cells := 0, slots := 0, locals := 22 } : Room) s m [.ref hd, .int (iI what), .int (iI v_)].toArray below meth c H locs 0 0 (MQ below (CQ g (q_X8_set g hd d i fmk what v_) A) [.ref hd, .int (iI what), .int (iI v_)].toArray s ({ frames := 1, cells := 0, slots := 0, locals := 22 } : Room).cells ({ frames := 1, cells := 0, slots := 0, locals := 22 } : Room).slots A) (F0 m 0 ls []) by rw [hHe, hLe] at hgo; exact hgo
  clear hHe hLe
  refine lv_iload_n hx hb dX8_set_0 rfl (lv_at hl 1 rfl) ?_
  refine lv_iconst (v := iI (0)) hx hb dX8_set_1 rfl ?_
  refine lv_aload_n hx hb dX8_set_2 rfl (lv_at hl 0 rfl) ?_
  refine va_get (D := g.1) (ci := 8) (v := .ref (d 5)) hx hb hts kX8_set_8 hown hG.1 hP 0 rfl rfl 5 (by decide) (hts _ (List.mem_of_getElem? (i := 1) rfl)) (fun _ h9 => h9) rfl dX8_set_3 ?_
  refine iv_alen hx hb hG hP 1 0 rfl rfl dX8_set_6 ?_
  refine iv_as 5 rfl ?_
  refine lv_iconst (v := iI (1)) hx hb dX8_set_7 rfl ?_
  refine iv_isub hx hb dX8_set_8 ?_
  refine Ct.callS (As := [.int (iI what), .int (iI 0), .int (iI (5 - 1))]) (rest := []) (wr := [(hd, .inr (8, dF d i)), ((d 5), aI (g.2.1 0) 5 fmk)]) (c1 := 0) (s1 := 0) ⟨hx, hb, hml, hown, hts⟩ (c_X8_within l g what 0 (5 - 1) (by omega)) (va_cwS 3 hts gX8_set_X8_within rfl rfl rfl (by decide +kernel) ⟨Nat.le_of_ble_eq_true rfl, Nat.le_of_ble_eq_true rfl⟩) hG hP hD hS hA [] [0, 1] rfl rfl (by decide) (by decide) (by decide) rfl hl.1 rfl (Nat.le_of_ble_eq_true rfl) dX8_set_9 ⟨Nat.le_of_ble_eq_true rfl, Nat.le_of_ble_eq_true rfl⟩ rfl rfl (fun v w H locs hv hP hD hS => ?_)
  obtain ⟨⟨rfl, hb1⟩ | ⟨rfl, hb1⟩, rfl⟩ := hv
  · show W p l e _ s m _ below meth c H locs 0 0 _ (F0 m 12 ls (.int (iI 1) :: []))
    have hb1 : 0 ≤ what ∧ what ≤ (5 - 1) := hb1
    have hP : va_P g.1 vwCl [(hd, .inr (8, dF d i)), ((d 5), aI (g.2.1 0) 5 fmk)] H := hP
    have hD : va_D A [(hd, .inr (8, dF d i)), ((d 5), aI (g.2.1 0) 5 fmk)] := hD
    refine iv_if_eq (tgt := 32) hx hb dX8_set_12 (by decide) (by decide) (fun h => absurd h (by decide)) (fun _ => ?_)
    have hlm := lm_rng what.toNat (by omega)
    refine lv_iload_n hx hb dX8_set_15 rfl (lv_at hl 2 rfl) ?_
    refine va_gets hx hb hG.2.2.2.2.1.1 hS hown (hts _ (List.mem_of_getElem? (i := 2) rfl)) (fun _ h9 => h9) dX8_set_16 ?_
    refine lv_iload_n hx hb dX8_set_19 rfl (lv_at hl 1 rfl) ?_
    refine iv_tld hx hb hG.2.2.2.2.1 hS what.toNat (by omega) (by omega) (by decide) dX8_set_20 ?_
    refine va_gets hx hb hG.2.2.2.2.2.1 hS hown (hts _ (List.mem_of_getElem? (i := 3) rfl)) (fun _ h9 => h9) dX8_set_21 ?_
    refine lv_iload_n hx hb dX8_set_24 rfl (lv_at hl 1 rfl) ?_
    refine iv_tld hx hb hG.2.2.2.2.2 hS what.toNat (by omega) (by omega) (by decide) dX8_set_25 ?_
    refine Ct.callS (As := [.int (iI v_), .int (iI (lT what.toNat)), .int (iI (mT what.toNat))]) (rest := []) (wr := [(hd, .inr (8, dF d i)), ((d 5), aI (g.2.1 0) 5 fmk)]) (c1 := 0) (s1 := 0) ⟨hx, hb, hml, hown, hts⟩ (c_X8_within l g v_ (lT what.toNat) (mT what.toNat) (by omega)) (va_cwS 3 hts gX8_set_X8_within rfl rfl rfl (by decide +kernel) ⟨Nat.le_of_ble_eq_true rfl, Nat.le_of_ble_eq_true rfl⟩) hG hP hD hS hA [] [0, 1] rfl rfl (by decide) (by decide) (by decide) rfl hl.1 rfl (Nat.le_of_ble_eq_true rfl) dX8_set_26 ⟨Nat.le_of_ble_eq_true rfl, Nat.le_of_ble_eq_true rfl⟩ rfl rfl (fun v w H locs hv hP hD hS => ?_)
    obtain ⟨⟨rfl, hb3⟩ | ⟨rfl, hb3⟩, rfl⟩ := hv
    · show W p l e _ s m _ below meth c H locs 0 0 _ (F0 m 29 ls (.int (iI 1) :: []))
      have hb3 : (lT what.toNat) ≤ v_ ∧ v_ ≤ (mT what.toNat) := hb3
      have hP : va_P g.1 vwCl [(hd, .inr (8, dF d i)), ((d 5), aI (g.2.1 0) 5 fmk)] H := hP
      have hD : va_D A [(hd, .inr (8, dF d i)), ((d 5), aI (g.2.1 0) 5 fmk)] := hD
      refine iv_if_ne (tgt := 34) hx hb dX8_set_29 (by decide) (by decide) (fun _ => ?_) (fun h => absurd h (by decide))
      refine lv_aload_n hx hb dX8_set_34 rfl (lv_at hl 0 rfl) ?_
      refine va_get (D := g.1) (ci := 8) (v := .ref (d 5)) hx hb hts kX8_set_8 hown hG.1 hP 0 rfl rfl 5 (by decide) (hts _ (List.mem_of_getElem? (i := 1) rfl)) (fun _ h9 => h9) rfl dX8_set_35 ?_
      refine lv_iload_n hx hb dX8_set_38 rfl (lv_at hl 1 rfl) ?_
      refine iv_iald hx hb hG hP 1 rfl what.toNat (by omega) (by omega) (by decide) dX8_set_39 ?_
      refine lv_istore_n (lv' := [(3, .int (iI (fmk what.toNat))), (0, .ref hd), (1, .int (iI what)), (2, .int (iI v_))]) hx hb dX8_set_40 rfl hl (by decide) rfl (fun ls hl => ?_)
      refine lv_aload_n hx hb dX8_set_41 rfl (lv_at hl 1 rfl) ?_
      refine va_get (D := g.1) (ci := 8) (v := .ref (d 5)) hx hb hts kX8_set_8 hown hG.1 hP 0 rfl rfl 5 (by decide) (hts _ (List.mem_of_getElem? (i := 1) rfl)) (fun _ h9 => h9) rfl dX8_set_42 ?_
      refine lv_iload_n hx hb dX8_set_45 rfl (lv_at hl 2 rfl) ?_
      refine lv_iload_n hx hb dX8_set_46 rfl (lv_at hl 3 rfl) ?_
      refine iv_iast hx hb hG hP hD hS 1 rfl what.toNat (by omega) (by omega) (by decide) dX8_set_47 (fun H locs hP hD hS => ?_)
      have hP : va_P g.1 vwCl [(hd, .inr (8, dF d i)), ((d 5), aI (g.2.1 0) 5 (va_up fmk what.toNat v_))] H := hP
      have hD : va_D A [(hd, .inr (8, dF d i)), ((d 5), aI (g.2.1 0) 5 (va_up fmk what.toNat v_))] := hD
      refine lv_iload_n hx hb dX8_set_48 rfl (lv_at hl 0 rfl) ?_
      exact Ct.iret hx hb hr hlocks (hP.sub [0, 1] rfl) (hD.sub [0, 1] (by decide) rfl) hS ⟨by decide, by decide⟩ dX8_set_49 ⟨(fmk what.toNat), (va_up fmk what.toNat v_), rfl, rfl, (Or.inr ⟨by omega, rfl, rfl⟩)⟩
    · show W p l e _ s m _ below meth c H locs 0 0 _ (F0 m 29 ls (.int (iI 0) :: []))
      have hb3 : ¬ ((lT what.toNat) ≤ v_ ∧ v_ ≤ (mT what.toNat)) := hb3
      have hP : va_P g.1 vwCl [(hd, .inr (8, dF d i)), ((d 5), aI (g.2.1 0) 5 fmk)] H := hP
      have hD : va_D A [(hd, .inr (8, dF d i)), ((d 5), aI (g.2.1 0) 5 fmk)] := hD
      refine iv_if_ne (tgt := 34) hx hb dX8_set_29 (by decide) (by decide) (fun h => absurd h (by decide)) (fun _ => ?_)
      refine lv_iconst (v := iI (-1)) hx hb dX8_set_32 rfl ?_
      exact Ct.iret hx hb hr hlocks (hP.sub [0, 1] rfl) (hD.sub [0, 1] (by decide) rfl) hS ⟨by decide, by decide⟩ dX8_set_33 ⟨(-1), fmk, rfl, rfl, (Or.inl ⟨by omega, rfl, rfl⟩)⟩
  · show W p l e _ s m _ below meth c H locs 0 0 _ (F0 m 12 ls (.int (iI 0) :: []))
    have hb1 : ¬ (0 ≤ what ∧ what ≤ (5 - 1)) := hb1
    have hP : va_P g.1 vwCl [(hd, .inr (8, dF d i)), ((d 5), aI (g.2.1 0) 5 fmk)] H := hP
    have hD : va_D A [(hd, .inr (8, dF d i)), ((d 5), aI (g.2.1 0) 5 fmk)] := hD
    refine iv_if_eq (tgt := 32) hx hb dX8_set_12 (by decide) (by decide) (fun _ => ?_) (fun h => absurd h (by decide))
    refine lv_iconst (v := iI (-1)) hx hb dX8_set_32 rfl ?_
    exact Ct.iret hx hb hr hlocks (hP.sub [0, 1] rfl) (hD.sub [0, 1] (by decide) rfl) hS ⟨by decide, by decide⟩ dX8_set_33 ⟨(-1), fmk, rfl, rfl, (Or.inl ⟨by omega, rfl, rfl⟩)⟩
theorem kX9_set_9 : ∀ w ∈ u_ws RX9 TX9 37, w ∈ wsX9_set := fun _ h => List.mem_cons_of_mem _ (List.mem_append_right _ h)
abbrev q_X9_set (g : GT) (hm : Nat) (a : Nat → Nat) (i : Nat → Int) (fto : Nat → Int) (what : Int) (v_ : Int) : Option Value → va_W → Prop := fun v w => ∃ (r : Int), ∃ (fto' : Nat → Int), v = some (.int (iI r)) ∧ w = [(hm, .inr (9, mF a i)), ((a 11), aI (g.2.1 0) 5 fto')] ∧ ((¬ SetP what v_ ∧ r = -1 ∧ fto' = fto) ∨ (SetP what v_ ∧ r = fto what.toNat ∧ fto' = va_up fto what.toNat v_))
set_option maxHeartbeats 4000000 in
set_option maxRecDepth 100000 in
theorem c_X9_set (l : Launch) (g : GT) (hm : Nat) (a : Nat → Nat) (i : Nat → Int) (fto : Nat → Int) (what : Int) (v_ : Int) (h1 : (-2147483648 ≤ what ∧ what < 2147483648) ∧ (-2147483648 ≤ v_ ∧ v_ < 2147483648)) : Ct l g yX9_set wsX9_set ({ frames := 1, cells := 0, slots := 0, locals := 25 } : Room) [.ref hm, .int (iI what), .int (iI v_)] [(hm, .inr (9, mF a i)), ((a 11), aI (g.2.1 0) 5 fto)] (q_X9_set g hm a i fto what v_) := by
  refine Ct.intro (maxL := 4) (ret := (some .int)) (by decide) rfl (Nat.le_of_ble_eq_true rfl) ?_
  intro p e s m below meth c A ls hx hb hr hml hown hts hlocks hnm hA hG hP hD hS hl
  have hown : s.vm.findClass RX9 = some m.cls := hown
  have hl : lv_has ls 4 [(0, .ref hm), (1, .int (iI what)), (2, .int (iI v_))] := hl
  have hP : va_P g.1 vwCl [(hm, .inr (9, mF a i)), ((a 11), aI (g.2.1 0) 5 fto)] s.heap := hP
  have hS : va_S A s.heap s.heap [] := hS
  obtain ⟨H, hHe⟩ : ∃ H : Heap, H = s.heap := ⟨_, rfl⟩
  obtain ⟨locs, hLe⟩ : ∃ L : List Loc, L = [] := ⟨_, rfl⟩
  have hP : va_P g.1 vwCl [(hm, .inr (9, mF a i)), ((a 11), aI (g.2.1 0) 5 fto)] H := by rw [hHe]; exact hP
  have hS : va_S A s.heap H locs := by rw [hHe, hLe]; exact hS
  suffices hgo : W p l e ({ frames := 1, cells := 0, slots := 0, locals := 25 } : Room) s m [.ref hm, .int (iI what), .int (iI v_)].toArray below meth c H locs 0 0 (MQ below (CQ g (q_X9_set g hm a i fto what v_) A) [.ref hm, .int (iI what), .int (iI v_)].toArray s ({ frames := 1, cells := 0, slots := 0, locals := 25 } : Room).cells ({ frames := 1, cells := 0, slots := 0, locals := 25 } : Room).slots A) (F0 m 0 ls []) by rw [hHe, hLe] at hgo; exact hgo
  clear hHe hLe
  refine lv_iload_n hx hb dX9_set_0 rfl (lv_at hl 1 rfl) ?_
  refine iv_i2l hx hb dX9_set_1 (by omega) ?_
  refine lv_lconst (v := lI (0)) hx hb dX9_set_2 (by decide) ?_
  refine iv_ldc2 (v := 4) (z := 4) hx hb hown (hts _ (List.mem_of_getElem? (i := 1) rfl)) dX9_set_3 (by decide) ?_
  refine Ct.callS (As := [.long (lI what), .long (lI 0), .long (lI 4)]) (rest := []) (wr := [(hm, .inr (9, mF a i)), ((a 11), aI (g.2.1 0) 5 fto)]) (c1 := 0) (s1 := 0) ⟨hx, hb, hml, hown, hts⟩ (c_X9_in l g what 0 4 (by omega)) (va_cwS 3 hts gX9_set_X9_in rfl rfl rfl (by decide +kernel) ⟨Nat.le_of_ble_eq_true rfl, Nat.le_of_ble_eq_true rfl⟩) hG hP hD hS hA [] [0, 1] rfl rfl (by decide) (by decide) (by decide) rfl hl.1 rfl (Nat.le_of_ble_eq_true rfl) dX9_set_6 ⟨Nat.le_of_ble_eq_true rfl, Nat.le_of_ble_eq_true rfl⟩ rfl rfl (fun v w H locs hv hP hD hS => ?_)
  obtain ⟨⟨rfl, hb1⟩ | ⟨rfl, hb1⟩, rfl⟩ := hv
  · show W p l e _ s m _ below meth c H locs 0 0 _ (F0 m 9 ls (.int (iI 1) :: []))
    have hb1 : 0 ≤ what ∧ what ≤ 4 := hb1
    have hP : va_P g.1 vwCl [(hm, .inr (9, mF a i)), ((a 11), aI (g.2.1 0) 5 fto)] H := hP
    have hD : va_D A [(hm, .inr (9, mF a i)), ((a 11), aI (g.2.1 0) 5 fto)] := hD
    refine iv_if_eq (tgt := 55) hx hb dX9_set_9 (by decide) (by decide) (fun h => absurd h (by decide)) (fun _ => ?_)
    have hlm := lm_v what.toNat (by omega)
    refine lv_iload_n hx hb dX9_set_12 rfl (lv_at hl 2 rfl) ?_
    refine iv_i2l hx hb dX9_set_13 (by omega) ?_
    refine lv_iload_n hx hb dX9_set_14 rfl (lv_at hl 1 rfl) ?_
    refine lv_iconst (v := iI (4)) hx hb dX9_set_15 rfl ?_
    refine iv_icmp_ne (tgt := 23) hx hb dX9_set_16 (by decide) (by omega) (fun hc3 => ?_) (fun hc3 => ?_)
    · refine lv_lconst (v := lI (0)) hx hb dX9_set_23 (by decide) ?_
      refine lv_iload_n hx hb dX9_set_24 rfl (lv_at hl 1 rfl) ?_
      refine lv_iconst (v := iI (3)) hx hb dX9_set_25 rfl ?_
      refine iv_icmp_ge (tgt := 35) hx hb dX9_set_26 (by decide) (by omega) (fun hc4 => ?_) (fun hc4 => ?_)
      · refine lv_iload_n hx hb dX9_set_35 rfl (lv_at hl 1 rfl) ?_
        refine lv_iconst (v := iI (3)) hx hb dX9_set_36 rfl ?_
        refine iv_icmp_ne (tgt := 46) hx hb dX9_set_37 (by decide) (by omega) (fun hc5 => ?_) (fun hc5 => ?_)
        · refine iv_ldc2 (v := 500) (z := 500) hx hb hown (hts _ (List.mem_of_getElem? (i := 4) rfl)) dX9_set_46 (by decide) ?_
          refine Ct.callS (As := [.long (lI v_), .long (lI 0), .long (lI 500)]) (rest := []) (wr := [(hm, .inr (9, mF a i)), ((a 11), aI (g.2.1 0) 5 fto)]) (c1 := 0) (s1 := 0) ⟨hx, hb, hml, hown, hts⟩ (c_X9_in l g v_ 0 500 (by omega)) (va_cwS 3 hts gX9_set_X9_in rfl rfl rfl (by decide +kernel) ⟨Nat.le_of_ble_eq_true rfl, Nat.le_of_ble_eq_true rfl⟩) hG hP hD hS hA [] [0, 1] rfl rfl (by decide) (by decide) (by decide) rfl hl.1 rfl (Nat.le_of_ble_eq_true rfl) dX9_set_49 ⟨Nat.le_of_ble_eq_true rfl, Nat.le_of_ble_eq_true rfl⟩ rfl rfl (fun v w H locs hv hP hD hS => ?_)
          obtain ⟨⟨rfl, hb6⟩ | ⟨rfl, hb6⟩, rfl⟩ := hv
          · show W p l e _ s m _ below meth c H locs 0 0 _ (F0 m 52 ls (.int (iI 1) :: []))
            have hb6 : 0 ≤ v_ ∧ v_ ≤ 500 := hb6
            have hP : va_P g.1 vwCl [(hm, .inr (9, mF a i)), ((a 11), aI (g.2.1 0) 5 fto)] H := hP
            have hD : va_D A [(hm, .inr (9, mF a i)), ((a 11), aI (g.2.1 0) 5 fto)] := hD
            refine iv_if_ne (tgt := 57) hx hb dX9_set_52 (by decide) (by decide) (fun _ => ?_) (fun h => absurd h (by decide))
            refine lv_aload_n hx hb dX9_set_57 rfl (lv_at hl 0 rfl) ?_
            refine va_get (D := g.1) (ci := 9) (v := .ref (a 11)) hx hb hts kX9_set_9 hown hG.1 hP 0 rfl rfl 11 (by decide) (hts _ (List.mem_of_getElem? (i := 5) rfl)) (fun _ h9 => h9) rfl dX9_set_58 ?_
            refine lv_iload_n hx hb dX9_set_61 rfl (lv_at hl 1 rfl) ?_
            refine iv_iald hx hb hG hP 1 rfl what.toNat (by omega) (by omega) (by decide) dX9_set_62 ?_
            refine lv_istore_n (lv' := [(3, .int (iI (fto what.toNat))), (0, .ref hm), (1, .int (iI what)), (2, .int (iI v_))]) hx hb dX9_set_63 rfl hl (by decide) rfl (fun ls hl => ?_)
            refine lv_aload_n hx hb dX9_set_64 rfl (lv_at hl 1 rfl) ?_
            refine va_get (D := g.1) (ci := 9) (v := .ref (a 11)) hx hb hts kX9_set_9 hown hG.1 hP 0 rfl rfl 11 (by decide) (hts _ (List.mem_of_getElem? (i := 5) rfl)) (fun _ h9 => h9) rfl dX9_set_65 ?_
            refine lv_iload_n hx hb dX9_set_68 rfl (lv_at hl 2 rfl) ?_
            refine lv_iload_n hx hb dX9_set_69 rfl (lv_at hl 3 rfl) ?_
            refine iv_iast hx hb hG hP hD hS 1 rfl what.toNat (by omega) (by omega) (by decide) dX9_set_70 (fun H locs hP hD hS => ?_)
            have hP : va_P g.1 vwCl [(hm, .inr (9, mF a i)), ((a 11), aI (g.2.1 0) 5 (va_up fto what.toNat v_))] H := hP
            have hD : va_D A [(hm, .inr (9, mF a i)), ((a 11), aI (g.2.1 0) 5 (va_up fto what.toNat v_))] := hD
            refine lv_iload_n hx hb dX9_set_71 rfl (lv_at hl 0 rfl) ?_
            exact Ct.iret hx hb hr hlocks (hP.sub [0, 1] rfl) (hD.sub [0, 1] (by decide) rfl) hS ⟨by decide, by decide⟩ dX9_set_72 ⟨(fto what.toNat), (va_up fto what.toNat v_), rfl, rfl, (Or.inr ⟨by omega, rfl, rfl⟩)⟩
          · show W p l e _ s m _ below meth c H locs 0 0 _ (F0 m 52 ls (.int (iI 0) :: []))
            have hb6 : ¬ (0 ≤ v_ ∧ v_ ≤ 500) := hb6
            have hP : va_P g.1 vwCl [(hm, .inr (9, mF a i)), ((a 11), aI (g.2.1 0) 5 fto)] H := hP
            have hD : va_D A [(hm, .inr (9, mF a i)), ((a 11), aI (g.2.1 0) 5 fto)] := hD
            refine iv_if_ne (tgt := 57) hx hb dX9_set_52 (by decide) (by decide) (fun h => absurd h (by decide)) (fun _ => ?_)
            refine lv_iconst (v := iI (-1)) hx hb dX9_set_55 rfl ?_
            exact Ct.iret hx hb hr hlocks (hP.sub [0, 1] rfl) (hD.sub [0, 1] (by decide) rfl) hS ⟨by decide, by decide⟩ dX9_set_56 ⟨(-1), fto, rfl, rfl, (Or.inl ⟨by omega, rfl, rfl⟩)⟩
        · refine iv_ldc2 (v := 999) (z := 999) hx hb hown (hts _ (List.mem_of_getElem? (i := 3) rfl)) dX9_set_40 (by decide) ?_
          refine lv_goto (tgt := 49) hx hb dX9_set_43 (by decide) ?_
          refine Ct.callS (As := [.long (lI v_), .long (lI 0), .long (lI 999)]) (rest := []) (wr := [(hm, .inr (9, mF a i)), ((a 11), aI (g.2.1 0) 5 fto)]) (c1 := 0) (s1 := 0) ⟨hx, hb, hml, hown, hts⟩ (c_X9_in l g v_ 0 999 (by omega)) (va_cwS 3 hts gX9_set_X9_in rfl rfl rfl (by decide +kernel) ⟨Nat.le_of_ble_eq_true rfl, Nat.le_of_ble_eq_true rfl⟩) hG hP hD hS hA [] [0, 1] rfl rfl (by decide) (by decide) (by decide) rfl hl.1 rfl (Nat.le_of_ble_eq_true rfl) dX9_set_49 ⟨Nat.le_of_ble_eq_true rfl, Nat.le_of_ble_eq_true rfl⟩ rfl rfl (fun v w H locs hv hP hD hS => ?_)
          obtain ⟨⟨rfl, hb9⟩ | ⟨rfl, hb9⟩, rfl⟩ := hv
          · show W p l e _ s m _ below meth c H locs 0 0 _ (F0 m 52 ls (.int (iI 1) :: []))
            have hb9 : 0 ≤ v_ ∧ v_ ≤ 999 := hb9
            have hP : va_P g.1 vwCl [(hm, .inr (9, mF a i)), ((a 11), aI (g.2.1 0) 5 fto)] H := hP
            have hD : va_D A [(hm, .inr (9, mF a i)), ((a 11), aI (g.2.1 0) 5 fto)] := hD
            refine iv_if_ne (tgt := 57) hx hb dX9_set_52 (by decide) (by decide) (fun _ => ?_) (fun h => absurd h (by decide))
            refine lv_aload_n hx hb dX9_set_57 rfl (lv_at hl 0 rfl) ?_
            refine va_get (D := g.1) (ci := 9) (v := .ref (a 11)) hx hb hts kX9_set_9 hown hG.1 hP 0 rfl rfl 11 (by decide) (hts _ (List.mem_of_getElem? (i := 5) rfl)) (fun _ h9 => h9) rfl dX9_set_58 ?_
            refine lv_iload_n hx hb dX9_set_61 rfl (lv_at hl 1 rfl) ?_
            refine iv_iald hx hb hG hP 1 rfl what.toNat (by omega) (by omega) (by decide) dX9_set_62 ?_
            refine lv_istore_n (lv' := [(3, .int (iI (fto what.toNat))), (0, .ref hm), (1, .int (iI what)), (2, .int (iI v_))]) hx hb dX9_set_63 rfl hl (by decide) rfl (fun ls hl => ?_)
            refine lv_aload_n hx hb dX9_set_64 rfl (lv_at hl 1 rfl) ?_
            refine va_get (D := g.1) (ci := 9) (v := .ref (a 11)) hx hb hts kX9_set_9 hown hG.1 hP 0 rfl rfl 11 (by decide) (hts _ (List.mem_of_getElem? (i := 5) rfl)) (fun _ h9 => h9) rfl dX9_set_65 ?_
            refine lv_iload_n hx hb dX9_set_68 rfl (lv_at hl 2 rfl) ?_
            refine lv_iload_n hx hb dX9_set_69 rfl (lv_at hl 3 rfl) ?_
            refine iv_iast hx hb hG hP hD hS 1 rfl what.toNat (by omega) (by omega) (by decide) dX9_set_70 (fun H locs hP hD hS => ?_)
            have hP : va_P g.1 vwCl [(hm, .inr (9, mF a i)), ((a 11), aI (g.2.1 0) 5 (va_up fto what.toNat v_))] H := hP
            have hD : va_D A [(hm, .inr (9, mF a i)), ((a 11), aI (g.2.1 0) 5 (va_up fto what.toNat v_))] := hD
            refine lv_iload_n hx hb dX9_set_71 rfl (lv_at hl 0 rfl) ?_
            exact Ct.iret hx hb hr hlocks (hP.sub [0, 1] rfl) (hD.sub [0, 1] (by decide) rfl) hS ⟨by decide, by decide⟩ dX9_set_72 ⟨(fto what.toNat), (va_up fto what.toNat v_), rfl, rfl, (Or.inr ⟨by omega, rfl, rfl⟩)⟩
          · show W p l e _ s m _ below meth c H locs 0 0 _ (F0 m 52 ls (.int (iI 0) :: []))
            have hb9 : ¬ (0 ≤ v_ ∧ v_ ≤ 999) := hb9
            have hP : va_P g.1 vwCl [(hm, .inr (9, mF a i)), ((a 11), aI (g.2.1 0) 5 fto)] H := hP
            have hD : va_D A [(hm, .inr (9, mF a i)), ((a 11), aI (g.2.1 0) 5 fto)] := hD
            refine iv_if_ne (tgt := 57) hx hb dX9_set_52 (by decide) (by decide) (fun h => absurd h (by decide)) (fun _ => ?_)
            refine lv_iconst (v := iI (-1)) hx hb dX9_set_55 rfl ?_
            exact Ct.iret hx hb hr hlocks (hP.sub [0, 1] rfl) (hD.sub [0, 1] (by decide) rfl) hS ⟨by decide, by decide⟩ dX9_set_56 ⟨(-1), fto, rfl, rfl, (Or.inl ⟨by omega, rfl, rfl⟩)⟩
      · refine iv_ldc2 (v := 99) (z := 99) hx hb hown (hts _ (List.mem_of_getElem? (i := 2) rfl)) dX9_set_29 (by decide) ?_
        refine lv_goto (tgt := 49) hx hb dX9_set_32 (by decide) ?_
        refine Ct.callS (As := [.long (lI v_), .long (lI 0), .long (lI 99)]) (rest := []) (wr := [(hm, .inr (9, mF a i)), ((a 11), aI (g.2.1 0) 5 fto)]) (c1 := 0) (s1 := 0) ⟨hx, hb, hml, hown, hts⟩ (c_X9_in l g v_ 0 99 (by omega)) (va_cwS 3 hts gX9_set_X9_in rfl rfl rfl (by decide +kernel) ⟨Nat.le_of_ble_eq_true rfl, Nat.le_of_ble_eq_true rfl⟩) hG hP hD hS hA [] [0, 1] rfl rfl (by decide) (by decide) (by decide) rfl hl.1 rfl (Nat.le_of_ble_eq_true rfl) dX9_set_49 ⟨Nat.le_of_ble_eq_true rfl, Nat.le_of_ble_eq_true rfl⟩ rfl rfl (fun v w H locs hv hP hD hS => ?_)
        obtain ⟨⟨rfl, hb12⟩ | ⟨rfl, hb12⟩, rfl⟩ := hv
        · show W p l e _ s m _ below meth c H locs 0 0 _ (F0 m 52 ls (.int (iI 1) :: []))
          have hb12 : 0 ≤ v_ ∧ v_ ≤ 99 := hb12
          have hP : va_P g.1 vwCl [(hm, .inr (9, mF a i)), ((a 11), aI (g.2.1 0) 5 fto)] H := hP
          have hD : va_D A [(hm, .inr (9, mF a i)), ((a 11), aI (g.2.1 0) 5 fto)] := hD
          refine iv_if_ne (tgt := 57) hx hb dX9_set_52 (by decide) (by decide) (fun _ => ?_) (fun h => absurd h (by decide))
          refine lv_aload_n hx hb dX9_set_57 rfl (lv_at hl 0 rfl) ?_
          refine va_get (D := g.1) (ci := 9) (v := .ref (a 11)) hx hb hts kX9_set_9 hown hG.1 hP 0 rfl rfl 11 (by decide) (hts _ (List.mem_of_getElem? (i := 5) rfl)) (fun _ h9 => h9) rfl dX9_set_58 ?_
          refine lv_iload_n hx hb dX9_set_61 rfl (lv_at hl 1 rfl) ?_
          refine iv_iald hx hb hG hP 1 rfl what.toNat (by omega) (by omega) (by decide) dX9_set_62 ?_
          refine lv_istore_n (lv' := [(3, .int (iI (fto what.toNat))), (0, .ref hm), (1, .int (iI what)), (2, .int (iI v_))]) hx hb dX9_set_63 rfl hl (by decide) rfl (fun ls hl => ?_)
          refine lv_aload_n hx hb dX9_set_64 rfl (lv_at hl 1 rfl) ?_
          refine va_get (D := g.1) (ci := 9) (v := .ref (a 11)) hx hb hts kX9_set_9 hown hG.1 hP 0 rfl rfl 11 (by decide) (hts _ (List.mem_of_getElem? (i := 5) rfl)) (fun _ h9 => h9) rfl dX9_set_65 ?_
          refine lv_iload_n hx hb dX9_set_68 rfl (lv_at hl 2 rfl) ?_
          refine lv_iload_n hx hb dX9_set_69 rfl (lv_at hl 3 rfl) ?_
          refine iv_iast hx hb hG hP hD hS 1 rfl what.toNat (by omega) (by omega) (by decide) dX9_set_70 (fun H locs hP hD hS => ?_)
          have hP : va_P g.1 vwCl [(hm, .inr (9, mF a i)), ((a 11), aI (g.2.1 0) 5 (va_up fto what.toNat v_))] H := hP
          have hD : va_D A [(hm, .inr (9, mF a i)), ((a 11), aI (g.2.1 0) 5 (va_up fto what.toNat v_))] := hD
          refine lv_iload_n hx hb dX9_set_71 rfl (lv_at hl 0 rfl) ?_
          exact Ct.iret hx hb hr hlocks (hP.sub [0, 1] rfl) (hD.sub [0, 1] (by decide) rfl) hS ⟨by decide, by decide⟩ dX9_set_72 ⟨(fto what.toNat), (va_up fto what.toNat v_), rfl, rfl, (Or.inr ⟨by omega, rfl, rfl⟩)⟩
        · show W p l e _ s m _ below meth c H locs 0 0 _ (F0 m 52 ls (.int (iI 0) :: []))
          have hb12 : ¬ (0 ≤ v_ ∧ v_ ≤ 99) := hb12
          have hP : va_P g.1 vwCl [(hm, .inr (9, mF a i)), ((a 11), aI (g.2.1 0) 5 fto)] H := hP
          have hD : va_D A [(hm, .inr (9, mF a i)), ((a 11), aI (g.2.1 0) 5 fto)] := hD
          refine iv_if_ne (tgt := 57) hx hb dX9_set_52 (by decide) (by decide) (fun h => absurd h (by decide)) (fun _ => ?_)
          refine lv_iconst (v := iI (-1)) hx hb dX9_set_55 rfl ?_
          exact Ct.iret hx hb hr hlocks (hP.sub [0, 1] rfl) (hD.sub [0, 1] (by decide) rfl) hS ⟨by decide, by decide⟩ dX9_set_56 ⟨(-1), fto, rfl, rfl, (Or.inl ⟨by omega, rfl, rfl⟩)⟩
    · refine lv_lconst (v := lI (1)) hx hb dX9_set_19 (by decide) ?_
      refine lv_goto (tgt := 24) hx hb dX9_set_20 (by decide) ?_
      refine lv_iload_n hx hb dX9_set_24 rfl (lv_at hl 1 rfl) ?_
      refine lv_iconst (v := iI (3)) hx hb dX9_set_25 rfl ?_
      refine iv_icmp_ge (tgt := 35) hx hb dX9_set_26 (by decide) (by omega) (fun hc15 => ?_) (fun hc15 => ?_)
      · refine lv_iload_n hx hb dX9_set_35 rfl (lv_at hl 1 rfl) ?_
        refine lv_iconst (v := iI (3)) hx hb dX9_set_36 rfl ?_
        refine iv_icmp_ne (tgt := 46) hx hb dX9_set_37 (by decide) (by omega) (fun hc16 => ?_) (fun hc16 => ?_)
        · refine iv_ldc2 (v := 500) (z := 500) hx hb hown (hts _ (List.mem_of_getElem? (i := 4) rfl)) dX9_set_46 (by decide) ?_
          refine Ct.callS (As := [.long (lI v_), .long (lI 1), .long (lI 500)]) (rest := []) (wr := [(hm, .inr (9, mF a i)), ((a 11), aI (g.2.1 0) 5 fto)]) (c1 := 0) (s1 := 0) ⟨hx, hb, hml, hown, hts⟩ (c_X9_in l g v_ 1 500 (by omega)) (va_cwS 3 hts gX9_set_X9_in rfl rfl rfl (by decide +kernel) ⟨Nat.le_of_ble_eq_true rfl, Nat.le_of_ble_eq_true rfl⟩) hG hP hD hS hA [] [0, 1] rfl rfl (by decide) (by decide) (by decide) rfl hl.1 rfl (Nat.le_of_ble_eq_true rfl) dX9_set_49 ⟨Nat.le_of_ble_eq_true rfl, Nat.le_of_ble_eq_true rfl⟩ rfl rfl (fun v w H locs hv hP hD hS => ?_)
          obtain ⟨⟨rfl, hb17⟩ | ⟨rfl, hb17⟩, rfl⟩ := hv
          · show W p l e _ s m _ below meth c H locs 0 0 _ (F0 m 52 ls (.int (iI 1) :: []))
            have hb17 : 1 ≤ v_ ∧ v_ ≤ 500 := hb17
            have hP : va_P g.1 vwCl [(hm, .inr (9, mF a i)), ((a 11), aI (g.2.1 0) 5 fto)] H := hP
            have hD : va_D A [(hm, .inr (9, mF a i)), ((a 11), aI (g.2.1 0) 5 fto)] := hD
            refine iv_if_ne (tgt := 57) hx hb dX9_set_52 (by decide) (by decide) (fun _ => ?_) (fun h => absurd h (by decide))
            refine lv_aload_n hx hb dX9_set_57 rfl (lv_at hl 0 rfl) ?_
            refine va_get (D := g.1) (ci := 9) (v := .ref (a 11)) hx hb hts kX9_set_9 hown hG.1 hP 0 rfl rfl 11 (by decide) (hts _ (List.mem_of_getElem? (i := 5) rfl)) (fun _ h9 => h9) rfl dX9_set_58 ?_
            refine lv_iload_n hx hb dX9_set_61 rfl (lv_at hl 1 rfl) ?_
            refine iv_iald hx hb hG hP 1 rfl what.toNat (by omega) (by omega) (by decide) dX9_set_62 ?_
            refine lv_istore_n (lv' := [(3, .int (iI (fto what.toNat))), (0, .ref hm), (1, .int (iI what)), (2, .int (iI v_))]) hx hb dX9_set_63 rfl hl (by decide) rfl (fun ls hl => ?_)
            refine lv_aload_n hx hb dX9_set_64 rfl (lv_at hl 1 rfl) ?_
            refine va_get (D := g.1) (ci := 9) (v := .ref (a 11)) hx hb hts kX9_set_9 hown hG.1 hP 0 rfl rfl 11 (by decide) (hts _ (List.mem_of_getElem? (i := 5) rfl)) (fun _ h9 => h9) rfl dX9_set_65 ?_
            refine lv_iload_n hx hb dX9_set_68 rfl (lv_at hl 2 rfl) ?_
            refine lv_iload_n hx hb dX9_set_69 rfl (lv_at hl 3 rfl) ?_
            refine iv_iast hx hb hG hP hD hS 1 rfl what.toNat (by omega) (by omega) (by decide) dX9_set_70 (fun H locs hP hD hS => ?_)
            have hP : va_P g.1 vwCl [(hm, .inr (9, mF a i)), ((a 11), aI (g.2.1 0) 5 (va_up fto what.toNat v_))] H := hP
            have hD : va_D A [(hm, .inr (9, mF a i)), ((a 11), aI (g.2.1 0) 5 (va_up fto what.toNat v_))] := hD
            refine lv_iload_n hx hb dX9_set_71 rfl (lv_at hl 0 rfl) ?_
            exact Ct.iret hx hb hr hlocks (hP.sub [0, 1] rfl) (hD.sub [0, 1] (by decide) rfl) hS ⟨by decide, by decide⟩ dX9_set_72 ⟨(fto what.toNat), (va_up fto what.toNat v_), rfl, rfl, (Or.inr ⟨by omega, rfl, rfl⟩)⟩
          · show W p l e _ s m _ below meth c H locs 0 0 _ (F0 m 52 ls (.int (iI 0) :: []))
            have hb17 : ¬ (1 ≤ v_ ∧ v_ ≤ 500) := hb17
            have hP : va_P g.1 vwCl [(hm, .inr (9, mF a i)), ((a 11), aI (g.2.1 0) 5 fto)] H := hP
            have hD : va_D A [(hm, .inr (9, mF a i)), ((a 11), aI (g.2.1 0) 5 fto)] := hD
            refine iv_if_ne (tgt := 57) hx hb dX9_set_52 (by decide) (by decide) (fun h => absurd h (by decide)) (fun _ => ?_)
            refine lv_iconst (v := iI (-1)) hx hb dX9_set_55 rfl ?_
            exact Ct.iret hx hb hr hlocks (hP.sub [0, 1] rfl) (hD.sub [0, 1] (by decide) rfl) hS ⟨by decide, by decide⟩ dX9_set_56 ⟨(-1), fto, rfl, rfl, (Or.inl ⟨by omega, rfl, rfl⟩)⟩
        · refine iv_ldc2 (v := 999) (z := 999) hx hb hown (hts _ (List.mem_of_getElem? (i := 3) rfl)) dX9_set_40 (by decide) ?_
          refine lv_goto (tgt := 49) hx hb dX9_set_43 (by decide) ?_
          refine Ct.callS (As := [.long (lI v_), .long (lI 1), .long (lI 999)]) (rest := []) (wr := [(hm, .inr (9, mF a i)), ((a 11), aI (g.2.1 0) 5 fto)]) (c1 := 0) (s1 := 0) ⟨hx, hb, hml, hown, hts⟩ (c_X9_in l g v_ 1 999 (by omega)) (va_cwS 3 hts gX9_set_X9_in rfl rfl rfl (by decide +kernel) ⟨Nat.le_of_ble_eq_true rfl, Nat.le_of_ble_eq_true rfl⟩) hG hP hD hS hA [] [0, 1] rfl rfl (by decide) (by decide) (by decide) rfl hl.1 rfl (Nat.le_of_ble_eq_true rfl) dX9_set_49 ⟨Nat.le_of_ble_eq_true rfl, Nat.le_of_ble_eq_true rfl⟩ rfl rfl (fun v w H locs hv hP hD hS => ?_)
          obtain ⟨⟨rfl, hb20⟩ | ⟨rfl, hb20⟩, rfl⟩ := hv
          · show W p l e _ s m _ below meth c H locs 0 0 _ (F0 m 52 ls (.int (iI 1) :: []))
            have hb20 : 1 ≤ v_ ∧ v_ ≤ 999 := hb20
            have hP : va_P g.1 vwCl [(hm, .inr (9, mF a i)), ((a 11), aI (g.2.1 0) 5 fto)] H := hP
            have hD : va_D A [(hm, .inr (9, mF a i)), ((a 11), aI (g.2.1 0) 5 fto)] := hD
            refine iv_if_ne (tgt := 57) hx hb dX9_set_52 (by decide) (by decide) (fun _ => ?_) (fun h => absurd h (by decide))
            refine lv_aload_n hx hb dX9_set_57 rfl (lv_at hl 0 rfl) ?_
            refine va_get (D := g.1) (ci := 9) (v := .ref (a 11)) hx hb hts kX9_set_9 hown hG.1 hP 0 rfl rfl 11 (by decide) (hts _ (List.mem_of_getElem? (i := 5) rfl)) (fun _ h9 => h9) rfl dX9_set_58 ?_
            refine lv_iload_n hx hb dX9_set_61 rfl (lv_at hl 1 rfl) ?_
            refine iv_iald hx hb hG hP 1 rfl what.toNat (by omega) (by omega) (by decide) dX9_set_62 ?_
            refine lv_istore_n (lv' := [(3, .int (iI (fto what.toNat))), (0, .ref hm), (1, .int (iI what)), (2, .int (iI v_))]) hx hb dX9_set_63 rfl hl (by decide) rfl (fun ls hl => ?_)
            refine lv_aload_n hx hb dX9_set_64 rfl (lv_at hl 1 rfl) ?_
            refine va_get (D := g.1) (ci := 9) (v := .ref (a 11)) hx hb hts kX9_set_9 hown hG.1 hP 0 rfl rfl 11 (by decide) (hts _ (List.mem_of_getElem? (i := 5) rfl)) (fun _ h9 => h9) rfl dX9_set_65 ?_
            refine lv_iload_n hx hb dX9_set_68 rfl (lv_at hl 2 rfl) ?_
            refine lv_iload_n hx hb dX9_set_69 rfl (lv_at hl 3 rfl) ?_
            refine iv_iast hx hb hG hP hD hS 1 rfl what.toNat (by omega) (by omega) (by decide) dX9_set_70 (fun H locs hP hD hS => ?_)
            have hP : va_P g.1 vwCl [(hm, .inr (9, mF a i)), ((a 11), aI (g.2.1 0) 5 (va_up fto what.toNat v_))] H := hP
            have hD : va_D A [(hm, .inr (9, mF a i)), ((a 11), aI (g.2.1 0) 5 (va_up fto what.toNat v_))] := hD
            refine lv_iload_n hx hb dX9_set_71 rfl (lv_at hl 0 rfl) ?_
            exact Ct.iret hx hb hr hlocks (hP.sub [0, 1] rfl) (hD.sub [0, 1] (by decide) rfl) hS ⟨by decide, by decide⟩ dX9_set_72 ⟨(fto what.toNat), (va_up fto what.toNat v_), rfl, rfl, (Or.inr ⟨by omega, rfl, rfl⟩)⟩
          · show W p l e _ s m _ below meth c H locs 0 0 _ (F0 m 52 ls (.int (iI 0) :: []))
            have hb20 : ¬ (1 ≤ v_ ∧ v_ ≤ 999) := hb20
            have hP : va_P g.1 vwCl [(hm, .inr (9, mF a i)), ((a 11), aI (g.2.1 0) 5 fto)] H := hP
            have hD : va_D A [(hm, .inr (9, mF a i)), ((a 11), aI (g.2.1 0) 5 fto)] := hD
            refine iv_if_ne (tgt := 57) hx hb dX9_set_52 (by decide) (by decide) (fun h => absurd h (by decide)) (fun _ => ?_)
            refine lv_iconst (v := iI (-1)) hx hb dX9_set_55 rfl ?_
            exact Ct.iret hx hb hr hlocks (hP.sub [0, 1] rfl) (hD.sub [0, 1] (by decide) rfl) hS ⟨by decide, by decide⟩ dX9_set_56 ⟨(-1), fto, rfl, rfl, (Or.inl ⟨by omega, rfl, rfl⟩)⟩
      · refine iv_ldc2 (v := 99) (z := 99) hx hb hown (hts _ (List.mem_of_getElem? (i := 2) rfl)) dX9_set_29 (by decide) ?_
        refine lv_goto (tgt := 49) hx hb dX9_set_32 (by decide) ?_
        refine Ct.callS (As := [.long (lI v_), .long (lI 1), .long (lI 99)]) (rest := []) (wr := [(hm, .inr (9, mF a i)), ((a 11), aI (g.2.1 0) 5 fto)]) (c1 := 0) (s1 := 0) ⟨hx, hb, hml, hown, hts⟩ (c_X9_in l g v_ 1 99 (by omega)) (va_cwS 3 hts gX9_set_X9_in rfl rfl rfl (by decide +kernel) ⟨Nat.le_of_ble_eq_true rfl, Nat.le_of_ble_eq_true rfl⟩) hG hP hD hS hA [] [0, 1] rfl rfl (by decide) (by decide) (by decide) rfl hl.1 rfl (Nat.le_of_ble_eq_true rfl) dX9_set_49 ⟨Nat.le_of_ble_eq_true rfl, Nat.le_of_ble_eq_true rfl⟩ rfl rfl (fun v w H locs hv hP hD hS => ?_)
        obtain ⟨⟨rfl, hb23⟩ | ⟨rfl, hb23⟩, rfl⟩ := hv
        · show W p l e _ s m _ below meth c H locs 0 0 _ (F0 m 52 ls (.int (iI 1) :: []))
          have hb23 : 1 ≤ v_ ∧ v_ ≤ 99 := hb23
          have hP : va_P g.1 vwCl [(hm, .inr (9, mF a i)), ((a 11), aI (g.2.1 0) 5 fto)] H := hP
          have hD : va_D A [(hm, .inr (9, mF a i)), ((a 11), aI (g.2.1 0) 5 fto)] := hD
          refine iv_if_ne (tgt := 57) hx hb dX9_set_52 (by decide) (by decide) (fun _ => ?_) (fun h => absurd h (by decide))
          refine lv_aload_n hx hb dX9_set_57 rfl (lv_at hl 0 rfl) ?_
          refine va_get (D := g.1) (ci := 9) (v := .ref (a 11)) hx hb hts kX9_set_9 hown hG.1 hP 0 rfl rfl 11 (by decide) (hts _ (List.mem_of_getElem? (i := 5) rfl)) (fun _ h9 => h9) rfl dX9_set_58 ?_
          refine lv_iload_n hx hb dX9_set_61 rfl (lv_at hl 1 rfl) ?_
          refine iv_iald hx hb hG hP 1 rfl what.toNat (by omega) (by omega) (by decide) dX9_set_62 ?_
          refine lv_istore_n (lv' := [(3, .int (iI (fto what.toNat))), (0, .ref hm), (1, .int (iI what)), (2, .int (iI v_))]) hx hb dX9_set_63 rfl hl (by decide) rfl (fun ls hl => ?_)
          refine lv_aload_n hx hb dX9_set_64 rfl (lv_at hl 1 rfl) ?_
          refine va_get (D := g.1) (ci := 9) (v := .ref (a 11)) hx hb hts kX9_set_9 hown hG.1 hP 0 rfl rfl 11 (by decide) (hts _ (List.mem_of_getElem? (i := 5) rfl)) (fun _ h9 => h9) rfl dX9_set_65 ?_
          refine lv_iload_n hx hb dX9_set_68 rfl (lv_at hl 2 rfl) ?_
          refine lv_iload_n hx hb dX9_set_69 rfl (lv_at hl 3 rfl) ?_
          refine iv_iast hx hb hG hP hD hS 1 rfl what.toNat (by omega) (by omega) (by decide) dX9_set_70 (fun H locs hP hD hS => ?_)
          have hP : va_P g.1 vwCl [(hm, .inr (9, mF a i)), ((a 11), aI (g.2.1 0) 5 (va_up fto what.toNat v_))] H := hP
          have hD : va_D A [(hm, .inr (9, mF a i)), ((a 11), aI (g.2.1 0) 5 (va_up fto what.toNat v_))] := hD
          refine lv_iload_n hx hb dX9_set_71 rfl (lv_at hl 0 rfl) ?_
          exact Ct.iret hx hb hr hlocks (hP.sub [0, 1] rfl) (hD.sub [0, 1] (by decide) rfl) hS ⟨by decide, by decide⟩ dX9_set_72 ⟨(fto what.toNat), (va_up fto what.toNat v_), rfl, rfl, (Or.inr ⟨by omega, rfl, rfl⟩)⟩
        · show W p l e _ s m _ below meth c H locs 0 0 _ (F0 m 52 ls (.int (iI 0) :: []))
          have hb23 : ¬ (1 ≤ v_ ∧ v_ ≤ 99) := hb23
          have hP : va_P g.1 vwCl [(hm, .inr (9, mF a i)), ((a 11), aI (g.2.1 0) 5 fto)] H := hP
          have hD : va_D A [(hm, .inr (9, mF a i)), ((a 11), aI (g.2.1 0) 5 fto)] := hD
          refine iv_if_ne (tgt := 57) hx hb dX9_set_52 (by decide) (by decide) (fun h => absurd h (by decide)) (fun _ => ?_)
          refine lv_iconst (v := iI (-1)) hx hb dX9_set_55 rfl ?_
          exact Ct.iret hx hb hr hlocks (hP.sub [0, 1] rfl) (hD.sub [0, 1] (by decide) rfl) hS ⟨by decide, by decide⟩ dX9_set_56 ⟨(-1), fto, rfl, rfl, (Or.inl ⟨by omega, rfl, rfl⟩)⟩
  · show W p l e _ s m _ below meth c H locs 0 0 _ (F0 m 9 ls (.int (iI 0) :: []))
    have hb1 : ¬ (0 ≤ what ∧ what ≤ 4) := hb1
    have hP : va_P g.1 vwCl [(hm, .inr (9, mF a i)), ((a 11), aI (g.2.1 0) 5 fto)] H := hP
    have hD : va_D A [(hm, .inr (9, mF a i)), ((a 11), aI (g.2.1 0) 5 fto)] := hD
    refine iv_if_eq (tgt := 55) hx hb dX9_set_9 (by decide) (by decide) (fun _ => ?_) (fun h => absurd h (by decide))
    refine lv_iconst (v := iI (-1)) hx hb dX9_set_55 rfl ?_
    exact Ct.iret hx hb hr hlocks (hP.sub [0, 1] rfl) (hD.sub [0, 1] (by decide) rfl) hS ⟨by decide, by decide⟩ dX9_set_56 ⟨(-1), fto, rfl, rfl, (Or.inl ⟨by omega, rfl, rfl⟩)⟩
abbrev q_X8_digitOf (g : GT) (x : Int) (c_ : Int) (n : Nat) : Option Value → va_W → Prop := fun v w => ∃ (r : Int), v = some (.int (iI r)) ∧ w = [] ∧ (r = dg x n)
set_option maxHeartbeats 4000000 in
set_option maxRecDepth 100000 in
theorem c_X8_digitOf (l : Launch) (g : GT) (x : Int) (c_ : Int) (n : Nat) (h1 : c_ = (n : Int) ∧ n < 3 ∧ 0 ≤ x ∧ x ≤ 999) : Ct l g yX8_digitOf wsX8_digitOf ({ frames := 0, cells := 0, slots := 0, locals := 0 } : Room) [.int (iI x), .int (iI c_)] [] (q_X8_digitOf g x c_ n) := by
  refine Ct.intro (maxL := 2) (ret := (some .int)) (by decide) rfl (Nat.le_of_ble_eq_true rfl) ?_
  intro p e s m below meth c A ls hx hb hr hml hown hts hlocks hnm hA hG hP hD hS hl
  have hown : s.vm.findClass RX8 = some m.cls := hown
  have hl : lv_has ls 2 [(0, .int (iI x)), (1, .int (iI c_))] := hl
  have hP : va_P g.1 vwCl [] s.heap := hP
  have hS : va_S A s.heap s.heap [] := hS
  obtain ⟨H, hHe⟩ : ∃ H : Heap, H = s.heap := ⟨_, rfl⟩
  obtain ⟨locs, hLe⟩ : ∃ L : List Loc, L = [] := ⟨_, rfl⟩
  have hP : va_P g.1 vwCl [] H := by rw [hHe]; exact hP
  have hS : va_S A s.heap H locs := by rw [hHe, hLe]; exact hS
  suffices hgo : W p l e ({ frames := 0, cells := 0, slots := 0, locals := 0 } : Room) s m [.int (iI x), .int (iI c_)].toArray below meth c H locs 0 0 (MQ below (CQ g (q_X8_digitOf g x c_ n) A) [.int (iI x), .int (iI c_)].toArray s ({ frames := 0, cells := 0, slots := 0, locals := 0 } : Room).cells ({ frames := 0, cells := 0, slots := 0, locals := 0 } : Room).slots A) (F0 m 0 ls []) by rw [hHe, hLe] at hgo; exact hgo
  clear hHe hLe
  refine lv_iload_n hx hb dX8_digitOf_0 rfl (lv_at hl 1 rfl) ?_
  rcases (show c_ = 0 ∨ c_ = 1 ∨ (¬ c_ = 0 ∧ ¬ c_ = 1) from by omega) with hc1 | hc1 | hc1
  · refine iv_as (0) hc1 ?_
    refine lv_lookup (off := 27) (tgt := 28) hx hb dX8_digitOf_1 (by decide) (by decide) (by decide) ?_
    refine lv_iload_n hx hb dX8_digitOf_28 rfl (lv_at hl 0 rfl) ?_
    refine lv_bipush (v := iI (10)) hx hb dX8_digitOf_29 (by decide) ?_
    refine iv_irem hx hb dX8_digitOf_31 (by omega) ?_
    exact Ct.iret hx hb hr hlocks (hP.sub [] rfl) (hD.sub [] (by decide) rfl) hS ⟨by decide, by decide⟩ dX8_digitOf_32 ⟨(x % 10), rfl, rfl, (by rw [show n = 0 from by omega, dg_0])⟩
  · refine iv_as (1) hc1 ?_
    refine lv_lookup (off := 32) (tgt := 33) hx hb dX8_digitOf_1 (by decide) (by decide) (by decide) ?_
    refine lv_iload_n hx hb dX8_digitOf_33 rfl (lv_at hl 0 rfl) ?_
    refine lv_bipush (v := iI (10)) hx hb dX8_digitOf_34 (by decide) ?_
    refine iv_idiv hx hb dX8_digitOf_36 (by omega) ?_
    refine lv_bipush (v := iI (10)) hx hb dX8_digitOf_37 (by decide) ?_
    refine iv_irem hx hb dX8_digitOf_39 (by omega) ?_
    exact Ct.iret hx hb hr hlocks (hP.sub [] rfl) (hD.sub [] (by decide) rfl) hS ⟨by decide, by decide⟩ dX8_digitOf_40 ⟨((x / 10) % 10), rfl, rfl, (by rw [show n = 1 from by omega, dg_1])⟩
  · refine lv_lookup (off := 40) (tgt := 41) hx hb dX8_digitOf_1 (by decide) (by rw [iI_toInt (by omega)]; show (if (0 : Int) = c_ then (27 : Int) else (if (1 : Int) = c_ then (32 : Int) else (40 : Int))) = 40; rw [if_neg (by omega), if_neg (by omega)]) (by decide) ?_
    refine lv_iload_n hx hb dX8_digitOf_41 rfl (lv_at hl 0 rfl) ?_
    refine lv_bipush (v := iI (100)) hx hb dX8_digitOf_42 (by decide) ?_
    refine iv_idiv hx hb dX8_digitOf_44 (by omega) ?_
    refine lv_bipush (v := iI (10)) hx hb dX8_digitOf_45 (by decide) ?_
    refine iv_irem hx hb dX8_digitOf_47 (by omega) ?_
    exact Ct.iret hx hb hr hlocks (hP.sub [] rfl) (hD.sub [] (by decide) rfl) hS ⟨by decide, by decide⟩ dX8_digitOf_48 ⟨((x / 100) % 10), rfl, rfl, (by rw [show n = 2 from by omega, dg_2])⟩
