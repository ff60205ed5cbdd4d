theorem kX7_add_7 : ∀ w ∈ u_ws RX7 TX7 3, w ∈ wsX7_add := fun _ h => List.mem_cons_of_mem _ (List.mem_append_right _ h)
abbrev q_X7_add (g : GT) (ht : Nat) (tw : Nat) (to_ : Nat) (tm : Int) (fw : Nat → Int) (fo : Nat → Int) (M : Nat) (way : Int) (ou : Int) : Option Value → va_W → Prop := fun v w => ∃ (r : Int), ∃ (tm' : Int), ∃ (fw' : Nat → Int), ∃ (fo' : Nat → Int), v = some (.int (iI r)) ∧ w = [(ht, .inr (7, [.int (iI tm'), .ref tw, .ref to_])), (tw, aI (g.2.1 0) 12 fw'), (to_, aI (g.2.1 0) 12 fo')] ∧ ((r = -3 ∧ M = 12 ∧ tm' = tm ∧ fw' = fw ∧ fo' = fo) ∨ (r = tm + 1 ∧ M < 12 ∧ tm' = tm + 1 ∧ fw' = va_up fw M way ∧ fo' = va_up fo M ou))
set_option maxHeartbeats 4000000 in
set_option maxRecDepth 100000 in
theorem c_X7_add (l : Launch) (g : GT) (ht : Nat) (tw : Nat) (to_ : Nat) (tm : Int) (fw : Nat → Int) (fo : Nat → Int) (M : Nat) (way : Int) (ou : Int) (h1 : tm = (M : Int) ∧ M ≤ 12) : Ct l g yX7_add wsX7_add ({ frames := 0, cells := 0, slots := 0, locals := 0 } : Room) [.ref ht, .int (iI way), .int (iI ou)] [(ht, .inr (7, [.int (iI tm), .ref tw, .ref to_])), (tw, aI (g.2.1 0) 12 fw), (to_, aI (g.2.1 0) 12 fo)] (q_X7_add g ht tw to_ tm fw fo M way ou) := by
  refine Ct.intro (maxL := 3) (ret := (some .int)) (by decide) rfl (Nat.le_of_ble_eq_true rfl) ?_
  intro p e s m below meth c A ls hx hb hr hml hown hts hlocks hnm hA hG hP hD hS hl
  have hown : s.vm.findClass RX7 = some m.cls := hown
  have hl : lv_has ls 3 [(0, .ref ht), (1, .int (iI way)), (2, .int (iI ou))] := hl
  have hP : va_P g.1 vwCl [(ht, .inr (7, [.int (iI tm), .ref tw, .ref to_])), (tw, aI (g.2.1 0) 12 fw), (to_, aI (g.2.1 0) 12 fo)] s.heap := hP
  have hS : va_S A s.heap s.heap [] := hS
  obtain ⟨H, hHe⟩ : ∃ H : Heap, H = s.heap := ⟨_, rfl⟩
  obtain ⟨locs, hLe⟩ : ∃ L : List Loc, L = [] := ⟨_, rfl⟩
  have hP : va_P g.1 vwCl [(ht, .inr (7, [.int (iI tm), .ref tw, .ref to_])), (tw, aI (g.2.1 0) 12 fw), (to_, aI (g.2.1 0) 12 fo)] H := by rw [hHe]; exact hP
  have hS : va_S A s.heap H locs := by rw [hHe, hLe]; exact hS
  suffices hgo : W p l e ({ frames := 0, cells := 0, slots := 0, locals := 0 } : Room) s m [.ref ht, .int (iI way), .int (iI ou)].toArray below meth c H locs 0 0 (MQ below (CQ g (q_X7_add g ht tw to_ tm fw fo M way ou) A) [.ref ht, .int (iI way), .int (iI ou)].toArray s ({ frames := 0, cells := 0, slots := 0, locals := 0 } : Room).cells ({ frames := 0, cells := 0, slots := 0, locals := 0 } : Room).slots A) (F0 m 0 ls []) by rw [hHe, hLe] at hgo; exact hgo
  clear hHe hLe
  refine lv_aload_n hx hb dX7_add_0 rfl (lv_at hl 0 rfl) ?_
  refine va_get (D := g.1) (ci := 7) (v := .int (iI tm)) hx hb hts kX7_add_7 hown hG.1 hP 0 rfl rfl 0 (by decide) (hts _ (List.mem_of_getElem? (i := 1) rfl)) (fun _ h9 => h9) rfl dX7_add_1 ?_
  refine lv_bipush (v := iI (12)) hx hb dX7_add_4 (by decide) ?_
  refine iv_icmp_lt (tgt := 12) hx hb dX7_add_6 (by decide) (by omega) (fun hc1 => ?_) (fun hc1 => ?_)
  · refine lv_aload_n hx hb dX7_add_12 rfl (lv_at hl 0 rfl) ?_
    refine va_get (D := g.1) (ci := 7) (v := .ref tw) hx hb hts kX7_add_7 hown hG.1 hP 0 rfl rfl 1 (by decide) (hts _ (List.mem_of_getElem? (i := 2) rfl)) (fun _ h9 => h9) rfl dX7_add_13 ?_
    refine lv_aload_n hx hb dX7_add_16 rfl (lv_at hl 0 rfl) ?_
    refine va_get (D := g.1) (ci := 7) (v := .int (iI tm)) hx hb hts kX7_add_7 hown hG.1 hP 0 rfl rfl 0 (by decide) (hts _ (List.mem_of_getElem? (i := 1) rfl)) (fun _ h9 => h9) rfl dX7_add_17 ?_
    refine lv_iload_n hx hb dX7_add_20 rfl (lv_at hl 1 rfl) ?_
    refine iv_iast hx hb hG hP hD hS 1 rfl M (by omega) (by omega) (by decide) dX7_add_21 (fun H locs hP hD hS => ?_)
    have hP : va_P g.1 vwCl [(ht, .inr (7, [.int (iI tm), .ref tw, .ref to_])), (tw, aI (g.2.1 0) 12 (va_up fw M way)), (to_, aI (g.2.1 0) 12 fo)] H := hP
    have hD : va_D A [(ht, .inr (7, [.int (iI tm), .ref tw, .ref to_])), (tw, aI (g.2.1 0) 12 (va_up fw M way)), (to_, aI (g.2.1 0) 12 fo)] := hD
    refine lv_aload_n hx hb dX7_add_22 rfl (lv_at hl 0 rfl) ?_
    refine va_get (D := g.1) (ci := 7) (v := .ref to_) hx hb hts kX7_add_7 hown hG.1 hP 0 rfl rfl 2 (by decide) (hts _ (List.mem_of_getElem? (i := 3) rfl)) (fun _ h9 => h9) rfl dX7_add_23 ?_
    refine lv_aload_n hx hb dX7_add_26 rfl (lv_at hl 0 rfl) ?_
    refine va_get (D := g.1) (ci := 7) (v := .int (iI tm)) hx hb hts kX7_add_7 hown hG.1 hP 0 rfl rfl 0 (by decide) (hts _ (List.mem_of_getElem? (i := 1) rfl)) (fun _ h9 => h9) rfl dX7_add_27 ?_
    refine lv_iload_n hx hb dX7_add_30 rfl (lv_at hl 2 rfl) ?_
    refine iv_iast hx hb hG hP hD hS 2 rfl M (by omega) (by omega) (by decide) dX7_add_31 (fun H locs hP hD hS => ?_)
    have hP : va_P g.1 vwCl [(ht, .inr (7, [.int (iI tm), .ref tw, .ref to_])), (tw, aI (g.2.1 0) 12 (va_up fw M way)), (to_, aI (g.2.1 0) 12 (va_up fo M ou))] H := hP
    have hD : va_D A [(ht, .inr (7, [.int (iI tm), .ref tw, .ref to_])), (tw, aI (g.2.1 0) 12 (va_up fw M way)), (to_, aI (g.2.1 0) 12 (va_up fo M ou))] := hD
    refine lv_aload_n hx hb dX7_add_32 rfl (lv_at hl 0 rfl) ?_
    refine lv_dup hx hb dX7_add_33 rfl ?_
    refine va_get (D := g.1) (ci := 7) (v := .int (iI tm)) hx hb hts kX7_add_7 hown hG.1 hP 0 rfl rfl 0 (by decide) (hts _ (List.mem_of_getElem? (i := 1) rfl)) (fun _ h9 => h9) rfl dX7_add_34 ?_
    refine lv_iconst (v := iI (1)) hx hb dX7_add_37 rfl ?_
    refine iv_iadd hx hb dX7_add_38 ?_
    refine va_put (D := g.1) (ci := 7) (v := .int (iI (tm + 1))) hx hb hts kX7_add_7 tyX7 tyX7_ok nmX7 hown hG.1 hP hD hS 0 rfl rfl 0 (by decide) (hts _ (List.mem_of_getElem? (i := 1) rfl)) (fun _ h9 => h9) rfl (tyX7_ok 0 (by decide)) rfl rfl (Nat.le_of_ble_eq_true rfl) dX7_add_39 (fun H locs hP hD hS => ?_)
    have hP : va_P g.1 vwCl [(ht, .inr (7, [.int (iI (tm + 1)), .ref tw, .ref to_])), (tw, aI (g.2.1 0) 12 (va_up fw M way)), (to_, aI (g.2.1 0) 12 (va_up fo M ou))] H := hP
    have hD : va_D A [(ht, .inr (7, [.int (iI (tm + 1)), .ref tw, .ref to_])), (tw, aI (g.2.1 0) 12 (va_up fw M way)), (to_, aI (g.2.1 0) 12 (va_up fo M ou))] := hD
    refine lv_aload_n hx hb dX7_add_42 rfl (lv_at hl 0 rfl) ?_
    refine va_get (D := g.1) (ci := 7) (v := .int (iI (tm + 1))) hx hb hts kX7_add_7 hown hG.1 hP 0 rfl rfl 0 (by decide) (hts _ (List.mem_of_getElem? (i := 1) rfl)) (fun _ h9 => h9) rfl dX7_add_43 ?_
    exact Ct.iret hx hb hr hlocks (hP.sub [0, 1, 2] rfl) (hD.sub [0, 1, 2] (by decide) rfl) hS ⟨by decide, by decide⟩ dX7_add_46 ⟨(tm + 1), (tm + 1), (va_up fw M way), (va_up fo M ou), rfl, rfl, (Or.inr ⟨rfl, by omega, rfl, rfl, rfl⟩)⟩
  · refine lv_bipush (v := iI (-3)) hx hb dX7_add_9 (by decide) ?_
    exact Ct.iret hx hb hr hlocks (hP.sub [0, 1, 2] rfl) (hD.sub [0, 1, 2] (by decide) rfl) hS ⟨by decide, by decide⟩ dX7_add_11 ⟨(-3), tm, fw, fo, rfl, rfl, (Or.inl ⟨rfl, by omega, rfl, rfl, rfl⟩)⟩
theorem kX7_manyOf_7 : ∀ w ∈ u_ws RX7 TX7 3, w ∈ wsX7_manyOf := fun _ h => List.mem_cons_of_mem _ (List.mem_append_right _ h)
abbrev q_X7_manyOf (g : GT) (ht : Nat) (tw : Nat) (to_ : Nat) (tm : Int) (fw : Nat → Int) (fo : Nat → Int) (M : Nat) (way : Int) : Option Value → va_W → Prop := fun v w => ∃ (r : Int), v = some (.int (iI r)) ∧ w = [(ht, .inr (7, [.int (iI tm), .ref tw, .ref to_])), (tw, aI (g.2.1 0) 12 fw), (to_, aI (g.2.1 0) 12 fo)] ∧ (r = mW fw way M)
set_option maxHeartbeats 4000000 in
set_option maxRecDepth 100000 in
theorem c_X7_manyOf (l : Launch) (g : GT) (ht : Nat) (tw : Nat) (to_ : Nat) (tm : Int) (fw : Nat → Int) (fo : Nat → Int) (M : Nat) (way : Int) (h1 : tm = (M : Int) ∧ M ≤ 12 ∧ 0 ≤ way ∧ way ≤ 1) (h2 : ∀ j, j < M → (fw j = 0 ∨ fw j = 1) ∧ -999 ≤ fo j ∧ fo j ≤ 999) : Ct l g yX7_manyOf wsX7_manyOf ({ frames := 0, cells := 0, slots := 0, locals := 0 } : Room) [.ref ht, .int (iI way)] [(ht, .inr (7, [.int (iI tm), .ref tw, .ref to_])), (tw, aI (g.2.1 0) 12 fw), (to_, aI (g.2.1 0) 12 fo)] (q_X7_manyOf g ht tw to_ tm fw fo M way) := by
  refine Ct.intro (maxL := 4) (ret := (some .int)) (by decide) rfl (Nat.le_of_ble_eq_true rfl) ?_
  intro p e s m below meth c A ls hx hb hr hml hown hts hlocks hnm hA hG hP hD hS hl
  have hown : s.vm.findClass RX7 = some m.cls := hown
  have hl : lv_has ls 4 [(0, .ref ht), (1, .int (iI way))] := hl
  have hP : va_P g.1 vwCl [(ht, .inr (7, [.int (iI tm), .ref tw, .ref to_])), (tw, aI (g.2.1 0) 12 fw), (to_, aI (g.2.1 0) 12 fo)] s.heap := hP
  have hS : va_S A s.heap s.heap [] := hS
  obtain ⟨H, hHe⟩ : ∃ H : Heap, H = s.heap := ⟨_, rfl⟩
  obtain ⟨locs, hLe⟩ : ∃ L : List Loc, L = [] := ⟨_, rfl⟩
  have hP : va_P g.1 vwCl [(ht, .inr (7, [.int (iI tm), .ref tw, .ref to_])), (tw, aI (g.2.1 0) 12 fw), (to_, aI (g.2.1 0) 12 fo)] H := by rw [hHe]; exact hP
  have hS : va_S A s.heap H locs := by rw [hHe, hLe]; exact hS
  suffices hgo : W p l e ({ frames := 0, cells := 0, slots := 0, locals := 0 } : Room) s m [.ref ht, .int (iI way)].toArray below meth c H locs 0 0 (MQ below (CQ g (q_X7_manyOf g ht tw to_ tm fw fo M way) A) [.ref ht, .int (iI way)].toArray s ({ frames := 0, cells := 0, slots := 0, locals := 0 } : Room).cells ({ frames := 0, cells := 0, slots := 0, locals := 0 } : Room).slots A) (F0 m 0 ls []) by rw [hHe, hLe] at hgo; exact hgo
  clear hHe hLe
  refine lv_iconst (v := iI (0)) hx hb dX7_manyOf_0 rfl ?_
  refine lv_istore_n (lv' := [(2, .int (iI 0)), (0, .ref ht), (1, .int (iI way))]) hx hb dX7_manyOf_1 rfl hl (by decide) rfl (fun ls hl => ?_)
  refine lv_iconst (v := iI (0)) hx hb dX7_manyOf_2 rfl ?_
  refine lv_istore_n (lv' := [(3, .int (iI 0)), (2, .int (iI 0)), (0, .ref ht), (1, .int (iI way))]) hx hb dX7_manyOf_3 rfl hl (by decide) rfl (fun ls hl => ?_)
  have hloop4 : ∀ (fuel : Nat) (sm : Int) (zj : Int) (j : Nat) (hc : zj = (j : Int) ∧ j ≤ M) (he : sm = mW fw way j) (hmeas : M - j < fuel), ∀ (H : Heap) (locs : List Loc) (ls : Array Slot), va_P g.1 vwCl [(ht, .inr (7, [.int (iI tm), .ref tw, .ref to_])), (tw, aI (g.2.1 0) 12 fw), (to_, aI (g.2.1 0) 12 fo)] H → va_D A [(ht, .inr (7, [.int (iI tm), .ref tw, .ref to_])), (tw, aI (g.2.1 0) 12 fw), (to_, aI (g.2.1 0) 12 fo)] → va_S A s.heap H locs → lv_has ls 4 [(3, .int (iI zj)), (2, .int (iI sm)), (0, .ref ht), (1, .int (iI way))] → W p l e ({ frames := 0, cells := 0, slots := 0, locals := 0 } : Room) s m [.ref ht, .int (iI way)].toArray below meth c H locs 0 0 (MQ below (CQ g (q_X7_manyOf g ht tw to_ tm fw fo M way) A) [.ref ht, .int (iI way)].toArray s ({ frames := 0, cells := 0, slots := 0, locals := 0 } : Room).cells ({ frames := 0, cells := 0, slots := 0, locals := 0 } : Room).slots A) (F0 m 4 ls []) := by
    intro fuel
    induction fuel with
    | zero => intro sm zj j hc he hmeas; exact absurd hmeas (Nat.not_lt_zero _)
    | succ fuel ih4 =>
      intro sm zj j hc he hmeas H locs ls hP hD hS hl
      refine lv_iload_n hx hb dX7_manyOf_4 rfl (lv_at hl 0 rfl) ?_
      refine lv_aload_n hx hb dX7_manyOf_5 rfl (lv_at hl 2 rfl) ?_
      refine va_get (D := g.1) (ci := 7) (v := .int (iI tm)) hx hb hts kX7_manyOf_7 hown hG.1 hP 0 rfl rfl 0 (by decide) (hts _ (List.mem_of_getElem? (i := 1) rfl)) (fun _ h9 => h9) rfl dX7_manyOf_6 ?_
      refine iv_icmp_ge (tgt := 31) hx hb dX7_manyOf_9 (by decide) (by omega) (fun hc1 => ?_) (fun hc1 => ?_)
      · refine lv_iload_n hx hb dX7_manyOf_31 rfl (lv_at hl 1 rfl) ?_
        exact Ct.iret hx hb hr hlocks (hP.sub [0, 1, 2] rfl) (hD.sub [0, 1, 2] (by decide) rfl) hS ⟨by decide, by decide⟩ dX7_manyOf_32 ⟨sm, rfl, rfl, (by rw [he, show j = M from by omega])⟩
      · have hq := h2 j (by omega)
        refine lv_aload_n hx hb dX7_manyOf_12 rfl (lv_at hl 2 rfl) ?_
        refine va_get (D := g.1) (ci := 7) (v := .ref tw) hx hb hts kX7_manyOf_7 hown hG.1 hP 0 rfl rfl 1 (by decide) (hts _ (List.mem_of_getElem? (i := 2) rfl)) (fun _ h9 => h9) rfl dX7_manyOf_13 ?_
        refine lv_iload_n hx hb dX7_manyOf_16 rfl (lv_at hl 0 rfl) ?_
        refine iv_iald hx hb hG hP 1 rfl j (by omega) (by omega) (by decide) dX7_manyOf_17 ?_
        refine lv_iload_n hx hb dX7_manyOf_18 rfl (lv_at hl 3 rfl) ?_
        refine iv_icmp_ne (tgt := 25) hx hb dX7_manyOf_19 (by decide) (by omega) (fun hc2 => ?_) (fun hc2 => ?_)
        · refine iv_iinc (k := 0) (x := zj) (lv' := [(3, .int (iI (zj + 1))), (2, .int (iI sm)), (0, .ref ht), (1, .int (iI way))]) hx hb dX7_manyOf_25 hl rfl (by decide) rfl (fun ls hl => ?_)
          refine lv_goto (tgt := 4) hx hb dX7_manyOf_28 (by decide) ?_
          exact ih4 sm (zj + 1) (j + 1) (by omega) (by simp only [mW]; split <;> omega) (by omega) H locs ls (hP.sub [0, 1, 2] rfl) (hD.sub [0, 1, 2] (by decide) rfl) hS (lv_sub hl [0, 1, 2, 3] rfl)
        · refine iv_iinc (k := 1) (x := sm) (lv' := [(2, .int (iI (sm + 1))), (3, .int (iI zj)), (0, .ref ht), (1, .int (iI way))]) hx hb dX7_manyOf_22 hl rfl (by decide) rfl (fun ls hl => ?_)
          refine iv_iinc (k := 1) (x := zj) (lv' := [(3, .int (iI (zj + 1))), (2, .int (iI (sm + 1))), (0, .ref ht), (1, .int (iI way))]) hx hb dX7_manyOf_25 hl rfl (by decide) rfl (fun ls hl => ?_)
          refine lv_goto (tgt := 4) hx hb dX7_manyOf_28 (by decide) ?_
          exact ih4 (sm + 1) (zj + 1) (j + 1) (by omega) (by simp only [mW]; split <;> omega) (by omega) H locs ls (hP.sub [0, 1, 2] rfl) (hD.sub [0, 1, 2] (by decide) rfl) hS (lv_sub hl [0, 1, 2, 3] rfl)
  exact hloop4 _ 0 0 0 (by omega) (rfl) (Nat.lt_succ_self _) H locs ls (hP.sub [0, 1, 2] rfl) (hD.sub [0, 1, 2] (by decide) rfl) hS (lv_sub hl [0, 1, 2, 3] rfl)
theorem kX7_sumOf_7 : ∀ w ∈ u_ws RX7 TX7 3, w ∈ wsX7_sumOf := fun _ h => List.mem_cons_of_mem _ (List.mem_append_right _ h)
abbrev q_X7_sumOf (g : GT) (ht : Nat) (tw : Nat) (to_ : Nat) (tm : Int) (fw : Nat → Int) (fo : Nat → Int) (M : Nat) (way : Int) : Option Value → va_W → Prop := fun v w => ∃ (r : Int), v = some (.int (iI r)) ∧ w = [(ht, .inr (7, [.int (iI tm), .ref tw, .ref to_])), (tw, aI (g.2.1 0) 12 fw), (to_, aI (g.2.1 0) 12 fo)] ∧ (r = sW fw fo way M)
set_option maxHeartbeats 4000000 in
set_option maxRecDepth 100000 in
theorem c_X7_sumOf (l : Launch) (g : GT) (ht : Nat) (tw : Nat) (to_ : Nat) (tm : Int) (fw : Nat → Int) (fo : Nat → Int) (M : Nat) (way : Int) (h1 : tm = (M : Int) ∧ M ≤ 12 ∧ 0 ≤ way ∧ way ≤ 1) (h2 : ∀ j, j < M → (fw j = 0 ∨ fw j = 1) ∧ -999 ≤ fo j ∧ fo j ≤ 999) : Ct l g yX7_sumOf wsX7_sumOf ({ frames := 0, cells := 0, slots := 0, locals := 0 } : Room) [.ref ht, .int (iI way)] [(ht, .inr (7, [.int (iI tm), .ref tw, .ref to_])), (tw, aI (g.2.1 0) 12 fw), (to_, aI (g.2.1 0) 12 fo)] (q_X7_sumOf g ht tw to_ tm fw fo M way) := by
  refine Ct.intro (maxL := 4) (ret := (some .int)) (by decide) rfl (Nat.le_of_ble_eq_true rfl) ?_
  intro p e s m below meth c A ls hx hb hr hml hown hts hlocks hnm hA hG hP hD hS hl
  have hown : s.vm.findClass RX7 = some m.cls := hown
  have hl : lv_has ls 4 [(0, .ref ht), (1, .int (iI way))] := hl
  have hP : va_P g.1 vwCl [(ht, .inr (7, [.int (iI tm), .ref tw, .ref to_])), (tw, aI (g.2.1 0) 12 fw), (to_, aI (g.2.1 0) 12 fo)] s.heap := hP
  have hS : va_S A s.heap s.heap [] := hS
  obtain ⟨H, hHe⟩ : ∃ H : Heap, H = s.heap := ⟨_, rfl⟩
  obtain ⟨locs, hLe⟩ : ∃ L : List Loc, L = [] := ⟨_, rfl⟩
  have hP : va_P g.1 vwCl [(ht, .inr (7, [.int (iI tm), .ref tw, .ref to_])), (tw, aI (g.2.1 0) 12 fw), (to_, aI (g.2.1 0) 12 fo)] H := by rw [hHe]; exact hP
  have hS : va_S A s.heap H locs := by rw [hHe, hLe]; exact hS
  suffices hgo : W p l e ({ frames := 0, cells := 0, slots := 0, locals := 0 } : Room) s m [.ref ht, .int (iI way)].toArray below meth c H locs 0 0 (MQ below (CQ g (q_X7_sumOf g ht tw to_ tm fw fo M way) A) [.ref ht, .int (iI way)].toArray s ({ frames := 0, cells := 0, slots := 0, locals := 0 } : Room).cells ({ frames := 0, cells := 0, slots := 0, locals := 0 } : Room).slots A) (F0 m 0 ls []) by rw [hHe, hLe] at hgo; exact hgo
  clear hHe hLe
  refine lv_iconst (v := iI (0)) hx hb dX7_sumOf_0 rfl ?_
  refine lv_istore_n (lv' := [(2, .int (iI 0)), (0, .ref ht), (1, .int (iI way))]) hx hb dX7_sumOf_1 rfl hl (by decide) rfl (fun ls hl => ?_)
  refine lv_iconst (v := iI (0)) hx hb dX7_sumOf_2 rfl ?_
  refine lv_istore_n (lv' := [(3, .int (iI 0)), (2, .int (iI 0)), (0, .ref ht), (1, .int (iI way))]) hx hb dX7_sumOf_3 rfl hl (by decide) rfl (fun ls hl => ?_)
  have hloop4 : ∀ (fuel : Nat) (sm : Int) (zj : Int) (j : Nat) (hc : zj = (j : Int) ∧ j ≤ M) (he : sm = sW fw fo way j) (hmeas : M - j < fuel), ∀ (H : Heap) (locs : List Loc) (ls : Array Slot), va_P g.1 vwCl [(ht, .inr (7, [.int (iI tm), .ref tw, .ref to_])), (tw, aI (g.2.1 0) 12 fw), (to_, aI (g.2.1 0) 12 fo)] H → va_D A [(ht, .inr (7, [.int (iI tm), .ref tw, .ref to_])), (tw, aI (g.2.1 0) 12 fw), (to_, aI (g.2.1 0) 12 fo)] → va_S A s.heap H locs → lv_has ls 4 [(3, .int (iI zj)), (2, .int (iI sm)), (0, .ref ht), (1, .int (iI way))] → W p l e ({ frames := 0, cells := 0, slots := 0, locals := 0 } : Room) s m [.ref ht, .int (iI way)].toArray below meth c H locs 0 0 (MQ below (CQ g (q_X7_sumOf g ht tw to_ tm fw fo M way) A) [.ref ht, .int (iI way)].toArray s ({ frames := 0, cells := 0, slots := 0, locals := 0 } : Room).cells ({ frames := 0, cells := 0, slots := 0, locals := 0 } : Room).slots A) (F0 m 4 ls []) := by
    intro fuel
    induction fuel with
    | zero => intro sm zj j hc he hmeas; exact absurd hmeas (Nat.not_lt_zero _)
    | succ fuel ih4 =>
      intro sm zj j hc he hmeas H locs ls hP hD hS hl
      refine lv_iload_n hx hb dX7_sumOf_4 rfl (lv_at hl 0 rfl) ?_
      refine lv_aload_n hx hb dX7_sumOf_5 rfl (lv_at hl 2 rfl) ?_
      refine va_get (D := g.1) (ci := 7) (v := .int (iI tm)) hx hb hts kX7_sumOf_7 hown hG.1 hP 0 rfl rfl 0 (by decide) (hts _ (List.mem_of_getElem? (i := 1) rfl)) (fun _ h9 => h9) rfl dX7_sumOf_6 ?_
      refine iv_icmp_ge (tgt := 37) hx hb dX7_sumOf_9 (by decide) (by omega) (fun hc1 => ?_) (fun hc1 => ?_)
      · refine lv_iload_n hx hb dX7_sumOf_37 rfl (lv_at hl 1 rfl) ?_
        exact Ct.iret hx hb hr hlocks (hP.sub [0, 1, 2] rfl) (hD.sub [0, 1, 2] (by decide) rfl) hS ⟨by decide, by decide⟩ dX7_sumOf_38 ⟨sm, rfl, rfl, (by rw [he, show j = M from by omega])⟩
      · have hq := h2 j (by omega)
        refine lv_aload_n hx hb dX7_sumOf_12 rfl (lv_at hl 2 rfl) ?_
        refine va_get (D := g.1) (ci := 7) (v := .ref tw) hx hb hts kX7_sumOf_7 hown hG.1 hP 0 rfl rfl 1 (by decide) (hts _ (List.mem_of_getElem? (i := 2) rfl)) (fun _ h9 => h9) rfl dX7_sumOf_13 ?_
        refine lv_iload_n hx hb dX7_sumOf_16 rfl (lv_at hl 0 rfl) ?_
        refine iv_iald hx hb hG hP 1 rfl j (by omega) (by omega) (by decide) dX7_sumOf_17 ?_
        refine lv_iload_n hx hb dX7_sumOf_18 rfl (lv_at hl 3 rfl) ?_
        refine iv_icmp_ne (tgt := 31) hx hb dX7_sumOf_19 (by decide) (by omega) (fun hc2 => ?_) (fun hc2 => ?_)
        · refine iv_iinc (k := 0) (x := zj) (lv' := [(3, .int (iI (zj + 1))), (2, .int (iI sm)), (0, .ref ht), (1, .int (iI way))]) hx hb dX7_sumOf_31 hl rfl (by decide) rfl (fun ls hl => ?_)
          refine lv_goto (tgt := 4) hx hb dX7_sumOf_34 (by decide) ?_
          exact ih4 sm (zj + 1) (j + 1) (by omega) (by simp only [sW]; split <;> omega) (by omega) H locs ls (hP.sub [0, 1, 2] rfl) (hD.sub [0, 1, 2] (by decide) rfl) hS (lv_sub hl [0, 1, 2, 3] rfl)
        · refine lv_iload_n hx hb dX7_sumOf_22 rfl (lv_at hl 1 rfl) ?_
          refine lv_aload_n hx hb dX7_sumOf_23 rfl (lv_at hl 2 rfl) ?_
          refine va_get (D := g.1) (ci := 7) (v := .ref to_) hx hb hts kX7_sumOf_7 hown hG.1 hP 0 rfl rfl 2 (by decide) (hts _ (List.mem_of_getElem? (i := 3) rfl)) (fun _ h9 => h9) rfl dX7_sumOf_24 ?_
          refine lv_iload_n hx hb dX7_sumOf_27 rfl (lv_at hl 0 rfl) ?_
          refine iv_iald hx hb hG hP 2 rfl j (by omega) (by omega) (by decide) dX7_sumOf_28 ?_
          refine iv_iadd hx hb dX7_sumOf_29 ?_
          refine lv_istore_n (lv' := [(2, .int (iI (sm + (fo j)))), (3, .int (iI zj)), (0, .ref ht), (1, .int (iI way))]) hx hb dX7_sumOf_30 rfl hl (by decide) rfl (fun ls hl => ?_)
          refine iv_iinc (k := 1) (x := zj) (lv' := [(3, .int (iI (zj + 1))), (2, .int (iI (sm + (fo j)))), (0, .ref ht), (1, .int (iI way))]) hx hb dX7_sumOf_31 hl rfl (by decide) rfl (fun ls hl => ?_)
          refine lv_goto (tgt := 4) hx hb dX7_sumOf_34 (by decide) ?_
          exact ih4 (sm + (fo j)) (zj + 1) (j + 1) (by omega) (by simp only [sW]; split <;> omega) (by omega) H locs ls (hP.sub [0, 1, 2] rfl) (hD.sub [0, 1, 2] (by decide) rfl) hS (lv_sub hl [0, 1, 2, 3] rfl)
  exact hloop4 _ 0 0 0 (by omega) (rfl) (Nat.lt_succ_self _) H locs ls (hP.sub [0, 1, 2] rfl) (hD.sub [0, 1, 2] (by decide) rfl) hS (lv_sub hl [0, 1, 2, 3] rfl)
abbrev q_X7_lacksWay (g : GT) (ht : Nat) (tw : Nat) (to_ : Nat) (tm : Int) (fw : Nat → Int) (fo : Nat → Int) (M : Nat) : Option Value → va_W → Prop := fun v w => (v = some (.int (iI 1)) ∧ (mW fw 0 M = 0 ∨ mW fw 1 M = 0) ∨ v = some (.int (iI 0)) ∧ ¬ (mW fw 0 M = 0 ∨ mW fw 1 M = 0)) ∧ w = [(ht, .inr (7, [.int (iI tm), .ref tw, .ref to_])), (tw, aI (g.2.1 0) 12 fw), (to_, aI (g.2.1 0) 12 fo)]
set_option maxHeartbeats 4000000 in
set_option maxRecDepth 100000 in
theorem c_X7_lacksWay (l : Launch) (g : GT) (ht : Nat) (tw : Nat) (to_ : Nat) (tm : Int) (fw : Nat → Int) (fo : Nat → Int) (M : Nat) (h1 : tm = (M : Int) ∧ M ≤ 12) (h2 : ∀ j, j < M → (fw j = 0 ∨ fw j = 1) ∧ -999 ≤ fo j ∧ fo j ≤ 999) : Ct l g yX7_lacksWay wsX7_lacksWay ({ frames := 1, cells := 0, slots := 0, locals := 23 } : Room) [.ref ht] [(ht, .inr (7, [.int (iI tm), .ref tw, .ref to_])), (tw, aI (g.2.1 0) 12 fw), (to_, aI (g.2.1 0) 12 fo)] (q_X7_lacksWay g ht tw to_ tm fw fo M) := by
  refine Ct.intro (maxL := 1) (ret := (some .boolean)) (by decide) rfl (Nat.le_of_ble_eq_true rfl) ?_
  intro p e s m below meth c A ls hx hb hr hml hown hts hlocks hnm hA hG hP hD hS hl
  have hown : s.vm.findClass RX7 = some m.cls := hown
  have hl : lv_has ls 1 [(0, .ref ht)] := hl
  have hP : va_P g.1 vwCl [(ht, .inr (7, [.int (iI tm), .ref tw, .ref to_])), (tw, aI (g.2.1 0) 12 fw), (to_, aI (g.2.1 0) 12 fo)] s.heap := hP
  have hS : va_S A s.heap s.heap [] := hS
  obtain ⟨H, hHe⟩ : ∃ H : Heap, H = s.heap := ⟨_, rfl⟩
  obtain ⟨locs, hLe⟩ : ∃ L : List Loc, L = [] := ⟨_, rfl⟩
  have hP : va_P g.1 vwCl [(ht, .inr (7, [.int (iI tm), .ref tw, .ref to_])), (tw, aI (g.2.1 0) 12 fw), (to_, aI (g.2.1 0) 12 fo)] H := by rw [hHe]; exact hP
  have hS : va_S A s.heap H locs := by rw [hHe, hLe]; exact hS
  suffices hgo : W p l e ({ frames := 1, cells := 0, slots := 0, locals := 23 } : Room) s m [.ref ht].toArray below meth c H locs 0 0 (MQ below (CQ g (q_X7_lacksWay g ht tw to_ tm fw fo M) A) [.ref ht].toArray s ({ frames := 1, cells := 0, slots := 0, locals := 23 } : Room).cells ({ frames := 1, cells := 0, slots := 0, locals := 23 } : Room).slots A) (F0 m 0 ls []) by rw [hHe, hLe] at hgo; exact hgo
  clear hHe hLe
  refine lv_aload_n hx hb dX7_lacksWay_0 rfl (lv_at hl 0 rfl) ?_
  refine lv_iconst (v := iI (0)) hx hb dX7_lacksWay_1 rfl ?_
  refine Ct.callV (ci := 7) (q0 := 0) (qc := (RX7, TX7, 3)) (As := [.int (iI 0)]) (rest := []) (wr := []) (c1 := 0) (s1 := 0) ⟨hx, hb, hml, hown, hts⟩ (c_X7_manyOf l g ht tw to_ tm fw fo M 0 (by omega) (h2)) rfl rfl (cwV 1 hts gX7_lacksWay_X7_manyOf rfl rfl rfl (by decide +kernel) ⟨Nat.le_of_ble_eq_true rfl, Nat.le_of_ble_eq_true rfl⟩) hG hP hD hS hA [0, 1, 2] [] rfl rfl (by decide) (by decide) (by decide) rfl hl.1 rfl (Nat.le_of_ble_eq_true rfl) dX7_lacksWay_2 ⟨Nat.le_of_ble_eq_true rfl, Nat.le_of_ble_eq_true rfl⟩ rfl rfl (fun v w H locs hv hP hD hS => ?_)
  obtain ⟨r1, rfl, rfl, hf2⟩ := hv
  show W p l e _ s m _ below meth c H locs 0 0 _ (F0 m 5 ls (.int (iI r1) :: []))
  have hP : va_P g.1 vwCl [(ht, .inr (7, [.int (iI tm), .ref tw, .ref to_])), (tw, aI (g.2.1 0) 12 fw), (to_, aI (g.2.1 0) 12 fo)] H := hP
  have hD : va_D A [(ht, .inr (7, [.int (iI tm), .ref tw, .ref to_])), (tw, aI (g.2.1 0) 12 fw), (to_, aI (g.2.1 0) 12 fo)] := hD
  have hf2 : r1 = mW fw 0 M := hf2
  have hm0 := mW_rng fw 0 M
  refine iv_if_eq (tgt := 16) hx hb dX7_lacksWay_5 (by decide) (by omega) (fun hc3 => ?_) (fun hc3 => ?_)
  · refine lv_iconst (v := iI (1)) hx hb dX7_lacksWay_16 rfl ?_
    refine lv_goto (tgt := 21) hx hb dX7_lacksWay_17 (by decide) ?_
    exact Ct.zret hx hb hr hlocks (hP.sub [0, 1, 2] rfl) (hD.sub [0, 1, 2] (by decide) rfl) hS ⟨by decide, by decide⟩ dX7_lacksWay_21 (by decide) ⟨Or.inl ⟨rfl, by omega⟩, rfl⟩
  · refine lv_aload_n hx hb dX7_lacksWay_8 rfl (lv_at hl 0 rfl) ?_
    refine lv_iconst (v := iI (1)) hx hb dX7_lacksWay_9 rfl ?_
    refine Ct.callV (ci := 7) (q0 := 0) (qc := (RX7, TX7, 3)) (As := [.int (iI 1)]) (rest := []) (wr := []) (c1 := 0) (s1 := 0) ⟨hx, hb, hml, hown, hts⟩ (c_X7_manyOf l g ht tw to_ tm fw fo M 1 (by omega) (h2)) rfl rfl (cwV 1 hts gX7_lacksWay_X7_manyOf rfl rfl rfl (by decide +kernel) ⟨Nat.le_of_ble_eq_true rfl, Nat.le_of_ble_eq_true rfl⟩) hG hP hD hS hA [0, 1, 2] [] rfl rfl (by decide) (by decide) (by decide) rfl hl.1 rfl (Nat.le_of_ble_eq_true rfl) dX7_lacksWay_10 ⟨Nat.le_of_ble_eq_true rfl, Nat.le_of_ble_eq_true rfl⟩ rfl rfl (fun v w H locs hv hP hD hS => ?_)
    obtain ⟨r4, rfl, rfl, hf5⟩ := hv
    show W p l e _ s m _ below meth c H locs 0 0 _ (F0 m 13 ls (.int (iI r4) :: []))
    have hP : va_P g.1 vwCl [(ht, .inr (7, [.int (iI tm), .ref tw, .ref to_])), (tw, aI (g.2.1 0) 12 fw), (to_, aI (g.2.1 0) 12 fo)] H := hP
    have hD : va_D A [(ht, .inr (7, [.int (iI tm), .ref tw, .ref to_])), (tw, aI (g.2.1 0) 12 fw), (to_, aI (g.2.1 0) 12 fo)] := hD
    have hf5 : r4 = mW fw 1 M := hf5
    have hm1 := mW_rng fw 1 M
    refine iv_if_ne (tgt := 20) hx hb dX7_lacksWay_13 (by decide) (by omega) (fun hc6 => ?_) (fun hc6 => ?_)
    · refine lv_iconst (v := iI (0)) hx hb dX7_lacksWay_20 rfl ?_
      exact Ct.zret hx hb hr hlocks (hP.sub [0, 1, 2] rfl) (hD.sub [0, 1, 2] (by decide) rfl) hS ⟨by decide, by decide⟩ dX7_lacksWay_21 (by decide) ⟨Or.inr ⟨rfl, by omega⟩, rfl⟩
    · refine lv_iconst (v := iI (1)) hx hb dX7_lacksWay_16 rfl ?_
      refine lv_goto (tgt := 21) hx hb dX7_lacksWay_17 (by decide) ?_
      exact Ct.zret hx hb hr hlocks (hP.sub [0, 1, 2] rfl) (hD.sub [0, 1, 2] (by decide) rfl) hS ⟨by decide, by decide⟩ dX7_lacksWay_21 (by decide) ⟨Or.inl ⟨rfl, by omega⟩, rfl⟩
theorem kX7_sumDealt_7 : ∀ w ∈ u_ws RX7 TX7 3, w ∈ wsX7_sumDealt := fun _ h => List.mem_cons_of_mem _ (List.mem_append_right _ h)
abbrev q_X7_sumDealt (g : GT) (ht : Nat) (tw : Nat) (to_ : Nat) (tm : Int) (fw : Nat → Int) (fo : Nat → Int) (M : Nat) (x : Int) : Option Value → va_W → Prop := fun v w => ∃ (r : Int), v = some (.int (iI r)) ∧ w = [(ht, .inr (7, [.int (iI tm), .ref tw, .ref to_])), (tw, aI (g.2.1 0) 12 fw), (to_, aI (g.2.1 0) 12 fo)] ∧ (r = sD fo x M)
set_option maxHeartbeats 4000000 in
set_option maxRecDepth 100000 in
theorem c_X7_sumDealt (l : Launch) (g : GT) (ht : Nat) (tw : Nat) (to_ : Nat) (tm : Int) (fw : Nat → Int) (fo : Nat → Int) (M : Nat) (x : Int) (h1 : tm = (M : Int) ∧ M ≤ 12 ∧ 0 ≤ x ∧ x < 4096) : Ct l g yX7_sumDealt wsX7_sumDealt ({ frames := 0, cells := 0, slots := 0, locals := 0 } : Room) [.ref ht, .int (iI x)] [(ht, .inr (7, [.int (iI tm), .ref tw, .ref to_])), (tw, aI (g.2.1 0) 12 fw), (to_, aI (g.2.1 0) 12 fo)] (q_X7_sumDealt g ht tw to_ tm fw fo M x) := by
  refine Ct.intro (maxL := 4) (ret := (some .int)) (by decide) rfl (Nat.le_of_ble_eq_true rfl) ?_
  intro p e s m below meth c A ls hx hb hr hml hown hts hlocks hnm hA hG hP hD hS hl
  have hown : s.vm.findClass RX7 = some m.cls := hown
  have hl : lv_has ls 4 [(0, .ref ht), (1, .int (iI x))] := hl
  have hP : va_P g.1 vwCl [(ht, .inr (7, [.int (iI tm), .ref tw, .ref to_])), (tw, aI (g.2.1 0) 12 fw), (to_, aI (g.2.1 0) 12 fo)] s.heap := hP
  have hS : va_S A s.heap s.heap [] := hS
  obtain ⟨H, hHe⟩ : ∃ H : Heap, H = s.heap := ⟨_, rfl⟩
  obtain ⟨locs, hLe⟩ : ∃ L : List Loc, L = [] := ⟨_, rfl⟩
  have hP : va_P g.1 vwCl [(ht, .inr (7, [.int (iI tm), .ref tw, .ref to_])), (tw, aI (g.2.1 0) 12 fw), (to_, aI (g.2.1 0) 12 fo)] H := by rw [hHe]; exact hP
  have hS : va_S A s.heap H locs := by rw [hHe, hLe]; exact hS
  suffices hgo : W p l e ({ frames := 0, cells := 0, slots := 0, locals := 0 } : Room) s m [.ref ht, .int (iI x)].toArray below meth c H locs 0 0 (MQ below (CQ g (q_X7_sumDealt g ht tw to_ tm fw fo M x) A) [.ref ht, .int (iI x)].toArray s ({ frames := 0, cells := 0, slots := 0, locals := 0 } : Room).cells ({ frames := 0, cells := 0, slots := 0, locals := 0 } : Room).slots A) (F0 m 0 ls []) by rw [hHe, hLe] at hgo; exact hgo
  clear hHe hLe
  refine lv_iconst (v := iI (0)) hx hb dX7_sumDealt_0 rfl ?_
  refine lv_istore_n (lv' := [(2, .int (iI 0)), (0, .ref ht), (1, .int (iI x))]) hx hb dX7_sumDealt_1 rfl hl (by decide) rfl (fun ls hl => ?_)
  refine lv_iconst (v := iI (0)) hx hb dX7_sumDealt_2 rfl ?_
  refine lv_istore_n (lv' := [(3, .int (iI 0)), (2, .int (iI 0)), (0, .ref ht), (1, .int (iI x))]) hx hb dX7_sumDealt_3 rfl hl (by decide) rfl (fun ls hl => ?_)
  have hloop4 : ∀ (fuel : Nat) (sm : Int) (zj : Int) (j : Nat) (hc : zj = (j : Int) ∧ j ≤ M) (he : sm = sD fo x j) (hmeas : M - j < fuel), ∀ (H : Heap) (locs : List Loc) (ls : Array Slot), va_P g.1 vwCl [(ht, .inr (7, [.int (iI tm), .ref tw, .ref to_])), (tw, aI (g.2.1 0) 12 fw), (to_, aI (g.2.1 0) 12 fo)] H → va_D A [(ht, .inr (7, [.int (iI tm), .ref tw, .ref to_])), (tw, aI (g.2.1 0) 12 fw), (to_, aI (g.2.1 0) 12 fo)] → va_S A s.heap H locs → lv_has ls 4 [(3, .int (iI zj)), (2, .int (iI sm)), (0, .ref ht), (1, .int (iI x))] → W p l e ({ frames := 0, cells := 0, slots := 0, locals := 0 } : Room) s m [.ref ht, .int (iI x)].toArray below meth c H locs 0 0 (MQ below (CQ g (q_X7_sumDealt g ht tw to_ tm fw fo M x) A) [.ref ht, .int (iI x)].toArray s ({ frames := 0, cells := 0, slots := 0, locals := 0 } : Room).cells ({ frames := 0, cells := 0, slots := 0, locals := 0 } : Room).slots A) (F0 m 4 ls []) := by
    intro fuel
    induction fuel with
    | zero => intro sm zj j hc he hmeas; exact absurd hmeas (Nat.not_lt_zero _)
    | succ fuel ih4 =>
      intro sm zj j hc he hmeas H locs ls hP hD hS hl
      refine lv_iload_n hx hb dX7_sumDealt_4 rfl (lv_at hl 0 rfl) ?_
      refine lv_aload_n hx hb dX7_sumDealt_5 rfl (lv_at hl 2 rfl) ?_
      refine va_get (D := g.1) (ci := 7) (v := .int (iI tm)) hx hb hts kX7_sumDealt_7 hown hG.1 hP 0 rfl rfl 0 (by decide) (hts _ (List.mem_of_getElem? (i := 1) rfl)) (fun _ h9 => h9) rfl dX7_sumDealt_6 ?_
      refine iv_icmp_ge (tgt := 36) hx hb dX7_sumDealt_9 (by decide) (by omega) (fun hc1 => ?_) (fun hc1 => ?_)
      · refine lv_iload_n hx hb dX7_sumDealt_36 rfl (lv_at hl 1 rfl) ?_
        exact Ct.iret hx hb hr hlocks (hP.sub [0, 1, 2] rfl) (hD.sub [0, 1, 2] (by decide) rfl) hS ⟨by decide, by decide⟩ dX7_sumDealt_37 ⟨sm, rfl, rfl, (by rw [he, show j = M from by omega])⟩
      · have hq := sh_rng j (z := x) (by omega)
        refine lv_iload_n hx hb dX7_sumDealt_12 rfl (lv_at hl 3 rfl) ?_
        refine lv_iload_n hx hb dX7_sumDealt_13 rfl (lv_at hl 0 rfl) ?_
        refine iv_ishr hx hb dX7_sumDealt_14 (by omega) ?_
        refine iv_as (x / 2 ^ j) (by rw [show zj.toNat = j from by omega]) ?_
        refine lv_iconst (v := iI (1)) hx hb dX7_sumDealt_15 rfl ?_
        refine iv_and1 hx hb dX7_sumDealt_16 (by omega) ?_
        refine lv_iconst (v := iI (1)) hx hb dX7_sumDealt_17 rfl ?_
        refine iv_icmp_ne (tgt := 30) hx hb dX7_sumDealt_18 (by decide) (by omega) (fun hc2 => ?_) (fun hc2 => ?_)
        · refine iv_iinc (k := 0) (x := zj) (lv' := [(3, .int (iI (zj + 1))), (2, .int (iI sm)), (0, .ref ht), (1, .int (iI x))]) hx hb dX7_sumDealt_30 hl rfl (by decide) rfl (fun ls hl => ?_)
          refine lv_goto (tgt := 4) hx hb dX7_sumDealt_33 (by decide) ?_
          exact ih4 sm (zj + 1) (j + 1) (by omega) (by simp only [sD]; split <;> omega) (by omega) H locs ls (hP.sub [0, 1, 2] rfl) (hD.sub [0, 1, 2] (by decide) rfl) hS (lv_sub hl [0, 1, 2, 3] rfl)
        · refine lv_iload_n hx hb dX7_sumDealt_21 rfl (lv_at hl 1 rfl) ?_
          refine lv_aload_n hx hb dX7_sumDealt_22 rfl (lv_at hl 2 rfl) ?_
          refine va_get (D := g.1) (ci := 7) (v := .ref to_) hx hb hts kX7_sumDealt_7 hown hG.1 hP 0 rfl rfl 2 (by decide) (hts _ (List.mem_of_getElem? (i := 2) rfl)) (fun _ h9 => h9) rfl dX7_sumDealt_23 ?_
          refine lv_iload_n hx hb dX7_sumDealt_26 rfl (lv_at hl 0 rfl) ?_
          refine iv_iald hx hb hG hP 2 rfl j (by omega) (by omega) (by decide) dX7_sumDealt_27 ?_
          refine iv_iadd hx hb dX7_sumDealt_28 ?_
          refine lv_istore_n (lv' := [(2, .int (iI (sm + (fo j)))), (3, .int (iI zj)), (0, .ref ht), (1, .int (iI x))]) hx hb dX7_sumDealt_29 rfl hl (by decide) rfl (fun ls hl => ?_)
          refine iv_iinc (k := 1) (x := zj) (lv' := [(3, .int (iI (zj + 1))), (2, .int (iI (sm + (fo j)))), (0, .ref ht), (1, .int (iI x))]) hx hb dX7_sumDealt_30 hl rfl (by decide) rfl (fun ls hl => ?_)
          refine lv_goto (tgt := 4) hx hb dX7_sumDealt_33 (by decide) ?_
          exact ih4 (sm + (fo j)) (zj + 1) (j + 1) (by omega) (by simp only [sD]; split <;> omega) (by omega) H locs ls (hP.sub [0, 1, 2] rfl) (hD.sub [0, 1, 2] (by decide) rfl) hS (lv_sub hl [0, 1, 2, 3] rfl)
  exact hloop4 _ 0 0 0 (by omega) (rfl) (Nat.lt_succ_self _) H locs ls (hP.sub [0, 1, 2] rfl) (hD.sub [0, 1, 2] (by decide) rfl) hS (lv_sub hl [0, 1, 2, 3] rfl)
