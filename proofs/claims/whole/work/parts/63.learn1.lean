abbrev q_X8_muchOf (g : GT) (x : Int) : Option Value → va_W → Prop := fun v w => v = some (.int (iI (x / 1000000))) ∧ w = []
set_option maxHeartbeats 4000000 in
set_option maxRecDepth 100000 in
theorem c_X8_muchOf (l : Launch) (g : GT) (x : Int) (h1 : 0 ≤ x ∧ x < 2147483648) : Ct l g yX8_muchOf wsX8_muchOf ({ frames := 0, cells := 0, slots := 0, locals := 0 } : Room) [.int (iI x)] [] (q_X8_muchOf g x) := by
  refine Ct.intro (maxL := 1) (ret := (some .int)) (by decide) rfl (Nat.le_of_ble_eq_true rfl) ?_
  intro p e s m below meth c A ls hx hb hr hml hown hts hlocks hnm hA hG hP hD hS hl
  have hown : s.vm.findClass RX8 = some m.cls := hown
  have hl : lv_has ls 1 [(0, .int (iI x))] := hl
  have hP : va_P g.1 vwCl [] s.heap := hP
  have hS : va_S A s.heap s.heap [] := hS
  obtain ⟨H, hHe⟩ : ∃ H : Heap, H = s.heap := ⟨_, rfl⟩
  obtain ⟨locs, hLe⟩ : ∃ L : List Loc, L = [] := ⟨_, rfl⟩
  have hP : va_P g.1 vwCl [] H := by rw [hHe]; exact hP
  have hS : va_S A s.heap H locs := by rw [hHe, hLe]; exact hS
  suffices hgo : W p l e ({ frames := 0, cells := 0, slots := 0, locals := 0 } : Room) s m [.int (iI x)].toArray below meth c H locs 0 0 (MQ below (CQ g (q_X8_muchOf g x) A) [.int (iI x)].toArray s ({ frames := 0, cells := 0, slots := 0, locals := 0 } : Room).cells ({ frames := 0, cells := 0, slots := 0, locals := 0 } : Room).slots A) (F0 m 0 ls []) by rw [hHe, hLe] at hgo; exact hgo
  clear hHe hLe
  refine lv_iload_n hx hb dX8_muchOf_0 rfl (lv_at hl 0 rfl) ?_
  refine iv_ldcw (v := 1000000) (z := 1000000) hx hb hown (hts _ (List.mem_of_getElem? (i := 1) rfl)) dX8_muchOf_1 (by decide) ?_
  refine iv_idiv hx hb dX8_muchOf_4 (by omega) ?_
  exact Ct.iret hx hb hr hlocks (hP.sub [] rfl) (hD.sub [] (by decide) rfl) hS ⟨by decide, by decide⟩ dX8_muchOf_5 ⟨rfl, rfl⟩
abbrev q_X8_lessOf (g : GT) (x : Int) : Option Value → va_W → Prop := fun v w => v = some (.int (iI (x / 1000 % 1000))) ∧ w = []
set_option maxHeartbeats 4000000 in
set_option maxRecDepth 100000 in
theorem c_X8_lessOf (l : Launch) (g : GT) (x : Int) (h1 : 0 ≤ x ∧ x < 2147483648) : Ct l g yX8_lessOf wsX8_lessOf ({ frames := 0, cells := 0, slots := 0, locals := 0 } : Room) [.int (iI x)] [] (q_X8_lessOf g x) := by
  refine Ct.intro (maxL := 1) (ret := (some .int)) (by decide) rfl (Nat.le_of_ble_eq_true rfl) ?_
  intro p e s m below meth c A ls hx hb hr hml hown hts hlocks hnm hA hG hP hD hS hl
  have hown : s.vm.findClass RX8 = some m.cls := hown
  have hl : lv_has ls 1 [(0, .int (iI x))] := hl
  have hP : va_P g.1 vwCl [] s.heap := hP
  have hS : va_S A s.heap s.heap [] := hS
  obtain ⟨H, hHe⟩ : ∃ H : Heap, H = s.heap := ⟨_, rfl⟩
  obtain ⟨locs, hLe⟩ : ∃ L : List Loc, L = [] := ⟨_, rfl⟩
  have hP : va_P g.1 vwCl [] H := by rw [hHe]; exact hP
  have hS : va_S A s.heap H locs := by rw [hHe, hLe]; exact hS
  suffices hgo : W p l e ({ frames := 0, cells := 0, slots := 0, locals := 0 } : Room) s m [.int (iI x)].toArray below meth c H locs 0 0 (MQ below (CQ g (q_X8_lessOf g x) A) [.int (iI x)].toArray s ({ frames := 0, cells := 0, slots := 0, locals := 0 } : Room).cells ({ frames := 0, cells := 0, slots := 0, locals := 0 } : Room).slots A) (F0 m 0 ls []) by rw [hHe, hLe] at hgo; exact hgo
  clear hHe hLe
  refine lv_iload_n hx hb dX8_lessOf_0 rfl (lv_at hl 0 rfl) ?_
  refine lv_sipush (v := iI (1000)) hx hb dX8_lessOf_1 (by decide) ?_
  refine iv_idiv hx hb dX8_lessOf_4 (by omega) ?_
  refine lv_sipush (v := iI (1000)) hx hb dX8_lessOf_5 (by decide) ?_
  refine iv_irem hx hb dX8_lessOf_8 (by omega) ?_
  exact Ct.iret hx hb hr hlocks (hP.sub [] rfl) (hD.sub [] (by decide) rfl) hS ⟨by decide, by decide⟩ dX8_lessOf_9 ⟨rfl, rfl⟩
abbrev q_X8_answerOf (g : GT) (x : Int) : Option Value → va_W → Prop := fun v w => v = some (.int (iI (x % 1000))) ∧ w = []
set_option maxHeartbeats 4000000 in
set_option maxRecDepth 100000 in
theorem c_X8_answerOf (l : Launch) (g : GT) (x : Int) (h1 : 0 ≤ x ∧ x < 2147483648) : Ct l g yX8_answerOf wsX8_answerOf ({ frames := 0, cells := 0, slots := 0, locals := 0 } : Room) [.int (iI x)] [] (q_X8_answerOf g x) := by
  refine Ct.intro (maxL := 1) (ret := (some .int)) (by decide) rfl (Nat.le_of_ble_eq_true rfl) ?_
  intro p e s m below meth c A ls hx hb hr hml hown hts hlocks hnm hA hG hP hD hS hl
  have hown : s.vm.findClass RX8 = some m.cls := hown
  have hl : lv_has ls 1 [(0, .int (iI x))] := hl
  have hP : va_P g.1 vwCl [] s.heap := hP
  have hS : va_S A s.heap s.heap [] := hS
  obtain ⟨H, hHe⟩ : ∃ H : Heap, H = s.heap := ⟨_, rfl⟩
  obtain ⟨locs, hLe⟩ : ∃ L : List Loc, L = [] := ⟨_, rfl⟩
  have hP : va_P g.1 vwCl [] H := by rw [hHe]; exact hP
  have hS : va_S A s.heap H locs := by rw [hHe, hLe]; exact hS
  suffices hgo : W p l e ({ frames := 0, cells := 0, slots := 0, locals := 0 } : Room) s m [.int (iI x)].toArray below meth c H locs 0 0 (MQ below (CQ g (q_X8_answerOf g x) A) [.int (iI x)].toArray s ({ frames := 0, cells := 0, slots := 0, locals := 0 } : Room).cells ({ frames := 0, cells := 0, slots := 0, locals := 0 } : Room).slots A) (F0 m 0 ls []) by rw [hHe, hLe] at hgo; exact hgo
  clear hHe hLe
  refine lv_iload_n hx hb dX8_answerOf_0 rfl (lv_at hl 0 rfl) ?_
  refine lv_sipush (v := iI (1000)) hx hb dX8_answerOf_1 (by decide) ?_
  refine iv_irem hx hb dX8_answerOf_4 (by omega) ?_
  exact Ct.iret hx hb hr hlocks (hP.sub [] rfl) (hD.sub [] (by decide) rfl) hS ⟨by decide, by decide⟩ dX8_answerOf_5 ⟨rfl, rfl⟩
abbrev q_X8_caseNumber (g : GT) (x : Int) (y : Int) (z : Int) : Option Value → va_W → Prop := fun v w => v = some (.int (iI (1000 * (1000 * x + y) + z))) ∧ w = []
set_option maxHeartbeats 4000000 in
set_option maxRecDepth 100000 in
theorem c_X8_caseNumber (l : Launch) (g : GT) (x : Int) (y : Int) (z : Int) : Ct l g yX8_caseNumber wsX8_caseNumber ({ frames := 1, cells := 0, slots := 0, locals := 21 } : Room) [.int (iI x), .int (iI y), .int (iI z)] [] (q_X8_caseNumber g x y z) := by
  refine Ct.intro (maxL := 3) (ret := (some .int)) (by decide) rfl (Nat.le_of_ble_eq_true rfl) ?_
  intro p e s m below meth c A ls hx hb hr hml hown hts hlocks hnm hA hG hP hD hS hl
  have hown : s.vm.findClass RX8 = some m.cls := hown
  have hl : lv_has ls 3 [(0, .int (iI x)), (1, .int (iI y)), (2, .int (iI z))] := hl
  have hP : va_P g.1 vwCl [] s.heap := hP
  have hS : va_S A s.heap s.heap [] := hS
  obtain ⟨H, hHe⟩ : ∃ H : Heap, H = s.heap := ⟨_, rfl⟩
  obtain ⟨locs, hLe⟩ : ∃ L : List Loc, L = [] := ⟨_, rfl⟩
  have hP : va_P g.1 vwCl [] H := by rw [hHe]; exact hP
  have hS : va_S A s.heap H locs := by rw [hHe, hLe]; exact hS
  suffices hgo : W p l e ({ frames := 1, cells := 0, slots := 0, locals := 21 } : Room) s m [.int (iI x), .int (iI y), .int (iI z)].toArray below meth c H locs 0 0 (MQ below (CQ g (q_X8_caseNumber g x y z) A) [.int (iI x), .int (iI y), .int (iI z)].toArray s ({ frames := 1, cells := 0, slots := 0, locals := 21 } : Room).cells ({ frames := 1, cells := 0, slots := 0, locals := 21 } : Room).slots A) (F0 m 0 ls []) by rw [hHe, hLe] at hgo; exact hgo
  clear hHe hLe
  refine lv_sipush (v := iI (1000)) hx hb dX8_caseNumber_0 (by decide) ?_
  refine lv_iload_n hx hb dX8_caseNumber_3 rfl (lv_at hl 0 rfl) ?_
  refine lv_iload_n hx hb dX8_caseNumber_4 rfl (lv_at hl 1 rfl) ?_
  refine Ct.callS (As := [.int (iI x), .int (iI y)]) (rest := [.int (iI 1000)]) (wr := []) (c1 := 0) (s1 := 0) ⟨hx, hb, hml, hown, hts⟩ (c_X8_taskNumber l g x y ) (va_cwS 2 hts gX8_caseNumber_X8_taskNumber rfl rfl rfl (by decide +kernel) ⟨Nat.le_of_ble_eq_true rfl, Nat.le_of_ble_eq_true rfl⟩) hG hP hD hS hA [] [] rfl rfl (by decide) (by decide) (by decide) rfl hl.1 rfl (Nat.le_of_ble_eq_true rfl) dX8_caseNumber_5 ⟨Nat.le_of_ble_eq_true rfl, Nat.le_of_ble_eq_true rfl⟩ rfl rfl (fun v w H locs hv hP hD hS => ?_)
  obtain ⟨rfl, rfl⟩ := hv
  show W p l e _ s m _ below meth c H locs 0 0 _ (F0 m 8 ls (.int (iI (1000 * x + y)) :: [.int (iI 1000)]))
  have hP : va_P g.1 vwCl [] H := hP
  have hD : va_D A [] := hD
  refine iv_imul hx hb dX8_caseNumber_8 ?_
  refine lv_iload_n hx hb dX8_caseNumber_9 rfl (lv_at hl 2 rfl) ?_
  refine iv_iadd hx hb dX8_caseNumber_10 ?_
  exact Ct.iret hx hb hr hlocks (hP.sub [] rfl) (hD.sub [] (by decide) rfl) hS ⟨by decide, by decide⟩ dX8_caseNumber_11 ⟨rfl, rfl⟩
theorem kX1_weigh_1 : ∀ w ∈ u_ws RX1 TX1 7, w ∈ wsX1_weigh := fun _ h => List.mem_cons_of_mem _ (List.mem_append_left _ (List.mem_append_right _ h))
abbrev q_X1_weigh (g : GT) (y : Nat) (mn : Int) (cn : Int) (me : Nat) (cs : Nat) (as_ : Nat) (sr : Nat) (hi : Nat) (fc : Nat → Int) (fhi : Nat → Int) (hp : Nat) (ad : Nat) (an : Nat) (aa : Nat) (fd : Nat → Int) (fn : Nat → Int) (fa : Nat → Int) (nz : Int) (mo : Int) (n : Nat) (C : Int) : Option Value → va_W → Prop := fun v w => ∃ (fhi' : Nat → Int), ∃ (fd' : Nat → Int), ∃ (fn' : Nat → Int), ∃ (fa' : Nat → Int), (v = some (.int (iI 1)) ∧ (anyH C 93 = 1) ∨ v = some (.int (iI 0)) ∧ ¬ (anyH C 93 = 1)) ∧ w = [(y, .inr (1, [.int (iI mn), .int (iI cn), .ref me, .ref cs, .ref as_, .ref sr, .ref hi])), (cs, aI (g.2.1 0) 40 fc), (hi, aI (g.2.1 0) 93 fhi'), (hp, .inr (4, [.ref ad, .ref an, .ref aa])), (ad, aI (g.2.1 0) 3 fd'), (an, aI (g.2.1 0) 3 fn'), (aa, aI (g.2.1 0) 3 fa')] ∧ (∀ p, p < 93 → fhi' p = fhi p + (if hitP C p then mo else 0))
set_option maxHeartbeats 4000000 in
set_option maxRecDepth 100000 in
theorem c_X1_weigh (l : Launch) (g : GT) (y : Nat) (mn : Int) (cn : Int) (me : Nat) (cs : Nat) (as_ : Nat) (sr : Nat) (hi : Nat) (fc : Nat → Int) (fhi : Nat → Int) (hp : Nat) (ad : Nat) (an : Nat) (aa : Nat) (fd : Nat → Int) (fn : Nat → Int) (fa : Nat → Int) (nz : Int) (mo : Int) (n : Nat) (C : Int) (h1 : nz = (n : Int) ∧ n < 40) (h2 : fc n = C) (h3 : caseOK C) : Ct l g yX1_weigh wsX1_weigh ({ frames := 4, cells := 0, slots := 0, locals := 95 } : Room) [.ref y, .int (iI nz), .int (iI mo), .ref hp] [(y, .inr (1, [.int (iI mn), .int (iI cn), .ref me, .ref cs, .ref as_, .ref sr, .ref hi])), (cs, aI (g.2.1 0) 40 fc), (hi, aI (g.2.1 0) 93 fhi), (hp, .inr (4, [.ref ad, .ref an, .ref aa])), (ad, aI (g.2.1 0) 3 fd), (an, aI (g.2.1 0) 3 fn), (aa, aI (g.2.1 0) 3 fa)] (q_X1_weigh g y mn cn me cs as_ sr hi fc fhi hp ad an aa fd fn fa nz mo n C) := by
  refine Ct.intro (maxL := 9) (ret := (some .boolean)) (by decide) rfl (Nat.le_of_ble_eq_true rfl) ?_
  intro p e s m below meth c A ls hx hb hr hml hown hts hlocks hnm hA hG hP hD hS hl
  have hown : s.vm.findClass RX1 = some m.cls := hown
  have hl : lv_has ls 9 [(0, .ref y), (1, .int (iI nz)), (2, .int (iI mo)), (3, .ref hp)] := hl
  have hP : va_P g.1 vwCl [(y, .inr (1, [.int (iI mn), .int (iI cn), .ref me, .ref cs, .ref as_, .ref sr, .ref hi])), (cs, aI (g.2.1 0) 40 fc), (hi, aI (g.2.1 0) 93 fhi), (hp, .inr (4, [.ref ad, .ref an, .ref aa])), (ad, aI (g.2.1 0) 3 fd), (an, aI (g.2.1 0) 3 fn), (aa, aI (g.2.1 0) 3 fa)] s.heap := hP
  have hS : va_S A s.heap s.heap [] := hS
  obtain ⟨H, hHe⟩ : ∃ H : Heap, H = s.heap := ⟨_, rfl⟩
  obtain ⟨locs, hLe⟩ : ∃ L : List Loc, L = [] := ⟨_, rfl⟩
  have hP : va_P g.1 vwCl [(y, .inr (1, [.int (iI mn), .int (iI cn), .ref me, .ref cs, .ref as_, .ref sr, .ref hi])), (cs, aI (g.2.1 0) 40 fc), (hi, aI (g.2.1 0) 93 fhi), (hp, .inr (4, [.ref ad, .ref an, .ref aa])), (ad, aI (g.2.1 0) 3 fd), (an, aI (g.2.1 0) 3 fn), (aa, aI (g.2.1 0) 3 fa)] H := by rw [hHe]; exact hP
  have hS : va_S A s.heap H locs := by rw [hHe, hLe]; exact hS
  suffices hgo : W p l e ({ frames := 4, cells := 0, slots := 0, locals := 95 } : Room) s m [.ref y, .int (iI nz), .int (iI mo), .ref hp].toArray below meth c H locs 0 0 (MQ below (CQ g (q_X1_weigh g y mn cn me cs as_ sr hi fc fhi hp ad an aa fd fn fa nz mo n C) A) [.ref y, .int (iI nz), .int (iI mo), .ref hp].toArray s ({ frames := 4, cells := 0, slots := 0, locals := 95 } : Room).cells ({ frames := 4, cells := 0, slots := 0, locals := 95 } : Room).slots A) (F0 m 0 ls []) by rw [hHe, hLe] at hgo; exact hgo
  clear hHe hLe
  refine lv_aload_n hx hb dX1_weigh_0 rfl (lv_at hl 0 rfl) ?_
  refine va_get (D := g.1) (ci := 1) (v := .ref cs) hx hb hts kX1_weigh_1 hown hG.1 hP 0 rfl rfl 3 (by decide) (hts _ (List.mem_of_getElem? (i := 1) rfl)) (fun _ h9 => h9) rfl dX1_weigh_1 ?_
  refine lv_iload_n hx hb dX1_weigh_4 rfl (lv_at hl 1 rfl) ?_
  refine iv_iald hx hb hG hP 1 rfl n (by omega) (by omega) (by decide) dX1_weigh_5 ?_
  refine iv_as (C) (h2) ?_
  refine Ct.callSN (As := [.int (iI C)]) (rest := []) (wr := [(y, .inr (1, [.int (iI mn), .int (iI cn), .ref me, .ref cs, .ref as_, .ref sr, .ref hi])), (cs, aI (g.2.1 0) 40 fc), (hi, aI (g.2.1 0) 93 fhi), (hp, .inr (4, [.ref ad, .ref an, .ref aa])), (ad, aI (g.2.1 0) 3 fd), (an, aI (g.2.1 0) 3 fn), (aa, aI (g.2.1 0) 3 fa)]) (c1 := 0) (s1 := 0) ⟨hx, hb, hml, hown, hts⟩ (c_X8_muchOf l g C (by omega)) ⟨(va_cnB 1 hts gX1_weigh_X8_muchOf_n50 rfl rfl rfl (hG.2.1.m 11 rfl) (hts _ (List.mem_of_getElem? (i := 4) rfl)) (by decide +kernel) ⟨Nat.le_of_ble_eq_true rfl, Nat.le_of_ble_eq_true rfl⟩), (hts _ (List.mem_of_getElem? (i := 3) rfl)), trivial⟩ hG hP hD hS hA [] [0, 1, 2, 3, 4, 5, 6] rfl rfl (by decide) (by decide) (by decide) rfl hl.1 rfl (Nat.le_of_ble_eq_true rfl) dX1_weigh_6 ⟨Nat.le_of_ble_eq_true rfl, Nat.le_of_ble_eq_true rfl⟩ rfl rfl (fun v w H locs hv hP hD hS => ?_)
  obtain ⟨rfl, rfl⟩ := hv
  show W p l e _ s m _ below meth c H locs 0 0 _ (F0 m 9 ls (.int (iI (C / 1000000)) :: []))
  have hP : va_P g.1 vwCl [(y, .inr (1, [.int (iI mn), .int (iI cn), .ref me, .ref cs, .ref as_, .ref sr, .ref hi])), (cs, aI (g.2.1 0) 40 fc), (hi, aI (g.2.1 0) 93 fhi), (hp, .inr (4, [.ref ad, .ref an, .ref aa])), (ad, aI (g.2.1 0) 3 fd), (an, aI (g.2.1 0) 3 fn), (aa, aI (g.2.1 0) 3 fa)] H := hP
  have hD : va_D A [(y, .inr (1, [.int (iI mn), .int (iI cn), .ref me, .ref cs, .ref as_, .ref sr, .ref hi])), (cs, aI (g.2.1 0) 40 fc), (hi, aI (g.2.1 0) 93 fhi), (hp, .inr (4, [.ref ad, .ref an, .ref aa])), (ad, aI (g.2.1 0) 3 fd), (an, aI (g.2.1 0) 3 fn), (aa, aI (g.2.1 0) 3 fa)] := hD
  refine lv_istore (lv' := [(4, .int (iI (C / 1000000))), (0, .ref y), (1, .int (iI nz)), (2, .int (iI mo)), (3, .ref hp)]) hx hb dX1_weigh_9 hl (by decide) rfl (fun ls hl => ?_)
  refine lv_aload_n hx hb dX1_weigh_11 rfl (lv_at hl 1 rfl) ?_
  refine va_get (D := g.1) (ci := 1) (v := .ref cs) hx hb hts kX1_weigh_1 hown hG.1 hP 0 rfl rfl 3 (by decide) (hts _ (List.mem_of_getElem? (i := 1) rfl)) (fun _ h9 => h9) rfl dX1_weigh_12 ?_
  refine lv_iload_n hx hb dX1_weigh_15 rfl (lv_at hl 2 rfl) ?_
  refine iv_iald hx hb hG hP 1 rfl n (by omega) (by omega) (by decide) dX1_weigh_16 ?_
  refine iv_as (C) (h2) ?_
  refine Ct.callSN (As := [.int (iI C)]) (rest := []) (wr := [(y, .inr (1, [.int (iI mn), .int (iI cn), .ref me, .ref cs, .ref as_, .ref sr, .ref hi])), (cs, aI (g.2.1 0) 40 fc), (hi, aI (g.2.1 0) 93 fhi), (hp, .inr (4, [.ref ad, .ref an, .ref aa])), (ad, aI (g.2.1 0) 3 fd), (an, aI (g.2.1 0) 3 fn), (aa, aI (g.2.1 0) 3 fa)]) (c1 := 0) (s1 := 0) ⟨hx, hb, hml, hown, hts⟩ (c_X8_lessOf l g C (by omega)) ⟨(va_cnB 1 hts gX1_weigh_X8_lessOf_n54 rfl rfl rfl (hG.2.1.m 12 rfl) (hts _ (List.mem_of_getElem? (i := 4) rfl)) (by decide +kernel) ⟨Nat.le_of_ble_eq_true rfl, Nat.le_of_ble_eq_true rfl⟩), (hts _ (List.mem_of_getElem? (i := 7) rfl)), trivial⟩ hG hP hD hS hA [] [0, 1, 2, 3, 4, 5, 6] rfl rfl (by decide) (by decide) (by decide) rfl hl.1 rfl (Nat.le_of_ble_eq_true rfl) dX1_weigh_17 ⟨Nat.le_of_ble_eq_true rfl, Nat.le_of_ble_eq_true rfl⟩ rfl rfl (fun v w H locs hv hP hD hS => ?_)
  obtain ⟨rfl, rfl⟩ := hv
  show W p l e _ s m _ below meth c H locs 0 0 _ (F0 m 20 ls (.int (iI (C / 1000 % 1000)) :: []))
  have hP : va_P g.1 vwCl [(y, .inr (1, [.int (iI mn), .int (iI cn), .ref me, .ref cs, .ref as_, .ref sr, .ref hi])), (cs, aI (g.2.1 0) 40 fc), (hi, aI (g.2.1 0) 93 fhi), (hp, .inr (4, [.ref ad, .ref an, .ref aa])), (ad, aI (g.2.1 0) 3 fd), (an, aI (g.2.1 0) 3 fn), (aa, aI (g.2.1 0) 3 fa)] H := hP
  have hD : va_D A [(y, .inr (1, [.int (iI mn), .int (iI cn), .ref me, .ref cs, .ref as_, .ref sr, .ref hi])), (cs, aI (g.2.1 0) 40 fc), (hi, aI (g.2.1 0) 93 fhi), (hp, .inr (4, [.ref ad, .ref an, .ref aa])), (ad, aI (g.2.1 0) 3 fd), (an, aI (g.2.1 0) 3 fn), (aa, aI (g.2.1 0) 3 fa)] := hD
  refine lv_istore (lv' := [(5, .int (iI (C / 1000 % 1000))), (4, .int (iI (C / 1000000))), (0, .ref y), (1, .int (iI nz)), (2, .int (iI mo)), (3, .ref hp)]) hx hb dX1_weigh_20 hl (by decide) rfl (fun ls hl => ?_)
  refine lv_aload_n hx hb dX1_weigh_22 rfl (lv_at hl 2 rfl) ?_
  refine va_get (D := g.1) (ci := 1) (v := .ref cs) hx hb hts kX1_weigh_1 hown hG.1 hP 0 rfl rfl 3 (by decide) (hts _ (List.mem_of_getElem? (i := 1) rfl)) (fun _ h9 => h9) rfl dX1_weigh_23 ?_
  refine lv_iload_n hx hb dX1_weigh_26 rfl (lv_at hl 3 rfl) ?_
  refine iv_iald hx hb hG hP 1 rfl n (by omega) (by omega) (by decide) dX1_weigh_27 ?_
  refine iv_as (C) (h2) ?_
  refine Ct.callSN (As := [.int (iI C)]) (rest := []) (wr := [(y, .inr (1, [.int (iI mn), .int (iI cn), .ref me, .ref cs, .ref as_, .ref sr, .ref hi])), (cs, aI (g.2.1 0) 40 fc), (hi, aI (g.2.1 0) 93 fhi), (hp, .inr (4, [.ref ad, .ref an, .ref aa])), (ad, aI (g.2.1 0) 3 fd), (an, aI (g.2.1 0) 3 fn), (aa, aI (g.2.1 0) 3 fa)]) (c1 := 0) (s1 := 0) ⟨hx, hb, hml, hown, hts⟩ (c_X8_answerOf l g C (by omega)) ⟨(va_cnB 1 hts gX1_weigh_X8_answerOf_n57 rfl rfl rfl (hG.2.1.m 13 rfl) (hts _ (List.mem_of_getElem? (i := 4) rfl)) (by decide +kernel) ⟨Nat.le_of_ble_eq_true rfl, Nat.le_of_ble_eq_true rfl⟩), (hts _ (List.mem_of_getElem? (i := 9) rfl)), trivial⟩ hG hP hD hS hA [] [0, 1, 2, 3, 4, 5, 6] rfl rfl (by decide) (by decide) (by decide) rfl hl.1 rfl (Nat.le_of_ble_eq_true rfl) dX1_weigh_28 ⟨Nat.le_of_ble_eq_true rfl, Nat.le_of_ble_eq_true rfl⟩ rfl rfl (fun v w H locs hv hP hD hS => ?_)
  obtain ⟨rfl, rfl⟩ := hv
  show W p l e _ s m _ below meth c H locs 0 0 _ (F0 m 31 ls (.int (iI (C % 1000)) :: []))
  have hP : va_P g.1 vwCl [(y, .inr (1, [.int (iI mn), .int (iI cn), .ref me, .ref cs, .ref as_, .ref sr, .ref hi])), (cs, aI (g.2.1 0) 40 fc), (hi, aI (g.2.1 0) 93 fhi), (hp, .inr (4, [.ref ad, .ref an, .ref aa])), (ad, aI (g.2.1 0) 3 fd), (an, aI (g.2.1 0) 3 fn), (aa, aI (g.2.1 0) 3 fa)] H := hP
  have hD : va_D A [(y, .inr (1, [.int (iI mn), .int (iI cn), .ref me, .ref cs, .ref as_, .ref sr, .ref hi])), (cs, aI (g.2.1 0) 40 fc), (hi, aI (g.2.1 0) 93 fhi), (hp, .inr (4, [.ref ad, .ref an, .ref aa])), (ad, aI (g.2.1 0) 3 fd), (an, aI (g.2.1 0) 3 fn), (aa, aI (g.2.1 0) 3 fa)] := hD
  refine lv_istore (lv' := [(6, .int (iI (C % 1000))), (5, .int (iI (C / 1000 % 1000))), (4, .int (iI (C / 1000000))), (0, .ref y), (1, .int (iI nz)), (2, .int (iI mo)), (3, .ref hp)]) hx hb dX1_weigh_31 hl (by decide) rfl (fun ls hl => ?_)
  refine lv_iconst (v := iI (0)) hx hb dX1_weigh_33 rfl ?_
  refine lv_istore (lv' := [(7, .int (iI 0)), (6, .int (iI (C % 1000))), (5, .int (iI (C / 1000 % 1000))), (4, .int (iI (C / 1000000))), (0, .ref y), (1, .int (iI nz)), (2, .int (iI mo)), (3, .ref hp)]) hx hb dX1_weigh_34 hl (by decide) rfl (fun ls hl => ?_)
  refine lv_iconst (v := iI (0)) hx hb dX1_weigh_36 rfl ?_
  refine lv_istore (lv' := [(8, .int (iI 0)), (7, .int (iI 0)), (6, .int (iI (C % 1000))), (5, .int (iI (C / 1000 % 1000))), (4, .int (iI (C / 1000000))), (0, .ref y), (1, .int (iI nz)), (2, .int (iI mo)), (3, .ref hp)]) hx hb dX1_weigh_37 hl (by decide) rfl (fun ls hl => ?_)
  have hloop39 : ∀ (fuel : Nat) (an_ : Int) (zp : Int) (fx : Nat → Int) (f1 : Nat → Int) (f2 : Nat → Int) (f3 : Nat → Int) (pp : Nat) (hc : zp = (pp : Int) ∧ pp ≤ 93) (ha : an_ = anyH C pp) (he : ∀ p, p < pp → fx p = fhi p + (if hitP C p then mo else 0)) (he2 : ∀ p, pp ≤ p → fx p = fhi p) (hmeas : 93 - pp < fuel), ∀ (H : Heap) (locs : List Loc) (ls : Array Slot), va_P g.1 vwCl [(y, .inr (1, [.int (iI mn), .int (iI cn), .ref me, .ref cs, .ref as_, .ref sr, .ref hi])), (cs, aI (g.2.1 0) 40 fc), (hi, aI (g.2.1 0) 93 fx), (hp, .inr (4, [.ref ad, .ref an, .ref aa])), (ad, aI (g.2.1 0) 3 f1), (an, aI (g.2.1 0) 3 f2), (aa, aI (g.2.1 0) 3 f3)] H → va_D A [(y, .inr (1, [.int (iI mn), .int (iI cn), .ref me, .ref cs, .ref as_, .ref sr, .ref hi])), (cs, aI (g.2.1 0) 40 fc), (hi, aI (g.2.1 0) 93 fx), (hp, .inr (4, [.ref ad, .ref an, .ref aa])), (ad, aI (g.2.1 0) 3 f1), (an, aI (g.2.1 0) 3 f2), (aa, aI (g.2.1 0) 3 f3)] → va_S A s.heap H locs → lv_has ls 9 [(8, .int (iI zp)), (7, .int (iI an_)), (6, .int (iI (C % 1000))), (5, .int (iI (C / 1000 % 1000))), (4, .int (iI (C / 1000000))), (0, .ref y), (1, .int (iI nz)), (2, .int (iI mo)), (3, .ref hp)] → W p l e ({ frames := 4, cells := 0, slots := 0, locals := 95 } : Room) s m [.ref y, .int (iI nz), .int (iI mo), .ref hp].toArray below meth c H locs 0 0 (MQ below (CQ g (q_X1_weigh g y mn cn me cs as_ sr hi fc fhi hp ad an aa fd fn fa nz mo n C) A) [.ref y, .int (iI nz), .int (iI mo), .ref hp].toArray s ({ frames := 4, cells := 0, slots := 0, locals := 95 } : Room).cells ({ frames := 4, cells := 0, slots := 0, locals := 95 } : Room).slots A) (F0 m 39 ls []) := by
    intro fuel
    induction fuel with
    | zero => intro an_ zp fx f1 f2 f3 pp hc ha he he2 hmeas; exact absurd hmeas (Nat.not_lt_zero _)
    | succ fuel ih39 =>
      intro an_ zp fx f1 f2 f3 pp hc ha he he2 hmeas H locs ls hP hD hS hl
      refine lv_iload hx hb dX1_weigh_39 (lv_at hl 0 rfl) ?_
      refine va_getsN hx hb hG.2.2.1.1 hS hown (va_Nw.use rfl hG.2.1.2.1) (fun _ h9 => h9) dX1_weigh_41 ?_
      refine iv_tlen hx hb hG.2.2.1 hS dX1_weigh_44 ?_
      refine iv_as 93 rfl ?_
      refine iv_icmp_ge (tgt := 87) hx hb dX1_weigh_45 (by decide) (by omega) (fun hc1 => ?_) (fun hc1 => ?_)
      · refine lv_iload hx hb dX1_weigh_87 (lv_at hl 1 rfl) ?_
        have h01 := anyH_01 C pp
        rw [show pp = 93 from by omega] at ha h01
        exact Ct.zret hx hb hr hlocks (hP.sub [0, 1, 2, 3, 4, 5, 6] rfl) (hD.sub [0, 1, 2, 3, 4, 5, 6] (by decide) rfl) hS ⟨by decide, by decide⟩ dX1_weigh_89 (by rcases h01 with z | z <;> rw [ha, z] <;> decide) ⟨fx, f1, f2, f3, (by rcases h01 with z | z; exact Or.inr ⟨by rw [ha, z], by omega⟩; exact Or.inl ⟨by rw [ha, z], z⟩), rfl, (fun p hp => he p (by omega))⟩
      · have ho := oT_rng pp (by omega)
        refine lv_aload_n hx hb dX1_weigh_48 rfl (lv_at hl 8 rfl) ?_
        refine lv_iload hx hb dX1_weigh_49 (lv_at hl 4 rfl) ?_
        refine lv_iload hx hb dX1_weigh_51 (lv_at hl 3 rfl) ?_
        refine va_getsN hx hb hG.2.2.1.1 hS hown (va_Nw.use rfl hG.2.1.2.1) (fun _ h9 => h9) dX1_weigh_53 ?_
        refine lv_iload hx hb dX1_weigh_56 (lv_at hl 0 rfl) ?_
        refine iv_tld hx hb hG.2.2.1 hS pp (by omega) (by omega) (by decide) dX1_weigh_58 ?_
        refine Ct.callV (ci := 4) (q0 := 3) (qc := (RX4, TX4, 3)) (As := [.int (iI (C / 1000000)), .int (iI (C / 1000 % 1000)), .int (iI (oT pp))]) (rest := []) (wr := [(y, .inr (1, [.int (iI mn), .int (iI cn), .ref me, .ref cs, .ref as_, .ref sr, .ref hi])), (cs, aI (g.2.1 0) 40 fc), (hi, aI (g.2.1 0) 93 fx)]) (c1 := 0) (s1 := 0) ⟨hx, hb, hml, hown, hts⟩ (c_X4_fill l g hp ad an aa f1 f2 f3 (C / 1000000) (C / 1000 % 1000) (oT pp) (by omega)) rfl rfl (cwV 3 hts gX1_weigh_X4_fill rfl rfl rfl (by decide +kernel) ⟨Nat.le_of_ble_eq_true rfl, Nat.le_of_ble_eq_true rfl⟩) hG hP hD hS hA [3, 4, 5, 6] [0, 1, 2] rfl rfl (by decide) (by decide) (by decide) rfl hl.1 rfl (Nat.le_of_ble_eq_true rfl) dX1_weigh_59 ⟨Nat.le_of_ble_eq_true rfl, Nat.le_of_ble_eq_true rfl⟩ rfl rfl (fun v w H locs hv hP hD hS => ?_)
        obtain ⟨fd2, fn3, fa4, rfl, rfl, hf5, hf6⟩ := hv
        show W p l e _ s m _ below meth c H locs 0 0 _ (F0 m 62 ls (.int (iI (wk (C / 1000000) (C / 1000 % 1000) (oT pp))) :: []))
        have hP : va_P g.1 vwCl [(y, .inr (1, [.int (iI mn), .int (iI cn), .ref me, .ref cs, .ref as_, .ref sr, .ref hi])), (cs, aI (g.2.1 0) 40 fc), (hi, aI (g.2.1 0) 93 fx), (hp, .inr (4, [.ref ad, .ref an, .ref aa])), (ad, aI (g.2.1 0) 3 fd2), (an, aI (g.2.1 0) 3 fn3), (aa, aI (g.2.1 0) 3 fa4)] H := hP
        have hD : va_D A [(y, .inr (1, [.int (iI mn), .int (iI cn), .ref me, .ref cs, .ref as_, .ref sr, .ref hi])), (cs, aI (g.2.1 0) 40 fc), (hi, aI (g.2.1 0) 93 fx), (hp, .inr (4, [.ref ad, .ref an, .ref aa])), (ad, aI (g.2.1 0) 3 fd2), (an, aI (g.2.1 0) 3 fn3), (aa, aI (g.2.1 0) 3 fa4)] := hD
        have hw := wk_rng (C / 1000000) (C / 1000 % 1000) (oT pp)
        refine lv_iload hx hb dX1_weigh_62 (lv_at hl 2 rfl) ?_
        refine iv_icmp_ne (tgt := 81) hx hb dX1_weigh_64 (by decide) (by omega) (fun hc7 => ?_) (fun hc7 => ?_)
        · refine iv_iinc (k := 0) (x := zp) (lv' := [(8, .int (iI (zp + 1))), (7, .int (iI an_)), (6, .int (iI (C % 1000))), (5, .int (iI (C / 1000 % 1000))), (4, .int (iI (C / 1000000))), (0, .ref y), (1, .int (iI nz)), (2, .int (iI mo)), (3, .ref hp)]) hx hb dX1_weigh_81 hl rfl (by decide) rfl (fun ls hl => ?_)
          refine lv_goto (tgt := 39) hx hb dX1_weigh_84 (by decide) ?_
          exact ih39 an_ (zp + 1) fx fd2 fn3 fa4 (pp + 1) (by omega) (by simp only [anyH]; first | rw [if_pos (by assumption)] | (rw [if_neg (by assumption)]; exact ha)) (fun p hp => if q : p = pp then (by first | (rw [q, up_s, he2 pp (by omega), if_pos (by assumption)]) | (rw [q, he2 pp (by omega), if_neg (by assumption), Int.add_zero])) else (by first | (rw [up_n _ _ _ _ q]; exact he p (by omega)) | exact he p (by omega))) (fun p hp => by first | (rw [up_n _ _ _ _ (by omega)]; exact he2 p (by omega)) | exact he2 p (by omega)) (by omega) H locs ls (hP.sub [0, 1, 2, 3, 4, 5, 6] rfl) (hD.sub [0, 1, 2, 3, 4, 5, 6] (by decide) rfl) hS (lv_sub hl [0, 1, 2, 3, 4, 5, 6, 7, 8] rfl)
        · refine lv_aload_n hx hb dX1_weigh_67 rfl (lv_at hl 5 rfl) ?_
          refine va_get (D := g.1) (ci := 1) (v := .ref hi) hx hb hts kX1_weigh_1 hown hG.1 hP 0 rfl rfl 6 (by decide) (hts _ (List.mem_of_getElem? (i := 2) rfl)) (fun _ h9 => h9) rfl dX1_weigh_68 ?_
          refine lv_iload hx hb dX1_weigh_71 (lv_at hl 0 rfl) ?_
          refine lv_dup2_11 hx hb dX1_weigh_73 rfl rfl ?_
          refine iv_iald hx hb hG hP 2 rfl pp (by omega) (by omega) (by decide) dX1_weigh_74 ?_
          refine lv_iload_n hx hb dX1_weigh_75 rfl (lv_at hl 7 rfl) ?_
          refine iv_iadd hx hb dX1_weigh_76 ?_
          refine iv_iast hx hb hG hP hD hS 2 rfl pp (by omega) (by omega) (by decide) dX1_weigh_77 (fun H locs hP hD hS => ?_)
          have hP : va_P g.1 vwCl [(y, .inr (1, [.int (iI mn), .int (iI cn), .ref me, .ref cs, .ref as_, .ref sr, .ref hi])), (cs, aI (g.2.1 0) 40 fc), (hi, aI (g.2.1 0) 93 (va_up fx pp ((fx pp) + mo))), (hp, .inr (4, [.ref ad, .ref an, .ref aa])), (ad, aI (g.2.1 0) 3 fd2), (an, aI (g.2.1 0) 3 fn3), (aa, aI (g.2.1 0) 3 fa4)] H := hP
          have hD : va_D A [(y, .inr (1, [.int (iI mn), .int (iI cn), .ref me, .ref cs, .ref as_, .ref sr, .ref hi])), (cs, aI (g.2.1 0) 40 fc), (hi, aI (g.2.1 0) 93 (va_up fx pp ((fx pp) + mo))), (hp, .inr (4, [.ref ad, .ref an, .ref aa])), (ad, aI (g.2.1 0) 3 fd2), (an, aI (g.2.1 0) 3 fn3), (aa, aI (g.2.1 0) 3 fa4)] := hD
          refine lv_iconst (v := iI (1)) hx hb dX1_weigh_78 rfl ?_
          refine lv_istore (lv' := [(7, .int (iI 1)), (8, .int (iI zp)), (6, .int (iI (C % 1000))), (5, .int (iI (C / 1000 % 1000))), (4, .int (iI (C / 1000000))), (0, .ref y), (1, .int (iI nz)), (2, .int (iI mo)), (3, .ref hp)]) hx hb dX1_weigh_79 hl (by decide) rfl (fun ls hl => ?_)
          refine iv_iinc (k := 1) (x := zp) (lv' := [(8, .int (iI (zp + 1))), (7, .int (iI 1)), (6, .int (iI (C % 1000))), (5, .int (iI (C / 1000 % 1000))), (4, .int (iI (C / 1000000))), (0, .ref y), (1, .int (iI nz)), (2, .int (iI mo)), (3, .ref hp)]) hx hb dX1_weigh_81 hl rfl (by decide) rfl (fun ls hl => ?_)
          refine lv_goto (tgt := 39) hx hb dX1_weigh_84 (by decide) ?_
          exact ih39 1 (zp + 1) (va_up fx pp ((fx pp) + mo)) fd2 fn3 fa4 (pp + 1) (by omega) (by simp only [anyH]; first | rw [if_pos (by assumption)] | (rw [if_neg (by assumption)]; exact ha)) (fun p hp => if q : p = pp then (by first | (rw [q, up_s, he2 pp (by omega), if_pos (by assumption)]) | (rw [q, he2 pp (by omega), if_neg (by assumption), Int.add_zero])) else (by first | (rw [up_n _ _ _ _ q]; exact he p (by omega)) | exact he p (by omega))) (fun p hp => by first | (rw [up_n _ _ _ _ (by omega)]; exact he2 p (by omega)) | exact he2 p (by omega)) (by omega) H locs ls (hP.sub [0, 1, 2, 3, 4, 5, 6] rfl) (hD.sub [0, 1, 2, 3, 4, 5, 6] (by decide) rfl) hS (lv_sub hl [0, 1, 2, 3, 4, 5, 6, 7, 8] rfl)
  exact hloop39 _ 0 0 fhi fd fn fa 0 (by omega) (rfl) (fun p hp => absurd hp (Nat.not_lt_zero p)) (fun p _ => rfl) (Nat.lt_succ_self _) H locs ls (hP.sub [0, 1, 2, 3, 4, 5, 6] rfl) (hD.sub [0, 1, 2, 3, 4, 5, 6] (by decide) rfl) hS (lv_sub hl [0, 1, 2, 3, 4, 5, 6, 7, 8] rfl)
