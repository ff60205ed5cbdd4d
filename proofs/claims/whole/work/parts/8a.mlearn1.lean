theorem kX9_learner_9 : ∀ w ∈ u_ws RX9 TX9 37, w ∈ wsX9_learner := fun _ h => List.mem_cons_of_mem _ (List.mem_append_right _ h)
abbrev q_X9_learner (g : GT) (hm : Nat) (a : Nat → Nat) (i : Nat → Int) (qm : Nat → Int) (k : Nat) : Option Value → va_W → Prop := fun v w => ∃ (r : Int), ∃ (i' : Nat → Int), ∃ (qm' : Nat → Int), v = some (.int (iI r)) ∧ w = [(hm, .inr (9, mF a i')), ((a 6), aI (g.2.1 0) 12 qm')] ∧ (r = i 5) ∧ (i' = va_up i 5 (i 5 + 1)) ∧ (qm' = va_up qm k 0)
set_option maxHeartbeats 4000000 in
set_option maxRecDepth 100000 in
theorem c_X9_learner (l : Launch) (g : GT) (hm : Nat) (a : Nat → Nat) (i : Nat → Int) (qm : Nat → Int) (k : Nat) (h1 : i 5 = (k : Int) ∧ k < 12) : Ct l g yX9_learner wsX9_learner ({ frames := 0, cells := 0, slots := 0, locals := 0 } : Room) [.ref hm] [(hm, .inr (9, mF a i)), ((a 6), aI (g.2.1 0) 12 qm)] (q_X9_learner g hm a i qm k) := by
  refine Ct.intro (maxL := 1) (ret := (some .int)) (by decide) rfl (Nat.le_of_ble_eq_true rfl) ?_
  intro p e s m below meth c A ls hx hb hr hml hown hts hlocks hnm hA hG hP hD hS hl
  have hown : s.vm.findClass RX9 = some m.cls := hown
  have hl : lv_has ls 1 [(0, .ref hm)] := hl
  have hP : va_P g.1 vwCl [(hm, .inr (9, mF a i)), ((a 6), aI (g.2.1 0) 12 qm)] s.heap := hP
  have hS : va_S A s.heap s.heap [] := hS
  obtain ⟨H, hHe⟩ : ∃ H : Heap, H = s.heap := ⟨_, rfl⟩
  obtain ⟨locs, hLe⟩ : ∃ L : List Loc, L = [] := ⟨_, rfl⟩
  have hP : va_P g.1 vwCl [(hm, .inr (9, mF a i)), ((a 6), aI (g.2.1 0) 12 qm)] H := by rw [hHe]; exact hP
  have hS : va_S A s.heap H locs := by rw [hHe, hLe]; exact hS
  suffices hgo : W p l e ({ frames := 0, cells := 0, slots := 0, locals := 0 } : Room) s m [.ref hm].toArray below meth c H locs 0 0 (MQ below (CQ g (q_X9_learner g hm a i qm k) A) [.ref hm].toArray s ({ frames := 0, cells := 0, slots := 0, locals := 0 } : Room).cells ({ frames := 0, cells := 0, slots := 0, locals := 0 } : Room).slots A) (F0 m 0 ls []) by rw [hHe, hLe] at hgo; exact hgo
  clear hHe hLe
  refine lv_aload_n hx hb dX9_learner_0 rfl (lv_at hl 0 rfl) ?_
  refine va_get (D := g.1) (ci := 9) (v := .int (iI (i 5))) hx hb hts kX9_learner_9 hown hG.1 hP 0 rfl rfl 5 (by decide) (hts _ (List.mem_of_getElem? (i := 1) rfl)) (fun _ h9 => h9) rfl dX9_learner_1 ?_
  refine lv_bipush (v := iI (12)) hx hb dX9_learner_4 (by decide) ?_
  refine iv_icmp_ne (tgt := 12) hx hb dX9_learner_6 (by decide) (by omega) (fun hc1 => ?_) (fun hc1 => absurd hc1 (by omega))
  refine lv_aload_n hx hb dX9_learner_12 rfl (lv_at hl 0 rfl) ?_
  refine va_get (D := g.1) (ci := 9) (v := .ref (a 6)) hx hb hts kX9_learner_9 hown hG.1 hP 0 rfl rfl 6 (by decide) (hts _ (List.mem_of_getElem? (i := 2) rfl)) (fun _ h9 => h9) rfl dX9_learner_13 ?_
  refine lv_aload_n hx hb dX9_learner_16 rfl (lv_at hl 0 rfl) ?_
  refine va_get (D := g.1) (ci := 9) (v := .int (iI (i 5))) hx hb hts kX9_learner_9 hown hG.1 hP 0 rfl rfl 5 (by decide) (hts _ (List.mem_of_getElem? (i := 1) rfl)) (fun _ h9 => h9) rfl dX9_learner_17 ?_
  refine lv_iconst (v := iI (0)) hx hb dX9_learner_20 rfl ?_
  refine iv_iast hx hb hG hP hD hS 1 rfl k (by omega) (by omega) (by decide) dX9_learner_21 (fun H locs hP hD hS => ?_)
  have hP : va_P g.1 vwCl [(hm, .inr (9, mF a i)), ((a 6), aI (g.2.1 0) 12 (va_up qm k 0))] H := hP
  have hD : va_D A [(hm, .inr (9, mF a i)), ((a 6), aI (g.2.1 0) 12 (va_up qm k 0))] := hD
  refine lv_aload_n hx hb dX9_learner_22 rfl (lv_at hl 0 rfl) ?_
  refine lv_dup hx hb dX9_learner_23 rfl ?_
  refine va_get (D := g.1) (ci := 9) (v := .int (iI (i 5))) hx hb hts kX9_learner_9 hown hG.1 hP 0 rfl rfl 5 (by decide) (hts _ (List.mem_of_getElem? (i := 1) rfl)) (fun _ h9 => h9) rfl dX9_learner_24 ?_
  refine lv_iconst (v := iI (1)) hx hb dX9_learner_27 rfl ?_
  refine iv_iadd hx hb dX9_learner_28 ?_
  refine va_put (D := g.1) (ci := 9) (v := .int (iI ((i 5) + 1))) hx hb hts kX9_learner_9 tyX9 tyX9_ok nmX9 hown hG.1 hP hD hS 0 rfl rfl 5 (by decide) (hts _ (List.mem_of_getElem? (i := 1) rfl)) (fun _ h9 => h9) rfl (tyX9_ok 5 (by decide)) rfl rfl (Nat.le_of_ble_eq_true rfl) dX9_learner_29 (fun H locs hP hD hS => ?_)
  have hP : va_P g.1 vwCl [(hm, .inr (9, mF a (va_up i 5 ((i 5) + 1)))), ((a 6), aI (g.2.1 0) 12 (va_up qm k 0))] H := hP
  have hD : va_D A [(hm, .inr (9, mF a (va_up i 5 ((i 5) + 1)))), ((a 6), aI (g.2.1 0) 12 (va_up qm k 0))] := hD
  refine lv_aload_n hx hb dX9_learner_32 rfl (lv_at hl 0 rfl) ?_
  refine va_get (D := g.1) (ci := 9) (v := .int (iI ((i 5) + 1))) hx hb hts kX9_learner_9 hown hG.1 hP 0 rfl rfl 5 (by decide) (hts _ (List.mem_of_getElem? (i := 1) rfl)) (fun _ h9 => h9) rfl dX9_learner_33 ?_
  refine lv_iconst (v := iI (1)) hx hb dX9_learner_36 rfl ?_
  refine iv_isub hx hb dX9_learner_37 ?_
  exact Ct.iret hx hb hr hlocks (hP.sub [0, 1] rfl) (hD.sub [0, 1] (by decide) rfl) hS ⟨by decide, by decide⟩ dX9_learner_38 ⟨(((i 5) + 1) - 1), (va_up i 5 (i 5 + 1)), (va_up qm k 0), rfl, rfl, (by omega), (rfl), (rfl)⟩
abbrev q_X9_learnerF (g : GT) (hm : Nat) (a : Nat → Nat) (i : Nat → Int) (qm : Nat → Int) : Option Value → va_W → Prop := fun v w => ∃ (r : Int), v = some (.int (iI r)) ∧ w = [(hm, .inr (9, mF a i)), ((a 6), aI (g.2.1 0) 12 qm)] ∧ (r = -3)
set_option maxHeartbeats 4000000 in
set_option maxRecDepth 100000 in
theorem c_X9_learnerF (l : Launch) (g : GT) (hm : Nat) (a : Nat → Nat) (i : Nat → Int) (qm : Nat → Int) (h1 : i 5 = 12) : Ct l g yX9_learner wsX9_learner ({ frames := 0, cells := 0, slots := 0, locals := 0 } : Room) [.ref hm] [(hm, .inr (9, mF a i)), ((a 6), aI (g.2.1 0) 12 qm)] (q_X9_learnerF g hm a i qm) := by
  refine Ct.intro (maxL := 1) (ret := (some .int)) (by decide) rfl (Nat.le_of_ble_eq_true rfl) ?_
  intro p e s m below meth c A ls hx hb hr hml hown hts hlocks hnm hA hG hP hD hS hl
  have hown : s.vm.findClass RX9 = some m.cls := hown
  have hl : lv_has ls 1 [(0, .ref hm)] := hl
  have hP : va_P g.1 vwCl [(hm, .inr (9, mF a i)), ((a 6), aI (g.2.1 0) 12 qm)] s.heap := hP
  have hS : va_S A s.heap s.heap [] := hS
  obtain ⟨H, hHe⟩ : ∃ H : Heap, H = s.heap := ⟨_, rfl⟩
  obtain ⟨locs, hLe⟩ : ∃ L : List Loc, L = [] := ⟨_, rfl⟩
  have hP : va_P g.1 vwCl [(hm, .inr (9, mF a i)), ((a 6), aI (g.2.1 0) 12 qm)] H := by rw [hHe]; exact hP
  have hS : va_S A s.heap H locs := by rw [hHe, hLe]; exact hS
  suffices hgo : W p l e ({ frames := 0, cells := 0, slots := 0, locals := 0 } : Room) s m [.ref hm].toArray below meth c H locs 0 0 (MQ below (CQ g (q_X9_learnerF g hm a i qm) A) [.ref hm].toArray s ({ frames := 0, cells := 0, slots := 0, locals := 0 } : Room).cells ({ frames := 0, cells := 0, slots := 0, locals := 0 } : Room).slots A) (F0 m 0 ls []) by rw [hHe, hLe] at hgo; exact hgo
  clear hHe hLe
  refine lv_aload_n hx hb dX9_learner_0 rfl (lv_at hl 0 rfl) ?_
  refine va_get (D := g.1) (ci := 9) (v := .int (iI (i 5))) hx hb hts kX9_learner_9 hown hG.1 hP 0 rfl rfl 5 (by decide) (hts _ (List.mem_of_getElem? (i := 1) rfl)) (fun _ h9 => h9) rfl dX9_learner_1 ?_
  refine lv_bipush (v := iI (12)) hx hb dX9_learner_4 (by decide) ?_
  refine iv_icmp_ne (tgt := 12) hx hb dX9_learner_6 (by decide) (by omega) (fun hc1 => absurd hc1 (by omega)) (fun hc1 => ?_)
  refine lv_bipush (v := iI (-3)) hx hb dX9_learner_9 (by decide) ?_
  exact Ct.iret hx hb hr hlocks (hP.sub [0, 1] rfl) (hD.sub [0, 1] (by decide) rfl) hS ⟨by decide, by decide⟩ dX9_learner_11 ⟨(-3), rfl, rfl, (by omega)⟩
theorem kX9_puts_9 : ∀ w ∈ u_ws RX9 TX9 37, w ∈ wsX9_puts := fun _ h => List.mem_cons_of_mem _ (List.mem_append_right _ h)
abbrev q_X9_puts (g : GT) (hm : Nat) (a : Nat → Nat) (i : Nat → Int) (qm : Nat → Int) (qu : Nat → Int) (ql : Nat → Int) (qg : Nat → Int) (qa : Nat → Int) (x : Int) (much : Int) (less : Int) (ans : Int) (k : Nat) (M : Nat) : Option Value → va_W → Prop := fun v w => v = none ∧ w = [(hm, .inr (9, mF a i)), ((a 6), aI (g.2.1 0) 12 (va_up qm k (qm k + 1))), ((a 7), aI (g.2.1 0) 480 (va_up qu (40 * k + M) much)), ((a 8), aI (g.2.1 0) 480 (va_up ql (40 * k + M) less)), ((a 9), aI (g.2.1 0) 480 (va_up qg (40 * k + M) ans)), ((a 10), aI (g.2.1 1) 480 (va_up qa (40 * k + M) 0))]
set_option maxHeartbeats 4000000 in
set_option maxRecDepth 100000 in
theorem c_X9_puts (l : Launch) (g : GT) (hm : Nat) (a : Nat → Nat) (i : Nat → Int) (qm : Nat → Int) (qu : Nat → Int) (ql : Nat → Int) (qg : Nat → Int) (qa : Nat → Int) (x : Int) (much : Int) (less : Int) (ans : Int) (k : Nat) (M : Nat) (h1 : x = (k : Int) ∧ k < 12 ∧ qm k = (M : Int) ∧ M < 40) : Ct l g yX9_puts wsX9_puts ({ frames := 0, cells := 0, slots := 0, locals := 0 } : Room) [.ref hm, .int (iI x), .int (iI much), .int (iI less), .int (iI ans)] [(hm, .inr (9, mF a i)), ((a 6), aI (g.2.1 0) 12 qm), ((a 7), aI (g.2.1 0) 480 qu), ((a 8), aI (g.2.1 0) 480 ql), ((a 9), aI (g.2.1 0) 480 qg), ((a 10), aI (g.2.1 1) 480 qa)] (q_X9_puts g hm a i qm qu ql qg qa x much less ans k M) := by
  refine Ct.intro (maxL := 6) (ret := none) (by decide) rfl (Nat.le_of_ble_eq_true rfl) ?_
  intro p e s m below meth c A ls hx hb hr hml hown hts hlocks hnm hA hG hP hD hS hl
  have hown : s.vm.findClass RX9 = some m.cls := hown
  have hl : lv_has ls 6 [(0, .ref hm), (1, .int (iI x)), (2, .int (iI much)), (3, .int (iI less)), (4, .int (iI ans))] := hl
  have hP : va_P g.1 vwCl [(hm, .inr (9, mF a i)), ((a 6), aI (g.2.1 0) 12 qm), ((a 7), aI (g.2.1 0) 480 qu), ((a 8), aI (g.2.1 0) 480 ql), ((a 9), aI (g.2.1 0) 480 qg), ((a 10), aI (g.2.1 1) 480 qa)] s.heap := hP
  have hS : va_S A s.heap s.heap [] := hS
  obtain ⟨H, hHe⟩ : ∃ H : Heap, H = s.heap := ⟨_, rfl⟩
  obtain ⟨locs, hLe⟩ : ∃ L : List Loc, L = [] := ⟨_, rfl⟩
  have hP : va_P g.1 vwCl [(hm, .inr (9, mF a i)), ((a 6), aI (g.2.1 0) 12 qm), ((a 7), aI (g.2.1 0) 480 qu), ((a 8), aI (g.2.1 0) 480 ql), ((a 9), aI (g.2.1 0) 480 qg), ((a 10), aI (g.2.1 1) 480 qa)] H := by rw [hHe]; exact hP
  have hS : va_S A s.heap H locs := by rw [hHe, hLe]; exact hS
  suffices hgo : W p l e ({ frames := 0, cells := 0, slots := 0, locals := 0 } : Room) s m [.ref hm, .int (iI x), .int (iI much), .int (iI less), .int (iI ans)].toArray below meth c H locs 0 0 (MQ below (CQ g (q_X9_puts g hm a i qm qu ql qg qa x much less ans k M) A) [.ref hm, .int (iI x), .int (iI much), .int (iI less), .int (iI ans)].toArray s ({ frames := 0, cells := 0, slots := 0, locals := 0 } : Room).cells ({ frames := 0, cells := 0, slots := 0, locals := 0 } : Room).slots A) (F0 m 0 ls []) by rw [hHe, hLe] at hgo; exact hgo
  clear hHe hLe
  refine lv_bipush (v := iI (40)) hx hb dX9_puts_0 (by decide) ?_
  refine lv_iload_n hx hb dX9_puts_2 rfl (lv_at hl 1 rfl) ?_
  refine iv_imul hx hb dX9_puts_3 ?_
  refine lv_aload_n hx hb dX9_puts_4 rfl (lv_at hl 0 rfl) ?_
  refine va_get (D := g.1) (ci := 9) (v := .ref (a 6)) hx hb hts kX9_puts_9 hown hG.1 hP 0 rfl rfl 6 (by decide) (hts _ (List.mem_of_getElem? (i := 1) rfl)) (fun _ h9 => h9) rfl dX9_puts_5 ?_
  refine lv_iload_n hx hb dX9_puts_8 rfl (lv_at hl 1 rfl) ?_
  refine iv_iald hx hb hG hP 1 rfl k (by omega) (by omega) (by decide) dX9_puts_9 ?_
  refine iv_iadd hx hb dX9_puts_10 ?_
  refine lv_istore (lv' := [(5, .int (iI ((40 * x) + (qm k)))), (0, .ref hm), (1, .int (iI x)), (2, .int (iI much)), (3, .int (iI less)), (4, .int (iI ans))]) hx hb dX9_puts_11 hl (by decide) rfl (fun ls hl => ?_)
  refine lv_aload_n hx hb dX9_puts_13 rfl (lv_at hl 1 rfl) ?_
  refine va_get (D := g.1) (ci := 9) (v := .ref (a 7)) hx hb hts kX9_puts_9 hown hG.1 hP 0 rfl rfl 7 (by decide) (hts _ (List.mem_of_getElem? (i := 2) rfl)) (fun _ h9 => h9) rfl dX9_puts_14 ?_
  refine lv_iload hx hb dX9_puts_17 (lv_at hl 0 rfl) ?_
  refine lv_iload_n hx hb dX9_puts_19 rfl (lv_at hl 3 rfl) ?_
  refine iv_iast hx hb hG hP hD hS 2 rfl (40 * k + M) (by omega) (by omega) (by decide) dX9_puts_20 (fun H locs hP hD hS => ?_)
  have hP : va_P g.1 vwCl [(hm, .inr (9, mF a i)), ((a 6), aI (g.2.1 0) 12 qm), ((a 7), aI (g.2.1 0) 480 (va_up qu (40 * k + M) much)), ((a 8), aI (g.2.1 0) 480 ql), ((a 9), aI (g.2.1 0) 480 qg), ((a 10), aI (g.2.1 1) 480 qa)] H := hP
  have hD : va_D A [(hm, .inr (9, mF a i)), ((a 6), aI (g.2.1 0) 12 qm), ((a 7), aI (g.2.1 0) 480 (va_up qu (40 * k + M) much)), ((a 8), aI (g.2.1 0) 480 ql), ((a 9), aI (g.2.1 0) 480 qg), ((a 10), aI (g.2.1 1) 480 qa)] := hD
  refine lv_aload_n hx hb dX9_puts_21 rfl (lv_at hl 1 rfl) ?_
  refine va_get (D := g.1) (ci := 9) (v := .ref (a 8)) hx hb hts kX9_puts_9 hown hG.1 hP 0 rfl rfl 8 (by decide) (hts _ (List.mem_of_getElem? (i := 3) rfl)) (fun _ h9 => h9) rfl dX9_puts_22 ?_
  refine lv_iload hx hb dX9_puts_25 (lv_at hl 0 rfl) ?_
  refine lv_iload_n hx hb dX9_puts_27 rfl (lv_at hl 4 rfl) ?_
  refine iv_iast hx hb hG hP hD hS 3 rfl (40 * k + M) (by omega) (by omega) (by decide) dX9_puts_28 (fun H locs hP hD hS => ?_)
  have hP : va_P g.1 vwCl [(hm, .inr (9, mF a i)), ((a 6), aI (g.2.1 0) 12 qm), ((a 7), aI (g.2.1 0) 480 (va_up qu (40 * k + M) much)), ((a 8), aI (g.2.1 0) 480 (va_up ql (40 * k + M) less)), ((a 9), aI (g.2.1 0) 480 qg), ((a 10), aI (g.2.1 1) 480 qa)] H := hP
  have hD : va_D A [(hm, .inr (9, mF a i)), ((a 6), aI (g.2.1 0) 12 qm), ((a 7), aI (g.2.1 0) 480 (va_up qu (40 * k + M) much)), ((a 8), aI (g.2.1 0) 480 (va_up ql (40 * k + M) less)), ((a 9), aI (g.2.1 0) 480 qg), ((a 10), aI (g.2.1 1) 480 qa)] := hD
  refine lv_aload_n hx hb dX9_puts_29 rfl (lv_at hl 1 rfl) ?_
  refine va_get (D := g.1) (ci := 9) (v := .ref (a 9)) hx hb hts kX9_puts_9 hown hG.1 hP 0 rfl rfl 9 (by decide) (hts _ (List.mem_of_getElem? (i := 4) rfl)) (fun _ h9 => h9) rfl dX9_puts_30 ?_
  refine lv_iload hx hb dX9_puts_33 (lv_at hl 0 rfl) ?_
  refine lv_iload hx hb dX9_puts_35 (lv_at hl 5 rfl) ?_
  refine iv_iast hx hb hG hP hD hS 4 rfl (40 * k + M) (by omega) (by omega) (by decide) dX9_puts_37 (fun H locs hP hD hS => ?_)
  have hP : va_P g.1 vwCl [(hm, .inr (9, mF a i)), ((a 6), aI (g.2.1 0) 12 qm), ((a 7), aI (g.2.1 0) 480 (va_up qu (40 * k + M) much)), ((a 8), aI (g.2.1 0) 480 (va_up ql (40 * k + M) less)), ((a 9), aI (g.2.1 0) 480 (va_up qg (40 * k + M) ans)), ((a 10), aI (g.2.1 1) 480 qa)] H := hP
  have hD : va_D A [(hm, .inr (9, mF a i)), ((a 6), aI (g.2.1 0) 12 qm), ((a 7), aI (g.2.1 0) 480 (va_up qu (40 * k + M) much)), ((a 8), aI (g.2.1 0) 480 (va_up ql (40 * k + M) less)), ((a 9), aI (g.2.1 0) 480 (va_up qg (40 * k + M) ans)), ((a 10), aI (g.2.1 1) 480 qa)] := hD
  refine lv_aload_n hx hb dX9_puts_38 rfl (lv_at hl 1 rfl) ?_
  refine va_get (D := g.1) (ci := 9) (v := .ref (a 10)) hx hb hts kX9_puts_9 hown hG.1 hP 0 rfl rfl 10 (by decide) (hts _ (List.mem_of_getElem? (i := 5) rfl)) (fun _ h9 => h9) rfl dX9_puts_39 ?_
  refine lv_iload hx hb dX9_puts_42 (lv_at hl 0 rfl) ?_
  refine lv_iconst (v := iI (0)) hx hb dX9_puts_44 rfl ?_
  refine iv_zast hx hb hG hP hD hS 5 rfl (40 * k + M) (by omega) (by omega) (by decide) (by omega) dX9_puts_45 (fun H locs hP hD hS => ?_)
  have hP : va_P g.1 vwCl [(hm, .inr (9, mF a i)), ((a 6), aI (g.2.1 0) 12 qm), ((a 7), aI (g.2.1 0) 480 (va_up qu (40 * k + M) much)), ((a 8), aI (g.2.1 0) 480 (va_up ql (40 * k + M) less)), ((a 9), aI (g.2.1 0) 480 (va_up qg (40 * k + M) ans)), ((a 10), aI (g.2.1 1) 480 (va_up qa (40 * k + M) 0))] H := hP
  have hD : va_D A [(hm, .inr (9, mF a i)), ((a 6), aI (g.2.1 0) 12 qm), ((a 7), aI (g.2.1 0) 480 (va_up qu (40 * k + M) much)), ((a 8), aI (g.2.1 0) 480 (va_up ql (40 * k + M) less)), ((a 9), aI (g.2.1 0) 480 (va_up qg (40 * k + M) ans)), ((a 10), aI (g.2.1 1) 480 (va_up qa (40 * k + M) 0))] := hD
  refine lv_aload_n hx hb dX9_puts_46 rfl (lv_at hl 1 rfl) ?_
  refine va_get (D := g.1) (ci := 9) (v := .ref (a 6)) hx hb hts kX9_puts_9 hown hG.1 hP 0 rfl rfl 6 (by decide) (hts _ (List.mem_of_getElem? (i := 1) rfl)) (fun _ h9 => h9) rfl dX9_puts_47 ?_
  refine lv_iload_n hx hb dX9_puts_50 rfl (lv_at hl 2 rfl) ?_
  refine lv_dup2_11 hx hb dX9_puts_51 rfl rfl ?_
  refine iv_iald hx hb hG hP 1 rfl k (by omega) (by omega) (by decide) dX9_puts_52 ?_
  refine lv_iconst (v := iI (1)) hx hb dX9_puts_53 rfl ?_
  refine iv_iadd hx hb dX9_puts_54 ?_
  refine iv_iast hx hb hG hP hD hS 1 rfl k (by omega) (by omega) (by decide) dX9_puts_55 (fun H locs hP hD hS => ?_)
  have hP : va_P g.1 vwCl [(hm, .inr (9, mF a i)), ((a 6), aI (g.2.1 0) 12 (va_up qm k ((qm k) + 1))), ((a 7), aI (g.2.1 0) 480 (va_up qu (40 * k + M) much)), ((a 8), aI (g.2.1 0) 480 (va_up ql (40 * k + M) less)), ((a 9), aI (g.2.1 0) 480 (va_up qg (40 * k + M) ans)), ((a 10), aI (g.2.1 1) 480 (va_up qa (40 * k + M) 0))] H := hP
  have hD : va_D A [(hm, .inr (9, mF a i)), ((a 6), aI (g.2.1 0) 12 (va_up qm k ((qm k) + 1))), ((a 7), aI (g.2.1 0) 480 (va_up qu (40 * k + M) much)), ((a 8), aI (g.2.1 0) 480 (va_up ql (40 * k + M) less)), ((a 9), aI (g.2.1 0) 480 (va_up qg (40 * k + M) ans)), ((a 10), aI (g.2.1 1) 480 (va_up qa (40 * k + M) 0))] := hD
  exact Ct.vret hx hb hr hlocks (hP.sub [0, 1, 2, 3, 4, 5] rfl) (hD.sub [0, 1, 2, 3, 4, 5] (by decide) rfl) hS ⟨by decide, by decide⟩ dX9_puts_56 ⟨rfl, rfl⟩
theorem kX9_answer_9 : ∀ w ∈ u_ws RX9 TX9 37, w ∈ wsX9_answer := fun _ h => List.mem_cons_of_mem _ (List.mem_append_right _ h)
abbrev q_X9_answer (g : GT) (hm : Nat) (a : Nat → Nat) (i : Nat → Int) (qm : Nat → Int) (qu : Nat → Int) (ql : Nat → Int) (qg : Nat → Int) (qa : Nat → Int) (x : Int) (much : Int) (less : Int) (ans : Int) : Option Value → va_W → Prop := fun v w => ∃ (r : Int), ∃ (qm' : Nat → Int), ∃ (qu' : Nat → Int), ∃ (ql' : Nat → Int), ∃ (qg' : Nat → Int), ∃ (qa' : Nat → Int), v = some (.int (iI r)) ∧ w = [(hm, .inr (9, mF a i)), ((a 6), aI (g.2.1 0) 12 qm'), ((a 7), aI (g.2.1 0) 480 qu'), ((a 8), aI (g.2.1 0) 480 ql'), ((a 9), aI (g.2.1 0) 480 qg'), ((a 10), aI (g.2.1 1) 480 qa')] ∧ ((r = -1 ∧ ¬ ((0 ≤ x ∧ x < i 5) ∧ (TaskP much less ∧ 0 ≤ ans ∧ ans ≤ 999)) ∧ qm' = qm ∧ qu' = qu ∧ ql' = ql ∧ qg' = qg ∧ qa' = qa) ∨ (((0 ≤ x ∧ x < i 5) ∧ (TaskP much less ∧ 0 ≤ ans ∧ ans ≤ 999)) ∧ ((r = -3 ∧ qm x.toNat = 40 ∧ qm' = qm ∧ qu' = qu ∧ ql' = ql ∧ qg' = qg ∧ qa' = qa) ∨ (r = qm x.toNat ∧ qm x.toNat < 40 ∧ qm' = va_up qm x.toNat (qm x.toNat + 1) ∧ qu' = va_up qu (40 * x.toNat + (qm x.toNat).toNat) much ∧ ql' = va_up ql (40 * x.toNat + (qm x.toNat).toNat) less ∧ qg' = va_up qg (40 * x.toNat + (qm x.toNat).toNat) ans ∧ qa' = va_up qa (40 * x.toNat + (qm x.toNat).toNat) 0))))
set_option maxHeartbeats 4000000 in
set_option maxRecDepth 100000 in
theorem c_X9_answer (l : Launch) (g : GT) (hm : Nat) (a : Nat → Nat) (i : Nat → Int) (qm : Nat → Int) (qu : Nat → Int) (ql : Nat → Int) (qg : Nat → Int) (qa : Nat → Int) (x : Int) (much : Int) (less : Int) (ans : Int) (h1 : (-2147483648 ≤ x ∧ x < 2147483648) ∧ (-2147483648 ≤ much ∧ much < 2147483648) ∧ (-2147483648 ≤ less ∧ less < 2147483648) ∧ (-2147483648 ≤ ans ∧ ans < 2147483648)) (h5 : 0 ≤ i 5 ∧ i 5 ≤ 12) (hm_ : ∀ j, j < 12 → 0 ≤ qm j ∧ qm j ≤ 40) : Ct l g yX9_answer wsX9_answer ({ frames := 2, cells := 0, slots := 0, locals := 46 } : Room) [.ref hm, .int (iI x), .int (iI much), .int (iI less), .int (iI ans)] [(hm, .inr (9, mF a i)), ((a 6), aI (g.2.1 0) 12 qm), ((a 7), aI (g.2.1 0) 480 qu), ((a 8), aI (g.2.1 0) 480 ql), ((a 9), aI (g.2.1 0) 480 qg), ((a 10), aI (g.2.1 1) 480 qa)] (q_X9_answer g hm a i qm qu ql qg qa x much less ans) := by
  refine Ct.intro (maxL := 5) (ret := (some .int)) (by decide) rfl (Nat.le_of_ble_eq_true rfl) ?_
  intro p e s m below meth c A ls hx hb hr hml hown hts hlocks hnm hA hG hP hD hS hl
  have hown : s.vm.findClass RX9 = some m.cls := hown
  have hl : lv_has ls 5 [(0, .ref hm), (1, .int (iI x)), (2, .int (iI much)), (3, .int (iI less)), (4, .int (iI ans))] := hl
  have hP : va_P g.1 vwCl [(hm, .inr (9, mF a i)), ((a 6), aI (g.2.1 0) 12 qm), ((a 7), aI (g.2.1 0) 480 qu), ((a 8), aI (g.2.1 0) 480 ql), ((a 9), aI (g.2.1 0) 480 qg), ((a 10), aI (g.2.1 1) 480 qa)] s.heap := hP
  have hS : va_S A s.heap s.heap [] := hS
  obtain ⟨H, hHe⟩ : ∃ H : Heap, H = s.heap := ⟨_, rfl⟩
  obtain ⟨locs, hLe⟩ : ∃ L : List Loc, L = [] := ⟨_, rfl⟩
  have hP : va_P g.1 vwCl [(hm, .inr (9, mF a i)), ((a 6), aI (g.2.1 0) 12 qm), ((a 7), aI (g.2.1 0) 480 qu), ((a 8), aI (g.2.1 0) 480 ql), ((a 9), aI (g.2.1 0) 480 qg), ((a 10), aI (g.2.1 1) 480 qa)] H := by rw [hHe]; exact hP
  have hS : va_S A s.heap H locs := by rw [hHe, hLe]; exact hS
  suffices hgo : W p l e ({ frames := 2, cells := 0, slots := 0, locals := 46 } : Room) s m [.ref hm, .int (iI x), .int (iI much), .int (iI less), .int (iI ans)].toArray below meth c H locs 0 0 (MQ below (CQ g (q_X9_answer g hm a i qm qu ql qg qa x much less ans) A) [.ref hm, .int (iI x), .int (iI much), .int (iI less), .int (iI ans)].toArray s ({ frames := 2, cells := 0, slots := 0, locals := 46 } : Room).cells ({ frames := 2, cells := 0, slots := 0, locals := 46 } : Room).slots A) (F0 m 0 ls []) by rw [hHe, hLe] at hgo; exact hgo
  clear hHe hLe
  refine lv_aload_n hx hb dX9_answer_0 rfl (lv_at hl 0 rfl) ?_
  refine lv_iload_n hx hb dX9_answer_1 rfl (lv_at hl 1 rfl) ?_
  refine Ct.callV (ci := 9) (q0 := 0) (qc := (RX9, TX9, 37)) (As := [.int (iI x)]) (rest := []) (wr := [((a 6), aI (g.2.1 0) 12 qm), ((a 7), aI (g.2.1 0) 480 qu), ((a 8), aI (g.2.1 0) 480 ql), ((a 9), aI (g.2.1 0) 480 qg), ((a 10), aI (g.2.1 1) 480 qa)]) (c1 := 0) (s1 := 0) ⟨hx, hb, hml, hown, hts⟩ (c_X9_isLearner l g hm a i x (by omega)) rfl rfl (cwV 1 hts gX9_answer_X9_isLearner rfl rfl rfl (by decide +kernel) ⟨Nat.le_of_ble_eq_true rfl, Nat.le_of_ble_eq_true rfl⟩) hG hP hD hS hA [0] [1, 2, 3, 4, 5] rfl rfl (by decide) (by decide) (by decide) rfl hl.1 rfl (Nat.le_of_ble_eq_true rfl) dX9_answer_2 ⟨Nat.le_of_ble_eq_true rfl, Nat.le_of_ble_eq_true rfl⟩ rfl rfl (fun v w H locs hv hP hD hS => ?_)
  obtain ⟨⟨rfl, hb1⟩ | ⟨rfl, hb1⟩, rfl⟩ := hv
  · show W p l e _ s m _ below meth c H locs 0 0 _ (F0 m 5 ls (.int (iI 1) :: []))
    have hb1 : 0 ≤ x ∧ x < i 5 := hb1
    have hP : va_P g.1 vwCl [((a 6), aI (g.2.1 0) 12 qm), ((a 7), aI (g.2.1 0) 480 qu), ((a 8), aI (g.2.1 0) 480 ql), ((a 9), aI (g.2.1 0) 480 qg), ((a 10), aI (g.2.1 1) 480 qa), (hm, .inr (9, mF a i))] H := hP
    have hD : va_D A [((a 6), aI (g.2.1 0) 12 qm), ((a 7), aI (g.2.1 0) 480 qu), ((a 8), aI (g.2.1 0) 480 ql), ((a 9), aI (g.2.1 0) 480 qg), ((a 10), aI (g.2.1 1) 480 qa), (hm, .inr (9, mF a i))] := hD
    refine iv_if_eq (tgt := 29) hx hb dX9_answer_5 (by decide) (by decide) (fun h => absurd h (by decide)) (fun _ => ?_)
    refine lv_iload_n hx hb dX9_answer_8 rfl (lv_at hl 2 rfl) ?_
    refine lv_iload_n hx hb dX9_answer_9 rfl (lv_at hl 3 rfl) ?_
    refine Ct.callS (As := [.int (iI much), .int (iI less)]) (rest := []) (wr := [((a 6), aI (g.2.1 0) 12 qm), ((a 7), aI (g.2.1 0) 480 qu), ((a 8), aI (g.2.1 0) 480 ql), ((a 9), aI (g.2.1 0) 480 qg), ((a 10), aI (g.2.1 1) 480 qa), (hm, .inr (9, mF a i))]) (c1 := 0) (s1 := 0) ⟨hx, hb, hml, hown, hts⟩ (c_X9_isTask l g much less (by omega)) (va_cwS 2 hts gX9_answer_X9_isTask rfl rfl rfl (by decide +kernel) ⟨Nat.le_of_ble_eq_true rfl, Nat.le_of_ble_eq_true rfl⟩) hG hP hD hS hA [] [0, 1, 2, 3, 4, 5] rfl rfl (by decide) (by decide) (by decide) rfl hl.1 rfl (Nat.le_of_ble_eq_true rfl) dX9_answer_10 ⟨Nat.le_of_ble_eq_true rfl, Nat.le_of_ble_eq_true rfl⟩ rfl rfl (fun v w H locs hv hP hD hS => ?_)
    obtain ⟨⟨rfl, hb3⟩ | ⟨rfl, hb3⟩, rfl⟩ := hv
    · show W p l e _ s m _ below meth c H locs 0 0 _ (F0 m 13 ls (.int (iI 1) :: []))
      have hb3 : 0 ≤ less ∧ less ≤ much ∧ much ≤ 999 := hb3
      have hP : va_P g.1 vwCl [((a 6), aI (g.2.1 0) 12 qm), ((a 7), aI (g.2.1 0) 480 qu), ((a 8), aI (g.2.1 0) 480 ql), ((a 9), aI (g.2.1 0) 480 qg), ((a 10), aI (g.2.1 1) 480 qa), (hm, .inr (9, mF a i))] H := hP
      have hD : va_D A [((a 6), aI (g.2.1 0) 12 qm), ((a 7), aI (g.2.1 0) 480 qu), ((a 8), aI (g.2.1 0) 480 ql), ((a 9), aI (g.2.1 0) 480 qg), ((a 10), aI (g.2.1 1) 480 qa), (hm, .inr (9, mF a i))] := hD
      refine iv_if_eq (tgt := 29) hx hb dX9_answer_13 (by decide) (by decide) (fun h => absurd h (by decide)) (fun _ => ?_)
      refine lv_iload hx hb dX9_answer_16 (lv_at hl 4 rfl) ?_
      refine iv_i2l hx hb dX9_answer_18 (by omega) ?_
      refine lv_lconst (v := lI (0)) hx hb dX9_answer_19 (by decide) ?_
      refine iv_ldc2 (v := 999) (z := 999) hx hb hown (hts _ (List.mem_of_getElem? (i := 1) rfl)) dX9_answer_20 (by decide) ?_
      refine Ct.callS (As := [.long (lI ans), .long (lI 0), .long (lI 999)]) (rest := []) (wr := [((a 6), aI (g.2.1 0) 12 qm), ((a 7), aI (g.2.1 0) 480 qu), ((a 8), aI (g.2.1 0) 480 ql), ((a 9), aI (g.2.1 0) 480 qg), ((a 10), aI (g.2.1 1) 480 qa), (hm, .inr (9, mF a i))]) (c1 := 0) (s1 := 0) ⟨hx, hb, hml, hown, hts⟩ (c_X9_in l g ans 0 999 (by omega)) (va_cwS 3 hts gX9_answer_X9_in rfl rfl rfl (by decide +kernel) ⟨Nat.le_of_ble_eq_true rfl, Nat.le_of_ble_eq_true rfl⟩) hG hP hD hS hA [] [0, 1, 2, 3, 4, 5] rfl rfl (by decide) (by decide) (by decide) rfl hl.1 rfl (Nat.le_of_ble_eq_true rfl) dX9_answer_23 ⟨Nat.le_of_ble_eq_true rfl, Nat.le_of_ble_eq_true rfl⟩ rfl rfl (fun v w H locs hv hP hD hS => ?_)
      obtain ⟨⟨rfl, hb5⟩ | ⟨rfl, hb5⟩, rfl⟩ := hv
      · show W p l e _ s m _ below meth c H locs 0 0 _ (F0 m 26 ls (.int (iI 1) :: []))
        have hb5 : 0 ≤ ans ∧ ans ≤ 999 := hb5
        have hP : va_P g.1 vwCl [((a 6), aI (g.2.1 0) 12 qm), ((a 7), aI (g.2.1 0) 480 qu), ((a 8), aI (g.2.1 0) 480 ql), ((a 9), aI (g.2.1 0) 480 qg), ((a 10), aI (g.2.1 1) 480 qa), (hm, .inr (9, mF a i))] H := hP
        have hD : va_D A [((a 6), aI (g.2.1 0) 12 qm), ((a 7), aI (g.2.1 0) 480 qu), ((a 8), aI (g.2.1 0) 480 ql), ((a 9), aI (g.2.1 0) 480 qg), ((a 10), aI (g.2.1 1) 480 qa), (hm, .inr (9, mF a i))] := hD
        refine iv_if_ne (tgt := 31) hx hb dX9_answer_26 (by decide) (by decide) (fun _ => ?_) (fun h => absurd h (by decide))
        have hq := hm_ x.toNat (by omega)
        refine lv_aload_n hx hb dX9_answer_31 rfl (lv_at hl 0 rfl) ?_
        refine va_get (D := g.1) (ci := 9) (v := .ref (a 6)) hx hb hts kX9_answer_9 hown hG.1 hP 5 rfl rfl 6 (by decide) (hts _ (List.mem_of_getElem? (i := 2) rfl)) (fun _ h9 => h9) rfl dX9_answer_32 ?_
        refine lv_iload_n hx hb dX9_answer_35 rfl (lv_at hl 1 rfl) ?_
        refine iv_iald hx hb hG hP 0 rfl x.toNat (by omega) (by omega) (by decide) dX9_answer_36 ?_
        refine lv_bipush (v := iI (40)) hx hb dX9_answer_37 (by decide) ?_
        refine iv_icmp_ne (tgt := 45) hx hb dX9_answer_39 (by decide) (by omega) (fun hc7 => ?_) (fun hc7 => ?_)
        · refine lv_aload_n hx hb dX9_answer_45 rfl (lv_at hl 0 rfl) ?_
          refine lv_iload_n hx hb dX9_answer_46 rfl (lv_at hl 1 rfl) ?_
          refine lv_iload_n hx hb dX9_answer_47 rfl (lv_at hl 2 rfl) ?_
          refine lv_iload_n hx hb dX9_answer_48 rfl (lv_at hl 3 rfl) ?_
          refine lv_iload hx hb dX9_answer_49 (lv_at hl 4 rfl) ?_
          refine Ct.callV (ci := 9) (q0 := 5) (qc := (RX9, TX9, 37)) (As := [.int (iI x), .int (iI much), .int (iI less), .int (iI ans)]) (rest := []) (wr := []) (c1 := 0) (s1 := 0) ⟨hx, hb, hml, hown, hts⟩ (c_X9_puts l g hm a i qm qu ql qg qa x much less ans x.toNat ((qm x.toNat).toNat) (by omega)) rfl rfl (cwV 4 hts gX9_answer_X9_puts rfl rfl rfl (by decide +kernel) ⟨Nat.le_of_ble_eq_true rfl, Nat.le_of_ble_eq_true rfl⟩) hG hP hD hS hA [5, 0, 1, 2, 3, 4] [] rfl rfl (by decide) (by decide) (by decide) rfl hl.1 rfl (Nat.le_of_ble_eq_true rfl) dX9_answer_51 ⟨Nat.le_of_ble_eq_true rfl, Nat.le_of_ble_eq_true rfl⟩ rfl rfl (fun v w H locs hv hP hD hS => ?_)
          obtain ⟨rfl, rfl⟩ := hv
          show W p l e _ s m _ below meth c H locs 0 0 _ (F0 m 54 ls [])
          have hP : va_P g.1 vwCl [(hm, .inr (9, mF a i)), ((a 6), aI (g.2.1 0) 12 (va_up qm x.toNat (qm x.toNat + 1))), ((a 7), aI (g.2.1 0) 480 (va_up qu (40 * x.toNat + ((qm x.toNat).toNat)) much)), ((a 8), aI (g.2.1 0) 480 (va_up ql (40 * x.toNat + ((qm x.toNat).toNat)) less)), ((a 9), aI (g.2.1 0) 480 (va_up qg (40 * x.toNat + ((qm x.toNat).toNat)) ans)), ((a 10), aI (g.2.1 1) 480 (va_up qa (40 * x.toNat + ((qm x.toNat).toNat)) 0))] H := hP
          have hD : va_D A [(hm, .inr (9, mF a i)), ((a 6), aI (g.2.1 0) 12 (va_up qm x.toNat (qm x.toNat + 1))), ((a 7), aI (g.2.1 0) 480 (va_up qu (40 * x.toNat + ((qm x.toNat).toNat)) much)), ((a 8), aI (g.2.1 0) 480 (va_up ql (40 * x.toNat + ((qm x.toNat).toNat)) less)), ((a 9), aI (g.2.1 0) 480 (va_up qg (40 * x.toNat + ((qm x.toNat).toNat)) ans)), ((a 10), aI (g.2.1 1) 480 (va_up qa (40 * x.toNat + ((qm x.toNat).toNat)) 0))] := hD
          refine lv_aload_n hx hb dX9_answer_54 rfl (lv_at hl 0 rfl) ?_
          refine va_get (D := g.1) (ci := 9) (v := .ref (a 6)) hx hb hts kX9_answer_9 hown hG.1 hP 0 rfl rfl 6 (by decide) (hts _ (List.mem_of_getElem? (i := 2) rfl)) (fun _ h9 => h9) rfl dX9_answer_55 ?_
          refine lv_iload_n hx hb dX9_answer_58 rfl (lv_at hl 1 rfl) ?_
          refine iv_iald hx hb hG hP 1 rfl x.toNat (by omega) (by omega) (by decide) dX9_answer_59 ?_
          refine iv_as ((qm x.toNat + 1)) (up_s _ _ _) ?_
          refine lv_iconst (v := iI (1)) hx hb dX9_answer_60 rfl ?_
          refine iv_isub hx hb dX9_answer_61 ?_
          exact Ct.iret hx hb hr hlocks (hP.sub [0, 1, 2, 3, 4, 5] rfl) (hD.sub [0, 1, 2, 3, 4, 5] (by decide) rfl) hS ⟨by decide, by decide⟩ dX9_answer_62 ⟨((qm x.toNat + 1) - 1), (va_up qm x.toNat (qm x.toNat + 1)), (va_up qu (40 * x.toNat + ((qm x.toNat).toNat)) much), (va_up ql (40 * x.toNat + ((qm x.toNat).toNat)) less), (va_up qg (40 * x.toNat + ((qm x.toNat).toNat)) ans), (va_up qa (40 * x.toNat + ((qm x.toNat).toNat)) 0), rfl, rfl, (Or.inr ⟨by omega, Or.inr ⟨by omega, by omega, rfl, rfl, rfl, rfl, rfl⟩⟩)⟩
        · refine lv_bipush (v := iI (-3)) hx hb dX9_answer_42 (by decide) ?_
          exact Ct.iret hx hb hr hlocks (hP.sub [5, 0, 1, 2, 3, 4] rfl) (hD.sub [5, 0, 1, 2, 3, 4] (by decide) rfl) hS ⟨by decide, by decide⟩ dX9_answer_44 ⟨(-3), qm, qu, ql, qg, qa, rfl, rfl, (Or.inr ⟨by omega, Or.inl ⟨rfl, by omega, rfl, rfl, rfl, rfl, rfl⟩⟩)⟩
      · show W p l e _ s m _ below meth c H locs 0 0 _ (F0 m 26 ls (.int (iI 0) :: []))
        have hb5 : ¬ (0 ≤ ans ∧ ans ≤ 999) := hb5
        have hP : va_P g.1 vwCl [((a 6), aI (g.2.1 0) 12 qm), ((a 7), aI (g.2.1 0) 480 qu), ((a 8), aI (g.2.1 0) 480 ql), ((a 9), aI (g.2.1 0) 480 qg), ((a 10), aI (g.2.1 1) 480 qa), (hm, .inr (9, mF a i))] H := hP
        have hD : va_D A [((a 6), aI (g.2.1 0) 12 qm), ((a 7), aI (g.2.1 0) 480 qu), ((a 8), aI (g.2.1 0) 480 ql), ((a 9), aI (g.2.1 0) 480 qg), ((a 10), aI (g.2.1 1) 480 qa), (hm, .inr (9, mF a i))] := hD
        refine iv_if_ne (tgt := 31) hx hb dX9_answer_26 (by decide) (by decide) (fun h => absurd h (by decide)) (fun _ => ?_)
        refine lv_iconst (v := iI (-1)) hx hb dX9_answer_29 rfl ?_
        exact Ct.iret hx hb hr hlocks (hP.sub [5, 0, 1, 2, 3, 4] rfl) (hD.sub [5, 0, 1, 2, 3, 4] (by decide) rfl) hS ⟨by decide, by decide⟩ dX9_answer_30 ⟨(-1), qm, qu, ql, qg, qa, rfl, rfl, (Or.inl ⟨rfl, by omega, rfl, rfl, rfl, rfl, rfl⟩)⟩
    · show W p l e _ s m _ below meth c H locs 0 0 _ (F0 m 13 ls (.int (iI 0) :: []))
      have hb3 : ¬ (0 ≤ less ∧ less ≤ much ∧ much ≤ 999) := hb3
      have hP : va_P g.1 vwCl [((a 6), aI (g.2.1 0) 12 qm), ((a 7), aI (g.2.1 0) 480 qu), ((a 8), aI (g.2.1 0) 480 ql), ((a 9), aI (g.2.1 0) 480 qg), ((a 10), aI (g.2.1 1) 480 qa), (hm, .inr (9, mF a i))] H := hP
      have hD : va_D A [((a 6), aI (g.2.1 0) 12 qm), ((a 7), aI (g.2.1 0) 480 qu), ((a 8), aI (g.2.1 0) 480 ql), ((a 9), aI (g.2.1 0) 480 qg), ((a 10), aI (g.2.1 1) 480 qa), (hm, .inr (9, mF a i))] := hD
      refine iv_if_eq (tgt := 29) hx hb dX9_answer_13 (by decide) (by decide) (fun _ => ?_) (fun h => absurd h (by decide))
      refine lv_iconst (v := iI (-1)) hx hb dX9_answer_29 rfl ?_
      exact Ct.iret hx hb hr hlocks (hP.sub [5, 0, 1, 2, 3, 4] rfl) (hD.sub [5, 0, 1, 2, 3, 4] (by decide) rfl) hS ⟨by decide, by decide⟩ dX9_answer_30 ⟨(-1), qm, qu, ql, qg, qa, rfl, rfl, (Or.inl ⟨rfl, by omega, rfl, rfl, rfl, rfl, rfl⟩)⟩
  · show W p l e _ s m _ below meth c H locs 0 0 _ (F0 m 5 ls (.int (iI 0) :: []))
    have hb1 : ¬ (0 ≤ x ∧ x < i 5) := hb1
    have hP : va_P g.1 vwCl [((a 6), aI (g.2.1 0) 12 qm), ((a 7), aI (g.2.1 0) 480 qu), ((a 8), aI (g.2.1 0) 480 ql), ((a 9), aI (g.2.1 0) 480 qg), ((a 10), aI (g.2.1 1) 480 qa), (hm, .inr (9, mF a i))] H := hP
    have hD : va_D A [((a 6), aI (g.2.1 0) 12 qm), ((a 7), aI (g.2.1 0) 480 qu), ((a 8), aI (g.2.1 0) 480 ql), ((a 9), aI (g.2.1 0) 480 qg), ((a 10), aI (g.2.1 1) 480 qa), (hm, .inr (9, mF a i))] := hD
    refine iv_if_eq (tgt := 29) hx hb dX9_answer_5 (by decide) (by decide) (fun _ => ?_) (fun h => absurd h (by decide))
    refine lv_iconst (v := iI (-1)) hx hb dX9_answer_29 rfl ?_
    exact Ct.iret hx hb hr hlocks (hP.sub [5, 0, 1, 2, 3, 4] rfl) (hD.sub [5, 0, 1, 2, 3, 4] (by decide) rfl) hS ⟨by decide, by decide⟩ dX9_answer_30 ⟨(-1), qm, qu, ql, qg, qa, rfl, rfl, (Or.inl ⟨rfl, by omega, rfl, rfl, rfl, rfl, rfl⟩)⟩
theorem kX9_aside_9 : ∀ w ∈ u_ws RX9 TX9 37, w ∈ wsX9_aside := fun _ h => List.mem_cons_of_mem _ (List.mem_append_right _ h)
abbrev q_X9_aside (g : GT) (hm : Nat) (a : Nat → Nat) (i : Nat → Int) (qm : Nat → Int) (qa : Nat → Int) (x : Int) (az : Int) (aw : Int) : Option Value → va_W → Prop := fun v w => ∃ (r : Int), ∃ (qa' : Nat → Int), v = some (.int (iI r)) ∧ w = [(hm, .inr (9, mF a i)), ((a 6), aI (g.2.1 0) 12 qm), ((a 10), aI (g.2.1 1) 480 qa')] ∧ ((r = -1 ∧ ¬ ((0 ≤ x ∧ x < i 5) ∧ 0 ≤ az ∧ az < qm x.toNat) ∧ qa' = qa) ∨ (((0 ≤ x ∧ x < i 5) ∧ 0 ≤ az ∧ az < qm x.toNat) ∧ r = qa (40 * x.toNat + az.toNat) ∧ qa' = va_up qa (40 * x.toNat + az.toNat) aw))
set_option maxHeartbeats 4000000 in
set_option maxRecDepth 100000 in
theorem c_X9_aside (l : Launch) (g : GT) (hm : Nat) (a : Nat → Nat) (i : Nat → Int) (qm : Nat → Int) (qa : Nat → Int) (x : Int) (az : Int) (aw : Int) (h1 : (-2147483648 ≤ x ∧ x < 2147483648) ∧ (-2147483648 ≤ az ∧ az < 2147483648) ∧ (aw = 0 ∨ aw = 1)) (h5 : 0 ≤ i 5 ∧ i 5 ≤ 12) (hm_ : ∀ j, j < 12 → 0 ≤ qm j ∧ qm j ≤ 40) (h2 : ∀ k, k < 480 → vdP qm (i 5) k → qa k = 0 ∨ qa k = 1) : Ct l g yX9_aside wsX9_aside ({ frames := 2, cells := 0, slots := 0, locals := 46 } : Room) [.ref hm, .int (iI x), .int (iI az), .int (iI aw)] [(hm, .inr (9, mF a i)), ((a 6), aI (g.2.1 0) 12 qm), ((a 10), aI (g.2.1 1) 480 qa)] (q_X9_aside g hm a i qm qa x az aw) := by
  refine Ct.intro (maxL := 5) (ret := (some .int)) (by decide) rfl (Nat.le_of_ble_eq_true rfl) ?_
  intro p e s m below meth c A ls hx hb hr hml hown hts hlocks hnm hA hG hP hD hS hl
  have hown : s.vm.findClass RX9 = some m.cls := hown
  have hl : lv_has ls 5 [(0, .ref hm), (1, .int (iI x)), (2, .int (iI az)), (3, .int (iI aw))] := hl
  have hP : va_P g.1 vwCl [(hm, .inr (9, mF a i)), ((a 6), aI (g.2.1 0) 12 qm), ((a 10), aI (g.2.1 1) 480 qa)] s.heap := hP
  have hS : va_S A s.heap s.heap [] := hS
  obtain ⟨H, hHe⟩ : ∃ H : Heap, H = s.heap := ⟨_, rfl⟩
  obtain ⟨locs, hLe⟩ : ∃ L : List Loc, L = [] := ⟨_, rfl⟩
  have hP : va_P g.1 vwCl [(hm, .inr (9, mF a i)), ((a 6), aI (g.2.1 0) 12 qm), ((a 10), aI (g.2.1 1) 480 qa)] H := by rw [hHe]; exact hP
  have hS : va_S A s.heap H locs := by rw [hHe, hLe]; exact hS
  suffices hgo : W p l e ({ frames := 2, cells := 0, slots := 0, locals := 46 } : Room) s m [.ref hm, .int (iI x), .int (iI az), .int (iI aw)].toArray below meth c H locs 0 0 (MQ below (CQ g (q_X9_aside g hm a i qm qa x az aw) A) [.ref hm, .int (iI x), .int (iI az), .int (iI aw)].toArray s ({ frames := 2, cells := 0, slots := 0, locals := 46 } : Room).cells ({ frames := 2, cells := 0, slots := 0, locals := 46 } : Room).slots A) (F0 m 0 ls []) by rw [hHe, hLe] at hgo; exact hgo
  clear hHe hLe
  refine lv_aload_n hx hb dX9_aside_0 rfl (lv_at hl 0 rfl) ?_
  refine lv_iload_n hx hb dX9_aside_1 rfl (lv_at hl 1 rfl) ?_
  refine Ct.callV (ci := 9) (q0 := 0) (qc := (RX9, TX9, 37)) (As := [.int (iI x)]) (rest := []) (wr := [((a 6), aI (g.2.1 0) 12 qm), ((a 10), aI (g.2.1 1) 480 qa)]) (c1 := 0) (s1 := 0) ⟨hx, hb, hml, hown, hts⟩ (c_X9_isLearner l g hm a i x (by omega)) rfl rfl (cwV 1 hts gX9_aside_X9_isLearner rfl rfl rfl (by decide +kernel) ⟨Nat.le_of_ble_eq_true rfl, Nat.le_of_ble_eq_true rfl⟩) hG hP hD hS hA [0] [1, 2] rfl rfl (by decide) (by decide) (by decide) rfl hl.1 rfl (Nat.le_of_ble_eq_true rfl) dX9_aside_2 ⟨Nat.le_of_ble_eq_true rfl, Nat.le_of_ble_eq_true rfl⟩ rfl rfl (fun v w H locs hv hP hD hS => ?_)
  obtain ⟨⟨rfl, hb1⟩ | ⟨rfl, hb1⟩, rfl⟩ := hv
  · show W p l e _ s m _ below meth c H locs 0 0 _ (F0 m 5 ls (.int (iI 1) :: []))
    have hb1 : 0 ≤ x ∧ x < i 5 := hb1
    have hP : va_P g.1 vwCl [((a 6), aI (g.2.1 0) 12 qm), ((a 10), aI (g.2.1 1) 480 qa), (hm, .inr (9, mF a i))] H := hP
    have hD : va_D A [((a 6), aI (g.2.1 0) 12 qm), ((a 10), aI (g.2.1 1) 480 qa), (hm, .inr (9, mF a i))] := hD
    refine iv_if_eq (tgt := 26) hx hb dX9_aside_5 (by decide) (by decide) (fun h => absurd h (by decide)) (fun _ => ?_)
    have hq := hm_ x.toNat (by omega)
    refine lv_iload_n hx hb dX9_aside_8 rfl (lv_at hl 2 rfl) ?_
    refine iv_i2l hx hb dX9_aside_9 (by omega) ?_
    refine lv_lconst (v := lI (0)) hx hb dX9_aside_10 (by decide) ?_
    refine lv_aload_n hx hb dX9_aside_11 rfl (lv_at hl 0 rfl) ?_
    refine va_get (D := g.1) (ci := 9) (v := .ref (a 6)) hx hb hts kX9_aside_9 hown hG.1 hP 2 rfl rfl 6 (by decide) (hts _ (List.mem_of_getElem? (i := 1) rfl)) (fun _ h9 => h9) rfl dX9_aside_12 ?_
    refine lv_iload_n hx hb dX9_aside_15 rfl (lv_at hl 1 rfl) ?_
    refine iv_iald hx hb hG hP 0 rfl x.toNat (by omega) (by omega) (by decide) dX9_aside_16 ?_
    refine lv_iconst (v := iI (1)) hx hb dX9_aside_17 rfl ?_
    refine iv_isub hx hb dX9_aside_18 ?_
    refine iv_i2l hx hb dX9_aside_19 (by omega) ?_
    refine Ct.callS (As := [.long (lI az), .long (lI 0), .long (lI ((qm x.toNat) - 1))]) (rest := []) (wr := [((a 6), aI (g.2.1 0) 12 qm), ((a 10), aI (g.2.1 1) 480 qa), (hm, .inr (9, mF a i))]) (c1 := 0) (s1 := 0) ⟨hx, hb, hml, hown, hts⟩ (c_X9_in l g az 0 ((qm x.toNat) - 1) (by omega)) (va_cwS 3 hts gX9_aside_X9_in rfl rfl rfl (by decide +kernel) ⟨Nat.le_of_ble_eq_true rfl, Nat.le_of_ble_eq_true rfl⟩) hG hP hD hS hA [] [0, 1, 2] rfl rfl (by decide) (by decide) (by decide) rfl hl.1 rfl (Nat.le_of_ble_eq_true rfl) dX9_aside_20 ⟨Nat.le_of_ble_eq_true rfl, Nat.le_of_ble_eq_true rfl⟩ rfl rfl (fun v w H locs hv hP hD hS => ?_)
    obtain ⟨⟨rfl, hb3⟩ | ⟨rfl, hb3⟩, rfl⟩ := hv
    · show W p l e _ s m _ below meth c H locs 0 0 _ (F0 m 23 ls (.int (iI 1) :: []))
      have hb3 : 0 ≤ az ∧ az ≤ ((qm x.toNat) - 1) := hb3
      have hP : va_P g.1 vwCl [((a 6), aI (g.2.1 0) 12 qm), ((a 10), aI (g.2.1 1) 480 qa), (hm, .inr (9, mF a i))] H := hP
      have hD : va_D A [((a 6), aI (g.2.1 0) 12 qm), ((a 10), aI (g.2.1 1) 480 qa), (hm, .inr (9, mF a i))] := hD
      refine iv_if_ne (tgt := 28) hx hb dX9_aside_23 (by decide) (by decide) (fun _ => ?_) (fun h => absurd h (by decide))
      have hqa := h2 (40 * x.toNat + az.toNat) (by omega) (vd_at (by omega) (by omega) (by omega))
      refine lv_aload_n hx hb dX9_aside_28 rfl (lv_at hl 0 rfl) ?_
      refine va_get (D := g.1) (ci := 9) (v := .ref (a 10)) hx hb hts kX9_aside_9 hown hG.1 hP 2 rfl rfl 10 (by decide) (hts _ (List.mem_of_getElem? (i := 2) rfl)) (fun _ h9 => h9) rfl dX9_aside_29 ?_
      refine lv_bipush (v := iI (40)) hx hb dX9_aside_32 (by decide) ?_
      refine lv_iload_n hx hb dX9_aside_34 rfl (lv_at hl 1 rfl) ?_
      refine iv_imul hx hb dX9_aside_35 ?_
      refine lv_iload_n hx hb dX9_aside_36 rfl (lv_at hl 2 rfl) ?_
      refine iv_iadd hx hb dX9_aside_37 ?_
      refine iv_zald hx hb hG hP 1 rfl (40 * x.toNat + az.toNat) (by omega) (by omega) (by decide) dX9_aside_38 ?_
      refine lv_istore (lv' := [(4, .int (iI (qa (40 * x.toNat + az.toNat)))), (0, .ref hm), (1, .int (iI x)), (2, .int (iI az)), (3, .int (iI aw))]) hx hb dX9_aside_39 hl (by decide) rfl (fun ls hl => ?_)
      refine lv_aload_n hx hb dX9_aside_41 rfl (lv_at hl 1 rfl) ?_
      refine va_get (D := g.1) (ci := 9) (v := .ref (a 10)) hx hb hts kX9_aside_9 hown hG.1 hP 2 rfl rfl 10 (by decide) (hts _ (List.mem_of_getElem? (i := 2) rfl)) (fun _ h9 => h9) rfl dX9_aside_42 ?_
      refine lv_bipush (v := iI (40)) hx hb dX9_aside_45 (by decide) ?_
      refine lv_iload_n hx hb dX9_aside_47 rfl (lv_at hl 2 rfl) ?_
      refine iv_imul hx hb dX9_aside_48 ?_
      refine lv_iload_n hx hb dX9_aside_49 rfl (lv_at hl 3 rfl) ?_
      refine iv_iadd hx hb dX9_aside_50 ?_
      refine lv_iload_n hx hb dX9_aside_51 rfl (lv_at hl 4 rfl) ?_
      refine iv_zast hx hb hG hP hD hS 1 rfl (40 * x.toNat + az.toNat) (by omega) (by omega) (by decide) (by omega) dX9_aside_52 (fun H locs hP hD hS => ?_)
      have hP : va_P g.1 vwCl [((a 6), aI (g.2.1 0) 12 qm), ((a 10), aI (g.2.1 1) 480 (va_up qa (40 * x.toNat + az.toNat) aw)), (hm, .inr (9, mF a i))] H := hP
      have hD : va_D A [((a 6), aI (g.2.1 0) 12 qm), ((a 10), aI (g.2.1 1) 480 (va_up qa (40 * x.toNat + az.toNat) aw)), (hm, .inr (9, mF a i))] := hD
      refine lv_iload hx hb dX9_aside_53 (lv_at hl 0 rfl) ?_
      refine iv_if_eq (tgt := 62) hx hb dX9_aside_55 (by decide) (by omega) (fun hc5 => ?_) (fun hc5 => ?_)
      · refine lv_iconst (v := iI (0)) hx hb dX9_aside_62 rfl ?_
        exact Ct.iret hx hb hr hlocks (hP.sub [2, 0, 1] rfl) (hD.sub [2, 0, 1] (by decide) rfl) hS ⟨by decide, by decide⟩ dX9_aside_63 ⟨0, (va_up qa (40 * x.toNat + az.toNat) aw), rfl, rfl, (Or.inr ⟨by omega, by omega, rfl⟩)⟩
      · refine lv_iconst (v := iI (1)) hx hb dX9_aside_58 rfl ?_
        refine lv_goto (tgt := 63) hx hb dX9_aside_59 (by decide) ?_
        exact Ct.iret hx hb hr hlocks (hP.sub [2, 0, 1] rfl) (hD.sub [2, 0, 1] (by decide) rfl) hS ⟨by decide, by decide⟩ dX9_aside_63 ⟨1, (va_up qa (40 * x.toNat + az.toNat) aw), rfl, rfl, (Or.inr ⟨by omega, by omega, rfl⟩)⟩
    · show W p l e _ s m _ below meth c H locs 0 0 _ (F0 m 23 ls (.int (iI 0) :: []))
      have hb3 : ¬ (0 ≤ az ∧ az ≤ ((qm x.toNat) - 1)) := hb3
      have hP : va_P g.1 vwCl [((a 6), aI (g.2.1 0) 12 qm), ((a 10), aI (g.2.1 1) 480 qa), (hm, .inr (9, mF a i))] H := hP
      have hD : va_D A [((a 6), aI (g.2.1 0) 12 qm), ((a 10), aI (g.2.1 1) 480 qa), (hm, .inr (9, mF a i))] := hD
      refine iv_if_ne (tgt := 28) hx hb dX9_aside_23 (by decide) (by decide) (fun h => absurd h (by decide)) (fun _ => ?_)
      refine lv_iconst (v := iI (-1)) hx hb dX9_aside_26 rfl ?_
      exact Ct.iret hx hb hr hlocks (hP.sub [2, 0, 1] rfl) (hD.sub [2, 0, 1] (by decide) rfl) hS ⟨by decide, by decide⟩ dX9_aside_27 ⟨(-1), qa, rfl, rfl, (Or.inl ⟨rfl, by omega, rfl⟩)⟩
  · show W p l e _ s m _ below meth c H locs 0 0 _ (F0 m 5 ls (.int (iI 0) :: []))
    have hb1 : ¬ (0 ≤ x ∧ x < i 5) := hb1
    have hP : va_P g.1 vwCl [((a 6), aI (g.2.1 0) 12 qm), ((a 10), aI (g.2.1 1) 480 qa), (hm, .inr (9, mF a i))] H := hP
    have hD : va_D A [((a 6), aI (g.2.1 0) 12 qm), ((a 10), aI (g.2.1 1) 480 qa), (hm, .inr (9, mF a i))] := hD
    refine iv_if_eq (tgt := 26) hx hb dX9_aside_5 (by decide) (by decide) (fun _ => ?_) (fun h => absurd h (by decide))
    refine lv_iconst (v := iI (-1)) hx hb dX9_aside_26 rfl ?_
    exact Ct.iret hx hb hr hlocks (hP.sub [2, 0, 1] rfl) (hD.sub [2, 0, 1] (by decide) rfl) hS ⟨by decide, by decide⟩ dX9_aside_27 ⟨(-1), qa, rfl, rfl, (Or.inl ⟨rfl, by omega, rfl⟩)⟩
