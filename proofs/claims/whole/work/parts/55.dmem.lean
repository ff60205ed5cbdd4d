theorem kX8_learnerAt_8 : ∀ w ∈ u_ws RX8 TX8 13, w ∈ wsX8_learnerAt := fun _ h => List.mem_cons_of_mem _ (List.mem_append_right _ h)
abbrev q_X8_learnerAt (g : GT) (hd : Nat) (d : Nat → Nat) (i : Nat → Int) (fle : Nat → Option Nat) (x : Int) (k : Nat) (y : Nat) : Option Value → va_W → Prop := fun v w => v = some (.ref y) ∧ w = [(hd, .inr (8, dF d i)), ((d 3), aQ (g.2.1 3) 12 fle)]
set_option maxHeartbeats 4000000 in
set_option maxRecDepth 100000 in
theorem c_X8_learnerAt (l : Launch) (g : GT) (hd : Nat) (d : Nat → Nat) (i : Nat → Int) (fle : Nat → Option Nat) (x : Int) (k : Nat) (y : Nat) (h1 : x = (k : Int) ∧ x < i 4 ∧ i 4 ≤ 12) (h2 : fle k = some y) : Ct l g yX8_learnerAt wsX8_learnerAt ({ frames := 1, cells := 0, slots := 0, locals := 22 } : Room) [.ref hd, .int (iI x)] [(hd, .inr (8, dF d i)), ((d 3), aQ (g.2.1 3) 12 fle)] (q_X8_learnerAt g hd d i fle x k y) := by
  refine Ct.intro (maxL := 2) (ret := (some (.object "LessonDesk$Learner"))) (by decide) rfl (Nat.le_of_ble_eq_true rfl) ?_
  intro p e s m below meth c A ls hx hb hr hml hown hts hlocks hnm hA hG hP hD hS hl
  have hown : s.vm.findClass RX8 = some m.cls := hown
  have hl : lv_has ls 2 [(0, .ref hd), (1, .int (iI x))] := hl
  have hP : va_P g.1 vwCl [(hd, .inr (8, dF d i)), ((d 3), aQ (g.2.1 3) 12 fle)] s.heap := hP
  have hS : va_S A s.heap s.heap [] := hS
  obtain ⟨H, hHe⟩ : ∃ H : Heap, H = s.heap := ⟨_, rfl⟩
  obtain ⟨locs, hLe⟩ : ∃ L : List Loc, L = [] := ⟨_, rfl⟩
  have hP : va_P g.1 vwCl [(hd, .inr (8, dF d i)), ((d 3), aQ (g.2.1 3) 12 fle)] H := by rw [hHe]; exact hP
  have hS : va_S A s.heap H locs := by rw [hHe, hLe]; exact hS
  suffices hgo : W p l e ({ frames := 1, cells := 0, slots := 0, locals := 22 } : Room) s m [.ref hd, .int (iI x)].toArray below meth c H locs 0 0 (MQ below (CQ g (q_X8_learnerAt g hd d i fle x k y) A) [.ref hd, .int (iI x)].toArray s ({ frames := 1, cells := 0, slots := 0, locals := 22 } : Room).cells ({ frames := 1, cells := 0, slots := 0, locals := 22 } : Room).slots A) (F0 m 0 ls []) by rw [hHe, hLe] at hgo; exact hgo
  clear hHe hLe
  refine lv_iload_n hx hb dX8_learnerAt_0 rfl (lv_at hl 1 rfl) ?_
  refine lv_iconst (v := iI (0)) hx hb dX8_learnerAt_1 rfl ?_
  refine lv_aload_n hx hb dX8_learnerAt_2 rfl (lv_at hl 0 rfl) ?_
  refine va_get (D := g.1) (ci := 8) (v := .int (iI (i 4))) hx hb hts kX8_learnerAt_8 hown hG.1 hP 0 rfl rfl 4 (by decide) (hts _ (List.mem_of_getElem? (i := 1) rfl)) (fun _ h9 => h9) rfl dX8_learnerAt_3 ?_
  refine lv_iconst (v := iI (1)) hx hb dX8_learnerAt_6 rfl ?_
  refine iv_isub hx hb dX8_learnerAt_7 ?_
  refine Ct.callS (As := [.int (iI x), .int (iI 0), .int (iI ((i 4) - 1))]) (rest := []) (wr := [(hd, .inr (8, dF d i)), ((d 3), aQ (g.2.1 3) 12 fle)]) (c1 := 0) (s1 := 0) ⟨hx, hb, hml, hown, hts⟩ (c_X8_within l g x 0 ((i 4) - 1) (by omega)) (va_cwS 3 hts gX8_learnerAt_X8_within rfl rfl rfl (by decide +kernel) ⟨Nat.le_of_ble_eq_true rfl, Nat.le_of_ble_eq_true rfl⟩) hG hP hD hS hA [] [0, 1] rfl rfl (by decide) (by decide) (by decide) rfl hl.1 rfl (Nat.le_of_ble_eq_true rfl) dX8_learnerAt_8 ⟨Nat.le_of_ble_eq_true rfl, Nat.le_of_ble_eq_true rfl⟩ rfl rfl (fun v w H locs hv hP hD hS => ?_)
  obtain ⟨⟨rfl, hb1⟩ | ⟨rfl, hb1⟩, rfl⟩ := hv
  · show W p l e _ s m _ below meth c H locs 0 0 _ (F0 m 11 ls (.int (iI 1) :: []))
    have hb1 : 0 ≤ x ∧ x ≤ ((i 4) - 1) := hb1
    have hP : va_P g.1 vwCl [(hd, .inr (8, dF d i)), ((d 3), aQ (g.2.1 3) 12 fle)] H := hP
    have hD : va_D A [(hd, .inr (8, dF d i)), ((d 3), aQ (g.2.1 3) 12 fle)] := hD
    refine iv_if_eq (tgt := 23) hx hb dX8_learnerAt_11 (by decide) (by decide) (fun h => absurd h (by decide)) (fun _ => ?_)
    refine lv_aload_n hx hb dX8_learnerAt_14 rfl (lv_at hl 0 rfl) ?_
    refine va_get (D := g.1) (ci := 8) (v := .ref (d 3)) hx hb hts kX8_learnerAt_8 hown hG.1 hP 0 rfl rfl 3 (by decide) (hts _ (List.mem_of_getElem? (i := 2) rfl)) (fun _ h9 => h9) rfl dX8_learnerAt_15 ?_
    refine lv_iload_n hx hb dX8_learnerAt_18 rfl (lv_at hl 1 rfl) ?_
    refine iv_aald hx hb hG hP 1 3 rfl rfl k (by omega) (by omega) (by decide) dX8_learnerAt_19 ?_
    rw [show fle k = some y from h2]
    show W p l e _ s m _ below meth c _ _ _ _ _ (F0 m _ _ (.ref y :: _))
    refine lv_goto (tgt := 24) hx hb dX8_learnerAt_20 (by decide) ?_
    exact Ct.aret hx hb hr hlocks (hP.sub [0, 1] rfl) (hD.sub [0, 1] (by decide) rfl) hS ⟨by decide, by decide⟩ dX8_learnerAt_24 (Or.inr ⟨_, rfl⟩) ⟨rfl, rfl⟩
  · show W p l e _ s m _ below meth c H locs 0 0 _ (F0 m 11 ls (.int (iI 0) :: []))
    have hb1 : ¬ (0 ≤ x ∧ x ≤ ((i 4) - 1)) := hb1
    have hP : va_P g.1 vwCl [(hd, .inr (8, dF d i)), ((d 3), aQ (g.2.1 3) 12 fle)] H := hP
    have hD : va_D A [(hd, .inr (8, dF d i)), ((d 3), aQ (g.2.1 3) 12 fle)] := hD
    exact absurd hb1 (by omega)
abbrev q_X8_learnerAtB (g : GT) (hd : Nat) (d : Nat → Nat) (i : Nat → Int) (fle : Nat → Option Nat) (x : Int) : Option Value → va_W → Prop := fun v w => v = some .null ∧ w = [(hd, .inr (8, dF d i)), ((d 3), aQ (g.2.1 3) 12 fle)]
set_option maxHeartbeats 4000000 in
set_option maxRecDepth 100000 in
theorem c_X8_learnerAtB (l : Launch) (g : GT) (hd : Nat) (d : Nat → Nat) (i : Nat → Int) (fle : Nat → Option Nat) (x : Int) (h1 : ¬ (0 ≤ x ∧ x < i 4) ∧ 0 ≤ i 4 ∧ i 4 ≤ 12 ∧ (-2147483648 ≤ x ∧ x < 2147483648)) : Ct l g yX8_learnerAt wsX8_learnerAt ({ frames := 1, cells := 0, slots := 0, locals := 22 } : Room) [.ref hd, .int (iI x)] [(hd, .inr (8, dF d i)), ((d 3), aQ (g.2.1 3) 12 fle)] (q_X8_learnerAtB g hd d i fle x) := by
  refine Ct.intro (maxL := 2) (ret := (some (.object "LessonDesk$Learner"))) (by decide) rfl (Nat.le_of_ble_eq_true rfl) ?_
  intro p e s m below meth c A ls hx hb hr hml hown hts hlocks hnm hA hG hP hD hS hl
  have hown : s.vm.findClass RX8 = some m.cls := hown
  have hl : lv_has ls 2 [(0, .ref hd), (1, .int (iI x))] := hl
  have hP : va_P g.1 vwCl [(hd, .inr (8, dF d i)), ((d 3), aQ (g.2.1 3) 12 fle)] s.heap := hP
  have hS : va_S A s.heap s.heap [] := hS
  obtain ⟨H, hHe⟩ : ∃ H : Heap, H = s.heap := ⟨_, rfl⟩
  obtain ⟨locs, hLe⟩ : ∃ L : List Loc, L = [] := ⟨_, rfl⟩
  have hP : va_P g.1 vwCl [(hd, .inr (8, dF d i)), ((d 3), aQ (g.2.1 3) 12 fle)] H := by rw [hHe]; exact hP
  have hS : va_S A s.heap H locs := by rw [hHe, hLe]; exact hS
  suffices hgo : W p l e ({ frames := 1, cells := 0, slots := 0, locals := 22 } : Room) s m [.ref hd, .int (iI x)].toArray below meth c H locs 0 0 (MQ below (CQ g (q_X8_learnerAtB g hd d i fle x) A) [.ref hd, .int (iI x)].toArray s ({ frames := 1, cells := 0, slots := 0, locals := 22 } : Room).cells ({ frames := 1, cells := 0, slots := 0, locals := 22 } : Room).slots A) (F0 m 0 ls []) by rw [hHe, hLe] at hgo; exact hgo
  clear hHe hLe
  refine lv_iload_n hx hb dX8_learnerAt_0 rfl (lv_at hl 1 rfl) ?_
  refine lv_iconst (v := iI (0)) hx hb dX8_learnerAt_1 rfl ?_
  refine lv_aload_n hx hb dX8_learnerAt_2 rfl (lv_at hl 0 rfl) ?_
  refine va_get (D := g.1) (ci := 8) (v := .int (iI (i 4))) hx hb hts kX8_learnerAt_8 hown hG.1 hP 0 rfl rfl 4 (by decide) (hts _ (List.mem_of_getElem? (i := 1) rfl)) (fun _ h9 => h9) rfl dX8_learnerAt_3 ?_
  refine lv_iconst (v := iI (1)) hx hb dX8_learnerAt_6 rfl ?_
  refine iv_isub hx hb dX8_learnerAt_7 ?_
  refine Ct.callS (As := [.int (iI x), .int (iI 0), .int (iI ((i 4) - 1))]) (rest := []) (wr := [(hd, .inr (8, dF d i)), ((d 3), aQ (g.2.1 3) 12 fle)]) (c1 := 0) (s1 := 0) ⟨hx, hb, hml, hown, hts⟩ (c_X8_within l g x 0 ((i 4) - 1) (by omega)) (va_cwS 3 hts gX8_learnerAt_X8_within rfl rfl rfl (by decide +kernel) ⟨Nat.le_of_ble_eq_true rfl, Nat.le_of_ble_eq_true rfl⟩) hG hP hD hS hA [] [0, 1] rfl rfl (by decide) (by decide) (by decide) rfl hl.1 rfl (Nat.le_of_ble_eq_true rfl) dX8_learnerAt_8 ⟨Nat.le_of_ble_eq_true rfl, Nat.le_of_ble_eq_true rfl⟩ rfl rfl (fun v w H locs hv hP hD hS => ?_)
  obtain ⟨⟨rfl, hb1⟩ | ⟨rfl, hb1⟩, rfl⟩ := hv
  · show W p l e _ s m _ below meth c H locs 0 0 _ (F0 m 11 ls (.int (iI 1) :: []))
    have hb1 : 0 ≤ x ∧ x ≤ ((i 4) - 1) := hb1
    have hP : va_P g.1 vwCl [(hd, .inr (8, dF d i)), ((d 3), aQ (g.2.1 3) 12 fle)] H := hP
    have hD : va_D A [(hd, .inr (8, dF d i)), ((d 3), aQ (g.2.1 3) 12 fle)] := hD
    exact absurd hb1 (by omega)
  · show W p l e _ s m _ below meth c H locs 0 0 _ (F0 m 11 ls (.int (iI 0) :: []))
    have hb1 : ¬ (0 ≤ x ∧ x ≤ ((i 4) - 1)) := hb1
    have hP : va_P g.1 vwCl [(hd, .inr (8, dF d i)), ((d 3), aQ (g.2.1 3) 12 fle)] H := hP
    have hD : va_D A [(hd, .inr (8, dF d i)), ((d 3), aQ (g.2.1 3) 12 fle)] := hD
    refine iv_if_eq (tgt := 23) hx hb dX8_learnerAt_11 (by decide) (by decide) (fun _ => ?_) (fun h => absurd h (by decide))
    refine lv_null hx hb dX8_learnerAt_23 ?_
    exact Ct.aret hx hb hr hlocks (hP.sub [0, 1] rfl) (hD.sub [0, 1] (by decide) rfl) hS ⟨by decide, by decide⟩ dX8_learnerAt_24 (Or.inl rfl) ⟨rfl, rfl⟩
theorem kX8_exercise_1 : ∀ w ∈ u_ws RX1 TX1 7, w ∈ wsX8_exercise := fun _ h => List.mem_cons_of_mem _ (List.mem_append_left _ (List.mem_append_left _ (List.mem_append_right _ h)))
theorem kX8_exercise_2 : ∀ w ∈ u_ws RX2 TX2 3, w ∈ wsX8_exercise := fun _ h => List.mem_cons_of_mem _ (List.mem_append_left _ (List.mem_append_right _ h))
theorem kX8_exercise_8 : ∀ w ∈ u_ws RX8 TX8 13, w ∈ wsX8_exercise := fun _ h => List.mem_cons_of_mem _ (List.mem_append_left _ (List.mem_append_left _ (List.mem_append_left _ (List.mem_append_right _ h))))
abbrev q_X8_exercise (g : GT) (hd : Nat) (d : Nat → Nat) (i : Nat → Int) (fle : Nat → Option Nat) (y : Nat) (mn : Int) (cn : Int) (cs : Nat) (as_ : Nat) (sr : Nat) (hi : Nat) (me : Nat) (al : Nat) (ak : Nat) (ah : Nat) (lt : Nat → Int) (kn : Nat → Int) (hf : Nat → Int) (ch : Nat) (cg_ : Nat) (cl : Nat) (fh : Nat → Int) (fg : Nat → Int) (fl : Nat → Int) (k : Nat) (x : Int) (sk : Int) (day : Int) (rt : Int) : Option Value → va_W → Prop := fun v w => ∃ (r : Int), ∃ (lt' : Nat → Int), ∃ (kn' : Nat → Int), ∃ (hf' : Nat → Int), v = some (.int (iI r)) ∧ w = [(hd, .inr (8, dF d i)), ((d 3), aQ (g.2.1 3) 12 fle), (y, .inr (1, [.int (iI mn), .int (iI cn), .ref me, .ref cs, .ref as_, .ref sr, .ref hi])), (me, .inr (2, [.ref al, .ref ak, .ref ah])), (al, aI (g.2.1 0) 8 lt'), (ak, aI (g.2.1 1) 8 kn'), (ah, aI (g.2.1 0) 8 hf'), ((d 9), .inr (0, [.ref ch, .ref cg_, .ref cl])), (ch, aI (g.2.1 0) 8 fh), (cg_, aI (g.2.1 0) 8 fg), (cl, aI (g.2.1 0) 8 fl)] ∧ (r = (if ¬ (((0 ≤ sk ∧ sk ≤ 7) ∧ 0 < fh sk.toNat) ∧ 0 ≤ day ∧ day ≤ 9999) then -1 else if day < lt sk.toNat then -2 else prS rt (hf sk.toNat))) ∧ (r < 0 → lt' = lt ∧ kn' = kn ∧ hf' = hf) ∧ (0 ≤ r → 0 ≤ sk ∧ sk ≤ 7 ∧ lt' = va_up lt sk.toNat day ∧ kn' = (if rt = 0 then kn else va_up kn sk.toNat 1) ∧ hf' = va_up hf sk.toNat (prS rt (hf sk.toNat)))
set_option maxHeartbeats 4000000 in
set_option maxRecDepth 100000 in
theorem c_X8_exercise (l : Launch) (g : GT) (hd : Nat) (d : Nat → Nat) (i : Nat → Int) (fle : Nat → Option Nat) (y : Nat) (mn : Int) (cn : Int) (cs : Nat) (as_ : Nat) (sr : Nat) (hi : Nat) (me : Nat) (al : Nat) (ak : Nat) (ah : Nat) (lt : Nat → Int) (kn : Nat → Int) (hf : Nat → Int) (ch : Nat) (cg_ : Nat) (cl : Nat) (fh : Nat → Int) (fg : Nat → Int) (fl : Nat → Int) (k : Nat) (x : Int) (sk : Int) (day : Int) (rt : Int) (h1 : x = (k : Int) ∧ x < i 4 ∧ i 4 ≤ 12) (h2 : fle k = some y) (h3 : (-2147483648 ≤ sk ∧ sk < 2147483648) ∧ (-2147483648 ≤ day ∧ day < 2147483648) ∧ (rt = 0 ∨ rt = 1)) (hM : ∀ j, j < 8 → -1 ≤ lt j ∧ lt j ≤ 9999 ∧ (kn j = 0 ∨ kn j = 1) ∧ 1 ≤ hf j ∧ hf j ≤ 512) (hC : ∀ j, j < 8 → 0 ≤ fh j ∧ fh j ≤ 20 ∧ 0 ≤ fg j ∧ fg j ≤ 99 ∧ 0 ≤ fl j ∧ fl j < 256) : Ct l g yX8_exercise wsX8_exercise ({ frames := 2, cells := 0, slots := 0, locals := 43 } : Room) [.ref hd, .int (iI x), .int (iI sk), .int (iI day), .int (iI rt)] [(hd, .inr (8, dF d i)), ((d 3), aQ (g.2.1 3) 12 fle), (y, .inr (1, [.int (iI mn), .int (iI cn), .ref me, .ref cs, .ref as_, .ref sr, .ref hi])), (me, .inr (2, [.ref al, .ref ak, .ref ah])), (al, aI (g.2.1 0) 8 lt), (ak, aI (g.2.1 1) 8 kn), (ah, aI (g.2.1 0) 8 hf), ((d 9), .inr (0, [.ref ch, .ref cg_, .ref cl])), (ch, aI (g.2.1 0) 8 fh), (cg_, aI (g.2.1 0) 8 fg), (cl, aI (g.2.1 0) 8 fl)] (q_X8_exercise g hd d i fle y mn cn cs as_ sr hi me al ak ah lt kn hf ch cg_ cl fh fg fl k x sk day rt) := by
  refine Ct.intro (maxL := 6) (ret := (some .int)) (by decide) rfl (Nat.le_of_ble_eq_true rfl) ?_
  intro p e s m below meth c A ls hx hb hr hml hown hts hlocks hnm hA hG hP hD hS hl
  have hown : s.vm.findClass RX8 = some m.cls := hown
  have hl : lv_has ls 6 [(0, .ref hd), (1, .int (iI x)), (2, .int (iI sk)), (3, .int (iI day)), (4, .int (iI rt))] := hl
  have hP : va_P g.1 vwCl [(hd, .inr (8, dF d i)), ((d 3), aQ (g.2.1 3) 12 fle), (y, .inr (1, [.int (iI mn), .int (iI cn), .ref me, .ref cs, .ref as_, .ref sr, .ref hi])), (me, .inr (2, [.ref al, .ref ak, .ref ah])), (al, aI (g.2.1 0) 8 lt), (ak, aI (g.2.1 1) 8 kn), (ah, aI (g.2.1 0) 8 hf), ((d 9), .inr (0, [.ref ch, .ref cg_, .ref cl])), (ch, aI (g.2.1 0) 8 fh), (cg_, aI (g.2.1 0) 8 fg), (cl, aI (g.2.1 0) 8 fl)] s.heap := hP
  have hS : va_S A s.heap s.heap [] := hS
  obtain ⟨H, hHe⟩ : ∃ H : Heap, H = s.heap := ⟨_, rfl⟩
  obtain ⟨locs, hLe⟩ : ∃ L : List Loc, L = [] := ⟨_, rfl⟩
  have hP : va_P g.1 vwCl [(hd, .inr (8, dF d i)), ((d 3), aQ (g.2.1 3) 12 fle), (y, .inr (1, [.int (iI mn), .int (iI cn), .ref me, .ref cs, .ref as_, .ref sr, .ref hi])), (me, .inr (2, [.ref al, .ref ak, .ref ah])), (al, aI (g.2.1 0) 8 lt), (ak, aI (g.2.1 1) 8 kn), (ah, aI (g.2.1 0) 8 hf), ((d 9), .inr (0, [.ref ch, .ref cg_, .ref cl])), (ch, aI (g.2.1 0) 8 fh), (cg_, aI (g.2.1 0) 8 fg), (cl, aI (g.2.1 0) 8 fl)] H := by rw [hHe]; exact hP
  have hS : va_S A s.heap H locs := by rw [hHe, hLe]; exact hS
  suffices hgo : W p l e ({ frames := 2, cells := 0, slots := 0, locals := 43 } : Room) s m [.ref hd, .int (iI x), .int (iI sk), .int (iI day), .int (iI rt)].toArray below meth c H locs 0 0 (MQ below (CQ g (q_X8_exercise g hd d i fle y mn cn cs as_ sr hi me al ak ah lt kn hf ch cg_ cl fh fg fl k x sk day rt) A) [.ref hd, .int (iI x), .int (iI sk), .int (iI day), .int (iI rt)].toArray s ({ frames := 2, cells := 0, slots := 0, locals := 43 } : Room).cells ({ frames := 2, cells := 0, slots := 0, locals := 43 } : Room).slots A) (F0 m 0 ls []) by rw [hHe, hLe] at hgo; exact hgo
  clear hHe hLe
  refine lv_aload_n hx hb dX8_exercise_0 rfl (lv_at hl 0 rfl) ?_
  refine lv_iload_n hx hb dX8_exercise_1 rfl (lv_at hl 1 rfl) ?_
  refine Ct.callV (ci := 8) (q0 := 0) (qc := (RX8, TX8, 13)) (As := [.int (iI x)]) (rest := []) (wr := [(y, .inr (1, [.int (iI mn), .int (iI cn), .ref me, .ref cs, .ref as_, .ref sr, .ref hi])), (me, .inr (2, [.ref al, .ref ak, .ref ah])), (al, aI (g.2.1 0) 8 lt), (ak, aI (g.2.1 1) 8 kn), (ah, aI (g.2.1 0) 8 hf), ((d 9), .inr (0, [.ref ch, .ref cg_, .ref cl])), (ch, aI (g.2.1 0) 8 fh), (cg_, aI (g.2.1 0) 8 fg), (cl, aI (g.2.1 0) 8 fl)]) (c1 := 0) (s1 := 0) ⟨hx, hb, hml, hown, hts⟩ (c_X8_learnerAt l g hd d i fle x k y (by omega) (h2)) rfl rfl (cwV 1 hts gX8_exercise_X8_learnerAt rfl rfl rfl (by decide +kernel) ⟨Nat.le_of_ble_eq_true rfl, Nat.le_of_ble_eq_true rfl⟩) hG hP hD hS hA [0, 1] [2, 3, 4, 5, 6, 7, 8, 9, 10] rfl rfl (by decide) (by decide) (by decide) rfl hl.1 rfl (Nat.le_of_ble_eq_true rfl) dX8_exercise_2 ⟨Nat.le_of_ble_eq_true rfl, Nat.le_of_ble_eq_true rfl⟩ rfl rfl (fun v w H locs hv hP hD hS => ?_)
  obtain ⟨rfl, rfl⟩ := hv
  show W p l e _ s m _ below meth c H locs 0 0 _ (F0 m 5 ls (.ref y :: []))
  have hP : va_P g.1 vwCl [(y, .inr (1, [.int (iI mn), .int (iI cn), .ref me, .ref cs, .ref as_, .ref sr, .ref hi])), (me, .inr (2, [.ref al, .ref ak, .ref ah])), (al, aI (g.2.1 0) 8 lt), (ak, aI (g.2.1 1) 8 kn), (ah, aI (g.2.1 0) 8 hf), ((d 9), .inr (0, [.ref ch, .ref cg_, .ref cl])), (ch, aI (g.2.1 0) 8 fh), (cg_, aI (g.2.1 0) 8 fg), (cl, aI (g.2.1 0) 8 fl), (hd, .inr (8, dF d i)), ((d 3), aQ (g.2.1 3) 12 fle)] H := hP
  have hD : va_D A [(y, .inr (1, [.int (iI mn), .int (iI cn), .ref me, .ref cs, .ref as_, .ref sr, .ref hi])), (me, .inr (2, [.ref al, .ref ak, .ref ah])), (al, aI (g.2.1 0) 8 lt), (ak, aI (g.2.1 1) 8 kn), (ah, aI (g.2.1 0) 8 hf), ((d 9), .inr (0, [.ref ch, .ref cg_, .ref cl])), (ch, aI (g.2.1 0) 8 fh), (cg_, aI (g.2.1 0) 8 fg), (cl, aI (g.2.1 0) 8 fl), (hd, .inr (8, dF d i)), ((d 3), aQ (g.2.1 3) 12 fle)] := hD
  refine lv_astore (lv' := [(5, .ref y), (0, .ref hd), (1, .int (iI x)), (2, .int (iI sk)), (3, .int (iI day)), (4, .int (iI rt))]) hx hb dX8_exercise_5 hl (by decide) rfl (fun ls hl => ?_)
  refine lv_aload hx hb dX8_exercise_7 (lv_at hl 0 rfl) ?_
  refine lv_ifnull hx hb dX8_exercise_9 ?_
  refine lv_aload_n hx hb dX8_exercise_12 rfl (lv_at hl 1 rfl) ?_
  refine va_get (D := g.1) (ci := 8) (v := .ref (d 9)) hx hb hts kX8_exercise_8 hown hG.1 hP 9 rfl rfl 9 (by decide) (hts _ (List.mem_of_getElem? (i := 1) rfl)) (fun _ h9 => h9) rfl dX8_exercise_13 ?_
  refine lv_iload_n hx hb dX8_exercise_16 rfl (lv_at hl 3 rfl) ?_
  refine Ct.callV (ci := 0) (q0 := 5) (qc := (RX0, TX0, 3)) (As := [.int (iI sk)]) (rest := []) (wr := [(y, .inr (1, [.int (iI mn), .int (iI cn), .ref me, .ref cs, .ref as_, .ref sr, .ref hi])), (me, .inr (2, [.ref al, .ref ak, .ref ah])), (al, aI (g.2.1 0) 8 lt), (ak, aI (g.2.1 1) 8 kn), (ah, aI (g.2.1 0) 8 hf), (hd, .inr (8, dF d i)), ((d 3), aQ (g.2.1 3) 12 fle)]) (c1 := 0) (s1 := 0) ⟨hx, hb, hml, hown, hts⟩ (c_X0_has l g (d 9) ch cg_ cl fh fg fl sk (by omega) (hC)) rfl rfl (cwV 1 hts gX8_exercise_X0_has rfl rfl rfl (by decide +kernel) ⟨Nat.le_of_ble_eq_true rfl, Nat.le_of_ble_eq_true rfl⟩) hG hP hD hS hA [5, 6, 7, 8] [0, 1, 2, 3, 4, 9, 10] rfl rfl (by decide) (by decide) (by decide) rfl hl.1 rfl (Nat.le_of_ble_eq_true rfl) dX8_exercise_17 ⟨Nat.le_of_ble_eq_true rfl, Nat.le_of_ble_eq_true rfl⟩ rfl rfl (fun v w H locs hv hP hD hS => ?_)
  obtain ⟨⟨rfl, hb1⟩ | ⟨rfl, hb1⟩, rfl⟩ := hv
  · show W p l e _ s m _ below meth c H locs 0 0 _ (F0 m 20 ls (.int (iI 1) :: []))
    have hb1 : (0 ≤ sk ∧ sk ≤ 7) ∧ 0 < fh sk.toNat := hb1
    have hP : va_P g.1 vwCl [(y, .inr (1, [.int (iI mn), .int (iI cn), .ref me, .ref cs, .ref as_, .ref sr, .ref hi])), (me, .inr (2, [.ref al, .ref ak, .ref ah])), (al, aI (g.2.1 0) 8 lt), (ak, aI (g.2.1 1) 8 kn), (ah, aI (g.2.1 0) 8 hf), (hd, .inr (8, dF d i)), ((d 3), aQ (g.2.1 3) 12 fle), ((d 9), .inr (0, [.ref ch, .ref cg_, .ref cl])), (ch, aI (g.2.1 0) 8 fh), (cg_, aI (g.2.1 0) 8 fg), (cl, aI (g.2.1 0) 8 fl)] H := hP
    have hD : va_D A [(y, .inr (1, [.int (iI mn), .int (iI cn), .ref me, .ref cs, .ref as_, .ref sr, .ref hi])), (me, .inr (2, [.ref al, .ref ak, .ref ah])), (al, aI (g.2.1 0) 8 lt), (ak, aI (g.2.1 1) 8 kn), (ah, aI (g.2.1 0) 8 hf), (hd, .inr (8, dF d i)), ((d 3), aQ (g.2.1 3) 12 fle), ((d 9), .inr (0, [.ref ch, .ref cg_, .ref cl])), (ch, aI (g.2.1 0) 8 fh), (cg_, aI (g.2.1 0) 8 fg), (cl, aI (g.2.1 0) 8 fl)] := hD
    refine iv_if_eq (tgt := 30) hx hb dX8_exercise_20 (by decide) (by decide) (fun h => absurd h (by decide)) (fun _ => ?_)
    refine lv_iload_n hx hb dX8_exercise_23 rfl (lv_at hl 4 rfl) ?_
    refine Ct.callS (As := [.int (iI day)]) (rest := []) (wr := [(y, .inr (1, [.int (iI mn), .int (iI cn), .ref me, .ref cs, .ref as_, .ref sr, .ref hi])), (me, .inr (2, [.ref al, .ref ak, .ref ah])), (al, aI (g.2.1 0) 8 lt), (ak, aI (g.2.1 1) 8 kn), (ah, aI (g.2.1 0) 8 hf), (hd, .inr (8, dF d i)), ((d 3), aQ (g.2.1 3) 12 fle), ((d 9), .inr (0, [.ref ch, .ref cg_, .ref cl])), (ch, aI (g.2.1 0) 8 fh), (cg_, aI (g.2.1 0) 8 fg), (cl, aI (g.2.1 0) 8 fl)]) (c1 := 0) (s1 := 0) ⟨hx, hb, hml, hown, hts⟩ (c_X8_isDay l g day (by omega)) (va_cwS 1 hts gX8_exercise_X8_isDay rfl rfl rfl (by decide +kernel) ⟨Nat.le_of_ble_eq_true rfl, Nat.le_of_ble_eq_true rfl⟩) hG hP hD hS hA [] [0, 1, 2, 3, 4, 5, 6, 7, 8, 9, 10] rfl rfl (by decide) (by decide) (by decide) rfl hl.1 rfl (Nat.le_of_ble_eq_true rfl) dX8_exercise_24 ⟨Nat.le_of_ble_eq_true rfl, Nat.le_of_ble_eq_true rfl⟩ rfl rfl (fun v w H locs hv hP hD hS => ?_)
    obtain ⟨⟨rfl, hb3⟩ | ⟨rfl, hb3⟩, rfl⟩ := hv
    · show W p l e _ s m _ below meth c H locs 0 0 _ (F0 m 27 ls (.int (iI 1) :: []))
      have hb3 : 0 ≤ day ∧ day ≤ 9999 := hb3
      have hP : va_P g.1 vwCl [(y, .inr (1, [.int (iI mn), .int (iI cn), .ref me, .ref cs, .ref as_, .ref sr, .ref hi])), (me, .inr (2, [.ref al, .ref ak, .ref ah])), (al, aI (g.2.1 0) 8 lt), (ak, aI (g.2.1 1) 8 kn), (ah, aI (g.2.1 0) 8 hf), (hd, .inr (8, dF d i)), ((d 3), aQ (g.2.1 3) 12 fle), ((d 9), .inr (0, [.ref ch, .ref cg_, .ref cl])), (ch, aI (g.2.1 0) 8 fh), (cg_, aI (g.2.1 0) 8 fg), (cl, aI (g.2.1 0) 8 fl)] H := hP
      have hD : va_D A [(y, .inr (1, [.int (iI mn), .int (iI cn), .ref me, .ref cs, .ref as_, .ref sr, .ref hi])), (me, .inr (2, [.ref al, .ref ak, .ref ah])), (al, aI (g.2.1 0) 8 lt), (ak, aI (g.2.1 1) 8 kn), (ah, aI (g.2.1 0) 8 hf), (hd, .inr (8, dF d i)), ((d 3), aQ (g.2.1 3) 12 fle), ((d 9), .inr (0, [.ref ch, .ref cg_, .ref cl])), (ch, aI (g.2.1 0) 8 fh), (cg_, aI (g.2.1 0) 8 fg), (cl, aI (g.2.1 0) 8 fl)] := hD
      refine iv_if_ne (tgt := 32) hx hb dX8_exercise_27 (by decide) (by decide) (fun _ => ?_) (fun h => absurd h (by decide))
      have hq := hM sk.toNat (by omega)
      refine lv_iload_n hx hb dX8_exercise_32 rfl (lv_at hl 4 rfl) ?_
      refine lv_aload hx hb dX8_exercise_33 (lv_at hl 0 rfl) ?_
      refine va_get (D := g.1) (ci := 1) (v := .ref me) hx hb hts kX8_exercise_1 hown hG.1 hP 0 rfl rfl 2 (by decide) (hts _ (List.mem_of_getElem? (i := 2) rfl)) (fun _ h9 => h9) rfl dX8_exercise_35 ?_
      refine va_get (D := g.1) (ci := 2) (v := .ref al) hx hb hts kX8_exercise_2 hown hG.1 hP 1 rfl rfl 0 (by decide) (hts _ (List.mem_of_getElem? (i := 3) rfl)) (fun _ h9 => h9) rfl dX8_exercise_38 ?_
      refine lv_iload_n hx hb dX8_exercise_41 rfl (lv_at hl 3 rfl) ?_
      refine iv_iald hx hb hG hP 2 rfl sk.toNat (by omega) (by omega) (by decide) dX8_exercise_42 ?_
      refine iv_icmp_ge (tgt := 49) hx hb dX8_exercise_43 (by decide) (by omega) (fun hc5 => ?_) (fun hc5 => ?_)
      · refine lv_aload hx hb dX8_exercise_49 (lv_at hl 0 rfl) ?_
        refine va_get (D := g.1) (ci := 1) (v := .ref me) hx hb hts kX8_exercise_1 hown hG.1 hP 0 rfl rfl 2 (by decide) (hts _ (List.mem_of_getElem? (i := 2) rfl)) (fun _ h9 => h9) rfl dX8_exercise_51 ?_
        refine lv_iload_n hx hb dX8_exercise_54 rfl (lv_at hl 3 rfl) ?_
        refine lv_iload_n hx hb dX8_exercise_55 rfl (lv_at hl 4 rfl) ?_
        refine lv_iload hx hb dX8_exercise_56 (lv_at hl 5 rfl) ?_
        refine Ct.callV (ci := 2) (q0 := 1) (qc := (RX2, TX2, 3)) (As := [.int (iI sk), .int (iI day), .int (iI rt)]) (rest := []) (wr := [(y, .inr (1, [.int (iI mn), .int (iI cn), .ref me, .ref cs, .ref as_, .ref sr, .ref hi])), (hd, .inr (8, dF d i)), ((d 3), aQ (g.2.1 3) 12 fle), ((d 9), .inr (0, [.ref ch, .ref cg_, .ref cl])), (ch, aI (g.2.1 0) 8 fh), (cg_, aI (g.2.1 0) 8 fg), (cl, aI (g.2.1 0) 8 fl)]) (c1 := 0) (s1 := 0) ⟨hx, hb, hml, hown, hts⟩ (c_X2_practise l g me al ak ah lt kn hf sk day rt sk.toNat (by omega) (hM)) rfl rfl (cwV 3 hts gX8_exercise_X2_practise rfl rfl rfl (by decide +kernel) ⟨Nat.le_of_ble_eq_true rfl, Nat.le_of_ble_eq_true rfl⟩) hG hP hD hS hA [1, 2, 3, 4] [0, 5, 6, 7, 8, 9, 10] rfl rfl (by decide) (by decide) (by decide) rfl hl.1 rfl (Nat.le_of_ble_eq_true rfl) dX8_exercise_58 ⟨Nat.le_of_ble_eq_true rfl, Nat.le_of_ble_eq_true rfl⟩ rfl rfl (fun v w H locs hv hP hD hS => ?_)
        obtain ⟨r6, lt7, kn8, hf9, rfl, rfl, hf10, hf11, hf12, hf13⟩ := hv
        show W p l e _ s m _ below meth c H locs 0 0 _ (F0 m 61 ls (.int (iI r6) :: []))
        have hP : va_P g.1 vwCl [(y, .inr (1, [.int (iI mn), .int (iI cn), .ref me, .ref cs, .ref as_, .ref sr, .ref hi])), (hd, .inr (8, dF d i)), ((d 3), aQ (g.2.1 3) 12 fle), ((d 9), .inr (0, [.ref ch, .ref cg_, .ref cl])), (ch, aI (g.2.1 0) 8 fh), (cg_, aI (g.2.1 0) 8 fg), (cl, aI (g.2.1 0) 8 fl), (me, .inr (2, [.ref al, .ref ak, .ref ah])), (al, aI (g.2.1 0) 8 lt7), (ak, aI (g.2.1 1) 8 kn8), (ah, aI (g.2.1 0) 8 hf9)] H := hP
        have hD : va_D A [(y, .inr (1, [.int (iI mn), .int (iI cn), .ref me, .ref cs, .ref as_, .ref sr, .ref hi])), (hd, .inr (8, dF d i)), ((d 3), aQ (g.2.1 3) 12 fle), ((d 9), .inr (0, [.ref ch, .ref cg_, .ref cl])), (ch, aI (g.2.1 0) 8 fh), (cg_, aI (g.2.1 0) 8 fg), (cl, aI (g.2.1 0) 8 fl), (me, .inr (2, [.ref al, .ref ak, .ref ah])), (al, aI (g.2.1 0) 8 lt7), (ak, aI (g.2.1 1) 8 kn8), (ah, aI (g.2.1 0) 8 hf9)] := hD
        have hf10 : r6 = prS rt (hf sk.toNat) := hf10
        have hf11 : lt7 = va_up lt sk.toNat day := hf11
        have hf12 : kn8 = (if rt = 0 then kn else va_up kn sk.toNat 1) := hf12
        have hf13 : hf9 = va_up hf sk.toNat (prS rt (hf sk.toNat)) := hf13
        have hpr : 0 ≤ prS rt (hf sk.toNat) := by unfold prS; split <;> omega
        exact Ct.iret hx hb hr hlocks (hP.sub [1, 2, 0, 7, 8, 9, 10, 3, 4, 5, 6] rfl) (hD.sub [1, 2, 0, 7, 8, 9, 10, 3, 4, 5, 6] (by decide) rfl) hS ⟨by decide, by decide⟩ dX8_exercise_61 ⟨r6, lt7, kn8, hf9, rfl, rfl, (by rw [if_neg (by omega), if_neg (by omega)]; assumption), (fun h => absurd h (by omega)), (fun _ => ⟨by omega, by omega, by assumption, by assumption, by assumption⟩)⟩
      · refine lv_bipush (v := iI (-2)) hx hb dX8_exercise_46 (by decide) ?_
        exact Ct.iret hx hb hr hlocks (hP.sub [5, 6, 0, 1, 2, 3, 4, 7, 8, 9, 10] rfl) (hD.sub [5, 6, 0, 1, 2, 3, 4, 7, 8, 9, 10] (by decide) rfl) hS ⟨by decide, by decide⟩ dX8_exercise_48 ⟨(-2), lt, kn, hf, rfl, rfl, (by rw [if_neg (by omega), if_pos (by omega)]), (fun _ => ⟨rfl, rfl, rfl⟩), (fun h => absurd h (by omega))⟩
    · show W p l e _ s m _ below meth c H locs 0 0 _ (F0 m 27 ls (.int (iI 0) :: []))
      have hb3 : ¬ (0 ≤ day ∧ day ≤ 9999) := hb3
      have hP : va_P g.1 vwCl [(y, .inr (1, [.int (iI mn), .int (iI cn), .ref me, .ref cs, .ref as_, .ref sr, .ref hi])), (me, .inr (2, [.ref al, .ref ak, .ref ah])), (al, aI (g.2.1 0) 8 lt), (ak, aI (g.2.1 1) 8 kn), (ah, aI (g.2.1 0) 8 hf), (hd, .inr (8, dF d i)), ((d 3), aQ (g.2.1 3) 12 fle), ((d 9), .inr (0, [.ref ch, .ref cg_, .ref cl])), (ch, aI (g.2.1 0) 8 fh), (cg_, aI (g.2.1 0) 8 fg), (cl, aI (g.2.1 0) 8 fl)] H := hP
      have hD : va_D A [(y, .inr (1, [.int (iI mn), .int (iI cn), .ref me, .ref cs, .ref as_, .ref sr, .ref hi])), (me, .inr (2, [.ref al, .ref ak, .ref ah])), (al, aI (g.2.1 0) 8 lt), (ak, aI (g.2.1 1) 8 kn), (ah, aI (g.2.1 0) 8 hf), (hd, .inr (8, dF d i)), ((d 3), aQ (g.2.1 3) 12 fle), ((d 9), .inr (0, [.ref ch, .ref cg_, .ref cl])), (ch, aI (g.2.1 0) 8 fh), (cg_, aI (g.2.1 0) 8 fg), (cl, aI (g.2.1 0) 8 fl)] := hD
      refine iv_if_ne (tgt := 32) hx hb dX8_exercise_27 (by decide) (by decide) (fun h => absurd h (by decide)) (fun _ => ?_)
      refine lv_iconst (v := iI (-1)) hx hb dX8_exercise_30 rfl ?_
      exact Ct.iret hx hb hr hlocks (hP.sub [5, 6, 0, 1, 2, 3, 4, 7, 8, 9, 10] rfl) (hD.sub [5, 6, 0, 1, 2, 3, 4, 7, 8, 9, 10] (by decide) rfl) hS ⟨by decide, by decide⟩ dX8_exercise_31 ⟨(-1), lt, kn, hf, rfl, rfl, (by rw [if_pos (by omega)]), (fun _ => ⟨rfl, rfl, rfl⟩), (fun h => absurd h (by omega))⟩
  · show W p l e _ s m _ below meth c H locs 0 0 _ (F0 m 20 ls (.int (iI 0) :: []))
    have hb1 : ¬ ((0 ≤ sk ∧ sk ≤ 7) ∧ 0 < fh sk.toNat) := hb1
    have hP : va_P g.1 vwCl [(y, .inr (1, [.int (iI mn), .int (iI cn), .ref me, .ref cs, .ref as_, .ref sr, .ref hi])), (me, .inr (2, [.ref al, .ref ak, .ref ah])), (al, aI (g.2.1 0) 8 lt), (ak, aI (g.2.1 1) 8 kn), (ah, aI (g.2.1 0) 8 hf), (hd, .inr (8, dF d i)), ((d 3), aQ (g.2.1 3) 12 fle), ((d 9), .inr (0, [.ref ch, .ref cg_, .ref cl])), (ch, aI (g.2.1 0) 8 fh), (cg_, aI (g.2.1 0) 8 fg), (cl, aI (g.2.1 0) 8 fl)] H := hP
    have hD : va_D A [(y, .inr (1, [.int (iI mn), .int (iI cn), .ref me, .ref cs, .ref as_, .ref sr, .ref hi])), (me, .inr (2, [.ref al, .ref ak, .ref ah])), (al, aI (g.2.1 0) 8 lt), (ak, aI (g.2.1 1) 8 kn), (ah, aI (g.2.1 0) 8 hf), (hd, .inr (8, dF d i)), ((d 3), aQ (g.2.1 3) 12 fle), ((d 9), .inr (0, [.ref ch, .ref cg_, .ref cl])), (ch, aI (g.2.1 0) 8 fh), (cg_, aI (g.2.1 0) 8 fg), (cl, aI (g.2.1 0) 8 fl)] := hD
    refine iv_if_eq (tgt := 30) hx hb dX8_exercise_20 (by decide) (by decide) (fun _ => ?_) (fun h => absurd h (by decide))
    refine lv_iconst (v := iI (-1)) hx hb dX8_exercise_30 rfl ?_
    exact Ct.iret hx hb hr hlocks (hP.sub [5, 6, 0, 1, 2, 3, 4, 7, 8, 9, 10] rfl) (hD.sub [5, 6, 0, 1, 2, 3, 4, 7, 8, 9, 10] (by decide) rfl) hS ⟨by decide, by decide⟩ dX8_exercise_31 ⟨(-1), lt, kn, hf, rfl, rfl, (by rw [if_pos (by omega)]), (fun _ => ⟨rfl, rfl, rfl⟩), (fun h => absurd h (by omega))⟩
abbrev q_X8_exerciseB (g : GT) (hd : Nat) (d : Nat → Nat) (i : Nat → Int) (fle : Nat → Option Nat) (x : Int) (sk : Int) (day : Int) (rt : Int) : Option Value → va_W → Prop := fun v w => ∃ (r : Int), v = some (.int (iI r)) ∧ w = [(hd, .inr (8, dF d i)), ((d 3), aQ (g.2.1 3) 12 fle)] ∧ (r = -1)
set_option maxHeartbeats 4000000 in
set_option maxRecDepth 100000 in
theorem c_X8_exerciseB (l : Launch) (g : GT) (hd : Nat) (d : Nat → Nat) (i : Nat → Int) (fle : Nat → Option Nat) (x : Int) (sk : Int) (day : Int) (rt : Int) (h1 : ¬ (0 ≤ x ∧ x < i 4) ∧ 0 ≤ i 4 ∧ i 4 ≤ 12 ∧ (-2147483648 ≤ x ∧ x < 2147483648)) : Ct l g yX8_exercise wsX8_exercise ({ frames := 2, cells := 0, slots := 0, locals := 43 } : Room) [.ref hd, .int (iI x), .int (iI sk), .int (iI day), .int (iI rt)] [(hd, .inr (8, dF d i)), ((d 3), aQ (g.2.1 3) 12 fle)] (q_X8_exerciseB g hd d i fle x sk day rt) := by
  refine Ct.intro (maxL := 6) (ret := (some .int)) (by decide) rfl (Nat.le_of_ble_eq_true rfl) ?_
  intro p e s m below meth c A ls hx hb hr hml hown hts hlocks hnm hA hG hP hD hS hl
  have hown : s.vm.findClass RX8 = some m.cls := hown
  have hl : lv_has ls 6 [(0, .ref hd), (1, .int (iI x)), (2, .int (iI sk)), (3, .int (iI day)), (4, .int (iI rt))] := hl
  have hP : va_P g.1 vwCl [(hd, .inr (8, dF d i)), ((d 3), aQ (g.2.1 3) 12 fle)] s.heap := hP
  have hS : va_S A s.heap s.heap [] := hS
  obtain ⟨H, hHe⟩ : ∃ H : Heap, H = s.heap := ⟨_, rfl⟩
  obtain ⟨locs, hLe⟩ : ∃ L : List Loc, L = [] := ⟨_, rfl⟩
  have hP : va_P g.1 vwCl [(hd, .inr (8, dF d i)), ((d 3), aQ (g.2.1 3) 12 fle)] H := by rw [hHe]; exact hP
  have hS : va_S A s.heap H locs := by rw [hHe, hLe]; exact hS
  suffices hgo : W p l e ({ frames := 2, cells := 0, slots := 0, locals := 43 } : Room) s m [.ref hd, .int (iI x), .int (iI sk), .int (iI day), .int (iI rt)].toArray below meth c H locs 0 0 (MQ below (CQ g (q_X8_exerciseB g hd d i fle x sk day rt) A) [.ref hd, .int (iI x), .int (iI sk), .int (iI day), .int (iI rt)].toArray s ({ frames := 2, cells := 0, slots := 0, locals := 43 } : Room).cells ({ frames := 2, cells := 0, slots := 0, locals := 43 } : Room).slots A) (F0 m 0 ls []) by rw [hHe, hLe] at hgo; exact hgo
  clear hHe hLe
  refine lv_aload_n hx hb dX8_exercise_0 rfl (lv_at hl 0 rfl) ?_
  refine lv_iload_n hx hb dX8_exercise_1 rfl (lv_at hl 1 rfl) ?_
  refine Ct.callV (ci := 8) (q0 := 0) (qc := (RX8, TX8, 13)) (As := [.int (iI x)]) (rest := []) (wr := []) (c1 := 0) (s1 := 0) ⟨hx, hb, hml, hown, hts⟩ (c_X8_learnerAtB l g hd d i fle x (by omega)) rfl rfl (cwV 1 hts gX8_exercise_X8_learnerAt rfl rfl rfl (by decide +kernel) ⟨Nat.le_of_ble_eq_true rfl, Nat.le_of_ble_eq_true rfl⟩) hG hP hD hS hA [0, 1] [] rfl rfl (by decide) (by decide) (by decide) rfl hl.1 rfl (Nat.le_of_ble_eq_true rfl) dX8_exercise_2 ⟨Nat.le_of_ble_eq_true rfl, Nat.le_of_ble_eq_true rfl⟩ rfl rfl (fun v w H locs hv hP hD hS => ?_)
  obtain ⟨rfl, rfl⟩ := hv
  show W p l e _ s m _ below meth c H locs 0 0 _ (F0 m 5 ls (.null :: []))
  have hP : va_P g.1 vwCl [(hd, .inr (8, dF d i)), ((d 3), aQ (g.2.1 3) 12 fle)] H := hP
  have hD : va_D A [(hd, .inr (8, dF d i)), ((d 3), aQ (g.2.1 3) 12 fle)] := hD
  refine lv_astoreN (lv' := [(5, .null), (0, .ref hd), (1, .int (iI x)), (2, .int (iI sk)), (3, .int (iI day)), (4, .int (iI rt))]) hx hb dX8_exercise_5 hl (by decide) rfl (fun ls hl => ?_)
  refine lv_aloadN hx hb dX8_exercise_7 (lv_at hl 0 rfl) ?_
  refine lv_ifnullN (tgt := 30) hx hb dX8_exercise_9 (by decide) ?_
  refine lv_iconst (v := iI (-1)) hx hb dX8_exercise_30 rfl ?_
  exact Ct.iret hx hb hr hlocks (hP.sub [0, 1] rfl) (hD.sub [0, 1] (by decide) rfl) hS ⟨by decide, by decide⟩ dX8_exercise_31 ⟨(-1), rfl, rfl, (by omega)⟩
theorem kX8_odds_1 : ∀ w ∈ u_ws RX1 TX1 7, w ∈ wsX8_odds := fun _ h => List.mem_cons_of_mem _ (List.mem_append_left _ (List.mem_append_left _ (List.mem_append_right _ h)))
theorem kX8_odds_2 : ∀ w ∈ u_ws RX2 TX2 3, w ∈ wsX8_odds := fun _ h => List.mem_cons_of_mem _ (List.mem_append_left _ (List.mem_append_right _ h))
theorem kX8_odds_8 : ∀ w ∈ u_ws RX8 TX8 13, w ∈ wsX8_odds := fun _ h => List.mem_cons_of_mem _ (List.mem_append_left _ (List.mem_append_left _ (List.mem_append_left _ (List.mem_append_right _ h))))
abbrev q_X8_odds (g : GT) (hd : Nat) (d : Nat → Nat) (i : Nat → Int) (fle : Nat → Option Nat) (y : Nat) (mn : Int) (cn : Int) (cs : Nat) (as_ : Nat) (sr : Nat) (hi : Nat) (me : Nat) (al : Nat) (ak : Nat) (ah : Nat) (lt : Nat → Int) (kn : Nat → Int) (hf : Nat → Int) (ch : Nat) (cg_ : Nat) (cl : Nat) (fh : Nat → Int) (fg : Nat → Int) (fl : Nat → Int) (k : Nat) (x : Int) (sk : Int) (day : Int) : Option Value → va_W → Prop := fun v w => ∃ (r : Int), v = some (.int (iI r)) ∧ w = [(hd, .inr (8, dF d i)), ((d 3), aQ (g.2.1 3) 12 fle), (y, .inr (1, [.int (iI mn), .int (iI cn), .ref me, .ref cs, .ref as_, .ref sr, .ref hi])), (me, .inr (2, [.ref al, .ref ak, .ref ah])), (al, aI (g.2.1 0) 8 lt), (ak, aI (g.2.1 1) 8 kn), (ah, aI (g.2.1 0) 8 hf), ((d 9), .inr (0, [.ref ch, .ref cg_, .ref cl])), (ch, aI (g.2.1 0) 8 fh), (cg_, aI (g.2.1 0) 8 fg), (cl, aI (g.2.1 0) 8 fl)] ∧ (r = (if ¬ (((0 ≤ sk ∧ sk ≤ 7) ∧ 0 < fh sk.toNat) ∧ 0 ≤ day ∧ day ≤ 9999) then -1 else if day < lt sk.toNat then -2 else odF (kn sk.toNat) (hf sk.toNat) (lt sk.toNat) day))
set_option maxHeartbeats 4000000 in
set_option maxRecDepth 100000 in
theorem c_X8_odds (l : Launch) (g : GT) (hd : Nat) (d : Nat → Nat) (i : Nat → Int) (fle : Nat → Option Nat) (y : Nat) (mn : Int) (cn : Int) (cs : Nat) (as_ : Nat) (sr : Nat) (hi : Nat) (me : Nat) (al : Nat) (ak : Nat) (ah : Nat) (lt : Nat → Int) (kn : Nat → Int) (hf : Nat → Int) (ch : Nat) (cg_ : Nat) (cl : Nat) (fh : Nat → Int) (fg : Nat → Int) (fl : Nat → Int) (k : Nat) (x : Int) (sk : Int) (day : Int) (h1 : x = (k : Int) ∧ x < i 4 ∧ i 4 ≤ 12) (h2 : fle k = some y) (h3 : (-2147483648 ≤ sk ∧ sk < 2147483648) ∧ (-2147483648 ≤ day ∧ day < 2147483648)) (hM : ∀ j, j < 8 → -1 ≤ lt j ∧ lt j ≤ 9999 ∧ (kn j = 0 ∨ kn j = 1) ∧ 1 ≤ hf j ∧ hf j ≤ 512) (hC : ∀ j, j < 8 → 0 ≤ fh j ∧ fh j ≤ 20 ∧ 0 ≤ fg j ∧ fg j ≤ 99 ∧ 0 ≤ fl j ∧ fl j < 256) : Ct l g yX8_odds wsX8_odds ({ frames := 2, cells := 0, slots := 0, locals := 43 } : Room) [.ref hd, .int (iI x), .int (iI sk), .int (iI day)] [(hd, .inr (8, dF d i)), ((d 3), aQ (g.2.1 3) 12 fle), (y, .inr (1, [.int (iI mn), .int (iI cn), .ref me, .ref cs, .ref as_, .ref sr, .ref hi])), (me, .inr (2, [.ref al, .ref ak, .ref ah])), (al, aI (g.2.1 0) 8 lt), (ak, aI (g.2.1 1) 8 kn), (ah, aI (g.2.1 0) 8 hf), ((d 9), .inr (0, [.ref ch, .ref cg_, .ref cl])), (ch, aI (g.2.1 0) 8 fh), (cg_, aI (g.2.1 0) 8 fg), (cl, aI (g.2.1 0) 8 fl)] (q_X8_odds g hd d i fle y mn cn cs as_ sr hi me al ak ah lt kn hf ch cg_ cl fh fg fl k x sk day) := by
  refine Ct.intro (maxL := 5) (ret := (some .int)) (by decide) rfl (Nat.le_of_ble_eq_true rfl) ?_
  intro p e s m below meth c A ls hx hb hr hml hown hts hlocks hnm hA hG hP hD hS hl
  have hown : s.vm.findClass RX8 = some m.cls := hown
  have hl : lv_has ls 5 [(0, .ref hd), (1, .int (iI x)), (2, .int (iI sk)), (3, .int (iI day))] := hl
  have hP : va_P g.1 vwCl [(hd, .inr (8, dF d i)), ((d 3), aQ (g.2.1 3) 12 fle), (y, .inr (1, [.int (iI mn), .int (iI cn), .ref me, .ref cs, .ref as_, .ref sr, .ref hi])), (me, .inr (2, [.ref al, .ref ak, .ref ah])), (al, aI (g.2.1 0) 8 lt), (ak, aI (g.2.1 1) 8 kn), (ah, aI (g.2.1 0) 8 hf), ((d 9), .inr (0, [.ref ch, .ref cg_, .ref cl])), (ch, aI (g.2.1 0) 8 fh), (cg_, aI (g.2.1 0) 8 fg), (cl, aI (g.2.1 0) 8 fl)] s.heap := hP
  have hS : va_S A s.heap s.heap [] := hS
  obtain ⟨H, hHe⟩ : ∃ H : Heap, H = s.heap := ⟨_, rfl⟩
  obtain ⟨locs, hLe⟩ : ∃ L : List Loc, L = [] := ⟨_, rfl⟩
  have hP : va_P g.1 vwCl [(hd, .inr (8, dF d i)), ((d 3), aQ (g.2.1 3) 12 fle), (y, .inr (1, [.int (iI mn), .int (iI cn), .ref me, .ref cs, .ref as_, .ref sr, .ref hi])), (me, .inr (2, [.ref al, .ref ak, .ref ah])), (al, aI (g.2.1 0) 8 lt), (ak, aI (g.2.1 1) 8 kn), (ah, aI (g.2.1 0) 8 hf), ((d 9), .inr (0, [.ref ch, .ref cg_, .ref cl])), (ch, aI (g.2.1 0) 8 fh), (cg_, aI (g.2.1 0) 8 fg), (cl, aI (g.2.1 0) 8 fl)] H := by rw [hHe]; exact hP
  have hS : va_S A s.heap H locs := by rw [hHe, hLe]; exact hS
  suffices hgo : W p l e ({ frames := 2, cells := 0, slots := 0, locals := 43 } : Room) s m [.ref hd, .int (iI x), .int (iI sk), .int (iI day)].toArray below meth c H locs 0 0 (MQ below (CQ g (q_X8_odds g hd d i fle y mn cn cs as_ sr hi me al ak ah lt kn hf ch cg_ cl fh fg fl k x sk day) A) [.ref hd, .int (iI x), .int (iI sk), .int (iI day)].toArray s ({ frames := 2, cells := 0, slots := 0, locals := 43 } : Room).cells ({ frames := 2, cells := 0, slots := 0, locals := 43 } : Room).slots A) (F0 m 0 ls []) by rw [hHe, hLe] at hgo; exact hgo
  clear hHe hLe
  refine lv_aload_n hx hb dX8_odds_0 rfl (lv_at hl 0 rfl) ?_
  refine lv_iload_n hx hb dX8_odds_1 rfl (lv_at hl 1 rfl) ?_
  refine Ct.callV (ci := 8) (q0 := 0) (qc := (RX8, TX8, 13)) (As := [.int (iI x)]) (rest := []) (wr := [(y, .inr (1, [.int (iI mn), .int (iI cn), .ref me, .ref cs, .ref as_, .ref sr, .ref hi])), (me, .inr (2, [.ref al, .ref ak, .ref ah])), (al, aI (g.2.1 0) 8 lt), (ak, aI (g.2.1 1) 8 kn), (ah, aI (g.2.1 0) 8 hf), ((d 9), .inr (0, [.ref ch, .ref cg_, .ref cl])), (ch, aI (g.2.1 0) 8 fh), (cg_, aI (g.2.1 0) 8 fg), (cl, aI (g.2.1 0) 8 fl)]) (c1 := 0) (s1 := 0) ⟨hx, hb, hml, hown, hts⟩ (c_X8_learnerAt l g hd d i fle x k y (by omega) (h2)) rfl rfl (cwV 1 hts gX8_odds_X8_learnerAt rfl rfl rfl (by decide +kernel) ⟨Nat.le_of_ble_eq_true rfl, Nat.le_of_ble_eq_true rfl⟩) hG hP hD hS hA [0, 1] [2, 3, 4, 5, 6, 7, 8, 9, 10] rfl rfl (by decide) (by decide) (by decide) rfl hl.1 rfl (Nat.le_of_ble_eq_true rfl) dX8_odds_2 ⟨Nat.le_of_ble_eq_true rfl, Nat.le_of_ble_eq_true rfl⟩ rfl rfl (fun v w H locs hv hP hD hS => ?_)
  obtain ⟨rfl, rfl⟩ := hv
  show W p l e _ s m _ below meth c H locs 0 0 _ (F0 m 5 ls (.ref y :: []))
  have hP : va_P g.1 vwCl [(y, .inr (1, [.int (iI mn), .int (iI cn), .ref me, .ref cs, .ref as_, .ref sr, .ref hi])), (me, .inr (2, [.ref al, .ref ak, .ref ah])), (al, aI (g.2.1 0) 8 lt), (ak, aI (g.2.1 1) 8 kn), (ah, aI (g.2.1 0) 8 hf), ((d 9), .inr (0, [.ref ch, .ref cg_, .ref cl])), (ch, aI (g.2.1 0) 8 fh), (cg_, aI (g.2.1 0) 8 fg), (cl, aI (g.2.1 0) 8 fl), (hd, .inr (8, dF d i)), ((d 3), aQ (g.2.1 3) 12 fle)] H := hP
  have hD : va_D A [(y, .inr (1, [.int (iI mn), .int (iI cn), .ref me, .ref cs, .ref as_, .ref sr, .ref hi])), (me, .inr (2, [.ref al, .ref ak, .ref ah])), (al, aI (g.2.1 0) 8 lt), (ak, aI (g.2.1 1) 8 kn), (ah, aI (g.2.1 0) 8 hf), ((d 9), .inr (0, [.ref ch, .ref cg_, .ref cl])), (ch, aI (g.2.1 0) 8 fh), (cg_, aI (g.2.1 0) 8 fg), (cl, aI (g.2.1 0) 8 fl), (hd, .inr (8, dF d i)), ((d 3), aQ (g.2.1 3) 12 fle)] := hD
  refine lv_astore (lv' := [(4, .ref y), (0, .ref hd), (1, .int (iI x)), (2, .int (iI sk)), (3, .int (iI day))]) hx hb dX8_odds_5 hl (by decide) rfl (fun ls hl => ?_)
  refine lv_aload hx hb dX8_odds_7 (lv_at hl 0 rfl) ?_
  refine lv_ifnull hx hb dX8_odds_9 ?_
  refine lv_aload_n hx hb dX8_odds_12 rfl (lv_at hl 1 rfl) ?_
  refine va_get (D := g.1) (ci := 8) (v := .ref (d 9)) hx hb hts kX8_odds_8 hown hG.1 hP 9 rfl rfl 9 (by decide) (hts _ (List.mem_of_getElem? (i := 1) rfl)) (fun _ h9 => h9) rfl dX8_odds_13 ?_
  refine lv_iload_n hx hb dX8_odds_16 rfl (lv_at hl 3 rfl) ?_
  refine Ct.callV (ci := 0) (q0 := 5) (qc := (RX0, TX0, 3)) (As := [.int (iI sk)]) (rest := []) (wr := [(y, .inr (1, [.int (iI mn), .int (iI cn), .ref me, .ref cs, .ref as_, .ref sr, .ref hi])), (me, .inr (2, [.ref al, .ref ak, .ref ah])), (al, aI (g.2.1 0) 8 lt), (ak, aI (g.2.1 1) 8 kn), (ah, aI (g.2.1 0) 8 hf), (hd, .inr (8, dF d i)), ((d 3), aQ (g.2.1 3) 12 fle)]) (c1 := 0) (s1 := 0) ⟨hx, hb, hml, hown, hts⟩ (c_X0_has l g (d 9) ch cg_ cl fh fg fl sk (by omega) (hC)) rfl rfl (cwV 1 hts gX8_odds_X0_has rfl rfl rfl (by decide +kernel) ⟨Nat.le_of_ble_eq_true rfl, Nat.le_of_ble_eq_true rfl⟩) hG hP hD hS hA [5, 6, 7, 8] [0, 1, 2, 3, 4, 9, 10] rfl rfl (by decide) (by decide) (by decide) rfl hl.1 rfl (Nat.le_of_ble_eq_true rfl) dX8_odds_17 ⟨Nat.le_of_ble_eq_true rfl, Nat.le_of_ble_eq_true rfl⟩ rfl rfl (fun v w H locs hv hP hD hS => ?_)
  obtain ⟨⟨rfl, hb1⟩ | ⟨rfl, hb1⟩, rfl⟩ := hv
  · show W p l e _ s m _ below meth c H locs 0 0 _ (F0 m 20 ls (.int (iI 1) :: []))
    have hb1 : (0 ≤ sk ∧ sk ≤ 7) ∧ 0 < fh sk.toNat := hb1
    have hP : va_P g.1 vwCl [(y, .inr (1, [.int (iI mn), .int (iI cn), .ref me, .ref cs, .ref as_, .ref sr, .ref hi])), (me, .inr (2, [.ref al, .ref ak, .ref ah])), (al, aI (g.2.1 0) 8 lt), (ak, aI (g.2.1 1) 8 kn), (ah, aI (g.2.1 0) 8 hf), (hd, .inr (8, dF d i)), ((d 3), aQ (g.2.1 3) 12 fle), ((d 9), .inr (0, [.ref ch, .ref cg_, .ref cl])), (ch, aI (g.2.1 0) 8 fh), (cg_, aI (g.2.1 0) 8 fg), (cl, aI (g.2.1 0) 8 fl)] H := hP
    have hD : va_D A [(y, .inr (1, [.int (iI mn), .int (iI cn), .ref me, .ref cs, .ref as_, .ref sr, .ref hi])), (me, .inr (2, [.ref al, .ref ak, .ref ah])), (al, aI (g.2.1 0) 8 lt), (ak, aI (g.2.1 1) 8 kn), (ah, aI (g.2.1 0) 8 hf), (hd, .inr (8, dF d i)), ((d 3), aQ (g.2.1 3) 12 fle), ((d 9), .inr (0, [.ref ch, .ref cg_, .ref cl])), (ch, aI (g.2.1 0) 8 fh), (cg_, aI (g.2.1 0) 8 fg), (cl, aI (g.2.1 0) 8 fl)] := hD
    refine iv_if_eq (tgt := 30) hx hb dX8_odds_20 (by decide) (by decide) (fun h => absurd h (by decide)) (fun _ => ?_)
    refine lv_iload_n hx hb dX8_odds_23 rfl (lv_at hl 4 rfl) ?_
    refine Ct.callS (As := [.int (iI day)]) (rest := []) (wr := [(y, .inr (1, [.int (iI mn), .int (iI cn), .ref me, .ref cs, .ref as_, .ref sr, .ref hi])), (me, .inr (2, [.ref al, .ref ak, .ref ah])), (al, aI (g.2.1 0) 8 lt), (ak, aI (g.2.1 1) 8 kn), (ah, aI (g.2.1 0) 8 hf), (hd, .inr (8, dF d i)), ((d 3), aQ (g.2.1 3) 12 fle), ((d 9), .inr (0, [.ref ch, .ref cg_, .ref cl])), (ch, aI (g.2.1 0) 8 fh), (cg_, aI (g.2.1 0) 8 fg), (cl, aI (g.2.1 0) 8 fl)]) (c1 := 0) (s1 := 0) ⟨hx, hb, hml, hown, hts⟩ (c_X8_isDay l g day (by omega)) (va_cwS 1 hts gX8_odds_X8_isDay rfl rfl rfl (by decide +kernel) ⟨Nat.le_of_ble_eq_true rfl, Nat.le_of_ble_eq_true rfl⟩) hG hP hD hS hA [] [0, 1, 2, 3, 4, 5, 6, 7, 8, 9, 10] rfl rfl (by decide) (by decide) (by decide) rfl hl.1 rfl (Nat.le_of_ble_eq_true rfl) dX8_odds_24 ⟨Nat.le_of_ble_eq_true rfl, Nat.le_of_ble_eq_true rfl⟩ rfl rfl (fun v w H locs hv hP hD hS => ?_)
    obtain ⟨⟨rfl, hb3⟩ | ⟨rfl, hb3⟩, rfl⟩ := hv
    · show W p l e _ s m _ below meth c H locs 0 0 _ (F0 m 27 ls (.int (iI 1) :: []))
      have hb3 : 0 ≤ day ∧ day ≤ 9999 := hb3
      have hP : va_P g.1 vwCl [(y, .inr (1, [.int (iI mn), .int (iI cn), .ref me, .ref cs, .ref as_, .ref sr, .ref hi])), (me, .inr (2, [.ref al, .ref ak, .ref ah])), (al, aI (g.2.1 0) 8 lt), (ak, aI (g.2.1 1) 8 kn), (ah, aI (g.2.1 0) 8 hf), (hd, .inr (8, dF d i)), ((d 3), aQ (g.2.1 3) 12 fle), ((d 9), .inr (0, [.ref ch, .ref cg_, .ref cl])), (ch, aI (g.2.1 0) 8 fh), (cg_, aI (g.2.1 0) 8 fg), (cl, aI (g.2.1 0) 8 fl)] H := hP
      have hD : va_D A [(y, .inr (1, [.int (iI mn), .int (iI cn), .ref me, .ref cs, .ref as_, .ref sr, .ref hi])), (me, .inr (2, [.ref al, .ref ak, .ref ah])), (al, aI (g.2.1 0) 8 lt), (ak, aI (g.2.1 1) 8 kn), (ah, aI (g.2.1 0) 8 hf), (hd, .inr (8, dF d i)), ((d 3), aQ (g.2.1 3) 12 fle), ((d 9), .inr (0, [.ref ch, .ref cg_, .ref cl])), (ch, aI (g.2.1 0) 8 fh), (cg_, aI (g.2.1 0) 8 fg), (cl, aI (g.2.1 0) 8 fl)] := hD
      refine iv_if_ne (tgt := 32) hx hb dX8_odds_27 (by decide) (by decide) (fun _ => ?_) (fun h => absurd h (by decide))
      have hq := hM sk.toNat (by omega)
      refine lv_iload_n hx hb dX8_odds_32 rfl (lv_at hl 4 rfl) ?_
      refine lv_aload hx hb dX8_odds_33 (lv_at hl 0 rfl) ?_
      refine va_get (D := g.1) (ci := 1) (v := .ref me) hx hb hts kX8_odds_1 hown hG.1 hP 0 rfl rfl 2 (by decide) (hts _ (List.mem_of_getElem? (i := 2) rfl)) (fun _ h9 => h9) rfl dX8_odds_35 ?_
      refine va_get (D := g.1) (ci := 2) (v := .ref al) hx hb hts kX8_odds_2 hown hG.1 hP 1 rfl rfl 0 (by decide) (hts _ (List.mem_of_getElem? (i := 3) rfl)) (fun _ h9 => h9) rfl dX8_odds_38 ?_
      refine lv_iload_n hx hb dX8_odds_41 rfl (lv_at hl 3 rfl) ?_
      refine iv_iald hx hb hG hP 2 rfl sk.toNat (by omega) (by omega) (by decide) dX8_odds_42 ?_
      refine iv_icmp_ge (tgt := 49) hx hb dX8_odds_43 (by decide) (by omega) (fun hc5 => ?_) (fun hc5 => ?_)
      · refine lv_aload hx hb dX8_odds_49 (lv_at hl 0 rfl) ?_
        refine va_get (D := g.1) (ci := 1) (v := .ref me) hx hb hts kX8_odds_1 hown hG.1 hP 0 rfl rfl 2 (by decide) (hts _ (List.mem_of_getElem? (i := 2) rfl)) (fun _ h9 => h9) rfl dX8_odds_51 ?_
        refine lv_iload_n hx hb dX8_odds_54 rfl (lv_at hl 3 rfl) ?_
        refine lv_iload_n hx hb dX8_odds_55 rfl (lv_at hl 4 rfl) ?_
        refine Ct.callV (ci := 2) (q0 := 1) (qc := (RX2, TX2, 3)) (As := [.int (iI sk), .int (iI day)]) (rest := []) (wr := [(y, .inr (1, [.int (iI mn), .int (iI cn), .ref me, .ref cs, .ref as_, .ref sr, .ref hi])), (hd, .inr (8, dF d i)), ((d 3), aQ (g.2.1 3) 12 fle), ((d 9), .inr (0, [.ref ch, .ref cg_, .ref cl])), (ch, aI (g.2.1 0) 8 fh), (cg_, aI (g.2.1 0) 8 fg), (cl, aI (g.2.1 0) 8 fl)]) (c1 := 0) (s1 := 0) ⟨hx, hb, hml, hown, hts⟩ (c_X2_oddsOn l g me al ak ah lt kn hf sk day sk.toNat (by omega) (hM)) rfl rfl (cwV 2 hts gX8_odds_X2_oddsOn rfl rfl rfl (by decide +kernel) ⟨Nat.le_of_ble_eq_true rfl, Nat.le_of_ble_eq_true rfl⟩) hG hP hD hS hA [1, 2, 3, 4] [0, 5, 6, 7, 8, 9, 10] rfl rfl (by decide) (by decide) (by decide) rfl hl.1 rfl (Nat.le_of_ble_eq_true rfl) dX8_odds_56 ⟨Nat.le_of_ble_eq_true rfl, Nat.le_of_ble_eq_true rfl⟩ rfl rfl (fun v w H locs hv hP hD hS => ?_)
        obtain ⟨r6, rfl, rfl, hf7⟩ := hv
        show W p l e _ s m _ below meth c H locs 0 0 _ (F0 m 59 ls (.int (iI r6) :: []))
        have hP : va_P g.1 vwCl [(y, .inr (1, [.int (iI mn), .int (iI cn), .ref me, .ref cs, .ref as_, .ref sr, .ref hi])), (hd, .inr (8, dF d i)), ((d 3), aQ (g.2.1 3) 12 fle), ((d 9), .inr (0, [.ref ch, .ref cg_, .ref cl])), (ch, aI (g.2.1 0) 8 fh), (cg_, aI (g.2.1 0) 8 fg), (cl, aI (g.2.1 0) 8 fl), (me, .inr (2, [.ref al, .ref ak, .ref ah])), (al, aI (g.2.1 0) 8 lt), (ak, aI (g.2.1 1) 8 kn), (ah, aI (g.2.1 0) 8 hf)] H := hP
        have hD : va_D A [(y, .inr (1, [.int (iI mn), .int (iI cn), .ref me, .ref cs, .ref as_, .ref sr, .ref hi])), (hd, .inr (8, dF d i)), ((d 3), aQ (g.2.1 3) 12 fle), ((d 9), .inr (0, [.ref ch, .ref cg_, .ref cl])), (ch, aI (g.2.1 0) 8 fh), (cg_, aI (g.2.1 0) 8 fg), (cl, aI (g.2.1 0) 8 fl), (me, .inr (2, [.ref al, .ref ak, .ref ah])), (al, aI (g.2.1 0) 8 lt), (ak, aI (g.2.1 1) 8 kn), (ah, aI (g.2.1 0) 8 hf)] := hD
        have hf7 : r6 = odF (kn sk.toNat) (hf sk.toNat) (lt sk.toNat) day := hf7
        exact Ct.iret hx hb hr hlocks (hP.sub [1, 2, 0, 7, 8, 9, 10, 3, 4, 5, 6] rfl) (hD.sub [1, 2, 0, 7, 8, 9, 10, 3, 4, 5, 6] (by decide) rfl) hS ⟨by decide, by decide⟩ dX8_odds_59 ⟨r6, rfl, rfl, (by rw [if_neg (by omega), if_neg (by omega)]; assumption)⟩
      · refine lv_bipush (v := iI (-2)) hx hb dX8_odds_46 (by decide) ?_
        exact Ct.iret hx hb hr hlocks (hP.sub [5, 6, 0, 1, 2, 3, 4, 7, 8, 9, 10] rfl) (hD.sub [5, 6, 0, 1, 2, 3, 4, 7, 8, 9, 10] (by decide) rfl) hS ⟨by decide, by decide⟩ dX8_odds_48 ⟨(-2), rfl, rfl, (by rw [if_neg (by omega), if_pos (by omega)])⟩
    · show W p l e _ s m _ below meth c H locs 0 0 _ (F0 m 27 ls (.int (iI 0) :: []))
      have hb3 : ¬ (0 ≤ day ∧ day ≤ 9999) := hb3
      have hP : va_P g.1 vwCl [(y, .inr (1, [.int (iI mn), .int (iI cn), .ref me, .ref cs, .ref as_, .ref sr, .ref hi])), (me, .inr (2, [.ref al, .ref ak, .ref ah])), (al, aI (g.2.1 0) 8 lt), (ak, aI (g.2.1 1) 8 kn), (ah, aI (g.2.1 0) 8 hf), (hd, .inr (8, dF d i)), ((d 3), aQ (g.2.1 3) 12 fle), ((d 9), .inr (0, [.ref ch, .ref cg_, .ref cl])), (ch, aI (g.2.1 0) 8 fh), (cg_, aI (g.2.1 0) 8 fg), (cl, aI (g.2.1 0) 8 fl)] H := hP
      have hD : va_D A [(y, .inr (1, [.int (iI mn), .int (iI cn), .ref me, .ref cs, .ref as_, .ref sr, .ref hi])), (me, .inr (2, [.ref al, .ref ak, .ref ah])), (al, aI (g.2.1 0) 8 lt), (ak, aI (g.2.1 1) 8 kn), (ah, aI (g.2.1 0) 8 hf), (hd, .inr (8, dF d i)), ((d 3), aQ (g.2.1 3) 12 fle), ((d 9), .inr (0, [.ref ch, .ref cg_, .ref cl])), (ch, aI (g.2.1 0) 8 fh), (cg_, aI (g.2.1 0) 8 fg), (cl, aI (g.2.1 0) 8 fl)] := hD
      refine iv_if_ne (tgt := 32) hx hb dX8_odds_27 (by decide) (by decide) (fun h => absurd h (by decide)) (fun _ => ?_)
      refine lv_iconst (v := iI (-1)) hx hb dX8_odds_30 rfl ?_
      exact Ct.iret hx hb hr hlocks (hP.sub [5, 6, 0, 1, 2, 3, 4, 7, 8, 9, 10] rfl) (hD.sub [5, 6, 0, 1, 2, 3, 4, 7, 8, 9, 10] (by decide) rfl) hS ⟨by decide, by decide⟩ dX8_odds_31 ⟨(-1), rfl, rfl, (by rw [if_pos (by omega)])⟩
  · show W p l e _ s m _ below meth c H locs 0 0 _ (F0 m 20 ls (.int (iI 0) :: []))
    have hb1 : ¬ ((0 ≤ sk ∧ sk ≤ 7) ∧ 0 < fh sk.toNat) := hb1
    have hP : va_P g.1 vwCl [(y, .inr (1, [.int (iI mn), .int (iI cn), .ref me, .ref cs, .ref as_, .ref sr, .ref hi])), (me, .inr (2, [.ref al, .ref ak, .ref ah])), (al, aI (g.2.1 0) 8 lt), (ak, aI (g.2.1 1) 8 kn), (ah, aI (g.2.1 0) 8 hf), (hd, .inr (8, dF d i)), ((d 3), aQ (g.2.1 3) 12 fle), ((d 9), .inr (0, [.ref ch, .ref cg_, .ref cl])), (ch, aI (g.2.1 0) 8 fh), (cg_, aI (g.2.1 0) 8 fg), (cl, aI (g.2.1 0) 8 fl)] H := hP
    have hD : va_D A [(y, .inr (1, [.int (iI mn), .int (iI cn), .ref me, .ref cs, .ref as_, .ref sr, .ref hi])), (me, .inr (2, [.ref al, .ref ak, .ref ah])), (al, aI (g.2.1 0) 8 lt), (ak, aI (g.2.1 1) 8 kn), (ah, aI (g.2.1 0) 8 hf), (hd, .inr (8, dF d i)), ((d 3), aQ (g.2.1 3) 12 fle), ((d 9), .inr (0, [.ref ch, .ref cg_, .ref cl])), (ch, aI (g.2.1 0) 8 fh), (cg_, aI (g.2.1 0) 8 fg), (cl, aI (g.2.1 0) 8 fl)] := hD
    refine iv_if_eq (tgt := 30) hx hb dX8_odds_20 (by decide) (by decide) (fun _ => ?_) (fun h => absurd h (by decide))
    refine lv_iconst (v := iI (-1)) hx hb dX8_odds_30 rfl ?_
    exact Ct.iret hx hb hr hlocks (hP.sub [5, 6, 0, 1, 2, 3, 4, 7, 8, 9, 10] rfl) (hD.sub [5, 6, 0, 1, 2, 3, 4, 7, 8, 9, 10] (by decide) rfl) hS ⟨by decide, by decide⟩ dX8_odds_31 ⟨(-1), rfl, rfl, (by rw [if_pos (by omega)])⟩
abbrev q_X8_oddsB (g : GT) (hd : Nat) (d : Nat → Nat) (i : Nat → Int) (fle : Nat → Option Nat) (x : Int) (sk : Int) (day : Int) : Option Value → va_W → Prop := fun v w => ∃ (r : Int), v = some (.int (iI r)) ∧ w = [(hd, .inr (8, dF d i)), ((d 3), aQ (g.2.1 3) 12 fle)] ∧ (r = -1)
set_option maxHeartbeats 4000000 in
set_option maxRecDepth 100000 in
theorem c_X8_oddsB (l : Launch) (g : GT) (hd : Nat) (d : Nat → Nat) (i : Nat → Int) (fle : Nat → Option Nat) (x : Int) (sk : Int) (day : Int) (h1 : ¬ (0 ≤ x ∧ x < i 4) ∧ 0 ≤ i 4 ∧ i 4 ≤ 12 ∧ (-2147483648 ≤ x ∧ x < 2147483648)) : Ct l g yX8_odds wsX8_odds ({ frames := 2, cells := 0, slots := 0, locals := 43 } : Room) [.ref hd, .int (iI x), .int (iI sk), .int (iI day)] [(hd, .inr (8, dF d i)), ((d 3), aQ (g.2.1 3) 12 fle)] (q_X8_oddsB g hd d i fle x sk day) := by
  refine Ct.intro (maxL := 5) (ret := (some .int)) (by decide) rfl (Nat.le_of_ble_eq_true rfl) ?_
  intro p e s m below meth c A ls hx hb hr hml hown hts hlocks hnm hA hG hP hD hS hl
  have hown : s.vm.findClass RX8 = some m.cls := hown
  have hl : lv_has ls 5 [(0, .ref hd), (1, .int (iI x)), (2, .int (iI sk)), (3, .int (iI day))] := hl
  have hP : va_P g.1 vwCl [(hd, .inr (8, dF d i)), ((d 3), aQ (g.2.1 3) 12 fle)] s.heap := hP
  have hS : va_S A s.heap s.heap [] := hS
  obtain ⟨H, hHe⟩ : ∃ H : Heap, H = s.heap := ⟨_, rfl⟩
  obtain ⟨locs, hLe⟩ : ∃ L : List Loc, L = [] := ⟨_, rfl⟩
  have hP : va_P g.1 vwCl [(hd, .inr (8, dF d i)), ((d 3), aQ (g.2.1 3) 12 fle)] H := by rw [hHe]; exact hP
  have hS : va_S A s.heap H locs := by rw [hHe, hLe]; exact hS
  suffices hgo : W p l e ({ frames := 2, cells := 0, slots := 0, locals := 43 } : Room) s m [.ref hd, .int (iI x), .int (iI sk), .int (iI day)].toArray below meth c H locs 0 0 (MQ below (CQ g (q_X8_oddsB g hd d i fle x sk day) A) [.ref hd, .int (iI x), .int (iI sk), .int (iI day)].toArray s ({ frames := 2, cells := 0, slots := 0, locals := 43 } : Room).cells ({ frames := 2, cells := 0, slots := 0, locals := 43 } : Room).slots A) (F0 m 0 ls []) by rw [hHe, hLe] at hgo; exact hgo
  clear hHe hLe
  refine lv_aload_n hx hb dX8_odds_0 rfl (lv_at hl 0 rfl) ?_
  refine lv_iload_n hx hb dX8_odds_1 rfl (lv_at hl 1 rfl) ?_
  refine Ct.callV (ci := 8) (q0 := 0) (qc := (RX8, TX8, 13)) (As := [.int (iI x)]) (rest := []) (wr := []) (c1 := 0) (s1 := 0) ⟨hx, hb, hml, hown, hts⟩ (c_X8_learnerAtB l g hd d i fle x (by omega)) rfl rfl (cwV 1 hts gX8_odds_X8_learnerAt rfl rfl rfl (by decide +kernel) ⟨Nat.le_of_ble_eq_true rfl, Nat.le_of_ble_eq_true rfl⟩) hG hP hD hS hA [0, 1] [] rfl rfl (by decide) (by decide) (by decide) rfl hl.1 rfl (Nat.le_of_ble_eq_true rfl) dX8_odds_2 ⟨Nat.le_of_ble_eq_true rfl, Nat.le_of_ble_eq_true rfl⟩ rfl rfl (fun v w H locs hv hP hD hS => ?_)
  obtain ⟨rfl, rfl⟩ := hv
  show W p l e _ s m _ below meth c H locs 0 0 _ (F0 m 5 ls (.null :: []))
  have hP : va_P g.1 vwCl [(hd, .inr (8, dF d i)), ((d 3), aQ (g.2.1 3) 12 fle)] H := hP
  have hD : va_D A [(hd, .inr (8, dF d i)), ((d 3), aQ (g.2.1 3) 12 fle)] := hD
  refine lv_astoreN (lv' := [(4, .null), (0, .ref hd), (1, .int (iI x)), (2, .int (iI sk)), (3, .int (iI day))]) hx hb dX8_odds_5 hl (by decide) rfl (fun ls hl => ?_)
  refine lv_aloadN hx hb dX8_odds_7 (lv_at hl 0 rfl) ?_
  refine lv_ifnullN (tgt := 30) hx hb dX8_odds_9 (by decide) ?_
  refine lv_iconst (v := iI (-1)) hx hb dX8_odds_30 rfl ?_
  exact Ct.iret hx hb hr hlocks (hP.sub [0, 1] rfl) (hD.sub [0, 1] (by decide) rfl) hS ⟨by decide, by decide⟩ dX8_odds_31 ⟨(-1), rfl, rfl, (by omega)⟩
theorem kX8_again_1 : ∀ w ∈ u_ws RX1 TX1 7, w ∈ wsX8_again := fun _ h => List.mem_cons_of_mem _ (List.mem_append_left _ (List.mem_append_left _ (List.mem_append_right _ h)))
theorem kX8_again_2 : ∀ w ∈ u_ws RX2 TX2 3, w ∈ wsX8_again := fun _ h => List.mem_cons_of_mem _ (List.mem_append_left _ (List.mem_append_right _ h))
theorem kX8_again_8 : ∀ w ∈ u_ws RX8 TX8 13, w ∈ wsX8_again := fun _ h => List.mem_cons_of_mem _ (List.mem_append_left _ (List.mem_append_left _ (List.mem_append_left _ (List.mem_append_right _ h))))
abbrev q_X8_again (g : GT) (hd : Nat) (d : Nat → Nat) (i : Nat → Int) (fle : Nat → Option Nat) (y : Nat) (mn : Int) (cn : Int) (cs : Nat) (as_ : Nat) (sr : Nat) (hi : Nat) (me : Nat) (al : Nat) (ak : Nat) (ah : Nat) (lt : Nat → Int) (kn : Nat → Int) (hf : Nat → Int) (ch : Nat) (cg_ : Nat) (cl : Nat) (fh : Nat → Int) (fg : Nat → Int) (fl : Nat → Int) (k : Nat) (x : Int) (sk : Int) (v_ : Int) : Option Value → va_W → Prop := fun v w => ∃ (r : Int), v = some (.int (iI r)) ∧ w = [(hd, .inr (8, dF d i)), ((d 3), aQ (g.2.1 3) 12 fle), (y, .inr (1, [.int (iI mn), .int (iI cn), .ref me, .ref cs, .ref as_, .ref sr, .ref hi])), (me, .inr (2, [.ref al, .ref ak, .ref ah])), (al, aI (g.2.1 0) 8 lt), (ak, aI (g.2.1 1) 8 kn), (ah, aI (g.2.1 0) 8 hf), ((d 9), .inr (0, [.ref ch, .ref cg_, .ref cl])), (ch, aI (g.2.1 0) 8 fh), (cg_, aI (g.2.1 0) 8 fg), (cl, aI (g.2.1 0) 8 fl)] ∧ (r = (if ¬ (((0 ≤ sk ∧ sk ≤ 7) ∧ 0 < fh sk.toNat) ∧ 1 ≤ v_ ∧ v_ ≤ 1000) then -1 else if kn sk.toNat = 0 then -4 else lt sk.toNat + (1000 - v_) * hf sk.toNat / v_ + 1))
set_option maxHeartbeats 4000000 in
set_option maxRecDepth 100000 in
theorem c_X8_again (l : Launch) (g : GT) (hd : Nat) (d : Nat → Nat) (i : Nat → Int) (fle : Nat → Option Nat) (y : Nat) (mn : Int) (cn : Int) (cs : Nat) (as_ : Nat) (sr : Nat) (hi : Nat) (me : Nat) (al : Nat) (ak : Nat) (ah : Nat) (lt : Nat → Int) (kn : Nat → Int) (hf : Nat → Int) (ch : Nat) (cg_ : Nat) (cl : Nat) (fh : Nat → Int) (fg : Nat → Int) (fl : Nat → Int) (k : Nat) (x : Int) (sk : Int) (v_ : Int) (h1 : x = (k : Int) ∧ x < i 4 ∧ i 4 ≤ 12) (h2 : fle k = some y) (h3 : (-2147483648 ≤ sk ∧ sk < 2147483648) ∧ (-2147483648 ≤ v_ ∧ v_ < 2147483648)) (hM : ∀ j, j < 8 → -1 ≤ lt j ∧ lt j ≤ 9999 ∧ (kn j = 0 ∨ kn j = 1) ∧ 1 ≤ hf j ∧ hf j ≤ 512) (hC : ∀ j, j < 8 → 0 ≤ fh j ∧ fh j ≤ 20 ∧ 0 ≤ fg j ∧ fg j ≤ 99 ∧ 0 ≤ fl j ∧ fl j < 256) : Ct l g yX8_again wsX8_again ({ frames := 2, cells := 0, slots := 0, locals := 43 } : Room) [.ref hd, .int (iI x), .int (iI sk), .int (iI v_)] [(hd, .inr (8, dF d i)), ((d 3), aQ (g.2.1 3) 12 fle), (y, .inr (1, [.int (iI mn), .int (iI cn), .ref me, .ref cs, .ref as_, .ref sr, .ref hi])), (me, .inr (2, [.ref al, .ref ak, .ref ah])), (al, aI (g.2.1 0) 8 lt), (ak, aI (g.2.1 1) 8 kn), (ah, aI (g.2.1 0) 8 hf), ((d 9), .inr (0, [.ref ch, .ref cg_, .ref cl])), (ch, aI (g.2.1 0) 8 fh), (cg_, aI (g.2.1 0) 8 fg), (cl, aI (g.2.1 0) 8 fl)] (q_X8_again g hd d i fle y mn cn cs as_ sr hi me al ak ah lt kn hf ch cg_ cl fh fg fl k x sk v_) := by
  refine Ct.intro (maxL := 5) (ret := (some .int)) (by decide) rfl (Nat.le_of_ble_eq_true rfl) ?_
  intro p e s m below meth c A ls hx hb hr hml hown hts hlocks hnm hA hG hP hD hS hl
  have hown : s.vm.findClass RX8 = some m.cls := hown
  have hl : lv_has ls 5 [(0, .ref hd), (1, .int (iI x)), (2, .int (iI sk)), (3, .int (iI v_))] := hl
  have hP : va_P g.1 vwCl [(hd, .inr (8, dF d i)), ((d 3), aQ (g.2.1 3) 12 fle), (y, .inr (1, [.int (iI mn), .int (iI cn), .ref me, .ref cs, .ref as_, .ref sr, .ref hi])), (me, .inr (2, [.ref al, .ref ak, .ref ah])), (al, aI (g.2.1 0) 8 lt), (ak, aI (g.2.1 1) 8 kn), (ah, aI (g.2.1 0) 8 hf), ((d 9), .inr (0, [.ref ch, .ref cg_, .ref cl])), (ch, aI (g.2.1 0) 8 fh), (cg_, aI (g.2.1 0) 8 fg), (cl, aI (g.2.1 0) 8 fl)] s.heap := hP
  have hS : va_S A s.heap s.heap [] := hS
  obtain ⟨H, hHe⟩ : ∃ H : Heap, H = s.heap := ⟨_, rfl⟩
  obtain ⟨locs, hLe⟩ : ∃ L : List Loc, L = [] := ⟨_, rfl⟩
  have hP : va_P g.1 vwCl [(hd, .inr (8, dF d i)), ((d 3), aQ (g.2.1 3) 12 fle), (y, .inr (1, [.int (iI mn), .int (iI cn), .ref me, .ref cs, .ref as_, .ref sr, .ref hi])), (me, .inr (2, [.ref al, .ref ak, .ref ah])), (al, aI (g.2.1 0) 8 lt), (ak, aI (g.2.1 1) 8 kn), (ah, aI (g.2.1 0) 8 hf), ((d 9), .inr (0, [.ref ch, .ref cg_, .ref cl])), (ch, aI (g.2.1 0) 8 fh), (cg_, aI (g.2.1 0) 8 fg), (cl, aI (g.2.1 0) 8 fl)] H := by rw [hHe]; exact hP
  have hS : va_S A s.heap H locs := by rw [hHe, hLe]; exact hS
  suffices hgo : W p l e ({ frames := 2, cells := 0, slots := 0, locals := 43 } : Room) s m [.ref hd, .int (iI x), .int (iI sk), .int (iI v_)].toArray below meth c H locs 0 0 (MQ below (CQ g (q_X8_again g hd d i fle y mn cn cs as_ sr hi me al ak ah lt kn hf ch cg_ cl fh fg fl k x sk v_) A) [.ref hd, .int (iI x), .int (iI sk), .int (iI v_)].toArray s ({ frames := 2, cells := 0, slots := 0, locals := 43 } : Room).cells ({ frames := 2, cells := 0, slots := 0, locals := 43 } : Room).slots A) (F0 m 0 ls []) by rw [hHe, hLe] at hgo; exact hgo
  clear hHe hLe
  refine lv_aload_n hx hb dX8_again_0 rfl (lv_at hl 0 rfl) ?_
  refine lv_iload_n hx hb dX8_again_1 rfl (lv_at hl 1 rfl) ?_
  refine Ct.callV (ci := 8) (q0 := 0) (qc := (RX8, TX8, 13)) (As := [.int (iI x)]) (rest := []) (wr := [(y, .inr (1, [.int (iI mn), .int (iI cn), .ref me, .ref cs, .ref as_, .ref sr, .ref hi])), (me, .inr (2, [.ref al, .ref ak, .ref ah])), (al, aI (g.2.1 0) 8 lt), (ak, aI (g.2.1 1) 8 kn), (ah, aI (g.2.1 0) 8 hf), ((d 9), .inr (0, [.ref ch, .ref cg_, .ref cl])), (ch, aI (g.2.1 0) 8 fh), (cg_, aI (g.2.1 0) 8 fg), (cl, aI (g.2.1 0) 8 fl)]) (c1 := 0) (s1 := 0) ⟨hx, hb, hml, hown, hts⟩ (c_X8_learnerAt l g hd d i fle x k y (by omega) (h2)) rfl rfl (cwV 1 hts gX8_again_X8_learnerAt rfl rfl rfl (by decide +kernel) ⟨Nat.le_of_ble_eq_true rfl, Nat.le_of_ble_eq_true rfl⟩) hG hP hD hS hA [0, 1] [2, 3, 4, 5, 6, 7, 8, 9, 10] rfl rfl (by decide) (by decide) (by decide) rfl hl.1 rfl (Nat.le_of_ble_eq_true rfl) dX8_again_2 ⟨Nat.le_of_ble_eq_true rfl, Nat.le_of_ble_eq_true rfl⟩ rfl rfl (fun v w H locs hv hP hD hS => ?_)
  obtain ⟨rfl, rfl⟩ := hv
  show W p l e _ s m _ below meth c H locs 0 0 _ (F0 m 5 ls (.ref y :: []))
  have hP : va_P g.1 vwCl [(y, .inr (1, [.int (iI mn), .int (iI cn), .ref me, .ref cs, .ref as_, .ref sr, .ref hi])), (me, .inr (2, [.ref al, .ref ak, .ref ah])), (al, aI (g.2.1 0) 8 lt), (ak, aI (g.2.1 1) 8 kn), (ah, aI (g.2.1 0) 8 hf), ((d 9), .inr (0, [.ref ch, .ref cg_, .ref cl])), (ch, aI (g.2.1 0) 8 fh), (cg_, aI (g.2.1 0) 8 fg), (cl, aI (g.2.1 0) 8 fl), (hd, .inr (8, dF d i)), ((d 3), aQ (g.2.1 3) 12 fle)] H := hP
  have hD : va_D A [(y, .inr (1, [.int (iI mn), .int (iI cn), .ref me, .ref cs, .ref as_, .ref sr, .ref hi])), (me, .inr (2, [.ref al, .ref ak, .ref ah])), (al, aI (g.2.1 0) 8 lt), (ak, aI (g.2.1 1) 8 kn), (ah, aI (g.2.1 0) 8 hf), ((d 9), .inr (0, [.ref ch, .ref cg_, .ref cl])), (ch, aI (g.2.1 0) 8 fh), (cg_, aI (g.2.1 0) 8 fg), (cl, aI (g.2.1 0) 8 fl), (hd, .inr (8, dF d i)), ((d 3), aQ (g.2.1 3) 12 fle)] := hD
  refine lv_astore (lv' := [(4, .ref y), (0, .ref hd), (1, .int (iI x)), (2, .int (iI sk)), (3, .int (iI v_))]) hx hb dX8_again_5 hl (by decide) rfl (fun ls hl => ?_)
  refine lv_aload hx hb dX8_again_7 (lv_at hl 0 rfl) ?_
  refine lv_ifnull hx hb dX8_again_9 ?_
  refine lv_aload_n hx hb dX8_again_12 rfl (lv_at hl 1 rfl) ?_
  refine va_get (D := g.1) (ci := 8) (v := .ref (d 9)) hx hb hts kX8_again_8 hown hG.1 hP 9 rfl rfl 9 (by decide) (hts _ (List.mem_of_getElem? (i := 1) rfl)) (fun _ h9 => h9) rfl dX8_again_13 ?_
  refine lv_iload_n hx hb dX8_again_16 rfl (lv_at hl 3 rfl) ?_
  refine Ct.callV (ci := 0) (q0 := 5) (qc := (RX0, TX0, 3)) (As := [.int (iI sk)]) (rest := []) (wr := [(y, .inr (1, [.int (iI mn), .int (iI cn), .ref me, .ref cs, .ref as_, .ref sr, .ref hi])), (me, .inr (2, [.ref al, .ref ak, .ref ah])), (al, aI (g.2.1 0) 8 lt), (ak, aI (g.2.1 1) 8 kn), (ah, aI (g.2.1 0) 8 hf), (hd, .inr (8, dF d i)), ((d 3), aQ (g.2.1 3) 12 fle)]) (c1 := 0) (s1 := 0) ⟨hx, hb, hml, hown, hts⟩ (c_X0_has l g (d 9) ch cg_ cl fh fg fl sk (by omega) (hC)) rfl rfl (cwV 1 hts gX8_again_X0_has rfl rfl rfl (by decide +kernel) ⟨Nat.le_of_ble_eq_true rfl, Nat.le_of_ble_eq_true rfl⟩) hG hP hD hS hA [5, 6, 7, 8] [0, 1, 2, 3, 4, 9, 10] rfl rfl (by decide) (by decide) (by decide) rfl hl.1 rfl (Nat.le_of_ble_eq_true rfl) dX8_again_17 ⟨Nat.le_of_ble_eq_true rfl, Nat.le_of_ble_eq_true rfl⟩ rfl rfl (fun v w H locs hv hP hD hS => ?_)
  obtain ⟨⟨rfl, hb1⟩ | ⟨rfl, hb1⟩, rfl⟩ := hv
  · show W p l e _ s m _ below meth c H locs 0 0 _ (F0 m 20 ls (.int (iI 1) :: []))
    have hb1 : (0 ≤ sk ∧ sk ≤ 7) ∧ 0 < fh sk.toNat := hb1
    have hP : va_P g.1 vwCl [(y, .inr (1, [.int (iI mn), .int (iI cn), .ref me, .ref cs, .ref as_, .ref sr, .ref hi])), (me, .inr (2, [.ref al, .ref ak, .ref ah])), (al, aI (g.2.1 0) 8 lt), (ak, aI (g.2.1 1) 8 kn), (ah, aI (g.2.1 0) 8 hf), (hd, .inr (8, dF d i)), ((d 3), aQ (g.2.1 3) 12 fle), ((d 9), .inr (0, [.ref ch, .ref cg_, .ref cl])), (ch, aI (g.2.1 0) 8 fh), (cg_, aI (g.2.1 0) 8 fg), (cl, aI (g.2.1 0) 8 fl)] H := hP
    have hD : va_D A [(y, .inr (1, [.int (iI mn), .int (iI cn), .ref me, .ref cs, .ref as_, .ref sr, .ref hi])), (me, .inr (2, [.ref al, .ref ak, .ref ah])), (al, aI (g.2.1 0) 8 lt), (ak, aI (g.2.1 1) 8 kn), (ah, aI (g.2.1 0) 8 hf), (hd, .inr (8, dF d i)), ((d 3), aQ (g.2.1 3) 12 fle), ((d 9), .inr (0, [.ref ch, .ref cg_, .ref cl])), (ch, aI (g.2.1 0) 8 fh), (cg_, aI (g.2.1 0) 8 fg), (cl, aI (g.2.1 0) 8 fl)] := hD
    refine iv_if_eq (tgt := 34) hx hb dX8_again_20 (by decide) (by decide) (fun h => absurd h (by decide)) (fun _ => ?_)
    refine lv_iload_n hx hb dX8_again_23 rfl (lv_at hl 4 rfl) ?_
    refine lv_iconst (v := iI (1)) hx hb dX8_again_24 rfl ?_
    refine lv_sipush (v := iI (1000)) hx hb dX8_again_25 (by decide) ?_
    refine Ct.callS (As := [.int (iI v_), .int (iI 1), .int (iI 1000)]) (rest := []) (wr := [(y, .inr (1, [.int (iI mn), .int (iI cn), .ref me, .ref cs, .ref as_, .ref sr, .ref hi])), (me, .inr (2, [.ref al, .ref ak, .ref ah])), (al, aI (g.2.1 0) 8 lt), (ak, aI (g.2.1 1) 8 kn), (ah, aI (g.2.1 0) 8 hf), (hd, .inr (8, dF d i)), ((d 3), aQ (g.2.1 3) 12 fle), ((d 9), .inr (0, [.ref ch, .ref cg_, .ref cl])), (ch, aI (g.2.1 0) 8 fh), (cg_, aI (g.2.1 0) 8 fg), (cl, aI (g.2.1 0) 8 fl)]) (c1 := 0) (s1 := 0) ⟨hx, hb, hml, hown, hts⟩ (c_X8_within l g v_ 1 1000 (by omega)) (va_cwS 3 hts gX8_again_X8_within rfl rfl rfl (by decide +kernel) ⟨Nat.le_of_ble_eq_true rfl, Nat.le_of_ble_eq_true rfl⟩) hG hP hD hS hA [] [0, 1, 2, 3, 4, 5, 6, 7, 8, 9, 10] rfl rfl (by decide) (by decide) (by decide) rfl hl.1 rfl (Nat.le_of_ble_eq_true rfl) dX8_again_28 ⟨Nat.le_of_ble_eq_true rfl, Nat.le_of_ble_eq_true rfl⟩ rfl rfl (fun v w H locs hv hP hD hS => ?_)
    obtain ⟨⟨rfl, hb3⟩ | ⟨rfl, hb3⟩, rfl⟩ := hv
    · show W p l e _ s m _ below meth c H locs 0 0 _ (F0 m 31 ls (.int (iI 1) :: []))
      have hb3 : 1 ≤ v_ ∧ v_ ≤ 1000 := hb3
      have hP : va_P g.1 vwCl [(y, .inr (1, [.int (iI mn), .int (iI cn), .ref me, .ref cs, .ref as_, .ref sr, .ref hi])), (me, .inr (2, [.ref al, .ref ak, .ref ah])), (al, aI (g.2.1 0) 8 lt), (ak, aI (g.2.1 1) 8 kn), (ah, aI (g.2.1 0) 8 hf), (hd, .inr (8, dF d i)), ((d 3), aQ (g.2.1 3) 12 fle), ((d 9), .inr (0, [.ref ch, .ref cg_, .ref cl])), (ch, aI (g.2.1 0) 8 fh), (cg_, aI (g.2.1 0) 8 fg), (cl, aI (g.2.1 0) 8 fl)] H := hP
      have hD : va_D A [(y, .inr (1, [.int (iI mn), .int (iI cn), .ref me, .ref cs, .ref as_, .ref sr, .ref hi])), (me, .inr (2, [.ref al, .ref ak, .ref ah])), (al, aI (g.2.1 0) 8 lt), (ak, aI (g.2.1 1) 8 kn), (ah, aI (g.2.1 0) 8 hf), (hd, .inr (8, dF d i)), ((d 3), aQ (g.2.1 3) 12 fle), ((d 9), .inr (0, [.ref ch, .ref cg_, .ref cl])), (ch, aI (g.2.1 0) 8 fh), (cg_, aI (g.2.1 0) 8 fg), (cl, aI (g.2.1 0) 8 fl)] := hD
      refine iv_if_ne (tgt := 36) hx hb dX8_again_31 (by decide) (by decide) (fun _ => ?_) (fun h => absurd h (by decide))
      have hq := hM sk.toNat (by omega)
      refine lv_aload hx hb dX8_again_36 (lv_at hl 0 rfl) ?_
      refine va_get (D := g.1) (ci := 1) (v := .ref me) hx hb hts kX8_again_1 hown hG.1 hP 0 rfl rfl 2 (by decide) (hts _ (List.mem_of_getElem? (i := 2) rfl)) (fun _ h9 => h9) rfl dX8_again_38 ?_
      refine va_get (D := g.1) (ci := 2) (v := .ref ak) hx hb hts kX8_again_2 hown hG.1 hP 1 rfl rfl 1 (by decide) (hts _ (List.mem_of_getElem? (i := 3) rfl)) (fun _ h9 => h9) rfl dX8_again_41 ?_
      refine lv_iload_n hx hb dX8_again_44 rfl (lv_at hl 3 rfl) ?_
      refine iv_zald hx hb hG hP 3 rfl sk.toNat (by omega) (by omega) (by decide) dX8_again_45 ?_
      refine iv_if_ne (tgt := 52) hx hb dX8_again_46 (by decide) (by omega) (fun hc5 => ?_) (fun hc5 => ?_)
      · refine lv_aload hx hb dX8_again_52 (lv_at hl 0 rfl) ?_
        refine va_get (D := g.1) (ci := 1) (v := .ref me) hx hb hts kX8_again_1 hown hG.1 hP 0 rfl rfl 2 (by decide) (hts _ (List.mem_of_getElem? (i := 2) rfl)) (fun _ h9 => h9) rfl dX8_again_54 ?_
        refine lv_iload_n hx hb dX8_again_57 rfl (lv_at hl 3 rfl) ?_
        refine lv_iload_n hx hb dX8_again_58 rfl (lv_at hl 4 rfl) ?_
        refine Ct.callV (ci := 2) (q0 := 1) (qc := (RX2, TX2, 3)) (As := [.int (iI sk), .int (iI v_)]) (rest := []) (wr := [(y, .inr (1, [.int (iI mn), .int (iI cn), .ref me, .ref cs, .ref as_, .ref sr, .ref hi])), (hd, .inr (8, dF d i)), ((d 3), aQ (g.2.1 3) 12 fle), ((d 9), .inr (0, [.ref ch, .ref cg_, .ref cl])), (ch, aI (g.2.1 0) 8 fh), (cg_, aI (g.2.1 0) 8 fg), (cl, aI (g.2.1 0) 8 fl)]) (c1 := 0) (s1 := 0) ⟨hx, hb, hml, hown, hts⟩ (c_X2_firstFaded l g me al ak ah lt kn hf sk v_ sk.toNat (by omega) (hM)) rfl rfl (cwV 2 hts gX8_again_X2_firstFaded rfl rfl rfl (by decide +kernel) ⟨Nat.le_of_ble_eq_true rfl, Nat.le_of_ble_eq_true rfl⟩) hG hP hD hS hA [1, 2, 3, 4] [0, 5, 6, 7, 8, 9, 10] rfl rfl (by decide) (by decide) (by decide) rfl hl.1 rfl (Nat.le_of_ble_eq_true rfl) dX8_again_59 ⟨Nat.le_of_ble_eq_true rfl, Nat.le_of_ble_eq_true rfl⟩ rfl rfl (fun v w H locs hv hP hD hS => ?_)
        obtain ⟨rfl, rfl⟩ := hv
        show W p l e _ s m _ below meth c H locs 0 0 _ (F0 m 62 ls (.int (iI (lt sk.toNat + (1000 - v_) * hf sk.toNat / v_ + 1)) :: []))
        have hP : va_P g.1 vwCl [(y, .inr (1, [.int (iI mn), .int (iI cn), .ref me, .ref cs, .ref as_, .ref sr, .ref hi])), (hd, .inr (8, dF d i)), ((d 3), aQ (g.2.1 3) 12 fle), ((d 9), .inr (0, [.ref ch, .ref cg_, .ref cl])), (ch, aI (g.2.1 0) 8 fh), (cg_, aI (g.2.1 0) 8 fg), (cl, aI (g.2.1 0) 8 fl), (me, .inr (2, [.ref al, .ref ak, .ref ah])), (al, aI (g.2.1 0) 8 lt), (ak, aI (g.2.1 1) 8 kn), (ah, aI (g.2.1 0) 8 hf)] H := hP
        have hD : va_D A [(y, .inr (1, [.int (iI mn), .int (iI cn), .ref me, .ref cs, .ref as_, .ref sr, .ref hi])), (hd, .inr (8, dF d i)), ((d 3), aQ (g.2.1 3) 12 fle), ((d 9), .inr (0, [.ref ch, .ref cg_, .ref cl])), (ch, aI (g.2.1 0) 8 fh), (cg_, aI (g.2.1 0) 8 fg), (cl, aI (g.2.1 0) 8 fl), (me, .inr (2, [.ref al, .ref ak, .ref ah])), (al, aI (g.2.1 0) 8 lt), (ak, aI (g.2.1 1) 8 kn), (ah, aI (g.2.1 0) 8 hf)] := hD
        exact Ct.iret hx hb hr hlocks (hP.sub [1, 2, 0, 7, 8, 9, 10, 3, 4, 5, 6] rfl) (hD.sub [1, 2, 0, 7, 8, 9, 10, 3, 4, 5, 6] (by decide) rfl) hS ⟨by decide, by decide⟩ dX8_again_62 ⟨(lt sk.toNat + (1000 - v_) * hf sk.toNat / v_ + 1), rfl, rfl, (by rw [if_neg (by omega), if_neg (by omega)])⟩
      · refine lv_bipush (v := iI (-4)) hx hb dX8_again_49 (by decide) ?_
        exact Ct.iret hx hb hr hlocks (hP.sub [5, 6, 0, 1, 2, 3, 4, 7, 8, 9, 10] rfl) (hD.sub [5, 6, 0, 1, 2, 3, 4, 7, 8, 9, 10] (by decide) rfl) hS ⟨by decide, by decide⟩ dX8_again_51 ⟨(-4), rfl, rfl, (by rw [if_neg (by omega), if_pos (by omega)])⟩
    · show W p l e _ s m _ below meth c H locs 0 0 _ (F0 m 31 ls (.int (iI 0) :: []))
      have hb3 : ¬ (1 ≤ v_ ∧ v_ ≤ 1000) := hb3
      have hP : va_P g.1 vwCl [(y, .inr (1, [.int (iI mn), .int (iI cn), .ref me, .ref cs, .ref as_, .ref sr, .ref hi])), (me, .inr (2, [.ref al, .ref ak, .ref ah])), (al, aI (g.2.1 0) 8 lt), (ak, aI (g.2.1 1) 8 kn), (ah, aI (g.2.1 0) 8 hf), (hd, .inr (8, dF d i)), ((d 3), aQ (g.2.1 3) 12 fle), ((d 9), .inr (0, [.ref ch, .ref cg_, .ref cl])), (ch, aI (g.2.1 0) 8 fh), (cg_, aI (g.2.1 0) 8 fg), (cl, aI (g.2.1 0) 8 fl)] H := hP
      have hD : va_D A [(y, .inr (1, [.int (iI mn), .int (iI cn), .ref me, .ref cs, .ref as_, .ref sr, .ref hi])), (me, .inr (2, [.ref al, .ref ak, .ref ah])), (al, aI (g.2.1 0) 8 lt), (ak, aI (g.2.1 1) 8 kn), (ah, aI (g.2.1 0) 8 hf), (hd, .inr (8, dF d i)), ((d 3), aQ (g.2.1 3) 12 fle), ((d 9), .inr (0, [.ref ch, .ref cg_, .ref cl])), (ch, aI (g.2.1 0) 8 fh), (cg_, aI (g.2.1 0) 8 fg), (cl, aI (g.2.1 0) 8 fl)] := hD
      refine iv_if_ne (tgt := 36) hx hb dX8_again_31 (by decide) (by decide) (fun h => absurd h (by decide)) (fun _ => ?_)
      refine lv_iconst (v := iI (-1)) hx hb dX8_again_34 rfl ?_
      exact Ct.iret hx hb hr hlocks (hP.sub [5, 6, 0, 1, 2, 3, 4, 7, 8, 9, 10] rfl) (hD.sub [5, 6, 0, 1, 2, 3, 4, 7, 8, 9, 10] (by decide) rfl) hS ⟨by decide, by decide⟩ dX8_again_35 ⟨(-1), rfl, rfl, (by rw [if_pos (by omega)])⟩
  · show W p l e _ s m _ below meth c H locs 0 0 _ (F0 m 20 ls (.int (iI 0) :: []))
    have hb1 : ¬ ((0 ≤ sk ∧ sk ≤ 7) ∧ 0 < fh sk.toNat) := hb1
    have hP : va_P g.1 vwCl [(y, .inr (1, [.int (iI mn), .int (iI cn), .ref me, .ref cs, .ref as_, .ref sr, .ref hi])), (me, .inr (2, [.ref al, .ref ak, .ref ah])), (al, aI (g.2.1 0) 8 lt), (ak, aI (g.2.1 1) 8 kn), (ah, aI (g.2.1 0) 8 hf), (hd, .inr (8, dF d i)), ((d 3), aQ (g.2.1 3) 12 fle), ((d 9), .inr (0, [.ref ch, .ref cg_, .ref cl])), (ch, aI (g.2.1 0) 8 fh), (cg_, aI (g.2.1 0) 8 fg), (cl, aI (g.2.1 0) 8 fl)] H := hP
    have hD : va_D A [(y, .inr (1, [.int (iI mn), .int (iI cn), .ref me, .ref cs, .ref as_, .ref sr, .ref hi])), (me, .inr (2, [.ref al, .ref ak, .ref ah])), (al, aI (g.2.1 0) 8 lt), (ak, aI (g.2.1 1) 8 kn), (ah, aI (g.2.1 0) 8 hf), (hd, .inr (8, dF d i)), ((d 3), aQ (g.2.1 3) 12 fle), ((d 9), .inr (0, [.ref ch, .ref cg_, .ref cl])), (ch, aI (g.2.1 0) 8 fh), (cg_, aI (g.2.1 0) 8 fg), (cl, aI (g.2.1 0) 8 fl)] := hD
    refine iv_if_eq (tgt := 34) hx hb dX8_again_20 (by decide) (by decide) (fun _ => ?_) (fun h => absurd h (by decide))
    refine lv_iconst (v := iI (-1)) hx hb dX8_again_34 rfl ?_
    exact Ct.iret hx hb hr hlocks (hP.sub [5, 6, 0, 1, 2, 3, 4, 7, 8, 9, 10] rfl) (hD.sub [5, 6, 0, 1, 2, 3, 4, 7, 8, 9, 10] (by decide) rfl) hS ⟨by decide, by decide⟩ dX8_again_35 ⟨(-1), rfl, rfl, (by rw [if_pos (by omega)])⟩
abbrev q_X8_againB (g : GT) (hd : Nat) (d : Nat → Nat) (i : Nat → Int) (fle : Nat → Option Nat) (x : Int) (sk : Int) (v_ : Int) : Option Value → va_W → Prop := fun v w => ∃ (r : Int), v = some (.int (iI r)) ∧ w = [(hd, .inr (8, dF d i)), ((d 3), aQ (g.2.1 3) 12 fle)] ∧ (r = -1)
set_option maxHeartbeats 4000000 in
set_option maxRecDepth 100000 in
theorem c_X8_againB (l : Launch) (g : GT) (hd : Nat) (d : Nat → Nat) (i : Nat → Int) (fle : Nat → Option Nat) (x : Int) (sk : Int) (v_ : Int) (h1 : ¬ (0 ≤ x ∧ x < i 4) ∧ 0 ≤ i 4 ∧ i 4 ≤ 12 ∧ (-2147483648 ≤ x ∧ x < 2147483648)) : Ct l g yX8_again wsX8_again ({ frames := 2, cells := 0, slots := 0, locals := 43 } : Room) [.ref hd, .int (iI x), .int (iI sk), .int (iI v_)] [(hd, .inr (8, dF d i)), ((d 3), aQ (g.2.1 3) 12 fle)] (q_X8_againB g hd d i fle x sk v_) := by
  refine Ct.intro (maxL := 5) (ret := (some .int)) (by decide) rfl (Nat.le_of_ble_eq_true rfl) ?_
  intro p e s m below meth c A ls hx hb hr hml hown hts hlocks hnm hA hG hP hD hS hl
  have hown : s.vm.findClass RX8 = some m.cls := hown
  have hl : lv_has ls 5 [(0, .ref hd), (1, .int (iI x)), (2, .int (iI sk)), (3, .int (iI v_))] := hl
  have hP : va_P g.1 vwCl [(hd, .inr (8, dF d i)), ((d 3), aQ (g.2.1 3) 12 fle)] s.heap := hP
  have hS : va_S A s.heap s.heap [] := hS
  obtain ⟨H, hHe⟩ : ∃ H : Heap, H = s.heap := ⟨_, rfl⟩
  obtain ⟨locs, hLe⟩ : ∃ L : List Loc, L = [] := ⟨_, rfl⟩
  have hP : va_P g.1 vwCl [(hd, .inr (8, dF d i)), ((d 3), aQ (g.2.1 3) 12 fle)] H := by rw [hHe]; exact hP
  have hS : va_S A s.heap H locs := by rw [hHe, hLe]; exact hS
  suffices hgo : W p l e ({ frames := 2, cells := 0, slots := 0, locals := 43 } : Room) s m [.ref hd, .int (iI x), .int (iI sk), .int (iI v_)].toArray below meth c H locs 0 0 (MQ below (CQ g (q_X8_againB g hd d i fle x sk v_) A) [.ref hd, .int (iI x), .int (iI sk), .int (iI v_)].toArray s ({ frames := 2, cells := 0, slots := 0, locals := 43 } : Room).cells ({ frames := 2, cells := 0, slots := 0, locals := 43 } : Room).slots A) (F0 m 0 ls []) by rw [hHe, hLe] at hgo; exact hgo
  clear hHe hLe
  refine lv_aload_n hx hb dX8_again_0 rfl (lv_at hl 0 rfl) ?_
  refine lv_iload_n hx hb dX8_again_1 rfl (lv_at hl 1 rfl) ?_
  refine Ct.callV (ci := 8) (q0 := 0) (qc := (RX8, TX8, 13)) (As := [.int (iI x)]) (rest := []) (wr := []) (c1 := 0) (s1 := 0) ⟨hx, hb, hml, hown, hts⟩ (c_X8_learnerAtB l g hd d i fle x (by omega)) rfl rfl (cwV 1 hts gX8_again_X8_learnerAt rfl rfl rfl (by decide +kernel) ⟨Nat.le_of_ble_eq_true rfl, Nat.le_of_ble_eq_true rfl⟩) hG hP hD hS hA [0, 1] [] rfl rfl (by decide) (by decide) (by decide) rfl hl.1 rfl (Nat.le_of_ble_eq_true rfl) dX8_again_2 ⟨Nat.le_of_ble_eq_true rfl, Nat.le_of_ble_eq_true rfl⟩ rfl rfl (fun v w H locs hv hP hD hS => ?_)
  obtain ⟨rfl, rfl⟩ := hv
  show W p l e _ s m _ below meth c H locs 0 0 _ (F0 m 5 ls (.null :: []))
  have hP : va_P g.1 vwCl [(hd, .inr (8, dF d i)), ((d 3), aQ (g.2.1 3) 12 fle)] H := hP
  have hD : va_D A [(hd, .inr (8, dF d i)), ((d 3), aQ (g.2.1 3) 12 fle)] := hD
  refine lv_astoreN (lv' := [(4, .null), (0, .ref hd), (1, .int (iI x)), (2, .int (iI sk)), (3, .int (iI v_))]) hx hb dX8_again_5 hl (by decide) rfl (fun ls hl => ?_)
  refine lv_aloadN hx hb dX8_again_7 (lv_at hl 0 rfl) ?_
  refine lv_ifnullN (tgt := 34) hx hb dX8_again_9 (by decide) ?_
  refine lv_iconst (v := iI (-1)) hx hb dX8_again_34 rfl ?_
  exact Ct.iret hx hb hr hlocks (hP.sub [0, 1] rfl) (hD.sub [0, 1] (by decide) rfl) hS ⟨by decide, by decide⟩ dX8_again_35 ⟨(-1), rfl, rfl, (by omega)⟩
