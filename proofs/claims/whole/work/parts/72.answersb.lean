abbrev q_X8_answersB1 (g : GT) (hd : Nat) (d : Nat → Nat) (i : Nat → Int) (fle : Nat → Option Nat) (fsh : Nat → Option Nat) (x : Int) (xs : Int) (lane : Int) (x2 : Int) (n : Int) : Option Value → va_W → Prop := fun v w => ∃ (r : Int), v = some (.int (iI r)) ∧ w = [(hd, .inr (8, dF d i)), ((d 3), aQ (g.2.1 3) 12 fle), ((d 12), aQ (g.2.1 4) 4 fsh)] ∧ (r = -1)
set_option maxHeartbeats 4000000 in
set_option maxRecDepth 100000 in
theorem c_X8_answersB1 (l : Launch) (g : GT) (hd : Nat) (d : Nat → Nat) (i : Nat → Int) (fle : Nat → Option Nat) (fsh : Nat → Option Nat) (x : Int) (xs : Int) (lane : Int) (x2 : Int) (n : Int) (h1 : ¬ (0 ≤ x ∧ x < i 4) ∧ 0 ≤ i 4 ∧ i 4 ≤ 12 ∧ (-2147483648 ≤ x ∧ x < 2147483648)) (h2 : ¬ (0 ≤ xs ∧ xs ≤ 3) ∧ (-2147483648 ≤ xs ∧ xs < 2147483648)) : Ct l g yX8_answers wsX8_answers ({ frames := 6, cells := 0, slots := 0, locals := 148 } : Room) [.ref hd, .int (iI x), .int (iI xs), .int (iI lane), .int (iI x2), .int (iI n)] [(hd, .inr (8, dF d i)), ((d 3), aQ (g.2.1 3) 12 fle), ((d 12), aQ (g.2.1 4) 4 fsh)] (q_X8_answersB1 g hd d i fle fsh x xs lane x2 n) := by
  refine Ct.intro (maxL := 11) (ret := (some .int)) (by decide) rfl (Nat.le_of_ble_eq_true rfl) ?_
  intro p e s m below meth c A ls hx hb hr hml hown hts hlocks hnm hA hG hP hD hS hl
  have hown : s.vm.findClass RX8 = some m.cls := hown
  have hl : lv_has ls 11 [(0, .ref hd), (1, .int (iI x)), (2, .int (iI xs)), (3, .int (iI lane)), (4, .int (iI x2)), (5, .int (iI n))] := hl
  have hP : va_P g.1 vwCl [(hd, .inr (8, dF d i)), ((d 3), aQ (g.2.1 3) 12 fle), ((d 12), aQ (g.2.1 4) 4 fsh)] s.heap := hP
  have hS : va_S A s.heap s.heap [] := hS
  obtain ⟨H, hHe⟩ : ∃ H : Heap, H = s.heap := ⟨_, rfl⟩
  obtain ⟨locs, hLe⟩ : ∃ L : List Loc, L = [] := ⟨_, rfl⟩
  have hP : va_P g.1 vwCl [(hd, .inr (8, dF d i)), ((d 3), aQ (g.2.1 3) 12 fle), ((d 12), aQ (g.2.1 4) 4 fsh)] H := by rw [hHe]; exact hP
  have hS : va_S A s.heap H locs := by rw [hHe, hLe]; exact hS
  suffices hgo : W p l e ({ frames := 6, cells := 0, slots := 0, locals := 148 } : Room) s m [.ref hd, .int (iI x), .int (iI xs), .int (iI lane), .int (iI x2), .int (iI n)].toArray below meth c H locs 0 0 (MQ below (CQ g (q_X8_answersB1 g hd d i fle fsh x xs lane x2 n) A) [.ref hd, .int (iI x), .int (iI xs), .int (iI lane), .int (iI x2), .int (iI n)].toArray s ({ frames := 6, cells := 0, slots := 0, locals := 148 } : Room).cells ({ frames := 6, cells := 0, slots := 0, locals := 148 } : Room).slots A) (F0 m 0 ls []) by rw [hHe, hLe] at hgo; exact hgo
  clear hHe hLe
  refine lv_aload_n hx hb dX8_answers_0 rfl (lv_at hl 0 rfl) ?_
  refine lv_iload_n hx hb dX8_answers_1 rfl (lv_at hl 1 rfl) ?_
  refine Ct.callV (ci := 8) (q0 := 0) (qc := (RX8, TX8, 13)) (As := [.int (iI x)]) (rest := []) (wr := [((d 12), aQ (g.2.1 4) 4 fsh)]) (c1 := 0) (s1 := 0) ⟨hx, hb, hml, hown, hts⟩ (c_X8_learnerAtB l g hd d i fle x (by omega)) rfl rfl (cwV 1 hts gX8_answers_X8_learnerAt rfl rfl rfl (by decide +kernel) ⟨Nat.le_of_ble_eq_true rfl, Nat.le_of_ble_eq_true rfl⟩) hG hP hD hS hA [0, 1] [2] rfl rfl (by decide) (by decide) (by decide) rfl hl.1 rfl (Nat.le_of_ble_eq_true rfl) dX8_answers_2 ⟨Nat.le_of_ble_eq_true rfl, Nat.le_of_ble_eq_true rfl⟩ rfl rfl (fun v w H locs hv hP hD hS => ?_)
  obtain ⟨rfl, rfl⟩ := hv
  show W p l e _ s m _ below meth c H locs 0 0 _ (F0 m 5 ls (.null :: []))
  have hP : va_P g.1 vwCl [((d 12), aQ (g.2.1 4) 4 fsh), (hd, .inr (8, dF d i)), ((d 3), aQ (g.2.1 3) 12 fle)] H := hP
  have hD : va_D A [((d 12), aQ (g.2.1 4) 4 fsh), (hd, .inr (8, dF d i)), ((d 3), aQ (g.2.1 3) 12 fle)] := hD
  refine lv_astoreN (lv' := [(6, .null), (0, .ref hd), (1, .int (iI x)), (2, .int (iI xs)), (3, .int (iI lane)), (4, .int (iI x2)), (5, .int (iI n))]) hx hb dX8_answers_5 hl (by decide) rfl (fun ls hl => ?_)
  refine lv_aload_n hx hb dX8_answers_7 rfl (lv_at hl 1 rfl) ?_
  refine lv_iload_n hx hb dX8_answers_8 rfl (lv_at hl 3 rfl) ?_
  refine Ct.callV (ci := 8) (q0 := 1) (qc := (RX8, TX8, 13)) (As := [.int (iI xs)]) (rest := []) (wr := [((d 3), aQ (g.2.1 3) 12 fle)]) (c1 := 0) (s1 := 0) ⟨hx, hb, hml, hown, hts⟩ (c_X8_sheetAtB l g hd d i fsh xs (by omega)) rfl rfl (cwV 1 hts gX8_answers_X8_sheetAt rfl rfl rfl (by decide +kernel) ⟨Nat.le_of_ble_eq_true rfl, Nat.le_of_ble_eq_true rfl⟩) hG hP hD hS hA [1, 0] [2] rfl rfl (by decide) (by decide) (by decide) rfl hl.1 rfl (Nat.le_of_ble_eq_true rfl) dX8_answers_9 ⟨Nat.le_of_ble_eq_true rfl, Nat.le_of_ble_eq_true rfl⟩ rfl rfl (fun v w H locs hv hP hD hS => ?_)
  obtain ⟨rfl, rfl⟩ := hv
  show W p l e _ s m _ below meth c H locs 0 0 _ (F0 m 12 ls (.null :: []))
  have hP : va_P g.1 vwCl [((d 3), aQ (g.2.1 3) 12 fle), (hd, .inr (8, dF d i)), ((d 12), aQ (g.2.1 4) 4 fsh)] H := hP
  have hD : va_D A [((d 3), aQ (g.2.1 3) 12 fle), (hd, .inr (8, dF d i)), ((d 12), aQ (g.2.1 4) 4 fsh)] := hD
  refine lv_astoreN (lv' := [(7, .null), (6, .null), (0, .ref hd), (1, .int (iI x)), (2, .int (iI xs)), (3, .int (iI lane)), (4, .int (iI x2)), (5, .int (iI n))]) hx hb dX8_answers_12 hl (by decide) rfl (fun ls hl => ?_)
  refine lv_aloadN hx hb dX8_answers_14 (lv_at hl 1 rfl) ?_
  refine lv_ifnullN (tgt := 42) hx hb dX8_answers_16 (by decide) ?_
  refine lv_iconst (v := iI (-1)) hx hb dX8_answers_42 rfl ?_
  exact Ct.iret hx hb hr hlocks (hP.sub [1, 0, 2] rfl) (hD.sub [1, 0, 2] (by decide) rfl) hS ⟨by decide, by decide⟩ dX8_answers_43 ⟨(-1), rfl, rfl, (by omega)⟩
abbrev q_X8_answersB2 (g : GT) (hd : Nat) (d : Nat → Nat) (i : Nat → Int) (fle : Nat → Option Nat) (fsh : Nat → Option Nat) (x : Int) (xs : Int) (lane : Int) (x2 : Int) (n : Int) (ks : Nat) (ys : Nat) : Option Value → va_W → Prop := fun v w => ∃ (r : Int), v = some (.int (iI r)) ∧ w = [(hd, .inr (8, dF d i)), ((d 3), aQ (g.2.1 3) 12 fle), ((d 12), aQ (g.2.1 4) 4 fsh)] ∧ (r = -1)
set_option maxHeartbeats 4000000 in
set_option maxRecDepth 100000 in
theorem c_X8_answersB2 (l : Launch) (g : GT) (hd : Nat) (d : Nat → Nat) (i : Nat → Int) (fle : Nat → Option Nat) (fsh : Nat → Option Nat) (x : Int) (xs : Int) (lane : Int) (x2 : Int) (n : Int) (ks : Nat) (ys : Nat) (h1 : ¬ (0 ≤ x ∧ x < i 4) ∧ 0 ≤ i 4 ∧ i 4 ≤ 12 ∧ (-2147483648 ≤ x ∧ x < 2147483648)) (h2 : xs = (ks : Int) ∧ ks < 4) (h4 : fsh ks = some ys) : Ct l g yX8_answers wsX8_answers ({ frames := 6, cells := 0, slots := 0, locals := 148 } : Room) [.ref hd, .int (iI x), .int (iI xs), .int (iI lane), .int (iI x2), .int (iI n)] [(hd, .inr (8, dF d i)), ((d 3), aQ (g.2.1 3) 12 fle), ((d 12), aQ (g.2.1 4) 4 fsh)] (q_X8_answersB2 g hd d i fle fsh x xs lane x2 n ks ys) := by
  refine Ct.intro (maxL := 11) (ret := (some .int)) (by decide) rfl (Nat.le_of_ble_eq_true rfl) ?_
  intro p e s m below meth c A ls hx hb hr hml hown hts hlocks hnm hA hG hP hD hS hl
  have hown : s.vm.findClass RX8 = some m.cls := hown
  have hl : lv_has ls 11 [(0, .ref hd), (1, .int (iI x)), (2, .int (iI xs)), (3, .int (iI lane)), (4, .int (iI x2)), (5, .int (iI n))] := hl
  have hP : va_P g.1 vwCl [(hd, .inr (8, dF d i)), ((d 3), aQ (g.2.1 3) 12 fle), ((d 12), aQ (g.2.1 4) 4 fsh)] s.heap := hP
  have hS : va_S A s.heap s.heap [] := hS
  obtain ⟨H, hHe⟩ : ∃ H : Heap, H = s.heap := ⟨_, rfl⟩
  obtain ⟨locs, hLe⟩ : ∃ L : List Loc, L = [] := ⟨_, rfl⟩
  have hP : va_P g.1 vwCl [(hd, .inr (8, dF d i)), ((d 3), aQ (g.2.1 3) 12 fle), ((d 12), aQ (g.2.1 4) 4 fsh)] H := by rw [hHe]; exact hP
  have hS : va_S A s.heap H locs := by rw [hHe, hLe]; exact hS
  suffices hgo : W p l e ({ frames := 6, cells := 0, slots := 0, locals := 148 } : Room) s m [.ref hd, .int (iI x), .int (iI xs), .int (iI lane), .int (iI x2), .int (iI n)].toArray below meth c H locs 0 0 (MQ below (CQ g (q_X8_answersB2 g hd d i fle fsh x xs lane x2 n ks ys) A) [.ref hd, .int (iI x), .int (iI xs), .int (iI lane), .int (iI x2), .int (iI n)].toArray s ({ frames := 6, cells := 0, slots := 0, locals := 148 } : Room).cells ({ frames := 6, cells := 0, slots := 0, locals := 148 } : Room).slots A) (F0 m 0 ls []) by rw [hHe, hLe] at hgo; exact hgo
  clear hHe hLe
  refine lv_aload_n hx hb dX8_answers_0 rfl (lv_at hl 0 rfl) ?_
  refine lv_iload_n hx hb dX8_answers_1 rfl (lv_at hl 1 rfl) ?_
  refine Ct.callV (ci := 8) (q0 := 0) (qc := (RX8, TX8, 13)) (As := [.int (iI x)]) (rest := []) (wr := [((d 12), aQ (g.2.1 4) 4 fsh)]) (c1 := 0) (s1 := 0) ⟨hx, hb, hml, hown, hts⟩ (c_X8_learnerAtB l g hd d i fle x (by omega)) rfl rfl (cwV 1 hts gX8_answers_X8_learnerAt rfl rfl rfl (by decide +kernel) ⟨Nat.le_of_ble_eq_true rfl, Nat.le_of_ble_eq_true rfl⟩) hG hP hD hS hA [0, 1] [2] rfl rfl (by decide) (by decide) (by decide) rfl hl.1 rfl (Nat.le_of_ble_eq_true rfl) dX8_answers_2 ⟨Nat.le_of_ble_eq_true rfl, Nat.le_of_ble_eq_true rfl⟩ rfl rfl (fun v w H locs hv hP hD hS => ?_)
  obtain ⟨rfl, rfl⟩ := hv
  show W p l e _ s m _ below meth c H locs 0 0 _ (F0 m 5 ls (.null :: []))
  have hP : va_P g.1 vwCl [((d 12), aQ (g.2.1 4) 4 fsh), (hd, .inr (8, dF d i)), ((d 3), aQ (g.2.1 3) 12 fle)] H := hP
  have hD : va_D A [((d 12), aQ (g.2.1 4) 4 fsh), (hd, .inr (8, dF d i)), ((d 3), aQ (g.2.1 3) 12 fle)] := hD
  refine lv_astoreN (lv' := [(6, .null), (0, .ref hd), (1, .int (iI x)), (2, .int (iI xs)), (3, .int (iI lane)), (4, .int (iI x2)), (5, .int (iI n))]) hx hb dX8_answers_5 hl (by decide) rfl (fun ls hl => ?_)
  refine lv_aload_n hx hb dX8_answers_7 rfl (lv_at hl 1 rfl) ?_
  refine lv_iload_n hx hb dX8_answers_8 rfl (lv_at hl 3 rfl) ?_
  refine Ct.callV (ci := 8) (q0 := 1) (qc := (RX8, TX8, 13)) (As := [.int (iI xs)]) (rest := []) (wr := [((d 3), aQ (g.2.1 3) 12 fle)]) (c1 := 0) (s1 := 0) ⟨hx, hb, hml, hown, hts⟩ (c_X8_sheetAt l g hd d i fsh xs ks ys (by omega) (h4)) rfl rfl (cwV 1 hts gX8_answers_X8_sheetAt rfl rfl rfl (by decide +kernel) ⟨Nat.le_of_ble_eq_true rfl, Nat.le_of_ble_eq_true rfl⟩) hG hP hD hS hA [1, 0] [2] rfl rfl (by decide) (by decide) (by decide) rfl hl.1 rfl (Nat.le_of_ble_eq_true rfl) dX8_answers_9 ⟨Nat.le_of_ble_eq_true rfl, Nat.le_of_ble_eq_true rfl⟩ rfl rfl (fun v w H locs hv hP hD hS => ?_)
  obtain ⟨rfl, rfl⟩ := hv
  show W p l e _ s m _ below meth c H locs 0 0 _ (F0 m 12 ls (.ref ys :: []))
  have hP : va_P g.1 vwCl [((d 3), aQ (g.2.1 3) 12 fle), (hd, .inr (8, dF d i)), ((d 12), aQ (g.2.1 4) 4 fsh)] H := hP
  have hD : va_D A [((d 3), aQ (g.2.1 3) 12 fle), (hd, .inr (8, dF d i)), ((d 12), aQ (g.2.1 4) 4 fsh)] := hD
  refine lv_astore (lv' := [(7, .ref ys), (6, .null), (0, .ref hd), (1, .int (iI x)), (2, .int (iI xs)), (3, .int (iI lane)), (4, .int (iI x2)), (5, .int (iI n))]) hx hb dX8_answers_12 hl (by decide) rfl (fun ls hl => ?_)
  refine lv_aloadN hx hb dX8_answers_14 (lv_at hl 1 rfl) ?_
  refine lv_ifnullN (tgt := 42) hx hb dX8_answers_16 (by decide) ?_
  refine lv_iconst (v := iI (-1)) hx hb dX8_answers_42 rfl ?_
  exact Ct.iret hx hb hr hlocks (hP.sub [1, 0, 2] rfl) (hD.sub [1, 0, 2] (by decide) rfl) hS ⟨by decide, by decide⟩ dX8_answers_43 ⟨(-1), rfl, rfl, (by omega)⟩
abbrev q_X8_answersB3 (g : GT) (hd : Nat) (d : Nat → Nat) (i : Nat → Int) (fle : Nat → Option Nat) (fsh : Nat → Option Nat) (k : Nat) (x : Int) (y : Nat) (xs : Int) (lane : Int) (x2 : Int) (n : Int) : Option Value → va_W → Prop := fun v w => ∃ (r : Int), v = some (.int (iI r)) ∧ w = [(hd, .inr (8, dF d i)), ((d 3), aQ (g.2.1 3) 12 fle), ((d 12), aQ (g.2.1 4) 4 fsh)] ∧ (r = -1)
set_option maxHeartbeats 4000000 in
set_option maxRecDepth 100000 in
theorem c_X8_answersB3 (l : Launch) (g : GT) (hd : Nat) (d : Nat → Nat) (i : Nat → Int) (fle : Nat → Option Nat) (fsh : Nat → Option Nat) (k : Nat) (x : Int) (y : Nat) (xs : Int) (lane : Int) (x2 : Int) (n : Int) (h1 : x = (k : Int) ∧ x < i 4 ∧ i 4 ≤ 12) (h2 : fle k = some y) (h3 : ¬ (0 ≤ xs ∧ xs ≤ 3) ∧ (-2147483648 ≤ xs ∧ xs < 2147483648)) : Ct l g yX8_answers wsX8_answers ({ frames := 6, cells := 0, slots := 0, locals := 148 } : Room) [.ref hd, .int (iI x), .int (iI xs), .int (iI lane), .int (iI x2), .int (iI n)] [(hd, .inr (8, dF d i)), ((d 3), aQ (g.2.1 3) 12 fle), ((d 12), aQ (g.2.1 4) 4 fsh)] (q_X8_answersB3 g hd d i fle fsh k x y xs lane x2 n) := by
  refine Ct.intro (maxL := 11) (ret := (some .int)) (by decide) rfl (Nat.le_of_ble_eq_true rfl) ?_
  intro p e s m below meth c A ls hx hb hr hml hown hts hlocks hnm hA hG hP hD hS hl
  have hown : s.vm.findClass RX8 = some m.cls := hown
  have hl : lv_has ls 11 [(0, .ref hd), (1, .int (iI x)), (2, .int (iI xs)), (3, .int (iI lane)), (4, .int (iI x2)), (5, .int (iI n))] := hl
  have hP : va_P g.1 vwCl [(hd, .inr (8, dF d i)), ((d 3), aQ (g.2.1 3) 12 fle), ((d 12), aQ (g.2.1 4) 4 fsh)] s.heap := hP
  have hS : va_S A s.heap s.heap [] := hS
  obtain ⟨H, hHe⟩ : ∃ H : Heap, H = s.heap := ⟨_, rfl⟩
  obtain ⟨locs, hLe⟩ : ∃ L : List Loc, L = [] := ⟨_, rfl⟩
  have hP : va_P g.1 vwCl [(hd, .inr (8, dF d i)), ((d 3), aQ (g.2.1 3) 12 fle), ((d 12), aQ (g.2.1 4) 4 fsh)] H := by rw [hHe]; exact hP
  have hS : va_S A s.heap H locs := by rw [hHe, hLe]; exact hS
  suffices hgo : W p l e ({ frames := 6, cells := 0, slots := 0, locals := 148 } : Room) s m [.ref hd, .int (iI x), .int (iI xs), .int (iI lane), .int (iI x2), .int (iI n)].toArray below meth c H locs 0 0 (MQ below (CQ g (q_X8_answersB3 g hd d i fle fsh k x y xs lane x2 n) A) [.ref hd, .int (iI x), .int (iI xs), .int (iI lane), .int (iI x2), .int (iI n)].toArray s ({ frames := 6, cells := 0, slots := 0, locals := 148 } : Room).cells ({ frames := 6, cells := 0, slots := 0, locals := 148 } : Room).slots A) (F0 m 0 ls []) by rw [hHe, hLe] at hgo; exact hgo
  clear hHe hLe
  refine lv_aload_n hx hb dX8_answers_0 rfl (lv_at hl 0 rfl) ?_
  refine lv_iload_n hx hb dX8_answers_1 rfl (lv_at hl 1 rfl) ?_
  refine Ct.callV (ci := 8) (q0 := 0) (qc := (RX8, TX8, 13)) (As := [.int (iI x)]) (rest := []) (wr := [((d 12), aQ (g.2.1 4) 4 fsh)]) (c1 := 0) (s1 := 0) ⟨hx, hb, hml, hown, hts⟩ (c_X8_learnerAt l g hd d i fle x k y (by omega) (h2)) rfl rfl (cwV 1 hts gX8_answers_X8_learnerAt rfl rfl rfl (by decide +kernel) ⟨Nat.le_of_ble_eq_true rfl, Nat.le_of_ble_eq_true rfl⟩) hG hP hD hS hA [0, 1] [2] rfl rfl (by decide) (by decide) (by decide) rfl hl.1 rfl (Nat.le_of_ble_eq_true rfl) dX8_answers_2 ⟨Nat.le_of_ble_eq_true rfl, Nat.le_of_ble_eq_true rfl⟩ rfl rfl (fun v w H locs hv hP hD hS => ?_)
  obtain ⟨rfl, rfl⟩ := hv
  show W p l e _ s m _ below meth c H locs 0 0 _ (F0 m 5 ls (.ref y :: []))
  have hP : va_P g.1 vwCl [((d 12), aQ (g.2.1 4) 4 fsh), (hd, .inr (8, dF d i)), ((d 3), aQ (g.2.1 3) 12 fle)] H := hP
  have hD : va_D A [((d 12), aQ (g.2.1 4) 4 fsh), (hd, .inr (8, dF d i)), ((d 3), aQ (g.2.1 3) 12 fle)] := hD
  refine lv_astore (lv' := [(6, .ref y), (0, .ref hd), (1, .int (iI x)), (2, .int (iI xs)), (3, .int (iI lane)), (4, .int (iI x2)), (5, .int (iI n))]) hx hb dX8_answers_5 hl (by decide) rfl (fun ls hl => ?_)
  refine lv_aload_n hx hb dX8_answers_7 rfl (lv_at hl 1 rfl) ?_
  refine lv_iload_n hx hb dX8_answers_8 rfl (lv_at hl 3 rfl) ?_
  refine Ct.callV (ci := 8) (q0 := 1) (qc := (RX8, TX8, 13)) (As := [.int (iI xs)]) (rest := []) (wr := [((d 3), aQ (g.2.1 3) 12 fle)]) (c1 := 0) (s1 := 0) ⟨hx, hb, hml, hown, hts⟩ (c_X8_sheetAtB l g hd d i fsh xs (by omega)) rfl rfl (cwV 1 hts gX8_answers_X8_sheetAt rfl rfl rfl (by decide +kernel) ⟨Nat.le_of_ble_eq_true rfl, Nat.le_of_ble_eq_true rfl⟩) hG hP hD hS hA [1, 0] [2] rfl rfl (by decide) (by decide) (by decide) rfl hl.1 rfl (Nat.le_of_ble_eq_true rfl) dX8_answers_9 ⟨Nat.le_of_ble_eq_true rfl, Nat.le_of_ble_eq_true rfl⟩ rfl rfl (fun v w H locs hv hP hD hS => ?_)
  obtain ⟨rfl, rfl⟩ := hv
  show W p l e _ s m _ below meth c H locs 0 0 _ (F0 m 12 ls (.null :: []))
  have hP : va_P g.1 vwCl [((d 3), aQ (g.2.1 3) 12 fle), (hd, .inr (8, dF d i)), ((d 12), aQ (g.2.1 4) 4 fsh)] H := hP
  have hD : va_D A [((d 3), aQ (g.2.1 3) 12 fle), (hd, .inr (8, dF d i)), ((d 12), aQ (g.2.1 4) 4 fsh)] := hD
  refine lv_astoreN (lv' := [(7, .null), (6, .ref y), (0, .ref hd), (1, .int (iI x)), (2, .int (iI xs)), (3, .int (iI lane)), (4, .int (iI x2)), (5, .int (iI n))]) hx hb dX8_answers_12 hl (by decide) rfl (fun ls hl => ?_)
  refine lv_aload hx hb dX8_answers_14 (lv_at hl 1 rfl) ?_
  refine lv_ifnull hx hb dX8_answers_16 ?_
  refine lv_aloadN hx hb dX8_answers_19 (lv_at hl 0 rfl) ?_
  refine lv_ifnullN (tgt := 42) hx hb dX8_answers_21 (by decide) ?_
  refine lv_iconst (v := iI (-1)) hx hb dX8_answers_42 rfl ?_
  exact Ct.iret hx hb hr hlocks (hP.sub [1, 0, 2] rfl) (hD.sub [1, 0, 2] (by decide) rfl) hS ⟨by decide, by decide⟩ dX8_answers_43 ⟨(-1), rfl, rfl, (by omega)⟩
