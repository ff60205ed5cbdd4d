theorem kX8_points_8 : ∀ w ∈ u_ws RX8 TX8 13, w ∈ wsX8_points := fun _ h => List.mem_cons_of_mem _ (List.mem_append_left _ (List.mem_append_right _ h))
abbrev q_X8_points (g : GT) (hd : Nat) (d : Nat → Nat) (i : Nat → Int) (fle : Nat → Option Nat) (y : Nat) (mn : Int) (cn : Int) (me : Nat) (cs : Nat) (as_ : Nat) (sr : Nat) (hi : Nat) (fhi : Nat → Int) (fmk : Nat → Int) (k : Nat) (x : Int) (st : Int) : Option Value → va_W → Prop := fun v w => ∃ (r : Int), v = some (.int (iI r)) ∧ w = [(hd, .inr (8, dF d i)), ((d 3), aQ (g.2.1 3) 12 fle), (y, .inr (1, [.int (iI mn), .int (iI cn), .ref me, .ref cs, .ref as_, .ref sr, .ref hi])), (hi, aI (g.2.1 0) 93 fhi), ((d 5), aI (g.2.1 0) 5 fmk)] ∧ (r = (if plF st 93 0 < 0 then -100001 else pts fhi cn fmk (plF st 93 0).toNat))
set_option maxHeartbeats 4000000 in
set_option maxRecDepth 100000 in
theorem c_X8_points (l : Launch) (g : GT) (hd : Nat) (d : Nat → Nat) (i : Nat → Int) (fle : Nat → Option Nat) (y : Nat) (mn : Int) (cn : Int) (me : Nat) (cs : Nat) (as_ : Nat) (sr : Nat) (hi : Nat) (fhi : Nat → Int) (fmk : Nat → Int) (k : Nat) (x : Int) (st : Int) (h1 : x = (k : Int) ∧ x < i 4 ∧ i 4 ≤ 12) (h2 : fle k = some y) (h3 : (-2147483648 ≤ st ∧ st < 2147483648)) : Ct l g yX8_points wsX8_points ({ frames := 2, cells := 0, slots := 0, locals := 43 } : Room) [.ref hd, .int (iI x), .int (iI st)] [(hd, .inr (8, dF d i)), ((d 3), aQ (g.2.1 3) 12 fle), (y, .inr (1, [.int (iI mn), .int (iI cn), .ref me, .ref cs, .ref as_, .ref sr, .ref hi])), (hi, aI (g.2.1 0) 93 fhi), ((d 5), aI (g.2.1 0) 5 fmk)] (q_X8_points g hd d i fle y mn cn me cs as_ sr hi fhi fmk k x st) := by
  refine Ct.intro (maxL := 5) (ret := (some .int)) (by decide) rfl (Nat.le_of_ble_eq_true rfl) ?_
  intro p e s m below meth c A ls hx hb hr hml hown hts hlocks hnm hA hG hP hD hS hl
  have hown : s.vm.findClass RX8 = some m.cls := hown
  have hl : lv_has ls 5 [(0, .ref hd), (1, .int (iI x)), (2, .int (iI st))] := hl
  have hP : va_P g.1 vwCl [(hd, .inr (8, dF d i)), ((d 3), aQ (g.2.1 3) 12 fle), (y, .inr (1, [.int (iI mn), .int (iI cn), .ref me, .ref cs, .ref as_, .ref sr, .ref hi])), (hi, aI (g.2.1 0) 93 fhi), ((d 5), aI (g.2.1 0) 5 fmk)] s.heap := hP
  have hS : va_S A s.heap s.heap [] := hS
  obtain ⟨H, hHe⟩ : ∃ H : Heap, H = s.heap := ⟨_, rfl⟩
  obtain ⟨locs, hLe⟩ : ∃ L : List Loc, L = [] := ⟨_, rfl⟩
  have hP : va_P g.1 vwCl [(hd, .inr (8, dF d i)), ((d 3), aQ (g.2.1 3) 12 fle), (y, .inr (1, [.int (iI mn), .int (iI cn), .ref me, .ref cs, .ref as_, .ref sr, .ref hi])), (hi, aI (g.2.1 0) 93 fhi), ((d 5), aI (g.2.1 0) 5 fmk)] H := by rw [hHe]; exact hP
  have hS : va_S A s.heap H locs := by rw [hHe, hLe]; exact hS
  suffices hgo : W p l e ({ frames := 2, cells := 0, slots := 0, locals := 43 } : Room) s m [.ref hd, .int (iI x), .int (iI st)].toArray below meth c H locs 0 0 (MQ below (CQ g (q_X8_points g hd d i fle y mn cn me cs as_ sr hi fhi fmk k x st) A) [.ref hd, .int (iI x), .int (iI st)].toArray s ({ frames := 2, cells := 0, slots := 0, locals := 43 } : Room).cells ({ frames := 2, cells := 0, slots := 0, locals := 43 } : Room).slots A) (F0 m 0 ls []) by rw [hHe, hLe] at hgo; exact hgo
  clear hHe hLe
  refine lv_aload_n hx hb dX8_points_0 rfl (lv_at hl 0 rfl) ?_
  refine lv_iload_n hx hb dX8_points_1 rfl (lv_at hl 1 rfl) ?_
  refine Ct.callV (ci := 8) (q0 := 0) (qc := (RX8, TX8, 13)) (As := [.int (iI x)]) (rest := []) (wr := [(y, .inr (1, [.int (iI mn), .int (iI cn), .ref me, .ref cs, .ref as_, .ref sr, .ref hi])), (hi, aI (g.2.1 0) 93 fhi), ((d 5), aI (g.2.1 0) 5 fmk)]) (c1 := 0) (s1 := 0) ⟨hx, hb, hml, hown, hts⟩ (c_X8_learnerAt l g hd d i fle x k y (by omega) (h2)) rfl rfl (cwV 1 hts gX8_points_X8_learnerAt rfl rfl rfl (by decide +kernel) ⟨Nat.le_of_ble_eq_true rfl, Nat.le_of_ble_eq_true rfl⟩) hG hP hD hS hA [0, 1] [2, 3, 4] rfl rfl (by decide) (by decide) (by decide) rfl hl.1 rfl (Nat.le_of_ble_eq_true rfl) dX8_points_2 ⟨Nat.le_of_ble_eq_true rfl, Nat.le_of_ble_eq_true rfl⟩ rfl rfl (fun v w H locs hv hP hD hS => ?_)
  obtain ⟨rfl, rfl⟩ := hv
  show W p l e _ s m _ below meth c H locs 0 0 _ (F0 m 5 ls (.ref y :: []))
  have hP : va_P g.1 vwCl [(y, .inr (1, [.int (iI mn), .int (iI cn), .ref me, .ref cs, .ref as_, .ref sr, .ref hi])), (hi, aI (g.2.1 0) 93 fhi), ((d 5), aI (g.2.1 0) 5 fmk), (hd, .inr (8, dF d i)), ((d 3), aQ (g.2.1 3) 12 fle)] H := hP
  have hD : va_D A [(y, .inr (1, [.int (iI mn), .int (iI cn), .ref me, .ref cs, .ref as_, .ref sr, .ref hi])), (hi, aI (g.2.1 0) 93 fhi), ((d 5), aI (g.2.1 0) 5 fmk), (hd, .inr (8, dF d i)), ((d 3), aQ (g.2.1 3) 12 fle)] := hD
  refine lv_astore_n (lv' := [(3, .ref y), (0, .ref hd), (1, .int (iI x)), (2, .int (iI st))]) hx hb dX8_points_5 rfl hl (by decide) rfl (fun ls hl => ?_)
  refine lv_iload_n hx hb dX8_points_6 rfl (lv_at hl 3 rfl) ?_
  refine Ct.callS (As := [.int (iI st)]) (rest := []) (wr := [(y, .inr (1, [.int (iI mn), .int (iI cn), .ref me, .ref cs, .ref as_, .ref sr, .ref hi])), (hi, aI (g.2.1 0) 93 fhi), ((d 5), aI (g.2.1 0) 5 fmk), (hd, .inr (8, dF d i)), ((d 3), aQ (g.2.1 3) 12 fle)]) (c1 := 0) (s1 := 0) ⟨hx, hb, hml, hown, hts⟩ (c_X8_placeInOrder l g st (by omega)) (va_cwS 1 hts gX8_points_X8_placeInOrder rfl rfl rfl (by decide +kernel) ⟨Nat.le_of_ble_eq_true rfl, Nat.le_of_ble_eq_true rfl⟩) hG hP hD hS hA [] [0, 1, 2, 3, 4] rfl rfl (by decide) (by decide) (by decide) rfl hl.1 rfl (Nat.le_of_ble_eq_true rfl) dX8_points_7 ⟨Nat.le_of_ble_eq_true rfl, Nat.le_of_ble_eq_true rfl⟩ rfl rfl (fun v w H locs hv hP hD hS => ?_)
  obtain ⟨rfl, rfl⟩ := hv
  show W p l e _ s m _ below meth c H locs 0 0 _ (F0 m 10 ls (.int (iI (plF st 93 0)) :: []))
  have hP : va_P g.1 vwCl [(y, .inr (1, [.int (iI mn), .int (iI cn), .ref me, .ref cs, .ref as_, .ref sr, .ref hi])), (hi, aI (g.2.1 0) 93 fhi), ((d 5), aI (g.2.1 0) 5 fmk), (hd, .inr (8, dF d i)), ((d 3), aQ (g.2.1 3) 12 fle)] H := hP
  have hD : va_D A [(y, .inr (1, [.int (iI mn), .int (iI cn), .ref me, .ref cs, .ref as_, .ref sr, .ref hi])), (hi, aI (g.2.1 0) 93 fhi), ((d 5), aI (g.2.1 0) 5 fmk), (hd, .inr (8, dF d i)), ((d 3), aQ (g.2.1 3) 12 fle)] := hD
  refine lv_istore (lv' := [(4, .int (iI (plF st 93 0))), (3, .ref y), (0, .ref hd), (1, .int (iI x)), (2, .int (iI st))]) hx hb dX8_points_10 hl (by decide) rfl (fun ls hl => ?_)
  have hpl := plF_rng st 93 0 (by omega)
  refine lv_aload_n hx hb dX8_points_12 rfl (lv_at hl 1 rfl) ?_
  refine lv_ifnull hx hb dX8_points_13 ?_
  refine lv_iload hx hb dX8_points_16 (lv_at hl 0 rfl) ?_
  refine iv_if_ge (tgt := 24) hx hb dX8_points_18 (by decide) (by omega) (fun hc1 => ?_) (fun hc1 => ?_)
  · refine lv_aload_n hx hb dX8_points_24 rfl (lv_at hl 1 rfl) ?_
    refine lv_iload hx hb dX8_points_25 (lv_at hl 0 rfl) ?_
    refine lv_aload_n hx hb dX8_points_27 rfl (lv_at hl 2 rfl) ?_
    refine va_get (D := g.1) (ci := 8) (v := .ref (d 5)) hx hb hts kX8_points_8 hown hG.1 hP 3 rfl rfl 5 (by decide) (hts _ (List.mem_of_getElem? (i := 2) rfl)) (fun _ h9 => h9) rfl dX8_points_28 ?_
    refine Ct.callV (ci := 1) (q0 := 0) (qc := (RX1, TX1, 7)) (As := [.int (iI (plF st 93 0)), .ref (d 5)]) (rest := []) (wr := [(hd, .inr (8, dF d i)), ((d 3), aQ (g.2.1 3) 12 fle)]) (c1 := 0) (s1 := 0) ⟨hx, hb, hml, hown, hts⟩ (c_X1_pointsAt l g y mn cn me cs as_ sr hi fhi (d 5) fmk (plF st 93 0) ((plF st 93 0).toNat) (by omega)) rfl rfl (cwV 2 hts gX8_points_X1_pointsAt rfl rfl rfl (by decide +kernel) ⟨Nat.le_of_ble_eq_true rfl, Nat.le_of_ble_eq_true rfl⟩) hG hP hD hS hA [0, 1, 2] [3, 4] rfl rfl (by decide) (by decide) (by decide) rfl hl.1 rfl (Nat.le_of_ble_eq_true rfl) dX8_points_31 ⟨Nat.le_of_ble_eq_true rfl, Nat.le_of_ble_eq_true rfl⟩ rfl rfl (fun v w H locs hv hP hD hS => ?_)
    obtain ⟨rfl, rfl⟩ := hv
    show W p l e _ s m _ below meth c H locs 0 0 _ (F0 m 34 ls (.int (iI (pts fhi cn fmk ((plF st 93 0).toNat))) :: []))
    have hP : va_P g.1 vwCl [(hd, .inr (8, dF d i)), ((d 3), aQ (g.2.1 3) 12 fle), (y, .inr (1, [.int (iI mn), .int (iI cn), .ref me, .ref cs, .ref as_, .ref sr, .ref hi])), (hi, aI (g.2.1 0) 93 fhi), ((d 5), aI (g.2.1 0) 5 fmk)] H := hP
    have hD : va_D A [(hd, .inr (8, dF d i)), ((d 3), aQ (g.2.1 3) 12 fle), (y, .inr (1, [.int (iI mn), .int (iI cn), .ref me, .ref cs, .ref as_, .ref sr, .ref hi])), (hi, aI (g.2.1 0) 93 fhi), ((d 5), aI (g.2.1 0) 5 fmk)] := hD
    exact Ct.iret hx hb hr hlocks (hP.sub [0, 1, 2, 3, 4] rfl) (hD.sub [0, 1, 2, 3, 4] (by decide) rfl) hS ⟨by decide, by decide⟩ dX8_points_34 ⟨(pts fhi cn fmk ((plF st 93 0).toNat)), rfl, rfl, (by rw [if_neg (by omega)])⟩
  · refine iv_ldc (v := -100001) (z := -100001) hx hb hown (hts _ (List.mem_of_getElem? (i := 1) rfl)) dX8_points_21 (by decide) ?_
    exact Ct.iret hx hb hr hlocks (hP.sub [3, 4, 0, 1, 2] rfl) (hD.sub [3, 4, 0, 1, 2] (by decide) rfl) hS ⟨by decide, by decide⟩ dX8_points_23 ⟨(-100001), rfl, rfl, (by rw [if_pos (by omega)])⟩
abbrev q_X8_pointsB (g : GT) (hd : Nat) (d : Nat → Nat) (i : Nat → Int) (fle : Nat → Option Nat) (x : Int) (st : Int) : Option Value → va_W → Prop := fun v w => ∃ (r : Int), v = some (.int (iI r)) ∧ w = [(hd, .inr (8, dF d i)), ((d 3), aQ (g.2.1 3) 12 fle)] ∧ (r = -100001)
set_option maxHeartbeats 4000000 in
set_option maxRecDepth 100000 in
theorem c_X8_pointsB (l : Launch) (g : GT) (hd : Nat) (d : Nat → Nat) (i : Nat → Int) (fle : Nat → Option Nat) (x : Int) (st : Int) (h1 : ¬ (0 ≤ x ∧ x < i 4) ∧ 0 ≤ i 4 ∧ i 4 ≤ 12 ∧ (-2147483648 ≤ x ∧ x < 2147483648)) (h9 : (-2147483648 ≤ st ∧ st < 2147483648)) : Ct l g yX8_points wsX8_points ({ frames := 2, cells := 0, slots := 0, locals := 43 } : Room) [.ref hd, .int (iI x), .int (iI st)] [(hd, .inr (8, dF d i)), ((d 3), aQ (g.2.1 3) 12 fle)] (q_X8_pointsB g hd d i fle x st) := by
  refine Ct.intro (maxL := 5) (ret := (some .int)) (by decide) rfl (Nat.le_of_ble_eq_true rfl) ?_
  intro p e s m below meth c A ls hx hb hr hml hown hts hlocks hnm hA hG hP hD hS hl
  have hown : s.vm.findClass RX8 = some m.cls := hown
  have hl : lv_has ls 5 [(0, .ref hd), (1, .int (iI x)), (2, .int (iI st))] := hl
  have hP : va_P g.1 vwCl [(hd, .inr (8, dF d i)), ((d 3), aQ (g.2.1 3) 12 fle)] s.heap := hP
  have hS : va_S A s.heap s.heap [] := hS
  obtain ⟨H, hHe⟩ : ∃ H : Heap, H = s.heap := ⟨_, rfl⟩
  obtain ⟨locs, hLe⟩ : ∃ L : List Loc, L = [] := ⟨_, rfl⟩
  have hP : va_P g.1 vwCl [(hd, .inr (8, dF d i)), ((d 3), aQ (g.2.1 3) 12 fle)] H := by rw [hHe]; exact hP
  have hS : va_S A s.heap H locs := by rw [hHe, hLe]; exact hS
  suffices hgo : W p l e ({ frames := 2, cells := 0, slots := 0, locals := 43 } : Room) s m [.ref hd, .int (iI x), .int (iI st)].toArray below meth c H locs 0 0 (MQ below (CQ g (q_X8_pointsB g hd d i fle x st) A) [.ref hd, .int (iI x), .int (iI st)].toArray s ({ frames := 2, cells := 0, slots := 0, locals := 43 } : Room).cells ({ frames := 2, cells := 0, slots := 0, locals := 43 } : Room).slots A) (F0 m 0 ls []) by rw [hHe, hLe] at hgo; exact hgo
  clear hHe hLe
  refine lv_aload_n hx hb dX8_points_0 rfl (lv_at hl 0 rfl) ?_
  refine lv_iload_n hx hb dX8_points_1 rfl (lv_at hl 1 rfl) ?_
  refine Ct.callV (ci := 8) (q0 := 0) (qc := (RX8, TX8, 13)) (As := [.int (iI x)]) (rest := []) (wr := []) (c1 := 0) (s1 := 0) ⟨hx, hb, hml, hown, hts⟩ (c_X8_learnerAtB l g hd d i fle x (by omega)) rfl rfl (cwV 1 hts gX8_points_X8_learnerAt rfl rfl rfl (by decide +kernel) ⟨Nat.le_of_ble_eq_true rfl, Nat.le_of_ble_eq_true rfl⟩) hG hP hD hS hA [0, 1] [] rfl rfl (by decide) (by decide) (by decide) rfl hl.1 rfl (Nat.le_of_ble_eq_true rfl) dX8_points_2 ⟨Nat.le_of_ble_eq_true rfl, Nat.le_of_ble_eq_true rfl⟩ rfl rfl (fun v w H locs hv hP hD hS => ?_)
  obtain ⟨rfl, rfl⟩ := hv
  show W p l e _ s m _ below meth c H locs 0 0 _ (F0 m 5 ls (.null :: []))
  have hP : va_P g.1 vwCl [(hd, .inr (8, dF d i)), ((d 3), aQ (g.2.1 3) 12 fle)] H := hP
  have hD : va_D A [(hd, .inr (8, dF d i)), ((d 3), aQ (g.2.1 3) 12 fle)] := hD
  refine lv_astore_nN (lv' := [(3, .null), (0, .ref hd), (1, .int (iI x)), (2, .int (iI st))]) hx hb dX8_points_5 rfl hl (by decide) rfl (fun ls hl => ?_)
  refine lv_iload_n hx hb dX8_points_6 rfl (lv_at hl 3 rfl) ?_
  refine Ct.callS (As := [.int (iI st)]) (rest := []) (wr := [(hd, .inr (8, dF d i)), ((d 3), aQ (g.2.1 3) 12 fle)]) (c1 := 0) (s1 := 0) ⟨hx, hb, hml, hown, hts⟩ (c_X8_placeInOrder l g st (by omega)) (va_cwS 1 hts gX8_points_X8_placeInOrder rfl rfl rfl (by decide +kernel) ⟨Nat.le_of_ble_eq_true rfl, Nat.le_of_ble_eq_true rfl⟩) hG hP hD hS hA [] [0, 1] rfl rfl (by decide) (by decide) (by decide) rfl hl.1 rfl (Nat.le_of_ble_eq_true rfl) dX8_points_7 ⟨Nat.le_of_ble_eq_true rfl, Nat.le_of_ble_eq_true rfl⟩ rfl rfl (fun v w H locs hv hP hD hS => ?_)
  obtain ⟨rfl, rfl⟩ := hv
  show W p l e _ s m _ below meth c H locs 0 0 _ (F0 m 10 ls (.int (iI (plF st 93 0)) :: []))
  have hP : va_P g.1 vwCl [(hd, .inr (8, dF d i)), ((d 3), aQ (g.2.1 3) 12 fle)] H := hP
  have hD : va_D A [(hd, .inr (8, dF d i)), ((d 3), aQ (g.2.1 3) 12 fle)] := hD
  refine lv_istore (lv' := [(4, .int (iI (plF st 93 0))), (3, .null), (0, .ref hd), (1, .int (iI x)), (2, .int (iI st))]) hx hb dX8_points_10 hl (by decide) rfl (fun ls hl => ?_)
  refine lv_aload_nN hx hb dX8_points_12 rfl (lv_at hl 1 rfl) ?_
  refine lv_ifnullN (tgt := 21) hx hb dX8_points_13 (by decide) ?_
  refine iv_ldc (v := -100001) (z := -100001) hx hb hown (hts _ (List.mem_of_getElem? (i := 1) rfl)) dX8_points_21 (by decide) ?_
  exact Ct.iret hx hb hr hlocks (hP.sub [0, 1] rfl) (hD.sub [0, 1] (by decide) rfl) hS ⟨by decide, by decide⟩ dX8_points_23 ⟨(-100001), rfl, rfl, (by omega)⟩
theorem kX8_guess_8 : ∀ w ∈ u_ws RX8 TX8 13, w ∈ wsX8_guess := fun _ h => List.mem_cons_of_mem _ (List.mem_append_left _ (List.mem_append_right _ h))
abbrev q_X8_guess (g : GT) (hd : Nat) (d : Nat → Nat) (i : Nat → Int) (fle : Nat → Option Nat) (y : Nat) (mn : Int) (cn : Int) (me : Nat) (cs : Nat) (as_ : Nat) (sr : Nat) (hi : Nat) (fhi : Nat → Int) (fmk : Nat → Int) (k : Nat) (x : Int) : Option Value → va_W → Prop := fun v w => ∃ (r : Int), v = some (.int (iI r)) ∧ w = [(hd, .inr (8, dF d i)), ((d 3), aQ (g.2.1 3) 12 fle), (y, .inr (1, [.int (iI mn), .int (iI cn), .ref me, .ref cs, .ref as_, .ref sr, .ref hi])), (hi, aI (g.2.1 0) 93 fhi), ((d 5), aI (g.2.1 0) 5 fmk)] ∧ (r = guessR (pts fhi cn fmk) (fmk 3))
set_option maxHeartbeats 4000000 in
set_option maxRecDepth 100000 in
theorem c_X8_guess (l : Launch) (g : GT) (hd : Nat) (d : Nat → Nat) (i : Nat → Int) (fle : Nat → Option Nat) (y : Nat) (mn : Int) (cn : Int) (me : Nat) (cs : Nat) (as_ : Nat) (sr : Nat) (hi : Nat) (fhi : Nat → Int) (fmk : Nat → Int) (k : Nat) (x : Int) (h1 : x = (k : Int) ∧ x < i 4 ∧ i 4 ≤ 12) (h2 : fle k = some y) (hh : ∀ p, p < 93 → 0 ≤ fhi p ∧ fhi p ≤ cn ∧ cn ≤ 40) (hmk : ∀ j, j < 3 → 0 ≤ fmk j ∧ fmk j ≤ 99) (h3 : 0 ≤ fmk 3 ∧ fmk 3 ≤ 999) : Ct l g yX8_guess wsX8_guess ({ frames := 3, cells := 0, slots := 0, locals := 68 } : Room) [.ref hd, .int (iI x)] [(hd, .inr (8, dF d i)), ((d 3), aQ (g.2.1 3) 12 fle), (y, .inr (1, [.int (iI mn), .int (iI cn), .ref me, .ref cs, .ref as_, .ref sr, .ref hi])), (hi, aI (g.2.1 0) 93 fhi), ((d 5), aI (g.2.1 0) 5 fmk)] (q_X8_guess g hd d i fle y mn cn me cs as_ sr hi fhi fmk k x) := by
  refine Ct.intro (maxL := 4) (ret := (some .int)) (by decide) rfl (Nat.le_of_ble_eq_true rfl) ?_
  intro p e s m below meth c A ls hx hb hr hml hown hts hlocks hnm hA hG hP hD hS hl
  have hown : s.vm.findClass RX8 = some m.cls := hown
  have hl : lv_has ls 4 [(0, .ref hd), (1, .int (iI x))] := hl
  have hP : va_P g.1 vwCl [(hd, .inr (8, dF d i)), ((d 3), aQ (g.2.1 3) 12 fle), (y, .inr (1, [.int (iI mn), .int (iI cn), .ref me, .ref cs, .ref as_, .ref sr, .ref hi])), (hi, aI (g.2.1 0) 93 fhi), ((d 5), aI (g.2.1 0) 5 fmk)] s.heap := hP
  have hS : va_S A s.heap s.heap [] := hS
  obtain ⟨H, hHe⟩ : ∃ H : Heap, H = s.heap := ⟨_, rfl⟩
  obtain ⟨locs, hLe⟩ : ∃ L : List Loc, L = [] := ⟨_, rfl⟩
  have hP : va_P g.1 vwCl [(hd, .inr (8, dF d i)), ((d 3), aQ (g.2.1 3) 12 fle), (y, .inr (1, [.int (iI mn), .int (iI cn), .ref me, .ref cs, .ref as_, .ref sr, .ref hi])), (hi, aI (g.2.1 0) 93 fhi), ((d 5), aI (g.2.1 0) 5 fmk)] H := by rw [hHe]; exact hP
  have hS : va_S A s.heap H locs := by rw [hHe, hLe]; exact hS
  suffices hgo : W p l e ({ frames := 3, cells := 0, slots := 0, locals := 68 } : Room) s m [.ref hd, .int (iI x)].toArray below meth c H locs 0 0 (MQ below (CQ g (q_X8_guess g hd d i fle y mn cn me cs as_ sr hi fhi fmk k x) A) [.ref hd, .int (iI x)].toArray s ({ frames := 3, cells := 0, slots := 0, locals := 68 } : Room).cells ({ frames := 3, cells := 0, slots := 0, locals := 68 } : Room).slots A) (F0 m 0 ls []) by rw [hHe, hLe] at hgo; exact hgo
  clear hHe hLe
  refine lv_aload_n hx hb dX8_guess_0 rfl (lv_at hl 0 rfl) ?_
  refine lv_iload_n hx hb dX8_guess_1 rfl (lv_at hl 1 rfl) ?_
  refine Ct.callV (ci := 8) (q0 := 0) (qc := (RX8, TX8, 13)) (As := [.int (iI x)]) (rest := []) (wr := [(y, .inr (1, [.int (iI mn), .int (iI cn), .ref me, .ref cs, .ref as_, .ref sr, .ref hi])), (hi, aI (g.2.1 0) 93 fhi), ((d 5), aI (g.2.1 0) 5 fmk)]) (c1 := 0) (s1 := 0) ⟨hx, hb, hml, hown, hts⟩ (c_X8_learnerAt l g hd d i fle x k y (by omega) (h2)) rfl rfl (cwV 1 hts gX8_guess_X8_learnerAt rfl rfl rfl (by decide +kernel) ⟨Nat.le_of_ble_eq_true rfl, Nat.le_of_ble_eq_true rfl⟩) hG hP hD hS hA [0, 1] [2, 3, 4] rfl rfl (by decide) (by decide) (by decide) rfl hl.1 rfl (Nat.le_of_ble_eq_true rfl) dX8_guess_2 ⟨Nat.le_of_ble_eq_true rfl, Nat.le_of_ble_eq_true rfl⟩ rfl rfl (fun v w H locs hv hP hD hS => ?_)
  obtain ⟨rfl, rfl⟩ := hv
  show W p l e _ s m _ below meth c H locs 0 0 _ (F0 m 5 ls (.ref y :: []))
  have hP : va_P g.1 vwCl [(y, .inr (1, [.int (iI mn), .int (iI cn), .ref me, .ref cs, .ref as_, .ref sr, .ref hi])), (hi, aI (g.2.1 0) 93 fhi), ((d 5), aI (g.2.1 0) 5 fmk), (hd, .inr (8, dF d i)), ((d 3), aQ (g.2.1 3) 12 fle)] H := hP
  have hD : va_D A [(y, .inr (1, [.int (iI mn), .int (iI cn), .ref me, .ref cs, .ref as_, .ref sr, .ref hi])), (hi, aI (g.2.1 0) 93 fhi), ((d 5), aI (g.2.1 0) 5 fmk), (hd, .inr (8, dF d i)), ((d 3), aQ (g.2.1 3) 12 fle)] := hD
  refine lv_astore_n (lv' := [(2, .ref y), (0, .ref hd), (1, .int (iI x))]) hx hb dX8_guess_5 rfl hl (by decide) rfl (fun ls hl => ?_)
  refine lv_aload_n hx hb dX8_guess_6 rfl (lv_at hl 0 rfl) ?_
  refine lv_ifnonnull (tgt := 12) hx hb dX8_guess_7 (by decide) ?_
  refine lv_aload_n hx hb dX8_guess_12 rfl (lv_at hl 0 rfl) ?_
  refine lv_aload_n hx hb dX8_guess_13 rfl (lv_at hl 1 rfl) ?_
  refine va_get (D := g.1) (ci := 8) (v := .ref (d 5)) hx hb hts kX8_guess_8 hown hG.1 hP 3 rfl rfl 5 (by decide) (hts _ (List.mem_of_getElem? (i := 1) rfl)) (fun _ h9 => h9) rfl dX8_guess_14 ?_
  refine Ct.callV (ci := 1) (q0 := 0) (qc := (RX1, TX1, 7)) (As := [.ref (d 5)]) (rest := []) (wr := [(hd, .inr (8, dF d i)), ((d 3), aQ (g.2.1 3) 12 fle)]) (c1 := 0) (s1 := 0) ⟨hx, hb, hml, hown, hts⟩ (c_X1_bestPlace l g y mn cn me cs as_ sr hi fhi (d 5) fmk (hh) (hmk)) rfl rfl (cwV 1 hts gX8_guess_X1_bestPlace rfl rfl rfl (by decide +kernel) ⟨Nat.le_of_ble_eq_true rfl, Nat.le_of_ble_eq_true rfl⟩) hG hP hD hS hA [0, 1, 2] [3, 4] rfl rfl (by decide) (by decide) (by decide) rfl hl.1 rfl (Nat.le_of_ble_eq_true rfl) dX8_guess_17 ⟨Nat.le_of_ble_eq_true rfl, Nat.le_of_ble_eq_true rfl⟩ rfl rfl (fun v w H locs hv hP hD hS => ?_)
  obtain ⟨rfl, rfl⟩ := hv
  show W p l e _ s m _ below meth c H locs 0 0 _ (F0 m 20 ls (.int (iI ((bpF (pts fhi cn fmk) 92 1 0 : Nat) : Int)) :: []))
  have hP : va_P g.1 vwCl [(hd, .inr (8, dF d i)), ((d 3), aQ (g.2.1 3) 12 fle), (y, .inr (1, [.int (iI mn), .int (iI cn), .ref me, .ref cs, .ref as_, .ref sr, .ref hi])), (hi, aI (g.2.1 0) 93 fhi), ((d 5), aI (g.2.1 0) 5 fmk)] H := hP
  have hD : va_D A [(hd, .inr (8, dF d i)), ((d 3), aQ (g.2.1 3) 12 fle), (y, .inr (1, [.int (iI mn), .int (iI cn), .ref me, .ref cs, .ref as_, .ref sr, .ref hi])), (hi, aI (g.2.1 0) 93 fhi), ((d 5), aI (g.2.1 0) 5 fmk)] := hD
  have hbl := bpF_lt (pts fhi cn fmk) 92 1 0 (by omega) (by omega)
  have hlr := ldR_rng (pt := (pts fhi cn fmk)) (be := bpF (pts fhi cn fmk) 92 1 0) (by omega) (fun p hp => pts_rng (fh := fhi) (mk := fmk) (cn := cn) (p := p) (hh p hp) hmk)
  refine lv_istore_n (lv' := [(3, .int (iI ((bpF (pts fhi cn fmk) 92 1 0 : Nat) : Int))), (2, .ref y), (0, .ref hd), (1, .int (iI x))]) hx hb dX8_guess_20 rfl hl (by decide) rfl (fun ls hl => ?_)
  refine lv_aload_n hx hb dX8_guess_21 rfl (lv_at hl 1 rfl) ?_
  refine lv_iload_n hx hb dX8_guess_22 rfl (lv_at hl 0 rfl) ?_
  refine lv_aload_n hx hb dX8_guess_23 rfl (lv_at hl 2 rfl) ?_
  refine va_get (D := g.1) (ci := 8) (v := .ref (d 5)) hx hb hts kX8_guess_8 hown hG.1 hP 0 rfl rfl 5 (by decide) (hts _ (List.mem_of_getElem? (i := 1) rfl)) (fun _ h9 => h9) rfl dX8_guess_24 ?_
  refine Ct.callV (ci := 1) (q0 := 2) (qc := (RX1, TX1, 7)) (As := [.int (iI ((bpF (pts fhi cn fmk) 92 1 0 : Nat) : Int)), .ref (d 5)]) (rest := []) (wr := [(hd, .inr (8, dF d i)), ((d 3), aQ (g.2.1 3) 12 fle)]) (c1 := 0) (s1 := 0) ⟨hx, hb, hml, hown, hts⟩ (c_X1_leadOf l g y mn cn me cs as_ sr hi fhi (d 5) fmk ((bpF (pts fhi cn fmk) 92 1 0 : Nat) : Int) (bpF (pts fhi cn fmk) 92 1 0) (⟨rfl, hbl⟩) (hh) (hmk)) rfl rfl (cwV 2 hts gX8_guess_X1_leadOf rfl rfl rfl (by decide +kernel) ⟨Nat.le_of_ble_eq_true rfl, Nat.le_of_ble_eq_true rfl⟩) hG hP hD hS hA [2, 3, 4] [0, 1] rfl rfl (by decide) (by decide) (by decide) rfl hl.1 rfl (Nat.le_of_ble_eq_true rfl) dX8_guess_27 ⟨Nat.le_of_ble_eq_true rfl, Nat.le_of_ble_eq_true rfl⟩ rfl rfl (fun v w H locs hv hP hD hS => ?_)
  obtain ⟨rfl, rfl⟩ := hv
  show W p l e _ s m _ below meth c H locs 0 0 _ (F0 m 30 ls (.int (iI (ldR (pts fhi cn fmk) (bpF (pts fhi cn fmk) 92 1 0))) :: []))
  have hP : va_P g.1 vwCl [(hd, .inr (8, dF d i)), ((d 3), aQ (g.2.1 3) 12 fle), (y, .inr (1, [.int (iI mn), .int (iI cn), .ref me, .ref cs, .ref as_, .ref sr, .ref hi])), (hi, aI (g.2.1 0) 93 fhi), ((d 5), aI (g.2.1 0) 5 fmk)] H := hP
  have hD : va_D A [(hd, .inr (8, dF d i)), ((d 3), aQ (g.2.1 3) 12 fle), (y, .inr (1, [.int (iI mn), .int (iI cn), .ref me, .ref cs, .ref as_, .ref sr, .ref hi])), (hi, aI (g.2.1 0) 93 fhi), ((d 5), aI (g.2.1 0) 5 fmk)] := hD
  refine lv_aload_n hx hb dX8_guess_30 rfl (lv_at hl 2 rfl) ?_
  refine va_get (D := g.1) (ci := 8) (v := .ref (d 5)) hx hb hts kX8_guess_8 hown hG.1 hP 0 rfl rfl 5 (by decide) (hts _ (List.mem_of_getElem? (i := 1) rfl)) (fun _ h9 => h9) rfl dX8_guess_31 ?_
  refine lv_iconst (v := iI (3)) hx hb dX8_guess_34 rfl ?_
  refine iv_iald hx hb hG hP 4 rfl 3 (rfl) (by decide) (by decide) dX8_guess_35 ?_
  refine iv_icmp_lt (tgt := 47) hx hb dX8_guess_36 (by decide) (by omega) (fun hc1 => ?_) (fun hc1 => ?_)
  · refine lv_bipush (v := iI (-5)) hx hb dX8_guess_47 (by decide) ?_
    exact Ct.iret hx hb hr hlocks (hP.sub [0, 1, 2, 3, 4] rfl) (hD.sub [0, 1, 2, 3, 4] (by decide) rfl) hS ⟨by decide, by decide⟩ dX8_guess_49 ⟨(-5), rfl, rfl, (by unfold guessR; first | rw [if_pos (by omega)] | rw [if_neg (by omega)])⟩
  · refine va_gets hx hb hG.2.2.1.1 hS hown (hts _ (List.mem_of_getElem? (i := 2) rfl)) (fun _ h9 => h9) dX8_guess_39 ?_
    refine lv_iload_n hx hb dX8_guess_42 rfl (lv_at hl 0 rfl) ?_
    refine iv_tld hx hb hG.2.2.1 hS (bpF (pts fhi cn fmk) 92 1 0) (rfl) (hbl) (by decide) dX8_guess_43 ?_
    refine lv_goto (tgt := 49) hx hb dX8_guess_44 (by decide) ?_
    exact Ct.iret hx hb hr hlocks (hP.sub [0, 1, 2, 3, 4] rfl) (hD.sub [0, 1, 2, 3, 4] (by decide) rfl) hS ⟨by decide, by decide⟩ dX8_guess_49 ⟨(oT (bpF (pts fhi cn fmk) 92 1 0)), rfl, rfl, (by unfold guessR; first | rw [if_pos (by omega)] | rw [if_neg (by omega)])⟩
abbrev q_X8_guessB (g : GT) (hd : Nat) (d : Nat → Nat) (i : Nat → Int) (fle : Nat → Option Nat) (x : Int) : Option Value → va_W → Prop := fun v w => ∃ (r : Int), v = some (.int (iI r)) ∧ w = [(hd, .inr (8, dF d i)), ((d 3), aQ (g.2.1 3) 12 fle)] ∧ (r = -1)
set_option maxHeartbeats 4000000 in
set_option maxRecDepth 100000 in
theorem c_X8_guessB (l : Launch) (g : GT) (hd : Nat) (d : Nat → Nat) (i : Nat → Int) (fle : Nat → Option Nat) (x : Int) (h1 : ¬ (0 ≤ x ∧ x < i 4) ∧ 0 ≤ i 4 ∧ i 4 ≤ 12 ∧ (-2147483648 ≤ x ∧ x < 2147483648)) : Ct l g yX8_guess wsX8_guess ({ frames := 3, cells := 0, slots := 0, locals := 68 } : Room) [.ref hd, .int (iI x)] [(hd, .inr (8, dF d i)), ((d 3), aQ (g.2.1 3) 12 fle)] (q_X8_guessB g hd d i fle x) := by
  refine Ct.intro (maxL := 4) (ret := (some .int)) (by decide) rfl (Nat.le_of_ble_eq_true rfl) ?_
  intro p e s m below meth c A ls hx hb hr hml hown hts hlocks hnm hA hG hP hD hS hl
  have hown : s.vm.findClass RX8 = some m.cls := hown
  have hl : lv_has ls 4 [(0, .ref hd), (1, .int (iI x))] := hl
  have hP : va_P g.1 vwCl [(hd, .inr (8, dF d i)), ((d 3), aQ (g.2.1 3) 12 fle)] s.heap := hP
  have hS : va_S A s.heap s.heap [] := hS
  obtain ⟨H, hHe⟩ : ∃ H : Heap, H = s.heap := ⟨_, rfl⟩
  obtain ⟨locs, hLe⟩ : ∃ L : List Loc, L = [] := ⟨_, rfl⟩
  have hP : va_P g.1 vwCl [(hd, .inr (8, dF d i)), ((d 3), aQ (g.2.1 3) 12 fle)] H := by rw [hHe]; exact hP
  have hS : va_S A s.heap H locs := by rw [hHe, hLe]; exact hS
  suffices hgo : W p l e ({ frames := 3, cells := 0, slots := 0, locals := 68 } : Room) s m [.ref hd, .int (iI x)].toArray below meth c H locs 0 0 (MQ below (CQ g (q_X8_guessB g hd d i fle x) A) [.ref hd, .int (iI x)].toArray s ({ frames := 3, cells := 0, slots := 0, locals := 68 } : Room).cells ({ frames := 3, cells := 0, slots := 0, locals := 68 } : Room).slots A) (F0 m 0 ls []) by rw [hHe, hLe] at hgo; exact hgo
  clear hHe hLe
  refine lv_aload_n hx hb dX8_guess_0 rfl (lv_at hl 0 rfl) ?_
  refine lv_iload_n hx hb dX8_guess_1 rfl (lv_at hl 1 rfl) ?_
  refine Ct.callV (ci := 8) (q0 := 0) (qc := (RX8, TX8, 13)) (As := [.int (iI x)]) (rest := []) (wr := []) (c1 := 0) (s1 := 0) ⟨hx, hb, hml, hown, hts⟩ (c_X8_learnerAtB l g hd d i fle x (by omega)) rfl rfl (cwV 1 hts gX8_guess_X8_learnerAt rfl rfl rfl (by decide +kernel) ⟨Nat.le_of_ble_eq_true rfl, Nat.le_of_ble_eq_true rfl⟩) hG hP hD hS hA [0, 1] [] rfl rfl (by decide) (by decide) (by decide) rfl hl.1 rfl (Nat.le_of_ble_eq_true rfl) dX8_guess_2 ⟨Nat.le_of_ble_eq_true rfl, Nat.le_of_ble_eq_true rfl⟩ rfl rfl (fun v w H locs hv hP hD hS => ?_)
  obtain ⟨rfl, rfl⟩ := hv
  show W p l e _ s m _ below meth c H locs 0 0 _ (F0 m 5 ls (.null :: []))
  have hP : va_P g.1 vwCl [(hd, .inr (8, dF d i)), ((d 3), aQ (g.2.1 3) 12 fle)] H := hP
  have hD : va_D A [(hd, .inr (8, dF d i)), ((d 3), aQ (g.2.1 3) 12 fle)] := hD
  refine lv_astore_nN (lv' := [(2, .null), (0, .ref hd), (1, .int (iI x))]) hx hb dX8_guess_5 rfl hl (by decide) rfl (fun ls hl => ?_)
  refine lv_aload_nN hx hb dX8_guess_6 rfl (lv_at hl 0 rfl) ?_
  refine lv_ifnonnullN hx hb dX8_guess_7 ?_
  refine lv_iconst (v := iI (-1)) hx hb dX8_guess_10 rfl ?_
  exact Ct.iret hx hb hr hlocks (hP.sub [0, 1] rfl) (hD.sub [0, 1] (by decide) rfl) hS ⟨by decide, by decide⟩ dX8_guess_11 ⟨(-1), rfl, rfl, (by omega)⟩
theorem kX8_lead_8 : ∀ w ∈ u_ws RX8 TX8 13, w ∈ wsX8_lead := fun _ h => List.mem_cons_of_mem _ (List.mem_append_left _ (List.mem_append_right _ h))
abbrev q_X8_lead (g : GT) (hd : Nat) (d : Nat → Nat) (i : Nat → Int) (fle : Nat → Option Nat) (y : Nat) (mn : Int) (cn : Int) (me : Nat) (cs : Nat) (as_ : Nat) (sr : Nat) (hi : Nat) (fhi : Nat → Int) (fmk : Nat → Int) (k : Nat) (x : Int) : Option Value → va_W → Prop := fun v w => ∃ (r : Int), v = some (.int (iI r)) ∧ w = [(hd, .inr (8, dF d i)), ((d 3), aQ (g.2.1 3) 12 fle), (y, .inr (1, [.int (iI mn), .int (iI cn), .ref me, .ref cs, .ref as_, .ref sr, .ref hi])), (hi, aI (g.2.1 0) 93 fhi), ((d 5), aI (g.2.1 0) 5 fmk)] ∧ (r = ldR (pts fhi cn fmk) (bpF (pts fhi cn fmk) 92 1 0))
set_option maxHeartbeats 4000000 in
set_option maxRecDepth 100000 in
theorem c_X8_lead (l : Launch) (g : GT) (hd : Nat) (d : Nat → Nat) (i : Nat → Int) (fle : Nat → Option Nat) (y : Nat) (mn : Int) (cn : Int) (me : Nat) (cs : Nat) (as_ : Nat) (sr : Nat) (hi : Nat) (fhi : Nat → Int) (fmk : Nat → Int) (k : Nat) (x : Int) (h1 : x = (k : Int) ∧ x < i 4 ∧ i 4 ≤ 12) (h2 : fle k = some y) (hh : ∀ p, p < 93 → 0 ≤ fhi p ∧ fhi p ≤ cn ∧ cn ≤ 40) (hmk : ∀ j, j < 3 → 0 ≤ fmk j ∧ fmk j ≤ 99) : Ct l g yX8_lead wsX8_lead ({ frames := 3, cells := 0, slots := 0, locals := 68 } : Room) [.ref hd, .int (iI x)] [(hd, .inr (8, dF d i)), ((d 3), aQ (g.2.1 3) 12 fle), (y, .inr (1, [.int (iI mn), .int (iI cn), .ref me, .ref cs, .ref as_, .ref sr, .ref hi])), (hi, aI (g.2.1 0) 93 fhi), ((d 5), aI (g.2.1 0) 5 fmk)] (q_X8_lead g hd d i fle y mn cn me cs as_ sr hi fhi fmk k x) := by
  refine Ct.intro (maxL := 3) (ret := (some .int)) (by decide) rfl (Nat.le_of_ble_eq_true rfl) ?_
  intro p e s m below meth c A ls hx hb hr hml hown hts hlocks hnm hA hG hP hD hS hl
  have hown : s.vm.findClass RX8 = some m.cls := hown
  have hl : lv_has ls 3 [(0, .ref hd), (1, .int (iI x))] := hl
  have hP : va_P g.1 vwCl [(hd, .inr (8, dF d i)), ((d 3), aQ (g.2.1 3) 12 fle), (y, .inr (1, [.int (iI mn), .int (iI cn), .ref me, .ref cs, .ref as_, .ref sr, .ref hi])), (hi, aI (g.2.1 0) 93 fhi), ((d 5), aI (g.2.1 0) 5 fmk)] s.heap := hP
  have hS : va_S A s.heap s.heap [] := hS
  obtain ⟨H, hHe⟩ : ∃ H : Heap, H = s.heap := ⟨_, rfl⟩
  obtain ⟨locs, hLe⟩ : ∃ L : List Loc, L = [] := ⟨_, rfl⟩
  have hP : va_P g.1 vwCl [(hd, .inr (8, dF d i)), ((d 3), aQ (g.2.1 3) 12 fle), (y, .inr (1, [.int (iI mn), .int (iI cn), .ref me, .ref cs, .ref as_, .ref sr, .ref hi])), (hi, aI (g.2.1 0) 93 fhi), ((d 5), aI (g.2.1 0) 5 fmk)] H := by rw [hHe]; exact hP
  have hS : va_S A s.heap H locs := by rw [hHe, hLe]; exact hS
  suffices hgo : W p l e ({ frames := 3, cells := 0, slots := 0, locals := 68 } : Room) s m [.ref hd, .int (iI x)].toArray below meth c H locs 0 0 (MQ below (CQ g (q_X8_lead g hd d i fle y mn cn me cs as_ sr hi fhi fmk k x) A) [.ref hd, .int (iI x)].toArray s ({ frames := 3, cells := 0, slots := 0, locals := 68 } : Room).cells ({ frames := 3, cells := 0, slots := 0, locals := 68 } : Room).slots A) (F0 m 0 ls []) by rw [hHe, hLe] at hgo; exact hgo
  clear hHe hLe
  refine lv_aload_n hx hb dX8_lead_0 rfl (lv_at hl 0 rfl) ?_
  refine lv_iload_n hx hb dX8_lead_1 rfl (lv_at hl 1 rfl) ?_
  refine Ct.callV (ci := 8) (q0 := 0) (qc := (RX8, TX8, 13)) (As := [.int (iI x)]) (rest := []) (wr := [(y, .inr (1, [.int (iI mn), .int (iI cn), .ref me, .ref cs, .ref as_, .ref sr, .ref hi])), (hi, aI (g.2.1 0) 93 fhi), ((d 5), aI (g.2.1 0) 5 fmk)]) (c1 := 0) (s1 := 0) ⟨hx, hb, hml, hown, hts⟩ (c_X8_learnerAt l g hd d i fle x k y (by omega) (h2)) rfl rfl (cwV 1 hts gX8_lead_X8_learnerAt rfl rfl rfl (by decide +kernel) ⟨Nat.le_of_ble_eq_true rfl, Nat.le_of_ble_eq_true rfl⟩) hG hP hD hS hA [0, 1] [2, 3, 4] rfl rfl (by decide) (by decide) (by decide) rfl hl.1 rfl (Nat.le_of_ble_eq_true rfl) dX8_lead_2 ⟨Nat.le_of_ble_eq_true rfl, Nat.le_of_ble_eq_true rfl⟩ rfl rfl (fun v w H locs hv hP hD hS => ?_)
  obtain ⟨rfl, rfl⟩ := hv
  show W p l e _ s m _ below meth c H locs 0 0 _ (F0 m 5 ls (.ref y :: []))
  have hP : va_P g.1 vwCl [(y, .inr (1, [.int (iI mn), .int (iI cn), .ref me, .ref cs, .ref as_, .ref sr, .ref hi])), (hi, aI (g.2.1 0) 93 fhi), ((d 5), aI (g.2.1 0) 5 fmk), (hd, .inr (8, dF d i)), ((d 3), aQ (g.2.1 3) 12 fle)] H := hP
  have hD : va_D A [(y, .inr (1, [.int (iI mn), .int (iI cn), .ref me, .ref cs, .ref as_, .ref sr, .ref hi])), (hi, aI (g.2.1 0) 93 fhi), ((d 5), aI (g.2.1 0) 5 fmk), (hd, .inr (8, dF d i)), ((d 3), aQ (g.2.1 3) 12 fle)] := hD
  refine lv_astore_n (lv' := [(2, .ref y), (0, .ref hd), (1, .int (iI x))]) hx hb dX8_lead_5 rfl hl (by decide) rfl (fun ls hl => ?_)
  refine lv_aload_n hx hb dX8_lead_6 rfl (lv_at hl 0 rfl) ?_
  refine lv_ifnonnull (tgt := 12) hx hb dX8_lead_7 (by decide) ?_
  refine lv_aload_n hx hb dX8_lead_12 rfl (lv_at hl 0 rfl) ?_
  refine lv_aload_n hx hb dX8_lead_13 rfl (lv_at hl 0 rfl) ?_
  refine lv_aload_n hx hb dX8_lead_14 rfl (lv_at hl 1 rfl) ?_
  refine va_get (D := g.1) (ci := 8) (v := .ref (d 5)) hx hb hts kX8_lead_8 hown hG.1 hP 3 rfl rfl 5 (by decide) (hts _ (List.mem_of_getElem? (i := 1) rfl)) (fun _ h9 => h9) rfl dX8_lead_15 ?_
  refine Ct.callV (ci := 1) (q0 := 0) (qc := (RX1, TX1, 7)) (As := [.ref (d 5)]) (rest := [.ref y]) (wr := [(hd, .inr (8, dF d i)), ((d 3), aQ (g.2.1 3) 12 fle)]) (c1 := 0) (s1 := 0) ⟨hx, hb, hml, hown, hts⟩ (c_X1_bestPlace l g y mn cn me cs as_ sr hi fhi (d 5) fmk (hh) (hmk)) rfl rfl (cwV 1 hts gX8_lead_X1_bestPlace rfl rfl rfl (by decide +kernel) ⟨Nat.le_of_ble_eq_true rfl, Nat.le_of_ble_eq_true rfl⟩) hG hP hD hS hA [0, 1, 2] [3, 4] rfl rfl (by decide) (by decide) (by decide) rfl hl.1 rfl (Nat.le_of_ble_eq_true rfl) dX8_lead_18 ⟨Nat.le_of_ble_eq_true rfl, Nat.le_of_ble_eq_true rfl⟩ rfl rfl (fun v w H locs hv hP hD hS => ?_)
  obtain ⟨rfl, rfl⟩ := hv
  show W p l e _ s m _ below meth c H locs 0 0 _ (F0 m 21 ls (.int (iI ((bpF (pts fhi cn fmk) 92 1 0 : Nat) : Int)) :: [.ref y]))
  have hP : va_P g.1 vwCl [(hd, .inr (8, dF d i)), ((d 3), aQ (g.2.1 3) 12 fle), (y, .inr (1, [.int (iI mn), .int (iI cn), .ref me, .ref cs, .ref as_, .ref sr, .ref hi])), (hi, aI (g.2.1 0) 93 fhi), ((d 5), aI (g.2.1 0) 5 fmk)] H := hP
  have hD : va_D A [(hd, .inr (8, dF d i)), ((d 3), aQ (g.2.1 3) 12 fle), (y, .inr (1, [.int (iI mn), .int (iI cn), .ref me, .ref cs, .ref as_, .ref sr, .ref hi])), (hi, aI (g.2.1 0) 93 fhi), ((d 5), aI (g.2.1 0) 5 fmk)] := hD
  refine lv_aload_n hx hb dX8_lead_21 rfl (lv_at hl 1 rfl) ?_
  refine va_get (D := g.1) (ci := 8) (v := .ref (d 5)) hx hb hts kX8_lead_8 hown hG.1 hP 0 rfl rfl 5 (by decide) (hts _ (List.mem_of_getElem? (i := 1) rfl)) (fun _ h9 => h9) rfl dX8_lead_22 ?_
  refine Ct.callV (ci := 1) (q0 := 2) (qc := (RX1, TX1, 7)) (As := [.int (iI ((bpF (pts fhi cn fmk) 92 1 0 : Nat) : Int)), .ref (d 5)]) (rest := []) (wr := [(hd, .inr (8, dF d i)), ((d 3), aQ (g.2.1 3) 12 fle)]) (c1 := 0) (s1 := 0) ⟨hx, hb, hml, hown, hts⟩ (c_X1_leadOf l g y mn cn me cs as_ sr hi fhi (d 5) fmk ((bpF (pts fhi cn fmk) 92 1 0 : Nat) : Int) (bpF (pts fhi cn fmk) 92 1 0) (⟨rfl, bpF_lt (pts fhi cn fmk) 92 1 0 (by omega) (by omega)⟩) (hh) (hmk)) rfl rfl (cwV 2 hts gX8_lead_X1_leadOf rfl rfl rfl (by decide +kernel) ⟨Nat.le_of_ble_eq_true rfl, Nat.le_of_ble_eq_true rfl⟩) hG hP hD hS hA [2, 3, 4] [0, 1] rfl rfl (by decide) (by decide) (by decide) rfl hl.1 rfl (Nat.le_of_ble_eq_true rfl) dX8_lead_25 ⟨Nat.le_of_ble_eq_true rfl, Nat.le_of_ble_eq_true rfl⟩ rfl rfl (fun v w H locs hv hP hD hS => ?_)
  obtain ⟨rfl, rfl⟩ := hv
  show W p l e _ s m _ below meth c H locs 0 0 _ (F0 m 28 ls (.int (iI (ldR (pts fhi cn fmk) (bpF (pts fhi cn fmk) 92 1 0))) :: []))
  have hP : va_P g.1 vwCl [(hd, .inr (8, dF d i)), ((d 3), aQ (g.2.1 3) 12 fle), (y, .inr (1, [.int (iI mn), .int (iI cn), .ref me, .ref cs, .ref as_, .ref sr, .ref hi])), (hi, aI (g.2.1 0) 93 fhi), ((d 5), aI (g.2.1 0) 5 fmk)] H := hP
  have hD : va_D A [(hd, .inr (8, dF d i)), ((d 3), aQ (g.2.1 3) 12 fle), (y, .inr (1, [.int (iI mn), .int (iI cn), .ref me, .ref cs, .ref as_, .ref sr, .ref hi])), (hi, aI (g.2.1 0) 93 fhi), ((d 5), aI (g.2.1 0) 5 fmk)] := hD
  exact Ct.iret hx hb hr hlocks (hP.sub [0, 1, 2, 3, 4] rfl) (hD.sub [0, 1, 2, 3, 4] (by decide) rfl) hS ⟨by decide, by decide⟩ dX8_lead_28 ⟨(ldR (pts fhi cn fmk) (bpF (pts fhi cn fmk) 92 1 0)), rfl, rfl, (rfl)⟩
abbrev q_X8_leadB (g : GT) (hd : Nat) (d : Nat → Nat) (i : Nat → Int) (fle : Nat → Option Nat) (x : Int) : Option Value → va_W → Prop := fun v w => ∃ (r : Int), v = some (.int (iI r)) ∧ w = [(hd, .inr (8, dF d i)), ((d 3), aQ (g.2.1 3) 12 fle)] ∧ (r = -1)
set_option maxHeartbeats 4000000 in
set_option maxRecDepth 100000 in
theorem c_X8_leadB (l : Launch) (g : GT) (hd : Nat) (d : Nat → Nat) (i : Nat → Int) (fle : Nat → Option Nat) (x : Int) (h1 : ¬ (0 ≤ x ∧ x < i 4) ∧ 0 ≤ i 4 ∧ i 4 ≤ 12 ∧ (-2147483648 ≤ x ∧ x < 2147483648)) : Ct l g yX8_lead wsX8_lead ({ frames := 3, cells := 0, slots := 0, locals := 68 } : Room) [.ref hd, .int (iI x)] [(hd, .inr (8, dF d i)), ((d 3), aQ (g.2.1 3) 12 fle)] (q_X8_leadB g hd d i fle x) := by
  refine Ct.intro (maxL := 3) (ret := (some .int)) (by decide) rfl (Nat.le_of_ble_eq_true rfl) ?_
  intro p e s m below meth c A ls hx hb hr hml hown hts hlocks hnm hA hG hP hD hS hl
  have hown : s.vm.findClass RX8 = some m.cls := hown
  have hl : lv_has ls 3 [(0, .ref hd), (1, .int (iI x))] := hl
  have hP : va_P g.1 vwCl [(hd, .inr (8, dF d i)), ((d 3), aQ (g.2.1 3) 12 fle)] s.heap := hP
  have hS : va_S A s.heap s.heap [] := hS
  obtain ⟨H, hHe⟩ : ∃ H : Heap, H = s.heap := ⟨_, rfl⟩
  obtain ⟨locs, hLe⟩ : ∃ L : List Loc, L = [] := ⟨_, rfl⟩
  have hP : va_P g.1 vwCl [(hd, .inr (8, dF d i)), ((d 3), aQ (g.2.1 3) 12 fle)] H := by rw [hHe]; exact hP
  have hS : va_S A s.heap H locs := by rw [hHe, hLe]; exact hS
  suffices hgo : W p l e ({ frames := 3, cells := 0, slots := 0, locals := 68 } : Room) s m [.ref hd, .int (iI x)].toArray below meth c H locs 0 0 (MQ below (CQ g (q_X8_leadB g hd d i fle x) A) [.ref hd, .int (iI x)].toArray s ({ frames := 3, cells := 0, slots := 0, locals := 68 } : Room).cells ({ frames := 3, cells := 0, slots := 0, locals := 68 } : Room).slots A) (F0 m 0 ls []) by rw [hHe, hLe] at hgo; exact hgo
  clear hHe hLe
  refine lv_aload_n hx hb dX8_lead_0 rfl (lv_at hl 0 rfl) ?_
  refine lv_iload_n hx hb dX8_lead_1 rfl (lv_at hl 1 rfl) ?_
  refine Ct.callV (ci := 8) (q0 := 0) (qc := (RX8, TX8, 13)) (As := [.int (iI x)]) (rest := []) (wr := []) (c1 := 0) (s1 := 0) ⟨hx, hb, hml, hown, hts⟩ (c_X8_learnerAtB l g hd d i fle x (by omega)) rfl rfl (cwV 1 hts gX8_lead_X8_learnerAt rfl rfl rfl (by decide +kernel) ⟨Nat.le_of_ble_eq_true rfl, Nat.le_of_ble_eq_true rfl⟩) hG hP hD hS hA [0, 1] [] rfl rfl (by decide) (by decide) (by decide) rfl hl.1 rfl (Nat.le_of_ble_eq_true rfl) dX8_lead_2 ⟨Nat.le_of_ble_eq_true rfl, Nat.le_of_ble_eq_true rfl⟩ rfl rfl (fun v w H locs hv hP hD hS => ?_)
  obtain ⟨rfl, rfl⟩ := hv
  show W p l e _ s m _ below meth c H locs 0 0 _ (F0 m 5 ls (.null :: []))
  have hP : va_P g.1 vwCl [(hd, .inr (8, dF d i)), ((d 3), aQ (g.2.1 3) 12 fle)] H := hP
  have hD : va_D A [(hd, .inr (8, dF d i)), ((d 3), aQ (g.2.1 3) 12 fle)] := hD
  refine lv_astore_nN (lv' := [(2, .null), (0, .ref hd), (1, .int (iI x))]) hx hb dX8_lead_5 rfl hl (by decide) rfl (fun ls hl => ?_)
  refine lv_aload_nN hx hb dX8_lead_6 rfl (lv_at hl 0 rfl) ?_
  refine lv_ifnonnullN hx hb dX8_lead_7 ?_
  refine lv_iconst (v := iI (-1)) hx hb dX8_lead_10 rfl ?_
  exact Ct.iret hx hb hr hlocks (hP.sub [0, 1] rfl) (hD.sub [0, 1] (by decide) rfl) hS ⟨by decide, by decide⟩ dX8_lead_11 ⟨(-1), rfl, rfl, (by omega)⟩
theorem kX8_count_1 : ∀ w ∈ u_ws RX1 TX1 7, w ∈ wsX8_count := fun _ h => List.mem_cons_of_mem _ (List.mem_append_left _ (List.mem_append_right _ h))
abbrev q_X8_count (g : GT) (hd : Nat) (d : Nat → Nat) (i : Nat → Int) (fle : Nat → Option Nat) (y : Nat) (mn : Int) (cn : Int) (me : Nat) (cs : Nat) (as_ : Nat) (sr : Nat) (hi : Nat) (fas : Nat → Int) (fst : Nat → Int) (fhi : Nat → Int) (k : Nat) (x : Int) (what : Int) (M : Nat) : Option Value → va_W → Prop := fun v w => ∃ (r : Int), v = some (.int (iI r)) ∧ w = [(hd, .inr (8, dF d i)), ((d 3), aQ (g.2.1 3) 12 fle), (y, .inr (1, [.int (iI mn), .int (iI cn), .ref me, .ref cs, .ref as_, .ref sr, .ref hi])), (as_, aI (g.2.1 1) 40 fas), (sr, aI (g.2.1 1) 40 fst), (hi, aI (g.2.1 0) 93 fhi)] ∧ (r = (if ¬ (0 ≤ what ∧ what ≤ 3) then -1 else if what = 0 then mn else if what = 1 then mn - cn else if what = 2 then fhi 0 else cntS fst fas M))
set_option maxHeartbeats 4000000 in
set_option maxRecDepth 100000 in
theorem c_X8_count (l : Launch) (g : GT) (hd : Nat) (d : Nat → Nat) (i : Nat → Int) (fle : Nat → Option Nat) (y : Nat) (mn : Int) (cn : Int) (me : Nat) (cs : Nat) (as_ : Nat) (sr : Nat) (hi : Nat) (fas : Nat → Int) (fst : Nat → Int) (fhi : Nat → Int) (k : Nat) (x : Int) (what : Int) (M : Nat) (h1 : x = (k : Int) ∧ x < i 4 ∧ i 4 ≤ 12) (h2 : fle k = some y) (h3 : mn = (M : Int) ∧ M ≤ 40 ∧ (-2147483648 ≤ what ∧ what < 2147483648)) (h4 : ∀ j, j < M → (fas j = 0 ∨ fas j = 1) ∧ (fst j = 0 ∨ fst j = 1)) : Ct l g yX8_count wsX8_count ({ frames := 2, cells := 0, slots := 0, locals := 43 } : Room) [.ref hd, .int (iI x), .int (iI what)] [(hd, .inr (8, dF d i)), ((d 3), aQ (g.2.1 3) 12 fle), (y, .inr (1, [.int (iI mn), .int (iI cn), .ref me, .ref cs, .ref as_, .ref sr, .ref hi])), (as_, aI (g.2.1 1) 40 fas), (sr, aI (g.2.1 1) 40 fst), (hi, aI (g.2.1 0) 93 fhi)] (q_X8_count g hd d i fle y mn cn me cs as_ sr hi fas fst fhi k x what M) := by
  refine Ct.intro (maxL := 4) (ret := (some .int)) (by decide) rfl (Nat.le_of_ble_eq_true rfl) ?_
  intro p e s m below meth c A ls hx hb hr hml hown hts hlocks hnm hA hG hP hD hS hl
  have hown : s.vm.findClass RX8 = some m.cls := hown
  have hl : lv_has ls 4 [(0, .ref hd), (1, .int (iI x)), (2, .int (iI what))] := hl
  have hP : va_P g.1 vwCl [(hd, .inr (8, dF d i)), ((d 3), aQ (g.2.1 3) 12 fle), (y, .inr (1, [.int (iI mn), .int (iI cn), .ref me, .ref cs, .ref as_, .ref sr, .ref hi])), (as_, aI (g.2.1 1) 40 fas), (sr, aI (g.2.1 1) 40 fst), (hi, aI (g.2.1 0) 93 fhi)] s.heap := hP
  have hS : va_S A s.heap s.heap [] := hS
  obtain ⟨H, hHe⟩ : ∃ H : Heap, H = s.heap := ⟨_, rfl⟩
  obtain ⟨locs, hLe⟩ : ∃ L : List Loc, L = [] := ⟨_, rfl⟩
  have hP : va_P g.1 vwCl [(hd, .inr (8, dF d i)), ((d 3), aQ (g.2.1 3) 12 fle), (y, .inr (1, [.int (iI mn), .int (iI cn), .ref me, .ref cs, .ref as_, .ref sr, .ref hi])), (as_, aI (g.2.1 1) 40 fas), (sr, aI (g.2.1 1) 40 fst), (hi, aI (g.2.1 0) 93 fhi)] H := by rw [hHe]; exact hP
  have hS : va_S A s.heap H locs := by rw [hHe, hLe]; exact hS
  suffices hgo : W p l e ({ frames := 2, cells := 0, slots := 0, locals := 43 } : Room) s m [.ref hd, .int (iI x), .int (iI what)].toArray below meth c H locs 0 0 (MQ below (CQ g (q_X8_count g hd d i fle y mn cn me cs as_ sr hi fas fst fhi k x what M) A) [.ref hd, .int (iI x), .int (iI what)].toArray s ({ frames := 2, cells := 0, slots := 0, locals := 43 } : Room).cells ({ frames := 2, cells := 0, slots := 0, locals := 43 } : Room).slots A) (F0 m 0 ls []) by rw [hHe, hLe] at hgo; exact hgo
  clear hHe hLe
  refine lv_aload_n hx hb dX8_count_0 rfl (lv_at hl 0 rfl) ?_
  refine lv_iload_n hx hb dX8_count_1 rfl (lv_at hl 1 rfl) ?_
  refine Ct.callV (ci := 8) (q0 := 0) (qc := (RX8, TX8, 13)) (As := [.int (iI x)]) (rest := []) (wr := [(y, .inr (1, [.int (iI mn), .int (iI cn), .ref me, .ref cs, .ref as_, .ref sr, .ref hi])), (as_, aI (g.2.1 1) 40 fas), (sr, aI (g.2.1 1) 40 fst), (hi, aI (g.2.1 0) 93 fhi)]) (c1 := 0) (s1 := 0) ⟨hx, hb, hml, hown, hts⟩ (c_X8_learnerAt l g hd d i fle x k y (by omega) (h2)) rfl rfl (cwV 1 hts gX8_count_X8_learnerAt rfl rfl rfl (by decide +kernel) ⟨Nat.le_of_ble_eq_true rfl, Nat.le_of_ble_eq_true rfl⟩) hG hP hD hS hA [0, 1] [2, 3, 4, 5] rfl rfl (by decide) (by decide) (by decide) rfl hl.1 rfl (Nat.le_of_ble_eq_true rfl) dX8_count_2 ⟨Nat.le_of_ble_eq_true rfl, Nat.le_of_ble_eq_true rfl⟩ rfl rfl (fun v w H locs hv hP hD hS => ?_)
  obtain ⟨rfl, rfl⟩ := hv
  show W p l e _ s m _ below meth c H locs 0 0 _ (F0 m 5 ls (.ref y :: []))
  have hP : va_P g.1 vwCl [(y, .inr (1, [.int (iI mn), .int (iI cn), .ref me, .ref cs, .ref as_, .ref sr, .ref hi])), (as_, aI (g.2.1 1) 40 fas), (sr, aI (g.2.1 1) 40 fst), (hi, aI (g.2.1 0) 93 fhi), (hd, .inr (8, dF d i)), ((d 3), aQ (g.2.1 3) 12 fle)] H := hP
  have hD : va_D A [(y, .inr (1, [.int (iI mn), .int (iI cn), .ref me, .ref cs, .ref as_, .ref sr, .ref hi])), (as_, aI (g.2.1 1) 40 fas), (sr, aI (g.2.1 1) 40 fst), (hi, aI (g.2.1 0) 93 fhi), (hd, .inr (8, dF d i)), ((d 3), aQ (g.2.1 3) 12 fle)] := hD
  refine lv_astore_n (lv' := [(3, .ref y), (0, .ref hd), (1, .int (iI x)), (2, .int (iI what))]) hx hb dX8_count_5 rfl hl (by decide) rfl (fun ls hl => ?_)
  refine lv_aload_n hx hb dX8_count_6 rfl (lv_at hl 0 rfl) ?_
  refine lv_ifnull hx hb dX8_count_7 ?_
  refine lv_iload_n hx hb dX8_count_10 rfl (lv_at hl 3 rfl) ?_
  refine lv_iconst (v := iI (0)) hx hb dX8_count_11 rfl ?_
  refine lv_iconst (v := iI (3)) hx hb dX8_count_12 rfl ?_
  refine Ct.callS (As := [.int (iI what), .int (iI 0), .int (iI 3)]) (rest := []) (wr := [(y, .inr (1, [.int (iI mn), .int (iI cn), .ref me, .ref cs, .ref as_, .ref sr, .ref hi])), (as_, aI (g.2.1 1) 40 fas), (sr, aI (g.2.1 1) 40 fst), (hi, aI (g.2.1 0) 93 fhi), (hd, .inr (8, dF d i)), ((d 3), aQ (g.2.1 3) 12 fle)]) (c1 := 0) (s1 := 0) ⟨hx, hb, hml, hown, hts⟩ (c_X8_within l g what 0 3 (by omega)) (va_cwS 3 hts gX8_count_X8_within rfl rfl rfl (by decide +kernel) ⟨Nat.le_of_ble_eq_true rfl, Nat.le_of_ble_eq_true rfl⟩) hG hP hD hS hA [] [0, 1, 2, 3, 4, 5] rfl rfl (by decide) (by decide) (by decide) rfl hl.1 rfl (Nat.le_of_ble_eq_true rfl) dX8_count_13 ⟨Nat.le_of_ble_eq_true rfl, Nat.le_of_ble_eq_true rfl⟩ rfl rfl (fun v w H locs hv hP hD hS => ?_)
  obtain ⟨⟨rfl, hb1⟩ | ⟨rfl, hb1⟩, rfl⟩ := hv
  · show W p l e _ s m _ below meth c H locs 0 0 _ (F0 m 16 ls (.int (iI 1) :: []))
    have hb1 : 0 ≤ what ∧ what ≤ 3 := hb1
    have hP : va_P g.1 vwCl [(y, .inr (1, [.int (iI mn), .int (iI cn), .ref me, .ref cs, .ref as_, .ref sr, .ref hi])), (as_, aI (g.2.1 1) 40 fas), (sr, aI (g.2.1 1) 40 fst), (hi, aI (g.2.1 0) 93 fhi), (hd, .inr (8, dF d i)), ((d 3), aQ (g.2.1 3) 12 fle)] H := hP
    have hD : va_D A [(y, .inr (1, [.int (iI mn), .int (iI cn), .ref me, .ref cs, .ref as_, .ref sr, .ref hi])), (as_, aI (g.2.1 1) 40 fas), (sr, aI (g.2.1 1) 40 fst), (hi, aI (g.2.1 0) 93 fhi), (hd, .inr (8, dF d i)), ((d 3), aQ (g.2.1 3) 12 fle)] := hD
    refine iv_if_ne (tgt := 21) hx hb dX8_count_16 (by decide) (by decide) (fun _ => ?_) (fun h => absurd h (by decide))
    refine lv_iload_n hx hb dX8_count_21 rfl (lv_at hl 3 rfl) ?_
    rcases (show what = 0 ∨ what = 1 ∨ what = 2 ∨ (¬ what = 0 ∧ ¬ what = 1 ∧ ¬ what = 2) from by omega) with hc3 | hc3 | hc3 | hc3
    · refine iv_as (0) hc3 ?_
      refine lv_tableIn (off := 26) (tgt := 48) hx hb dX8_count_22 (by decide) (by decide) rfl (by decide) ?_
      refine lv_aload_n hx hb dX8_count_48 rfl (lv_at hl 0 rfl) ?_
      refine va_get (D := g.1) (ci := 1) (v := .int (iI mn)) hx hb hts kX8_count_1 hown hG.1 hP 0 rfl rfl 0 (by decide) (hts _ (List.mem_of_getElem? (i := 1) rfl)) (fun _ h9 => h9) rfl dX8_count_49 ?_
      exact Ct.iret hx hb hr hlocks (hP.sub [4, 5, 0, 1, 2, 3] rfl) (hD.sub [4, 5, 0, 1, 2, 3] (by decide) rfl) hS ⟨by decide, by decide⟩ dX8_count_52 ⟨mn, rfl, rfl, (by rw [if_neg (by omega), if_pos (by omega)])⟩
    · refine iv_as (1) hc3 ?_
      refine lv_tableIn (off := 31) (tgt := 53) hx hb dX8_count_22 (by decide) (by decide) rfl (by decide) ?_
      refine lv_aload_n hx hb dX8_count_53 rfl (lv_at hl 0 rfl) ?_
      refine va_get (D := g.1) (ci := 1) (v := .int (iI mn)) hx hb hts kX8_count_1 hown hG.1 hP 0 rfl rfl 0 (by decide) (hts _ (List.mem_of_getElem? (i := 1) rfl)) (fun _ h9 => h9) rfl dX8_count_54 ?_
      refine lv_aload_n hx hb dX8_count_57 rfl (lv_at hl 0 rfl) ?_
      refine va_get (D := g.1) (ci := 1) (v := .int (iI cn)) hx hb hts kX8_count_1 hown hG.1 hP 0 rfl rfl 1 (by decide) (hts _ (List.mem_of_getElem? (i := 2) rfl)) (fun _ h9 => h9) rfl dX8_count_58 ?_
      refine iv_isub hx hb dX8_count_61 ?_
      exact Ct.iret hx hb hr hlocks (hP.sub [4, 5, 0, 1, 2, 3] rfl) (hD.sub [4, 5, 0, 1, 2, 3] (by decide) rfl) hS ⟨by decide, by decide⟩ dX8_count_62 ⟨(mn - cn), rfl, rfl, (by rw [if_neg (by omega), if_neg (by omega), if_pos (by omega)])⟩
    · refine iv_as (2) hc3 ?_
      refine lv_tableIn (off := 41) (tgt := 63) hx hb dX8_count_22 (by decide) (by decide) rfl (by decide) ?_
      refine lv_aload_n hx hb dX8_count_63 rfl (lv_at hl 0 rfl) ?_
      refine Ct.callV (ci := 1) (q0 := 0) (qc := (RX1, TX1, 7)) (As := []) (rest := []) (wr := [(as_, aI (g.2.1 1) 40 fas), (sr, aI (g.2.1 1) 40 fst), (hd, .inr (8, dF d i)), ((d 3), aQ (g.2.1 3) 12 fle)]) (c1 := 0) (s1 := 0) ⟨hx, hb, hml, hown, hts⟩ (c_X1_rightOnes l g y mn cn me cs as_ sr hi fhi ) rfl rfl (cwV 0 hts gX8_count_X1_rightOnes rfl rfl rfl (by decide +kernel) ⟨Nat.le_of_ble_eq_true rfl, Nat.le_of_ble_eq_true rfl⟩) hG hP hD hS hA [0, 3] [1, 2, 4, 5] rfl rfl (by decide) (by decide) (by decide) rfl hl.1 rfl (Nat.le_of_ble_eq_true rfl) dX8_count_64 ⟨Nat.le_of_ble_eq_true rfl, Nat.le_of_ble_eq_true rfl⟩ rfl rfl (fun v w H locs hv hP hD hS => ?_)
      obtain ⟨rfl, rfl⟩ := hv
      show W p l e _ s m _ below meth c H locs 0 0 _ (F0 m 67 ls (.int (iI (fhi 0)) :: []))
      have hP : va_P g.1 vwCl [(as_, aI (g.2.1 1) 40 fas), (sr, aI (g.2.1 1) 40 fst), (hd, .inr (8, dF d i)), ((d 3), aQ (g.2.1 3) 12 fle), (y, .inr (1, [.int (iI mn), .int (iI cn), .ref me, .ref cs, .ref as_, .ref sr, .ref hi])), (hi, aI (g.2.1 0) 93 fhi)] H := hP
      have hD : va_D A [(as_, aI (g.2.1 1) 40 fas), (sr, aI (g.2.1 1) 40 fst), (hd, .inr (8, dF d i)), ((d 3), aQ (g.2.1 3) 12 fle), (y, .inr (1, [.int (iI mn), .int (iI cn), .ref me, .ref cs, .ref as_, .ref sr, .ref hi])), (hi, aI (g.2.1 0) 93 fhi)] := hD
      exact Ct.iret hx hb hr hlocks (hP.sub [2, 3, 4, 0, 1, 5] rfl) (hD.sub [2, 3, 4, 0, 1, 5] (by decide) rfl) hS ⟨by decide, by decide⟩ dX8_count_67 ⟨(fhi 0), rfl, rfl, (by rw [if_neg (by omega), if_neg (by omega), if_neg (by omega), if_pos (by omega)])⟩
    · refine lv_tableOut (tgt := 68) hx hb dX8_count_22 (by rw [iI_toInt (by omega)]; omega) (by decide) ?_
      refine lv_aload_n hx hb dX8_count_68 rfl (lv_at hl 0 rfl) ?_
      refine Ct.callV (ci := 1) (q0 := 0) (qc := (RX1, TX1, 7)) (As := []) (rest := []) (wr := [(hi, aI (g.2.1 0) 93 fhi), (hd, .inr (8, dF d i)), ((d 3), aQ (g.2.1 3) 12 fle)]) (c1 := 0) (s1 := 0) ⟨hx, hb, hml, hown, hts⟩ (c_X1_strangeOnes l g y mn cn me cs as_ sr hi fas fst M (by omega) (h4)) rfl rfl (cwV 0 hts gX8_count_X1_strangeOnes rfl rfl rfl (by decide +kernel) ⟨Nat.le_of_ble_eq_true rfl, Nat.le_of_ble_eq_true rfl⟩) hG hP hD hS hA [0, 1, 2] [3, 4, 5] rfl rfl (by decide) (by decide) (by decide) rfl hl.1 rfl (Nat.le_of_ble_eq_true rfl) dX8_count_69 ⟨Nat.le_of_ble_eq_true rfl, Nat.le_of_ble_eq_true rfl⟩ rfl rfl (fun v w H locs hv hP hD hS => ?_)
      obtain ⟨rfl, rfl⟩ := hv
      show W p l e _ s m _ below meth c H locs 0 0 _ (F0 m 72 ls (.int (iI (cntS fst fas M)) :: []))
      have hP : va_P g.1 vwCl [(hi, aI (g.2.1 0) 93 fhi), (hd, .inr (8, dF d i)), ((d 3), aQ (g.2.1 3) 12 fle), (y, .inr (1, [.int (iI mn), .int (iI cn), .ref me, .ref cs, .ref as_, .ref sr, .ref hi])), (as_, aI (g.2.1 1) 40 fas), (sr, aI (g.2.1 1) 40 fst)] H := hP
      have hD : va_D A [(hi, aI (g.2.1 0) 93 fhi), (hd, .inr (8, dF d i)), ((d 3), aQ (g.2.1 3) 12 fle), (y, .inr (1, [.int (iI mn), .int (iI cn), .ref me, .ref cs, .ref as_, .ref sr, .ref hi])), (as_, aI (g.2.1 1) 40 fas), (sr, aI (g.2.1 1) 40 fst)] := hD
      exact Ct.iret hx hb hr hlocks (hP.sub [1, 2, 3, 4, 5, 0] rfl) (hD.sub [1, 2, 3, 4, 5, 0] (by decide) rfl) hS ⟨by decide, by decide⟩ dX8_count_72 ⟨(cntS fst fas M), rfl, rfl, (by rw [if_neg (by omega), if_neg (by omega), if_neg (by omega), if_neg (by omega)])⟩
  · show W p l e _ s m _ below meth c H locs 0 0 _ (F0 m 16 ls (.int (iI 0) :: []))
    have hb1 : ¬ (0 ≤ what ∧ what ≤ 3) := hb1
    have hP : va_P g.1 vwCl [(y, .inr (1, [.int (iI mn), .int (iI cn), .ref me, .ref cs, .ref as_, .ref sr, .ref hi])), (as_, aI (g.2.1 1) 40 fas), (sr, aI (g.2.1 1) 40 fst), (hi, aI (g.2.1 0) 93 fhi), (hd, .inr (8, dF d i)), ((d 3), aQ (g.2.1 3) 12 fle)] H := hP
    have hD : va_D A [(y, .inr (1, [.int (iI mn), .int (iI cn), .ref me, .ref cs, .ref as_, .ref sr, .ref hi])), (as_, aI (g.2.1 1) 40 fas), (sr, aI (g.2.1 1) 40 fst), (hi, aI (g.2.1 0) 93 fhi), (hd, .inr (8, dF d i)), ((d 3), aQ (g.2.1 3) 12 fle)] := hD
    refine iv_if_ne (tgt := 21) hx hb dX8_count_16 (by decide) (by decide) (fun h => absurd h (by decide)) (fun _ => ?_)
    refine lv_iconst (v := iI (-1)) hx hb dX8_count_19 rfl ?_
    exact Ct.iret hx hb hr hlocks (hP.sub [4, 5, 0, 1, 2, 3] rfl) (hD.sub [4, 5, 0, 1, 2, 3] (by decide) rfl) hS ⟨by decide, by decide⟩ dX8_count_20 ⟨(-1), rfl, rfl, (by rw [if_pos (by omega)])⟩
abbrev q_X8_countB (g : GT) (hd : Nat) (d : Nat → Nat) (i : Nat → Int) (fle : Nat → Option Nat) (x : Int) (what : Int) : Option Value → va_W → Prop := fun v w => ∃ (r : Int), v = some (.int (iI r)) ∧ w = [(hd, .inr (8, dF d i)), ((d 3), aQ (g.2.1 3) 12 fle)] ∧ (r = -1)
set_option maxHeartbeats 4000000 in
set_option maxRecDepth 100000 in
theorem c_X8_countB (l : Launch) (g : GT) (hd : Nat) (d : Nat → Nat) (i : Nat → Int) (fle : Nat → Option Nat) (x : Int) (what : Int) (h1 : ¬ (0 ≤ x ∧ x < i 4) ∧ 0 ≤ i 4 ∧ i 4 ≤ 12 ∧ (-2147483648 ≤ x ∧ x < 2147483648)) : Ct l g yX8_count wsX8_count ({ frames := 2, cells := 0, slots := 0, locals := 43 } : Room) [.ref hd, .int (iI x), .int (iI what)] [(hd, .inr (8, dF d i)), ((d 3), aQ (g.2.1 3) 12 fle)] (q_X8_countB g hd d i fle x what) := by
  refine Ct.intro (maxL := 4) (ret := (some .int)) (by decide) rfl (Nat.le_of_ble_eq_true rfl) ?_
  intro p e s m below meth c A ls hx hb hr hml hown hts hlocks hnm hA hG hP hD hS hl
  have hown : s.vm.findClass RX8 = some m.cls := hown
  have hl : lv_has ls 4 [(0, .ref hd), (1, .int (iI x)), (2, .int (iI what))] := hl
  have hP : va_P g.1 vwCl [(hd, .inr (8, dF d i)), ((d 3), aQ (g.2.1 3) 12 fle)] s.heap := hP
  have hS : va_S A s.heap s.heap [] := hS
  obtain ⟨H, hHe⟩ : ∃ H : Heap, H = s.heap := ⟨_, rfl⟩
  obtain ⟨locs, hLe⟩ : ∃ L : List Loc, L = [] := ⟨_, rfl⟩
  have hP : va_P g.1 vwCl [(hd, .inr (8, dF d i)), ((d 3), aQ (g.2.1 3) 12 fle)] H := by rw [hHe]; exact hP
  have hS : va_S A s.heap H locs := by rw [hHe, hLe]; exact hS
  suffices hgo : W p l e ({ frames := 2, cells := 0, slots := 0, locals := 43 } : Room) s m [.ref hd, .int (iI x), .int (iI what)].toArray below meth c H locs 0 0 (MQ below (CQ g (q_X8_countB g hd d i fle x what) A) [.ref hd, .int (iI x), .int (iI what)].toArray s ({ frames := 2, cells := 0, slots := 0, locals := 43 } : Room).cells ({ frames := 2, cells := 0, slots := 0, locals := 43 } : Room).slots A) (F0 m 0 ls []) by rw [hHe, hLe] at hgo; exact hgo
  clear hHe hLe
  refine lv_aload_n hx hb dX8_count_0 rfl (lv_at hl 0 rfl) ?_
  refine lv_iload_n hx hb dX8_count_1 rfl (lv_at hl 1 rfl) ?_
  refine Ct.callV (ci := 8) (q0 := 0) (qc := (RX8, TX8, 13)) (As := [.int (iI x)]) (rest := []) (wr := []) (c1 := 0) (s1 := 0) ⟨hx, hb, hml, hown, hts⟩ (c_X8_learnerAtB l g hd d i fle x (by omega)) rfl rfl (cwV 1 hts gX8_count_X8_learnerAt rfl rfl rfl (by decide +kernel) ⟨Nat.le_of_ble_eq_true rfl, Nat.le_of_ble_eq_true rfl⟩) hG hP hD hS hA [0, 1] [] rfl rfl (by decide) (by decide) (by decide) rfl hl.1 rfl (Nat.le_of_ble_eq_true rfl) dX8_count_2 ⟨Nat.le_of_ble_eq_true rfl, Nat.le_of_ble_eq_true rfl⟩ rfl rfl (fun v w H locs hv hP hD hS => ?_)
  obtain ⟨rfl, rfl⟩ := hv
  show W p l e _ s m _ below meth c H locs 0 0 _ (F0 m 5 ls (.null :: []))
  have hP : va_P g.1 vwCl [(hd, .inr (8, dF d i)), ((d 3), aQ (g.2.1 3) 12 fle)] H := hP
  have hD : va_D A [(hd, .inr (8, dF d i)), ((d 3), aQ (g.2.1 3) 12 fle)] := hD
  refine lv_astore_nN (lv' := [(3, .null), (0, .ref hd), (1, .int (iI x)), (2, .int (iI what))]) hx hb dX8_count_5 rfl hl (by decide) rfl (fun ls hl => ?_)
  refine lv_aload_nN hx hb dX8_count_6 rfl (lv_at hl 0 rfl) ?_
  refine lv_ifnullN (tgt := 19) hx hb dX8_count_7 (by decide) ?_
  refine lv_iconst (v := iI (-1)) hx hb dX8_count_19 rfl ?_
  exact Ct.iret hx hb hr hlocks (hP.sub [0, 1] rfl) (hD.sub [0, 1] (by decide) rfl) hS ⟨by decide, by decide⟩ dX8_count_20 ⟨(-1), rfl, rfl, (by omega)⟩
