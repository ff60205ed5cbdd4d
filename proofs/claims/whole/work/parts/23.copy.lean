theorem kX8_copy_5 : ∀ w ∈ u_ws RX5 TX5 3, w ∈ wsX8_copy := fun _ h => List.mem_cons_of_mem _ (List.mem_append_left _ (List.mem_append_right _ h))
abbrev q_X8_copy (g : GT) (hd : Nat) (d : Nat → Nat) (i : Nat → Int) (fsh : Nat → Option Nat) (y : Nat) (yi : Nat) (ln : Int) (la : Int) (it : Nat → Int) (y2 : Nat) (yi2 : Nat) (ln2 : Int) (la2 : Int) (it2 : Nat → Int) (k : Nat) (k2 : Nat) (x : Int) (xi : Int) (x2 : Int) (xj : Int) (n : Int) : Option Value → va_W → Prop := fun v w => ∃ (r : Int), ∃ (it2' : Nat → Int), v = some (.int (iI r)) ∧ w = [(hd, .inr (8, dF d i)), ((d 12), aQ (g.2.1 4) 4 fsh), (y, .inr (5, [.int (iI ln), .int (iI la), .ref yi])), (yi, aI (g.2.1 0) 40 it), (y2, .inr (5, [.int (iI ln2), .int (iI la2), .ref yi2])), (yi2, aI (g.2.1 0) 40 it2')] ∧ (r = copyS ln la ln2 la2 xi xj n) ∧ (0 ≤ r → it2' = va_cpy it it2 xi.toNat xj.toNat n.toNat) ∧ (r < 0 → it2' = it2)
set_option maxHeartbeats 4000000 in
set_option maxRecDepth 100000 in
theorem c_X8_copy (l : Launch) (g : GT) (hd : Nat) (d : Nat → Nat) (i : Nat → Int) (fsh : Nat → Option Nat) (y : Nat) (yi : Nat) (ln : Int) (la : Int) (it : Nat → Int) (y2 : Nat) (yi2 : Nat) (ln2 : Int) (la2 : Int) (it2 : Nat → Int) (k : Nat) (k2 : Nat) (x : Int) (xi : Int) (x2 : Int) (xj : Int) (n : Int) (h1 : x = (k : Int) ∧ k < 4 ∧ x2 = (k2 : Int) ∧ k2 < 4) (h2 : fsh k = some y) (h2b : fsh k2 = some y2) (h3 : -1 ≤ ln ∧ ln ≤ 40 ∧ 0 ≤ la ∧ la ≤ 2 ∧ -1 ≤ ln2 ∧ ln2 ≤ 40 ∧ 0 ≤ la2 ∧ la2 ≤ 2) (h4 : (-2147483648 ≤ xi ∧ xi < 2147483648) ∧ (-2147483648 ≤ xj ∧ xj < 2147483648) ∧ (-2147483648 ≤ n ∧ n < 2147483648)) : Ct l g yX8_copy wsX8_copy ({ frames := 2, cells := 0, slots := 0, locals := 43 } : Room) [.ref hd, .int (iI x), .int (iI xi), .int (iI x2), .int (iI xj), .int (iI n)] [(hd, .inr (8, dF d i)), ((d 12), aQ (g.2.1 4) 4 fsh), (y, .inr (5, [.int (iI ln), .int (iI la), .ref yi])), (yi, aI (g.2.1 0) 40 it), (y2, .inr (5, [.int (iI ln2), .int (iI la2), .ref yi2])), (yi2, aI (g.2.1 0) 40 it2)] (q_X8_copy g hd d i fsh y yi ln la it y2 yi2 ln2 la2 it2 k k2 x xi x2 xj n) := by
  refine Ct.intro (maxL := 8) (ret := (some .int)) (by decide) rfl (Nat.le_of_ble_eq_true rfl) ?_
  intro p e s m below meth c A ls hx hb hr hml hown hts hlocks hnm hA hG hP hD hS hl
  have hown : s.vm.findClass RX8 = some m.cls := hown
  have hl : lv_has ls 8 [(0, .ref hd), (1, .int (iI x)), (2, .int (iI xi)), (3, .int (iI x2)), (4, .int (iI xj)), (5, .int (iI n))] := hl
  have hP : va_P g.1 vwCl [(hd, .inr (8, dF d i)), ((d 12), aQ (g.2.1 4) 4 fsh), (y, .inr (5, [.int (iI ln), .int (iI la), .ref yi])), (yi, aI (g.2.1 0) 40 it), (y2, .inr (5, [.int (iI ln2), .int (iI la2), .ref yi2])), (yi2, aI (g.2.1 0) 40 it2)] s.heap := hP
  have hS : va_S A s.heap s.heap [] := hS
  obtain ⟨H, hHe⟩ : ∃ H : Heap, H = s.heap := ⟨_, rfl⟩
  obtain ⟨locs, hLe⟩ : ∃ L : List Loc, L = [] := ⟨_, rfl⟩
  have hP : va_P g.1 vwCl [(hd, .inr (8, dF d i)), ((d 12), aQ (g.2.1 4) 4 fsh), (y, .inr (5, [.int (iI ln), .int (iI la), .ref yi])), (yi, aI (g.2.1 0) 40 it), (y2, .inr (5, [.int (iI ln2), .int (iI la2), .ref yi2])), (yi2, aI (g.2.1 0) 40 it2)] H := by rw [hHe]; exact hP
  have hS : va_S A s.heap H locs := by rw [hHe, hLe]; exact hS
  suffices hgo : W p l e ({ frames := 2, cells := 0, slots := 0, locals := 43 } : Room) s m [.ref hd, .int (iI x), .int (iI xi), .int (iI x2), .int (iI xj), .int (iI n)].toArray below meth c H locs 0 0 (MQ below (CQ g (q_X8_copy g hd d i fsh y yi ln la it y2 yi2 ln2 la2 it2 k k2 x xi x2 xj n) A) [.ref hd, .int (iI x), .int (iI xi), .int (iI x2), .int (iI xj), .int (iI n)].toArray s ({ frames := 2, cells := 0, slots := 0, locals := 43 } : Room).cells ({ frames := 2, cells := 0, slots := 0, locals := 43 } : Room).slots A) (F0 m 0 ls []) by rw [hHe, hLe] at hgo; exact hgo
  clear hHe hLe
  refine lv_aload_n hx hb dX8_copy_0 rfl (lv_at hl 0 rfl) ?_
  refine lv_iload_n hx hb dX8_copy_1 rfl (lv_at hl 1 rfl) ?_
  refine Ct.callV (ci := 8) (q0 := 0) (qc := (RX8, TX8, 13)) (As := [.int (iI x)]) (rest := []) (wr := [(y, .inr (5, [.int (iI ln), .int (iI la), .ref yi])), (yi, aI (g.2.1 0) 40 it), (y2, .inr (5, [.int (iI ln2), .int (iI la2), .ref yi2])), (yi2, aI (g.2.1 0) 40 it2)]) (c1 := 0) (s1 := 0) ⟨hx, hb, hml, hown, hts⟩ (c_X8_sheetAt l g hd d i fsh x k y (by omega) (h2)) rfl rfl (cwV 1 hts gX8_copy_X8_sheetAt rfl rfl rfl (by decide +kernel) ⟨Nat.le_of_ble_eq_true rfl, Nat.le_of_ble_eq_true rfl⟩) hG hP hD hS hA [0, 1] [2, 3, 4, 5] rfl rfl (by decide) (by decide) (by decide) rfl hl.1 rfl (Nat.le_of_ble_eq_true rfl) dX8_copy_2 ⟨Nat.le_of_ble_eq_true rfl, Nat.le_of_ble_eq_true rfl⟩ rfl rfl (fun v w H locs hv hP hD hS => ?_)
  obtain ⟨rfl, rfl⟩ := hv
  show W p l e _ s m _ below meth c H locs 0 0 _ (F0 m 5 ls (.ref y :: []))
  have hP : va_P g.1 vwCl [(y, .inr (5, [.int (iI ln), .int (iI la), .ref yi])), (yi, aI (g.2.1 0) 40 it), (y2, .inr (5, [.int (iI ln2), .int (iI la2), .ref yi2])), (yi2, aI (g.2.1 0) 40 it2), (hd, .inr (8, dF d i)), ((d 12), aQ (g.2.1 4) 4 fsh)] H := hP
  have hD : va_D A [(y, .inr (5, [.int (iI ln), .int (iI la), .ref yi])), (yi, aI (g.2.1 0) 40 it), (y2, .inr (5, [.int (iI ln2), .int (iI la2), .ref yi2])), (yi2, aI (g.2.1 0) 40 it2), (hd, .inr (8, dF d i)), ((d 12), aQ (g.2.1 4) 4 fsh)] := hD
  refine lv_astore (lv' := [(6, .ref y), (0, .ref hd), (1, .int (iI x)), (2, .int (iI xi)), (3, .int (iI x2)), (4, .int (iI xj)), (5, .int (iI n))]) hx hb dX8_copy_5 hl (by decide) rfl (fun ls hl => ?_)
  refine lv_aload_n hx hb dX8_copy_7 rfl (lv_at hl 1 rfl) ?_
  refine lv_iload_n hx hb dX8_copy_8 rfl (lv_at hl 4 rfl) ?_
  refine Ct.callV (ci := 8) (q0 := 4) (qc := (RX8, TX8, 13)) (As := [.int (iI x2)]) (rest := []) (wr := [(y, .inr (5, [.int (iI ln), .int (iI la), .ref yi])), (yi, aI (g.2.1 0) 40 it), (y2, .inr (5, [.int (iI ln2), .int (iI la2), .ref yi2])), (yi2, aI (g.2.1 0) 40 it2)]) (c1 := 0) (s1 := 0) ⟨hx, hb, hml, hown, hts⟩ (c_X8_sheetAt l g hd d i fsh x2 k2 y2 (by omega) (h2b)) rfl rfl (cwV 1 hts gX8_copy_X8_sheetAt rfl rfl rfl (by decide +kernel) ⟨Nat.le_of_ble_eq_true rfl, Nat.le_of_ble_eq_true rfl⟩) hG hP hD hS hA [4, 5] [0, 1, 2, 3] rfl rfl (by decide) (by decide) (by decide) rfl hl.1 rfl (Nat.le_of_ble_eq_true rfl) dX8_copy_9 ⟨Nat.le_of_ble_eq_true rfl, Nat.le_of_ble_eq_true rfl⟩ rfl rfl (fun v w H locs hv hP hD hS => ?_)
  obtain ⟨rfl, rfl⟩ := hv
  show W p l e _ s m _ below meth c H locs 0 0 _ (F0 m 12 ls (.ref y2 :: []))
  have hP : va_P g.1 vwCl [(y, .inr (5, [.int (iI ln), .int (iI la), .ref yi])), (yi, aI (g.2.1 0) 40 it), (y2, .inr (5, [.int (iI ln2), .int (iI la2), .ref yi2])), (yi2, aI (g.2.1 0) 40 it2), (hd, .inr (8, dF d i)), ((d 12), aQ (g.2.1 4) 4 fsh)] H := hP
  have hD : va_D A [(y, .inr (5, [.int (iI ln), .int (iI la), .ref yi])), (yi, aI (g.2.1 0) 40 it), (y2, .inr (5, [.int (iI ln2), .int (iI la2), .ref yi2])), (yi2, aI (g.2.1 0) 40 it2), (hd, .inr (8, dF d i)), ((d 12), aQ (g.2.1 4) 4 fsh)] := hD
  refine lv_astore (lv' := [(7, .ref y2), (6, .ref y), (0, .ref hd), (1, .int (iI x)), (2, .int (iI xi)), (3, .int (iI x2)), (4, .int (iI xj)), (5, .int (iI n))]) hx hb dX8_copy_12 hl (by decide) rfl (fun ls hl => ?_)
  refine lv_aload hx hb dX8_copy_14 (lv_at hl 1 rfl) ?_
  refine lv_ifnull hx hb dX8_copy_16 ?_
  refine lv_aload hx hb dX8_copy_19 (lv_at hl 0 rfl) ?_
  refine lv_ifnonnull (tgt := 26) hx hb dX8_copy_21 (by decide) ?_
  refine lv_aload hx hb dX8_copy_26 (lv_at hl 1 rfl) ?_
  refine Ct.callV (ci := 5) (q0 := 0) (qc := (RX5, TX5, 3)) (As := []) (rest := []) (wr := [(y2, .inr (5, [.int (iI ln2), .int (iI la2), .ref yi2])), (yi2, aI (g.2.1 0) 40 it2), (hd, .inr (8, dF d i)), ((d 12), aQ (g.2.1 4) 4 fsh)]) (c1 := 0) (s1 := 0) ⟨hx, hb, hml, hown, hts⟩ (c_X5_isMissing l g y yi ln la it (by omega)) rfl rfl (cwV 0 hts gX8_copy_X5_isMissing rfl rfl rfl (by decide +kernel) ⟨Nat.le_of_ble_eq_true rfl, Nat.le_of_ble_eq_true rfl⟩) hG hP hD hS hA [0, 1] [2, 3, 4, 5] rfl rfl (by decide) (by decide) (by decide) rfl hl.1 rfl (Nat.le_of_ble_eq_true rfl) dX8_copy_28 ⟨Nat.le_of_ble_eq_true rfl, Nat.le_of_ble_eq_true rfl⟩ rfl rfl (fun v w H locs hv hP hD hS => ?_)
  obtain ⟨⟨rfl, hb1⟩ | ⟨rfl, hb1⟩, rfl⟩ := hv
  · show W p l e _ s m _ below meth c H locs 0 0 _ (F0 m 31 ls (.int (iI 1) :: []))
    have hb1 : ln < 0 := hb1
    have hP : va_P g.1 vwCl [(y2, .inr (5, [.int (iI ln2), .int (iI la2), .ref yi2])), (yi2, aI (g.2.1 0) 40 it2), (hd, .inr (8, dF d i)), ((d 12), aQ (g.2.1 4) 4 fsh), (y, .inr (5, [.int (iI ln), .int (iI la), .ref yi])), (yi, aI (g.2.1 0) 40 it)] H := hP
    have hD : va_D A [(y2, .inr (5, [.int (iI ln2), .int (iI la2), .ref yi2])), (yi2, aI (g.2.1 0) 40 it2), (hd, .inr (8, dF d i)), ((d 12), aQ (g.2.1 4) 4 fsh), (y, .inr (5, [.int (iI ln), .int (iI la), .ref yi])), (yi, aI (g.2.1 0) 40 it)] := hD
    refine iv_if_ne (tgt := 42) hx hb dX8_copy_31 (by decide) (by decide) (fun _ => ?_) (fun h => absurd h (by decide))
    refine lv_bipush (v := iI (-11)) hx hb dX8_copy_42 (by decide) ?_
    exact Ct.iret hx hb hr hlocks (hP.sub [2, 3, 4, 5, 0, 1] rfl) (hD.sub [2, 3, 4, 5, 0, 1] (by decide) rfl) hS ⟨by decide, by decide⟩ dX8_copy_44 ⟨(-11), it2, rfl, rfl, (by unfold copyS; (repeat' split) <;> first | rfl | omega | (exfalso; omega)), (fun h => absurd h (by omega)), (fun _ => rfl)⟩
  · show W p l e _ s m _ below meth c H locs 0 0 _ (F0 m 31 ls (.int (iI 0) :: []))
    have hb1 : ¬ (ln < 0) := hb1
    have hP : va_P g.1 vwCl [(y2, .inr (5, [.int (iI ln2), .int (iI la2), .ref yi2])), (yi2, aI (g.2.1 0) 40 it2), (hd, .inr (8, dF d i)), ((d 12), aQ (g.2.1 4) 4 fsh), (y, .inr (5, [.int (iI ln), .int (iI la), .ref yi])), (yi, aI (g.2.1 0) 40 it)] H := hP
    have hD : va_D A [(y2, .inr (5, [.int (iI ln2), .int (iI la2), .ref yi2])), (yi2, aI (g.2.1 0) 40 it2), (hd, .inr (8, dF d i)), ((d 12), aQ (g.2.1 4) 4 fsh), (y, .inr (5, [.int (iI ln), .int (iI la), .ref yi])), (yi, aI (g.2.1 0) 40 it)] := hD
    refine iv_if_ne (tgt := 42) hx hb dX8_copy_31 (by decide) (by decide) (fun h => absurd h (by decide)) (fun _ => ?_)
    refine lv_aload hx hb dX8_copy_34 (lv_at hl 0 rfl) ?_
    refine Ct.callV (ci := 5) (q0 := 0) (qc := (RX5, TX5, 3)) (As := []) (rest := []) (wr := [(hd, .inr (8, dF d i)), ((d 12), aQ (g.2.1 4) 4 fsh), (y, .inr (5, [.int (iI ln), .int (iI la), .ref yi])), (yi, aI (g.2.1 0) 40 it)]) (c1 := 0) (s1 := 0) ⟨hx, hb, hml, hown, hts⟩ (c_X5_isMissing l g y2 yi2 ln2 la2 it2 (by omega)) rfl rfl (cwV 0 hts gX8_copy_X5_isMissing rfl rfl rfl (by decide +kernel) ⟨Nat.le_of_ble_eq_true rfl, Nat.le_of_ble_eq_true rfl⟩) hG hP hD hS hA [0, 1] [2, 3, 4, 5] rfl rfl (by decide) (by decide) (by decide) rfl hl.1 rfl (Nat.le_of_ble_eq_true rfl) dX8_copy_36 ⟨Nat.le_of_ble_eq_true rfl, Nat.le_of_ble_eq_true rfl⟩ rfl rfl (fun v w H locs hv hP hD hS => ?_)
    obtain ⟨⟨rfl, hb4⟩ | ⟨rfl, hb4⟩, rfl⟩ := hv
    · show W p l e _ s m _ below meth c H locs 0 0 _ (F0 m 39 ls (.int (iI 1) :: []))
      have hb4 : ln2 < 0 := hb4
      have hP : va_P g.1 vwCl [(hd, .inr (8, dF d i)), ((d 12), aQ (g.2.1 4) 4 fsh), (y, .inr (5, [.int (iI ln), .int (iI la), .ref yi])), (yi, aI (g.2.1 0) 40 it), (y2, .inr (5, [.int (iI ln2), .int (iI la2), .ref yi2])), (yi2, aI (g.2.1 0) 40 it2)] H := hP
      have hD : va_D A [(hd, .inr (8, dF d i)), ((d 12), aQ (g.2.1 4) 4 fsh), (y, .inr (5, [.int (iI ln), .int (iI la), .ref yi])), (yi, aI (g.2.1 0) 40 it), (y2, .inr (5, [.int (iI ln2), .int (iI la2), .ref yi2])), (yi2, aI (g.2.1 0) 40 it2)] := hD
      refine iv_if_eq (tgt := 45) hx hb dX8_copy_39 (by decide) (by decide) (fun h => absurd h (by decide)) (fun _ => ?_)
      refine lv_bipush (v := iI (-11)) hx hb dX8_copy_42 (by decide) ?_
      exact Ct.iret hx hb hr hlocks (hP.sub [0, 1, 2, 3, 4, 5] rfl) (hD.sub [0, 1, 2, 3, 4, 5] (by decide) rfl) hS ⟨by decide, by decide⟩ dX8_copy_44 ⟨(-11), it2, rfl, rfl, (by unfold copyS; (repeat' split) <;> first | rfl | omega | (exfalso; omega)), (fun h => absurd h (by omega)), (fun _ => rfl)⟩
    · show W p l e _ s m _ below meth c H locs 0 0 _ (F0 m 39 ls (.int (iI 0) :: []))
      have hb4 : ¬ (ln2 < 0) := hb4
      have hP : va_P g.1 vwCl [(hd, .inr (8, dF d i)), ((d 12), aQ (g.2.1 4) 4 fsh), (y, .inr (5, [.int (iI ln), .int (iI la), .ref yi])), (yi, aI (g.2.1 0) 40 it), (y2, .inr (5, [.int (iI ln2), .int (iI la2), .ref yi2])), (yi2, aI (g.2.1 0) 40 it2)] H := hP
      have hD : va_D A [(hd, .inr (8, dF d i)), ((d 12), aQ (g.2.1 4) 4 fsh), (y, .inr (5, [.int (iI ln), .int (iI la), .ref yi])), (yi, aI (g.2.1 0) 40 it), (y2, .inr (5, [.int (iI ln2), .int (iI la2), .ref yi2])), (yi2, aI (g.2.1 0) 40 it2)] := hD
      refine iv_if_eq (tgt := 45) hx hb dX8_copy_39 (by decide) (by decide) (fun _ => ?_) (fun h => absurd h (by decide))
      refine lv_aload hx hb dX8_copy_45 (lv_at hl 1 rfl) ?_
      refine va_get (D := g.1) (ci := 5) (v := .int (iI la)) hx hb hts kX8_copy_5 hown hG.1 hP 2 rfl rfl 1 (by decide) (hts _ (List.mem_of_getElem? (i := 1) rfl)) (fun _ h9 => h9) rfl dX8_copy_47 ?_
      refine lv_aload hx hb dX8_copy_50 (lv_at hl 0 rfl) ?_
      refine va_get (D := g.1) (ci := 5) (v := .int (iI la2)) hx hb hts kX8_copy_5 hown hG.1 hP 4 rfl rfl 1 (by decide) (hts _ (List.mem_of_getElem? (i := 1) rfl)) (fun _ h9 => h9) rfl dX8_copy_52 ?_
      refine iv_icmp_eq (tgt := 61) hx hb dX8_copy_55 (by decide) (by omega) (fun hc7 => ?_) (fun hc7 => ?_)
      · refine lv_aload hx hb dX8_copy_61 (lv_at hl 1 rfl) ?_
        refine lv_iload_n hx hb dX8_copy_63 rfl (lv_at hl 4 rfl) ?_
        refine lv_iload hx hb dX8_copy_64 (lv_at hl 7 rfl) ?_
        refine Ct.callV (ci := 5) (q0 := 2) (qc := (RX5, TX5, 3)) (As := [.int (iI xi), .int (iI n)]) (rest := []) (wr := [(hd, .inr (8, dF d i)), ((d 12), aQ (g.2.1 4) 4 fsh), (y2, .inr (5, [.int (iI ln2), .int (iI la2), .ref yi2])), (yi2, aI (g.2.1 0) 40 it2)]) (c1 := 0) (s1 := 0) ⟨hx, hb, hml, hown, hts⟩ (c_X5_holds l g y yi ln la it xi n (by omega)) rfl rfl (cwV 2 hts gX8_copy_X5_holds rfl rfl rfl (by decide +kernel) ⟨Nat.le_of_ble_eq_true rfl, Nat.le_of_ble_eq_true rfl⟩) hG hP hD hS hA [2, 3] [0, 1, 4, 5] rfl rfl (by decide) (by decide) (by decide) rfl hl.1 rfl (Nat.le_of_ble_eq_true rfl) dX8_copy_66 ⟨Nat.le_of_ble_eq_true rfl, Nat.le_of_ble_eq_true rfl⟩ rfl rfl (fun v w H locs hv hP hD hS => ?_)
        obtain ⟨⟨rfl, hb8⟩ | ⟨rfl, hb8⟩, rfl⟩ := hv
        · show W p l e _ s m _ below meth c H locs 0 0 _ (F0 m 69 ls (.int (iI 1) :: []))
          have hb8 : HoldP ln xi n := hb8
          have hP : va_P g.1 vwCl [(hd, .inr (8, dF d i)), ((d 12), aQ (g.2.1 4) 4 fsh), (y2, .inr (5, [.int (iI ln2), .int (iI la2), .ref yi2])), (yi2, aI (g.2.1 0) 40 it2), (y, .inr (5, [.int (iI ln), .int (iI la), .ref yi])), (yi, aI (g.2.1 0) 40 it)] H := hP
          have hD : va_D A [(hd, .inr (8, dF d i)), ((d 12), aQ (g.2.1 4) 4 fsh), (y2, .inr (5, [.int (iI ln2), .int (iI la2), .ref yi2])), (yi2, aI (g.2.1 0) 40 it2), (y, .inr (5, [.int (iI ln), .int (iI la), .ref yi])), (yi, aI (g.2.1 0) 40 it)] := hD
          refine iv_if_eq (tgt := 84) hx hb dX8_copy_69 (by decide) (by decide) (fun h => absurd h (by decide)) (fun _ => ?_)
          refine lv_aload hx hb dX8_copy_72 (lv_at hl 0 rfl) ?_
          refine lv_iload hx hb dX8_copy_74 (lv_at hl 6 rfl) ?_
          refine lv_iload hx hb dX8_copy_76 (lv_at hl 7 rfl) ?_
          refine Ct.callV (ci := 5) (q0 := 2) (qc := (RX5, TX5, 3)) (As := [.int (iI xj), .int (iI n)]) (rest := []) (wr := [(hd, .inr (8, dF d i)), ((d 12), aQ (g.2.1 4) 4 fsh), (y, .inr (5, [.int (iI ln), .int (iI la), .ref yi])), (yi, aI (g.2.1 0) 40 it)]) (c1 := 0) (s1 := 0) ⟨hx, hb, hml, hown, hts⟩ (c_X5_holds l g y2 yi2 ln2 la2 it2 xj n (by omega)) rfl rfl (cwV 2 hts gX8_copy_X5_holds rfl rfl rfl (by decide +kernel) ⟨Nat.le_of_ble_eq_true rfl, Nat.le_of_ble_eq_true rfl⟩) hG hP hD hS hA [2, 3] [0, 1, 4, 5] rfl rfl (by decide) (by decide) (by decide) rfl hl.1 rfl (Nat.le_of_ble_eq_true rfl) dX8_copy_78 ⟨Nat.le_of_ble_eq_true rfl, Nat.le_of_ble_eq_true rfl⟩ rfl rfl (fun v w H locs hv hP hD hS => ?_)
          obtain ⟨⟨rfl, hb10⟩ | ⟨rfl, hb10⟩, rfl⟩ := hv
          · show W p l e _ s m _ below meth c H locs 0 0 _ (F0 m 81 ls (.int (iI 1) :: []))
            have hb10 : HoldP ln2 xj n := hb10
            have hP : va_P g.1 vwCl [(hd, .inr (8, dF d i)), ((d 12), aQ (g.2.1 4) 4 fsh), (y, .inr (5, [.int (iI ln), .int (iI la), .ref yi])), (yi, aI (g.2.1 0) 40 it), (y2, .inr (5, [.int (iI ln2), .int (iI la2), .ref yi2])), (yi2, aI (g.2.1 0) 40 it2)] H := hP
            have hD : va_D A [(hd, .inr (8, dF d i)), ((d 12), aQ (g.2.1 4) 4 fsh), (y, .inr (5, [.int (iI ln), .int (iI la), .ref yi])), (yi, aI (g.2.1 0) 40 it), (y2, .inr (5, [.int (iI ln2), .int (iI la2), .ref yi2])), (yi2, aI (g.2.1 0) 40 it2)] := hD
            refine iv_if_ne (tgt := 87) hx hb dX8_copy_81 (by decide) (by decide) (fun _ => ?_) (fun h => absurd h (by decide))
            refine lv_aload hx hb dX8_copy_87 (lv_at hl 1 rfl) ?_
            refine va_get (D := g.1) (ci := 5) (v := .ref yi) hx hb hts kX8_copy_5 hown hG.1 hP 2 rfl rfl 2 (by decide) (hts _ (List.mem_of_getElem? (i := 2) rfl)) (fun _ h9 => h9) rfl dX8_copy_89 ?_
            refine lv_iload_n hx hb dX8_copy_92 rfl (lv_at hl 4 rfl) ?_
            refine lv_aload hx hb dX8_copy_93 (lv_at hl 0 rfl) ?_
            refine va_get (D := g.1) (ci := 5) (v := .ref yi2) hx hb hts kX8_copy_5 hown hG.1 hP 4 rfl rfl 2 (by decide) (hts _ (List.mem_of_getElem? (i := 2) rfl)) (fun _ h9 => h9) rfl dX8_copy_95 ?_
            refine lv_iload hx hb dX8_copy_98 (lv_at hl 6 rfl) ?_
            refine lv_iload hx hb dX8_copy_100 (lv_at hl 7 rfl) ?_
            refine iv_copy hx hb (by rw [hml]; exact hl.1.symm) hown (hts _ (List.mem_of_getElem? (i := 3) rfl)) (hts _ (List.mem_of_getElem? (i := 4) rfl)) (hts _ (List.mem_of_getElem? (i := 5) rfl)) (hts _ (List.mem_of_getElem? (i := 6) rfl)) hG hP hD hS 3 5 rfl rfl xi.toNat xj.toNat n.toNat (by omega) (by omega) (by omega) (Nat.le_of_ble_eq_true rfl) (by decide) dX8_copy_102 (fun H locs hP hD hS => ?_)
            have hP : va_P g.1 vwCl [(hd, .inr (8, dF d i)), ((d 12), aQ (g.2.1 4) 4 fsh), (y, .inr (5, [.int (iI ln), .int (iI la), .ref yi])), (yi, aI (g.2.1 0) 40 it), (y2, .inr (5, [.int (iI ln2), .int (iI la2), .ref yi2])), (yi2, aI (g.2.1 0) 40 (va_cpy it it2 xi.toNat xj.toNat n.toNat))] H := hP
            have hD : va_D A [(hd, .inr (8, dF d i)), ((d 12), aQ (g.2.1 4) 4 fsh), (y, .inr (5, [.int (iI ln), .int (iI la), .ref yi])), (yi, aI (g.2.1 0) 40 it), (y2, .inr (5, [.int (iI ln2), .int (iI la2), .ref yi2])), (yi2, aI (g.2.1 0) 40 (va_cpy it it2 xi.toNat xj.toNat n.toNat))] := hD
            refine lv_iload hx hb dX8_copy_105 (lv_at hl 7 rfl) ?_
            exact Ct.iret hx hb hr hlocks (hP.sub [0, 1, 2, 3, 4, 5] rfl) (hD.sub [0, 1, 2, 3, 4, 5] (by decide) rfl) hS ⟨by decide, by decide⟩ dX8_copy_107 ⟨n, (va_cpy it it2 xi.toNat xj.toNat n.toNat), rfl, rfl, (by unfold copyS; (repeat' split) <;> first | rfl | omega | (exfalso; omega)), (fun _ => rfl), (fun h => absurd h (by omega))⟩
          · show W p l e _ s m _ below meth c H locs 0 0 _ (F0 m 81 ls (.int (iI 0) :: []))
            have hb10 : ¬ (HoldP ln2 xj n) := hb10
            have hP : va_P g.1 vwCl [(hd, .inr (8, dF d i)), ((d 12), aQ (g.2.1 4) 4 fsh), (y, .inr (5, [.int (iI ln), .int (iI la), .ref yi])), (yi, aI (g.2.1 0) 40 it), (y2, .inr (5, [.int (iI ln2), .int (iI la2), .ref yi2])), (yi2, aI (g.2.1 0) 40 it2)] H := hP
            have hD : va_D A [(hd, .inr (8, dF d i)), ((d 12), aQ (g.2.1 4) 4 fsh), (y, .inr (5, [.int (iI ln), .int (iI la), .ref yi])), (yi, aI (g.2.1 0) 40 it), (y2, .inr (5, [.int (iI ln2), .int (iI la2), .ref yi2])), (yi2, aI (g.2.1 0) 40 it2)] := hD
            refine iv_if_ne (tgt := 87) hx hb dX8_copy_81 (by decide) (by decide) (fun h => absurd h (by decide)) (fun _ => ?_)
            refine lv_bipush (v := iI (-13)) hx hb dX8_copy_84 (by decide) ?_
            exact Ct.iret hx hb hr hlocks (hP.sub [0, 1, 2, 3, 4, 5] rfl) (hD.sub [0, 1, 2, 3, 4, 5] (by decide) rfl) hS ⟨by decide, by decide⟩ dX8_copy_86 ⟨(-13), it2, rfl, rfl, (by unfold copyS; (repeat' split) <;> first | rfl | omega | (exfalso; omega)), (fun h => absurd h (by omega)), (fun _ => rfl)⟩
        · show W p l e _ s m _ below meth c H locs 0 0 _ (F0 m 69 ls (.int (iI 0) :: []))
          have hb8 : ¬ (HoldP ln xi n) := hb8
          have hP : va_P g.1 vwCl [(hd, .inr (8, dF d i)), ((d 12), aQ (g.2.1 4) 4 fsh), (y2, .inr (5, [.int (iI ln2), .int (iI la2), .ref yi2])), (yi2, aI (g.2.1 0) 40 it2), (y, .inr (5, [.int (iI ln), .int (iI la), .ref yi])), (yi, aI (g.2.1 0) 40 it)] H := hP
          have hD : va_D A [(hd, .inr (8, dF d i)), ((d 12), aQ (g.2.1 4) 4 fsh), (y2, .inr (5, [.int (iI ln2), .int (iI la2), .ref yi2])), (yi2, aI (g.2.1 0) 40 it2), (y, .inr (5, [.int (iI ln), .int (iI la), .ref yi])), (yi, aI (g.2.1 0) 40 it)] := hD
          refine iv_if_eq (tgt := 84) hx hb dX8_copy_69 (by decide) (by decide) (fun _ => ?_) (fun h => absurd h (by decide))
          refine lv_bipush (v := iI (-13)) hx hb dX8_copy_84 (by decide) ?_
          exact Ct.iret hx hb hr hlocks (hP.sub [0, 1, 4, 5, 2, 3] rfl) (hD.sub [0, 1, 4, 5, 2, 3] (by decide) rfl) hS ⟨by decide, by decide⟩ dX8_copy_86 ⟨(-13), it2, rfl, rfl, (by unfold copyS; (repeat' split) <;> first | rfl | omega | (exfalso; omega)), (fun h => absurd h (by omega)), (fun _ => rfl)⟩
      · refine lv_bipush (v := iI (-12)) hx hb dX8_copy_58 (by decide) ?_
        exact Ct.iret hx hb hr hlocks (hP.sub [0, 1, 2, 3, 4, 5] rfl) (hD.sub [0, 1, 2, 3, 4, 5] (by decide) rfl) hS ⟨by decide, by decide⟩ dX8_copy_60 ⟨(-12), it2, rfl, rfl, (by unfold copyS; (repeat' split) <;> first | rfl | omega | (exfalso; omega)), (fun h => absurd h (by omega)), (fun _ => rfl)⟩
abbrev q_X8_copyE (g : GT) (hd : Nat) (d : Nat → Nat) (i : Nat → Int) (fsh : Nat → Option Nat) (y : Nat) (yi : Nat) (ln : Int) (la : Int) (it : Nat → Int) (k : Nat) (k2 : Nat) (x : Int) (xi : Int) (x2 : Int) (xj : Int) (n : Int) : Option Value → va_W → Prop := fun v w => ∃ (r : Int), ∃ (it' : Nat → Int), v = some (.int (iI r)) ∧ w = [(hd, .inr (8, dF d i)), ((d 12), aQ (g.2.1 4) 4 fsh), (y, .inr (5, [.int (iI ln), .int (iI la), .ref yi])), (yi, aI (g.2.1 0) 40 it')] ∧ (r = copyS ln la ln la xi xj n) ∧ (0 ≤ r → it' = va_cpy it it xi.toNat xj.toNat n.toNat) ∧ (r < 0 → it' = it)
set_option maxHeartbeats 4000000 in
set_option maxRecDepth 100000 in
theorem c_X8_copyE (l : Launch) (g : GT) (hd : Nat) (d : Nat → Nat) (i : Nat → Int) (fsh : Nat → Option Nat) (y : Nat) (yi : Nat) (ln : Int) (la : Int) (it : Nat → Int) (k : Nat) (k2 : Nat) (x : Int) (xi : Int) (x2 : Int) (xj : Int) (n : Int) (h1 : x = (k : Int) ∧ k < 4 ∧ x2 = (k2 : Int) ∧ k2 < 4) (h2 : fsh k = some y) (h2b : fsh k2 = some y) (h3 : -1 ≤ ln ∧ ln ≤ 40 ∧ 0 ≤ la ∧ la ≤ 2) (h4 : (-2147483648 ≤ xi ∧ xi < 2147483648) ∧ (-2147483648 ≤ xj ∧ xj < 2147483648) ∧ (-2147483648 ≤ n ∧ n < 2147483648)) : Ct l g yX8_copy wsX8_copy ({ frames := 2, cells := 0, slots := 0, locals := 43 } : Room) [.ref hd, .int (iI x), .int (iI xi), .int (iI x2), .int (iI xj), .int (iI n)] [(hd, .inr (8, dF d i)), ((d 12), aQ (g.2.1 4) 4 fsh), (y, .inr (5, [.int (iI ln), .int (iI la), .ref yi])), (yi, aI (g.2.1 0) 40 it)] (q_X8_copyE g hd d i fsh y yi ln la it k k2 x xi x2 xj n) := by
  refine Ct.intro (maxL := 8) (ret := (some .int)) (by decide) rfl (Nat.le_of_ble_eq_true rfl) ?_
  intro p e s m below meth c A ls hx hb hr hml hown hts hlocks hnm hA hG hP hD hS hl
  have hown : s.vm.findClass RX8 = some m.cls := hown
  have hl : lv_has ls 8 [(0, .ref hd), (1, .int (iI x)), (2, .int (iI xi)), (3, .int (iI x2)), (4, .int (iI xj)), (5, .int (iI n))] := hl
  have hP : va_P g.1 vwCl [(hd, .inr (8, dF d i)), ((d 12), aQ (g.2.1 4) 4 fsh), (y, .inr (5, [.int (iI ln), .int (iI la), .ref yi])), (yi, aI (g.2.1 0) 40 it)] s.heap := hP
  have hS : va_S A s.heap s.heap [] := hS
  obtain ⟨H, hHe⟩ : ∃ H : Heap, H = s.heap := ⟨_, rfl⟩
  obtain ⟨locs, hLe⟩ : ∃ L : List Loc, L = [] := ⟨_, rfl⟩
  have hP : va_P g.1 vwCl [(hd, .inr (8, dF d i)), ((d 12), aQ (g.2.1 4) 4 fsh), (y, .inr (5, [.int (iI ln), .int (iI la), .ref yi])), (yi, aI (g.2.1 0) 40 it)] H := by rw [hHe]; exact hP
  have hS : va_S A s.heap H locs := by rw [hHe, hLe]; exact hS
  suffices hgo : W p l e ({ frames := 2, cells := 0, slots := 0, locals := 43 } : Room) s m [.ref hd, .int (iI x), .int (iI xi), .int (iI x2), .int (iI xj), .int (iI n)].toArray below meth c H locs 0 0 (MQ below (CQ g (q_X8_copyE g hd d i fsh y yi ln la it k k2 x xi x2 xj n) A) [.ref hd, .int (iI x), .int (iI xi), .int (iI x2), .int (iI xj), .int (iI n)].toArray s ({ frames := 2, cells := 0, slots := 0, locals := 43 } : Room).cells ({ frames := 2, cells := 0, slots := 0, locals := 43 } : Room).slots A) (F0 m 0 ls []) by rw [hHe, hLe] at hgo; exact hgo
  clear hHe hLe
  refine lv_aload_n hx hb dX8_copy_0 rfl (lv_at hl 0 rfl) ?_
  refine lv_iload_n hx hb dX8_copy_1 rfl (lv_at hl 1 rfl) ?_
  refine Ct.callV (ci := 8) (q0 := 0) (qc := (RX8, TX8, 13)) (As := [.int (iI x)]) (rest := []) (wr := [(y, .inr (5, [.int (iI ln), .int (iI la), .ref yi])), (yi, aI (g.2.1 0) 40 it)]) (c1 := 0) (s1 := 0) ⟨hx, hb, hml, hown, hts⟩ (c_X8_sheetAt l g hd d i fsh x k y (by omega) (h2)) rfl rfl (cwV 1 hts gX8_copy_X8_sheetAt rfl rfl rfl (by decide +kernel) ⟨Nat.le_of_ble_eq_true rfl, Nat.le_of_ble_eq_true rfl⟩) hG hP hD hS hA [0, 1] [2, 3] rfl rfl (by decide) (by decide) (by decide) rfl hl.1 rfl (Nat.le_of_ble_eq_true rfl) dX8_copy_2 ⟨Nat.le_of_ble_eq_true rfl, Nat.le_of_ble_eq_true rfl⟩ rfl rfl (fun v w H locs hv hP hD hS => ?_)
  obtain ⟨rfl, rfl⟩ := hv
  show W p l e _ s m _ below meth c H locs 0 0 _ (F0 m 5 ls (.ref y :: []))
  have hP : va_P g.1 vwCl [(y, .inr (5, [.int (iI ln), .int (iI la), .ref yi])), (yi, aI (g.2.1 0) 40 it), (hd, .inr (8, dF d i)), ((d 12), aQ (g.2.1 4) 4 fsh)] H := hP
  have hD : va_D A [(y, .inr (5, [.int (iI ln), .int (iI la), .ref yi])), (yi, aI (g.2.1 0) 40 it), (hd, .inr (8, dF d i)), ((d 12), aQ (g.2.1 4) 4 fsh)] := hD
  refine lv_astore (lv' := [(6, .ref y), (0, .ref hd), (1, .int (iI x)), (2, .int (iI xi)), (3, .int (iI x2)), (4, .int (iI xj)), (5, .int (iI n))]) hx hb dX8_copy_5 hl (by decide) rfl (fun ls hl => ?_)
  refine lv_aload_n hx hb dX8_copy_7 rfl (lv_at hl 1 rfl) ?_
  refine lv_iload_n hx hb dX8_copy_8 rfl (lv_at hl 4 rfl) ?_
  refine Ct.callV (ci := 8) (q0 := 2) (qc := (RX8, TX8, 13)) (As := [.int (iI x2)]) (rest := []) (wr := [(y, .inr (5, [.int (iI ln), .int (iI la), .ref yi])), (yi, aI (g.2.1 0) 40 it)]) (c1 := 0) (s1 := 0) ⟨hx, hb, hml, hown, hts⟩ (c_X8_sheetAt l g hd d i fsh x2 k2 y (by omega) (h2b)) rfl rfl (cwV 1 hts gX8_copy_X8_sheetAt rfl rfl rfl (by decide +kernel) ⟨Nat.le_of_ble_eq_true rfl, Nat.le_of_ble_eq_true rfl⟩) hG hP hD hS hA [2, 3] [0, 1] rfl rfl (by decide) (by decide) (by decide) rfl hl.1 rfl (Nat.le_of_ble_eq_true rfl) dX8_copy_9 ⟨Nat.le_of_ble_eq_true rfl, Nat.le_of_ble_eq_true rfl⟩ rfl rfl (fun v w H locs hv hP hD hS => ?_)
  obtain ⟨rfl, rfl⟩ := hv
  show W p l e _ s m _ below meth c H locs 0 0 _ (F0 m 12 ls (.ref y :: []))
  have hP : va_P g.1 vwCl [(y, .inr (5, [.int (iI ln), .int (iI la), .ref yi])), (yi, aI (g.2.1 0) 40 it), (hd, .inr (8, dF d i)), ((d 12), aQ (g.2.1 4) 4 fsh)] H := hP
  have hD : va_D A [(y, .inr (5, [.int (iI ln), .int (iI la), .ref yi])), (yi, aI (g.2.1 0) 40 it), (hd, .inr (8, dF d i)), ((d 12), aQ (g.2.1 4) 4 fsh)] := hD
  refine lv_astore (lv' := [(7, .ref y), (6, .ref y), (0, .ref hd), (1, .int (iI x)), (2, .int (iI xi)), (3, .int (iI x2)), (4, .int (iI xj)), (5, .int (iI n))]) hx hb dX8_copy_12 hl (by decide) rfl (fun ls hl => ?_)
  refine lv_aload hx hb dX8_copy_14 (lv_at hl 1 rfl) ?_
  refine lv_ifnull hx hb dX8_copy_16 ?_
  refine lv_aload hx hb dX8_copy_19 (lv_at hl 0 rfl) ?_
  refine lv_ifnonnull (tgt := 26) hx hb dX8_copy_21 (by decide) ?_
  refine lv_aload hx hb dX8_copy_26 (lv_at hl 1 rfl) ?_
  refine Ct.callV (ci := 5) (q0 := 0) (qc := (RX5, TX5, 3)) (As := []) (rest := []) (wr := [(hd, .inr (8, dF d i)), ((d 12), aQ (g.2.1 4) 4 fsh)]) (c1 := 0) (s1 := 0) ⟨hx, hb, hml, hown, hts⟩ (c_X5_isMissing l g y yi ln la it (by omega)) rfl rfl (cwV 0 hts gX8_copy_X5_isMissing rfl rfl rfl (by decide +kernel) ⟨Nat.le_of_ble_eq_true rfl, Nat.le_of_ble_eq_true rfl⟩) hG hP hD hS hA [0, 1] [2, 3] rfl rfl (by decide) (by decide) (by decide) rfl hl.1 rfl (Nat.le_of_ble_eq_true rfl) dX8_copy_28 ⟨Nat.le_of_ble_eq_true rfl, Nat.le_of_ble_eq_true rfl⟩ rfl rfl (fun v w H locs hv hP hD hS => ?_)
  obtain ⟨⟨rfl, hb1⟩ | ⟨rfl, hb1⟩, rfl⟩ := hv
  · show W p l e _ s m _ below meth c H locs 0 0 _ (F0 m 31 ls (.int (iI 1) :: []))
    have hb1 : ln < 0 := hb1
    have hP : va_P g.1 vwCl [(hd, .inr (8, dF d i)), ((d 12), aQ (g.2.1 4) 4 fsh), (y, .inr (5, [.int (iI ln), .int (iI la), .ref yi])), (yi, aI (g.2.1 0) 40 it)] H := hP
    have hD : va_D A [(hd, .inr (8, dF d i)), ((d 12), aQ (g.2.1 4) 4 fsh), (y, .inr (5, [.int (iI ln), .int (iI la), .ref yi])), (yi, aI (g.2.1 0) 40 it)] := hD
    refine iv_if_ne (tgt := 42) hx hb dX8_copy_31 (by decide) (by decide) (fun _ => ?_) (fun h => absurd h (by decide))
    refine lv_bipush (v := iI (-11)) hx hb dX8_copy_42 (by decide) ?_
    exact Ct.iret hx hb hr hlocks (hP.sub [0, 1, 2, 3] rfl) (hD.sub [0, 1, 2, 3] (by decide) rfl) hS ⟨by decide, by decide⟩ dX8_copy_44 ⟨(-11), it, rfl, rfl, (by unfold copyS; (repeat' split) <;> first | rfl | omega | (exfalso; omega)), (fun h => absurd h (by omega)), (fun _ => rfl)⟩
  · show W p l e _ s m _ below meth c H locs 0 0 _ (F0 m 31 ls (.int (iI 0) :: []))
    have hb1 : ¬ (ln < 0) := hb1
    have hP : va_P g.1 vwCl [(hd, .inr (8, dF d i)), ((d 12), aQ (g.2.1 4) 4 fsh), (y, .inr (5, [.int (iI ln), .int (iI la), .ref yi])), (yi, aI (g.2.1 0) 40 it)] H := hP
    have hD : va_D A [(hd, .inr (8, dF d i)), ((d 12), aQ (g.2.1 4) 4 fsh), (y, .inr (5, [.int (iI ln), .int (iI la), .ref yi])), (yi, aI (g.2.1 0) 40 it)] := hD
    refine iv_if_ne (tgt := 42) hx hb dX8_copy_31 (by decide) (by decide) (fun h => absurd h (by decide)) (fun _ => ?_)
    refine lv_aload hx hb dX8_copy_34 (lv_at hl 0 rfl) ?_
    refine Ct.callV (ci := 5) (q0 := 2) (qc := (RX5, TX5, 3)) (As := []) (rest := []) (wr := [(hd, .inr (8, dF d i)), ((d 12), aQ (g.2.1 4) 4 fsh)]) (c1 := 0) (s1 := 0) ⟨hx, hb, hml, hown, hts⟩ (c_X5_isMissing l g y yi ln la it (by omega)) rfl rfl (cwV 0 hts gX8_copy_X5_isMissing rfl rfl rfl (by decide +kernel) ⟨Nat.le_of_ble_eq_true rfl, Nat.le_of_ble_eq_true rfl⟩) hG hP hD hS hA [2, 3] [0, 1] rfl rfl (by decide) (by decide) (by decide) rfl hl.1 rfl (Nat.le_of_ble_eq_true rfl) dX8_copy_36 ⟨Nat.le_of_ble_eq_true rfl, Nat.le_of_ble_eq_true rfl⟩ rfl rfl (fun v w H locs hv hP hD hS => ?_)
    obtain ⟨⟨rfl, hb4⟩ | ⟨rfl, hb4⟩, rfl⟩ := hv
    · show W p l e _ s m _ below meth c H locs 0 0 _ (F0 m 39 ls (.int (iI 1) :: []))
      have hb4 : ln < 0 := hb4
      have hP : va_P g.1 vwCl [(hd, .inr (8, dF d i)), ((d 12), aQ (g.2.1 4) 4 fsh), (y, .inr (5, [.int (iI ln), .int (iI la), .ref yi])), (yi, aI (g.2.1 0) 40 it)] H := hP
      have hD : va_D A [(hd, .inr (8, dF d i)), ((d 12), aQ (g.2.1 4) 4 fsh), (y, .inr (5, [.int (iI ln), .int (iI la), .ref yi])), (yi, aI (g.2.1 0) 40 it)] := hD
      refine iv_if_eq (tgt := 45) hx hb dX8_copy_39 (by decide) (by decide) (fun h => absurd h (by decide)) (fun _ => ?_)
      refine lv_bipush (v := iI (-11)) hx hb dX8_copy_42 (by decide) ?_
      exact Ct.iret hx hb hr hlocks (hP.sub [0, 1, 2, 3] rfl) (hD.sub [0, 1, 2, 3] (by decide) rfl) hS ⟨by decide, by decide⟩ dX8_copy_44 ⟨(-11), it, rfl, rfl, (by unfold copyS; (repeat' split) <;> first | rfl | omega | (exfalso; omega)), (fun h => absurd h (by omega)), (fun _ => rfl)⟩
    · show W p l e _ s m _ below meth c H locs 0 0 _ (F0 m 39 ls (.int (iI 0) :: []))
      have hb4 : ¬ (ln < 0) := hb4
      have hP : va_P g.1 vwCl [(hd, .inr (8, dF d i)), ((d 12), aQ (g.2.1 4) 4 fsh), (y, .inr (5, [.int (iI ln), .int (iI la), .ref yi])), (yi, aI (g.2.1 0) 40 it)] H := hP
      have hD : va_D A [(hd, .inr (8, dF d i)), ((d 12), aQ (g.2.1 4) 4 fsh), (y, .inr (5, [.int (iI ln), .int (iI la), .ref yi])), (yi, aI (g.2.1 0) 40 it)] := hD
      refine iv_if_eq (tgt := 45) hx hb dX8_copy_39 (by decide) (by decide) (fun _ => ?_) (fun h => absurd h (by decide))
      refine lv_aload hx hb dX8_copy_45 (lv_at hl 1 rfl) ?_
      refine va_get (D := g.1) (ci := 5) (v := .int (iI la)) hx hb hts kX8_copy_5 hown hG.1 hP 2 rfl rfl 1 (by decide) (hts _ (List.mem_of_getElem? (i := 1) rfl)) (fun _ h9 => h9) rfl dX8_copy_47 ?_
      refine lv_aload hx hb dX8_copy_50 (lv_at hl 0 rfl) ?_
      refine va_get (D := g.1) (ci := 5) (v := .int (iI la)) hx hb hts kX8_copy_5 hown hG.1 hP 2 rfl rfl 1 (by decide) (hts _ (List.mem_of_getElem? (i := 1) rfl)) (fun _ h9 => h9) rfl dX8_copy_52 ?_
      refine iv_icmp_eq (tgt := 61) hx hb dX8_copy_55 (by decide) (by omega) (fun hc7 => ?_) (fun hc7 => absurd hc7 (by omega))
      refine lv_aload hx hb dX8_copy_61 (lv_at hl 1 rfl) ?_
      refine lv_iload_n hx hb dX8_copy_63 rfl (lv_at hl 4 rfl) ?_
      refine lv_iload hx hb dX8_copy_64 (lv_at hl 7 rfl) ?_
      refine Ct.callV (ci := 5) (q0 := 2) (qc := (RX5, TX5, 3)) (As := [.int (iI xi), .int (iI n)]) (rest := []) (wr := [(hd, .inr (8, dF d i)), ((d 12), aQ (g.2.1 4) 4 fsh)]) (c1 := 0) (s1 := 0) ⟨hx, hb, hml, hown, hts⟩ (c_X5_holds l g y yi ln la it xi n (by omega)) rfl rfl (cwV 2 hts gX8_copy_X5_holds rfl rfl rfl (by decide +kernel) ⟨Nat.le_of_ble_eq_true rfl, Nat.le_of_ble_eq_true rfl⟩) hG hP hD hS hA [2, 3] [0, 1] rfl rfl (by decide) (by decide) (by decide) rfl hl.1 rfl (Nat.le_of_ble_eq_true rfl) dX8_copy_66 ⟨Nat.le_of_ble_eq_true rfl, Nat.le_of_ble_eq_true rfl⟩ rfl rfl (fun v w H locs hv hP hD hS => ?_)
      obtain ⟨⟨rfl, hb8⟩ | ⟨rfl, hb8⟩, rfl⟩ := hv
      · show W p l e _ s m _ below meth c H locs 0 0 _ (F0 m 69 ls (.int (iI 1) :: []))
        have hb8 : HoldP ln xi n := hb8
        have hP : va_P g.1 vwCl [(hd, .inr (8, dF d i)), ((d 12), aQ (g.2.1 4) 4 fsh), (y, .inr (5, [.int (iI ln), .int (iI la), .ref yi])), (yi, aI (g.2.1 0) 40 it)] H := hP
        have hD : va_D A [(hd, .inr (8, dF d i)), ((d 12), aQ (g.2.1 4) 4 fsh), (y, .inr (5, [.int (iI ln), .int (iI la), .ref yi])), (yi, aI (g.2.1 0) 40 it)] := hD
        refine iv_if_eq (tgt := 84) hx hb dX8_copy_69 (by decide) (by decide) (fun h => absurd h (by decide)) (fun _ => ?_)
        refine lv_aload hx hb dX8_copy_72 (lv_at hl 0 rfl) ?_
        refine lv_iload hx hb dX8_copy_74 (lv_at hl 6 rfl) ?_
        refine lv_iload hx hb dX8_copy_76 (lv_at hl 7 rfl) ?_
        refine Ct.callV (ci := 5) (q0 := 2) (qc := (RX5, TX5, 3)) (As := [.int (iI xj), .int (iI n)]) (rest := []) (wr := [(hd, .inr (8, dF d i)), ((d 12), aQ (g.2.1 4) 4 fsh)]) (c1 := 0) (s1 := 0) ⟨hx, hb, hml, hown, hts⟩ (c_X5_holds l g y yi ln la it xj n (by omega)) rfl rfl (cwV 2 hts gX8_copy_X5_holds rfl rfl rfl (by decide +kernel) ⟨Nat.le_of_ble_eq_true rfl, Nat.le_of_ble_eq_true rfl⟩) hG hP hD hS hA [2, 3] [0, 1] rfl rfl (by decide) (by decide) (by decide) rfl hl.1 rfl (Nat.le_of_ble_eq_true rfl) dX8_copy_78 ⟨Nat.le_of_ble_eq_true rfl, Nat.le_of_ble_eq_true rfl⟩ rfl rfl (fun v w H locs hv hP hD hS => ?_)
        obtain ⟨⟨rfl, hb10⟩ | ⟨rfl, hb10⟩, rfl⟩ := hv
        · show W p l e _ s m _ below meth c H locs 0 0 _ (F0 m 81 ls (.int (iI 1) :: []))
          have hb10 : HoldP ln xj n := hb10
          have hP : va_P g.1 vwCl [(hd, .inr (8, dF d i)), ((d 12), aQ (g.2.1 4) 4 fsh), (y, .inr (5, [.int (iI ln), .int (iI la), .ref yi])), (yi, aI (g.2.1 0) 40 it)] H := hP
          have hD : va_D A [(hd, .inr (8, dF d i)), ((d 12), aQ (g.2.1 4) 4 fsh), (y, .inr (5, [.int (iI ln), .int (iI la), .ref yi])), (yi, aI (g.2.1 0) 40 it)] := hD
          refine iv_if_ne (tgt := 87) hx hb dX8_copy_81 (by decide) (by decide) (fun _ => ?_) (fun h => absurd h (by decide))
          refine lv_aload hx hb dX8_copy_87 (lv_at hl 1 rfl) ?_
          refine va_get (D := g.1) (ci := 5) (v := .ref yi) hx hb hts kX8_copy_5 hown hG.1 hP 2 rfl rfl 2 (by decide) (hts _ (List.mem_of_getElem? (i := 2) rfl)) (fun _ h9 => h9) rfl dX8_copy_89 ?_
          refine lv_iload_n hx hb dX8_copy_92 rfl (lv_at hl 4 rfl) ?_
          refine lv_aload hx hb dX8_copy_93 (lv_at hl 0 rfl) ?_
          refine va_get (D := g.1) (ci := 5) (v := .ref yi) hx hb hts kX8_copy_5 hown hG.1 hP 2 rfl rfl 2 (by decide) (hts _ (List.mem_of_getElem? (i := 2) rfl)) (fun _ h9 => h9) rfl dX8_copy_95 ?_
          refine lv_iload hx hb dX8_copy_98 (lv_at hl 6 rfl) ?_
          refine lv_iload hx hb dX8_copy_100 (lv_at hl 7 rfl) ?_
          refine iv_copy hx hb (by rw [hml]; exact hl.1.symm) hown (hts _ (List.mem_of_getElem? (i := 3) rfl)) (hts _ (List.mem_of_getElem? (i := 4) rfl)) (hts _ (List.mem_of_getElem? (i := 5) rfl)) (hts _ (List.mem_of_getElem? (i := 6) rfl)) hG hP hD hS 3 3 rfl rfl xi.toNat xj.toNat n.toNat (by omega) (by omega) (by omega) (Nat.le_of_ble_eq_true rfl) (by decide) dX8_copy_102 (fun H locs hP hD hS => ?_)
          have hP : va_P g.1 vwCl [(hd, .inr (8, dF d i)), ((d 12), aQ (g.2.1 4) 4 fsh), (y, .inr (5, [.int (iI ln), .int (iI la), .ref yi])), (yi, aI (g.2.1 0) 40 (va_cpy it it xi.toNat xj.toNat n.toNat))] H := hP
          have hD : va_D A [(hd, .inr (8, dF d i)), ((d 12), aQ (g.2.1 4) 4 fsh), (y, .inr (5, [.int (iI ln), .int (iI la), .ref yi])), (yi, aI (g.2.1 0) 40 (va_cpy it it xi.toNat xj.toNat n.toNat))] := hD
          refine lv_iload hx hb dX8_copy_105 (lv_at hl 7 rfl) ?_
          exact Ct.iret hx hb hr hlocks (hP.sub [0, 1, 2, 3] rfl) (hD.sub [0, 1, 2, 3] (by decide) rfl) hS ⟨by decide, by decide⟩ dX8_copy_107 ⟨n, (va_cpy it it xi.toNat xj.toNat n.toNat), rfl, rfl, (by unfold copyS; (repeat' split) <;> first | rfl | omega | (exfalso; omega)), (fun _ => rfl), (fun h => absurd h (by omega))⟩
        · show W p l e _ s m _ below meth c H locs 0 0 _ (F0 m 81 ls (.int (iI 0) :: []))
          have hb10 : ¬ (HoldP ln xj n) := hb10
          have hP : va_P g.1 vwCl [(hd, .inr (8, dF d i)), ((d 12), aQ (g.2.1 4) 4 fsh), (y, .inr (5, [.int (iI ln), .int (iI la), .ref yi])), (yi, aI (g.2.1 0) 40 it)] H := hP
          have hD : va_D A [(hd, .inr (8, dF d i)), ((d 12), aQ (g.2.1 4) 4 fsh), (y, .inr (5, [.int (iI ln), .int (iI la), .ref yi])), (yi, aI (g.2.1 0) 40 it)] := hD
          refine iv_if_ne (tgt := 87) hx hb dX8_copy_81 (by decide) (by decide) (fun h => absurd h (by decide)) (fun _ => ?_)
          refine lv_bipush (v := iI (-13)) hx hb dX8_copy_84 (by decide) ?_
          exact Ct.iret hx hb hr hlocks (hP.sub [0, 1, 2, 3] rfl) (hD.sub [0, 1, 2, 3] (by decide) rfl) hS ⟨by decide, by decide⟩ dX8_copy_86 ⟨(-13), it, rfl, rfl, (by unfold copyS; (repeat' split) <;> first | rfl | omega | (exfalso; omega)), (fun h => absurd h (by omega)), (fun _ => rfl)⟩
      · show W p l e _ s m _ below meth c H locs 0 0 _ (F0 m 69 ls (.int (iI 0) :: []))
        have hb8 : ¬ (HoldP ln xi n) := hb8
        have hP : va_P g.1 vwCl [(hd, .inr (8, dF d i)), ((d 12), aQ (g.2.1 4) 4 fsh), (y, .inr (5, [.int (iI ln), .int (iI la), .ref yi])), (yi, aI (g.2.1 0) 40 it)] H := hP
        have hD : va_D A [(hd, .inr (8, dF d i)), ((d 12), aQ (g.2.1 4) 4 fsh), (y, .inr (5, [.int (iI ln), .int (iI la), .ref yi])), (yi, aI (g.2.1 0) 40 it)] := hD
        refine iv_if_eq (tgt := 84) hx hb dX8_copy_69 (by decide) (by decide) (fun _ => ?_) (fun h => absurd h (by decide))
        refine lv_bipush (v := iI (-13)) hx hb dX8_copy_84 (by decide) ?_
        exact Ct.iret hx hb hr hlocks (hP.sub [0, 1, 2, 3] rfl) (hD.sub [0, 1, 2, 3] (by decide) rfl) hS ⟨by decide, by decide⟩ dX8_copy_86 ⟨(-13), it, rfl, rfl, (by unfold copyS; (repeat' split) <;> first | rfl | omega | (exfalso; omega)), (fun h => absurd h (by omega)), (fun _ => rfl)⟩
abbrev q_X8_copyB1 (g : GT) (hd : Nat) (d : Nat → Nat) (i : Nat → Int) (fsh : Nat → Option Nat) (x : Int) (xi : Int) (x2 : Int) (xj : Int) (n : Int) : Option Value → va_W → Prop := fun v w => ∃ (r : Int), v = some (.int (iI r)) ∧ w = [(hd, .inr (8, dF d i)), ((d 12), aQ (g.2.1 4) 4 fsh)] ∧ (r = -1)
set_option maxHeartbeats 4000000 in
set_option maxRecDepth 100000 in
theorem c_X8_copyB1 (l : Launch) (g : GT) (hd : Nat) (d : Nat → Nat) (i : Nat → Int) (fsh : Nat → Option Nat) (x : Int) (xi : Int) (x2 : Int) (xj : Int) (n : Int) (h1 : ¬ (0 ≤ x ∧ x ≤ 3) ∧ (-2147483648 ≤ x ∧ x < 2147483648)) (h2 : ¬ (0 ≤ x2 ∧ x2 ≤ 3) ∧ (-2147483648 ≤ x2 ∧ x2 < 2147483648)) : Ct l g yX8_copy wsX8_copy ({ frames := 2, cells := 0, slots := 0, locals := 43 } : Room) [.ref hd, .int (iI x), .int (iI xi), .int (iI x2), .int (iI xj), .int (iI n)] [(hd, .inr (8, dF d i)), ((d 12), aQ (g.2.1 4) 4 fsh)] (q_X8_copyB1 g hd d i fsh x xi x2 xj n) := by
  refine Ct.intro (maxL := 8) (ret := (some .int)) (by decide) rfl (Nat.le_of_ble_eq_true rfl) ?_
  intro p e s m below meth c A ls hx hb hr hml hown hts hlocks hnm hA hG hP hD hS hl
  have hown : s.vm.findClass RX8 = some m.cls := hown
  have hl : lv_has ls 8 [(0, .ref hd), (1, .int (iI x)), (2, .int (iI xi)), (3, .int (iI x2)), (4, .int (iI xj)), (5, .int (iI n))] := hl
  have hP : va_P g.1 vwCl [(hd, .inr (8, dF d i)), ((d 12), aQ (g.2.1 4) 4 fsh)] s.heap := hP
  have hS : va_S A s.heap s.heap [] := hS
  obtain ⟨H, hHe⟩ : ∃ H : Heap, H = s.heap := ⟨_, rfl⟩
  obtain ⟨locs, hLe⟩ : ∃ L : List Loc, L = [] := ⟨_, rfl⟩
  have hP : va_P g.1 vwCl [(hd, .inr (8, dF d i)), ((d 12), aQ (g.2.1 4) 4 fsh)] H := by rw [hHe]; exact hP
  have hS : va_S A s.heap H locs := by rw [hHe, hLe]; exact hS
  suffices hgo : W p l e ({ frames := 2, cells := 0, slots := 0, locals := 43 } : Room) s m [.ref hd, .int (iI x), .int (iI xi), .int (iI x2), .int (iI xj), .int (iI n)].toArray below meth c H locs 0 0 (MQ below (CQ g (q_X8_copyB1 g hd d i fsh x xi x2 xj n) A) [.ref hd, .int (iI x), .int (iI xi), .int (iI x2), .int (iI xj), .int (iI n)].toArray s ({ frames := 2, cells := 0, slots := 0, locals := 43 } : Room).cells ({ frames := 2, cells := 0, slots := 0, locals := 43 } : Room).slots A) (F0 m 0 ls []) by rw [hHe, hLe] at hgo; exact hgo
  clear hHe hLe
  refine lv_aload_n hx hb dX8_copy_0 rfl (lv_at hl 0 rfl) ?_
  refine lv_iload_n hx hb dX8_copy_1 rfl (lv_at hl 1 rfl) ?_
  refine Ct.callV (ci := 8) (q0 := 0) (qc := (RX8, TX8, 13)) (As := [.int (iI x)]) (rest := []) (wr := []) (c1 := 0) (s1 := 0) ⟨hx, hb, hml, hown, hts⟩ (c_X8_sheetAtB l g hd d i fsh x (by omega)) rfl rfl (cwV 1 hts gX8_copy_X8_sheetAt rfl rfl rfl (by decide +kernel) ⟨Nat.le_of_ble_eq_true rfl, Nat.le_of_ble_eq_true rfl⟩) hG hP hD hS hA [0, 1] [] rfl rfl (by decide) (by decide) (by decide) rfl hl.1 rfl (Nat.le_of_ble_eq_true rfl) dX8_copy_2 ⟨Nat.le_of_ble_eq_true rfl, Nat.le_of_ble_eq_true rfl⟩ rfl rfl (fun v w H locs hv hP hD hS => ?_)
  obtain ⟨rfl, rfl⟩ := hv
  show W p l e _ s m _ below meth c H locs 0 0 _ (F0 m 5 ls (.null :: []))
  have hP : va_P g.1 vwCl [(hd, .inr (8, dF d i)), ((d 12), aQ (g.2.1 4) 4 fsh)] H := hP
  have hD : va_D A [(hd, .inr (8, dF d i)), ((d 12), aQ (g.2.1 4) 4 fsh)] := hD
  refine lv_astoreN (lv' := [(6, .null), (0, .ref hd), (1, .int (iI x)), (2, .int (iI xi)), (3, .int (iI x2)), (4, .int (iI xj)), (5, .int (iI n))]) hx hb dX8_copy_5 hl (by decide) rfl (fun ls hl => ?_)
  refine lv_aload_n hx hb dX8_copy_7 rfl (lv_at hl 1 rfl) ?_
  refine lv_iload_n hx hb dX8_copy_8 rfl (lv_at hl 4 rfl) ?_
  refine Ct.callV (ci := 8) (q0 := 0) (qc := (RX8, TX8, 13)) (As := [.int (iI x2)]) (rest := []) (wr := []) (c1 := 0) (s1 := 0) ⟨hx, hb, hml, hown, hts⟩ (c_X8_sheetAtB l g hd d i fsh x2 (by omega)) rfl rfl (cwV 1 hts gX8_copy_X8_sheetAt rfl rfl rfl (by decide +kernel) ⟨Nat.le_of_ble_eq_true rfl, Nat.le_of_ble_eq_true rfl⟩) hG hP hD hS hA [0, 1] [] rfl rfl (by decide) (by decide) (by decide) rfl hl.1 rfl (Nat.le_of_ble_eq_true rfl) dX8_copy_9 ⟨Nat.le_of_ble_eq_true rfl, Nat.le_of_ble_eq_true rfl⟩ rfl rfl (fun v w H locs hv hP hD hS => ?_)
  obtain ⟨rfl, rfl⟩ := hv
  show W p l e _ s m _ below meth c H locs 0 0 _ (F0 m 12 ls (.null :: []))
  have hP : va_P g.1 vwCl [(hd, .inr (8, dF d i)), ((d 12), aQ (g.2.1 4) 4 fsh)] H := hP
  have hD : va_D A [(hd, .inr (8, dF d i)), ((d 12), aQ (g.2.1 4) 4 fsh)] := hD
  refine lv_astoreN (lv' := [(7, .null), (6, .null), (0, .ref hd), (1, .int (iI x)), (2, .int (iI xi)), (3, .int (iI x2)), (4, .int (iI xj)), (5, .int (iI n))]) hx hb dX8_copy_12 hl (by decide) rfl (fun ls hl => ?_)
  refine lv_aloadN hx hb dX8_copy_14 (lv_at hl 1 rfl) ?_
  refine lv_ifnullN (tgt := 24) hx hb dX8_copy_16 (by decide) ?_
  refine lv_iconst (v := iI (-1)) hx hb dX8_copy_24 rfl ?_
  exact Ct.iret hx hb hr hlocks (hP.sub [0, 1] rfl) (hD.sub [0, 1] (by decide) rfl) hS ⟨by decide, by decide⟩ dX8_copy_25 ⟨(-1), rfl, rfl, (by omega)⟩
abbrev q_X8_copyB2 (g : GT) (hd : Nat) (d : Nat → Nat) (i : Nat → Int) (fsh : Nat → Option Nat) (k2 : Nat) (y2 : Nat) (x : Int) (xi : Int) (x2 : Int) (xj : Int) (n : Int) : Option Value → va_W → Prop := fun v w => ∃ (r : Int), v = some (.int (iI r)) ∧ w = [(hd, .inr (8, dF d i)), ((d 12), aQ (g.2.1 4) 4 fsh)] ∧ (r = -1)
set_option maxHeartbeats 4000000 in
set_option maxRecDepth 100000 in
theorem c_X8_copyB2 (l : Launch) (g : GT) (hd : Nat) (d : Nat → Nat) (i : Nat → Int) (fsh : Nat → Option Nat) (k2 : Nat) (y2 : Nat) (x : Int) (xi : Int) (x2 : Int) (xj : Int) (n : Int) (h1 : ¬ (0 ≤ x ∧ x ≤ 3) ∧ (-2147483648 ≤ x ∧ x < 2147483648)) (h2 : x2 = (k2 : Int) ∧ k2 < 4) (h2b : fsh k2 = some y2) : Ct l g yX8_copy wsX8_copy ({ frames := 2, cells := 0, slots := 0, locals := 43 } : Room) [.ref hd, .int (iI x), .int (iI xi), .int (iI x2), .int (iI xj), .int (iI n)] [(hd, .inr (8, dF d i)), ((d 12), aQ (g.2.1 4) 4 fsh)] (q_X8_copyB2 g hd d i fsh k2 y2 x xi x2 xj n) := by
  refine Ct.intro (maxL := 8) (ret := (some .int)) (by decide) rfl (Nat.le_of_ble_eq_true rfl) ?_
  intro p e s m below meth c A ls hx hb hr hml hown hts hlocks hnm hA hG hP hD hS hl
  have hown : s.vm.findClass RX8 = some m.cls := hown
  have hl : lv_has ls 8 [(0, .ref hd), (1, .int (iI x)), (2, .int (iI xi)), (3, .int (iI x2)), (4, .int (iI xj)), (5, .int (iI n))] := hl
  have hP : va_P g.1 vwCl [(hd, .inr (8, dF d i)), ((d 12), aQ (g.2.1 4) 4 fsh)] s.heap := hP
  have hS : va_S A s.heap s.heap [] := hS
  obtain ⟨H, hHe⟩ : ∃ H : Heap, H = s.heap := ⟨_, rfl⟩
  obtain ⟨locs, hLe⟩ : ∃ L : List Loc, L = [] := ⟨_, rfl⟩
  have hP : va_P g.1 vwCl [(hd, .inr (8, dF d i)), ((d 12), aQ (g.2.1 4) 4 fsh)] H := by rw [hHe]; exact hP
  have hS : va_S A s.heap H locs := by rw [hHe, hLe]; exact hS
  suffices hgo : W p l e ({ frames := 2, cells := 0, slots := 0, locals := 43 } : Room) s m [.ref hd, .int (iI x), .int (iI xi), .int (iI x2), .int (iI xj), .int (iI n)].toArray below meth c H locs 0 0 (MQ below (CQ g (q_X8_copyB2 g hd d i fsh k2 y2 x xi x2 xj n) A) [.ref hd, .int (iI x), .int (iI xi), .int (iI x2), .int (iI xj), .int (iI n)].toArray s ({ frames := 2, cells := 0, slots := 0, locals := 43 } : Room).cells ({ frames := 2, cells := 0, slots := 0, locals := 43 } : Room).slots A) (F0 m 0 ls []) by rw [hHe, hLe] at hgo; exact hgo
  clear hHe hLe
  refine lv_aload_n hx hb dX8_copy_0 rfl (lv_at hl 0 rfl) ?_
  refine lv_iload_n hx hb dX8_copy_1 rfl (lv_at hl 1 rfl) ?_
  refine Ct.callV (ci := 8) (q0 := 0) (qc := (RX8, TX8, 13)) (As := [.int (iI x)]) (rest := []) (wr := []) (c1 := 0) (s1 := 0) ⟨hx, hb, hml, hown, hts⟩ (c_X8_sheetAtB l g hd d i fsh x (by omega)) rfl rfl (cwV 1 hts gX8_copy_X8_sheetAt rfl rfl rfl (by decide +kernel) ⟨Nat.le_of_ble_eq_true rfl, Nat.le_of_ble_eq_true rfl⟩) hG hP hD hS hA [0, 1] [] rfl rfl (by decide) (by decide) (by decide) rfl hl.1 rfl (Nat.le_of_ble_eq_true rfl) dX8_copy_2 ⟨Nat.le_of_ble_eq_true rfl, Nat.le_of_ble_eq_true rfl⟩ rfl rfl (fun v w H locs hv hP hD hS => ?_)
  obtain ⟨rfl, rfl⟩ := hv
  show W p l e _ s m _ below meth c H locs 0 0 _ (F0 m 5 ls (.null :: []))
  have hP : va_P g.1 vwCl [(hd, .inr (8, dF d i)), ((d 12), aQ (g.2.1 4) 4 fsh)] H := hP
  have hD : va_D A [(hd, .inr (8, dF d i)), ((d 12), aQ (g.2.1 4) 4 fsh)] := hD
  refine lv_astoreN (lv' := [(6, .null), (0, .ref hd), (1, .int (iI x)), (2, .int (iI xi)), (3, .int (iI x2)), (4, .int (iI xj)), (5, .int (iI n))]) hx hb dX8_copy_5 hl (by decide) rfl (fun ls hl => ?_)
  refine lv_aload_n hx hb dX8_copy_7 rfl (lv_at hl 1 rfl) ?_
  refine lv_iload_n hx hb dX8_copy_8 rfl (lv_at hl 4 rfl) ?_
  refine Ct.callV (ci := 8) (q0 := 0) (qc := (RX8, TX8, 13)) (As := [.int (iI x2)]) (rest := []) (wr := []) (c1 := 0) (s1 := 0) ⟨hx, hb, hml, hown, hts⟩ (c_X8_sheetAt l g hd d i fsh x2 k2 y2 (by omega) (h2b)) rfl rfl (cwV 1 hts gX8_copy_X8_sheetAt rfl rfl rfl (by decide +kernel) ⟨Nat.le_of_ble_eq_true rfl, Nat.le_of_ble_eq_true rfl⟩) hG hP hD hS hA [0, 1] [] rfl rfl (by decide) (by decide) (by decide) rfl hl.1 rfl (Nat.le_of_ble_eq_true rfl) dX8_copy_9 ⟨Nat.le_of_ble_eq_true rfl, Nat.le_of_ble_eq_true rfl⟩ rfl rfl (fun v w H locs hv hP hD hS => ?_)
  obtain ⟨rfl, rfl⟩ := hv
  show W p l e _ s m _ below meth c H locs 0 0 _ (F0 m 12 ls (.ref y2 :: []))
  have hP : va_P g.1 vwCl [(hd, .inr (8, dF d i)), ((d 12), aQ (g.2.1 4) 4 fsh)] H := hP
  have hD : va_D A [(hd, .inr (8, dF d i)), ((d 12), aQ (g.2.1 4) 4 fsh)] := hD
  refine lv_astore (lv' := [(7, .ref y2), (6, .null), (0, .ref hd), (1, .int (iI x)), (2, .int (iI xi)), (3, .int (iI x2)), (4, .int (iI xj)), (5, .int (iI n))]) hx hb dX8_copy_12 hl (by decide) rfl (fun ls hl => ?_)
  refine lv_aloadN hx hb dX8_copy_14 (lv_at hl 1 rfl) ?_
  refine lv_ifnullN (tgt := 24) hx hb dX8_copy_16 (by decide) ?_
  refine lv_iconst (v := iI (-1)) hx hb dX8_copy_24 rfl ?_
  exact Ct.iret hx hb hr hlocks (hP.sub [0, 1] rfl) (hD.sub [0, 1] (by decide) rfl) hS ⟨by decide, by decide⟩ dX8_copy_25 ⟨(-1), rfl, rfl, (by omega)⟩
abbrev q_X8_copyB3 (g : GT) (hd : Nat) (d : Nat → Nat) (i : Nat → Int) (fsh : Nat → Option Nat) (k : Nat) (y : Nat) (x : Int) (xi : Int) (x2 : Int) (xj : Int) (n : Int) : Option Value → va_W → Prop := fun v w => ∃ (r : Int), v = some (.int (iI r)) ∧ w = [(hd, .inr (8, dF d i)), ((d 12), aQ (g.2.1 4) 4 fsh)] ∧ (r = -1)
set_option maxHeartbeats 4000000 in
set_option maxRecDepth 100000 in
theorem c_X8_copyB3 (l : Launch) (g : GT) (hd : Nat) (d : Nat → Nat) (i : Nat → Int) (fsh : Nat → Option Nat) (k : Nat) (y : Nat) (x : Int) (xi : Int) (x2 : Int) (xj : Int) (n : Int) (h1 : x = (k : Int) ∧ k < 4) (h2 : ¬ (0 ≤ x2 ∧ x2 ≤ 3) ∧ (-2147483648 ≤ x2 ∧ x2 < 2147483648)) (h2b : fsh k = some y) : Ct l g yX8_copy wsX8_copy ({ frames := 2, cells := 0, slots := 0, locals := 43 } : Room) [.ref hd, .int (iI x), .int (iI xi), .int (iI x2), .int (iI xj), .int (iI n)] [(hd, .inr (8, dF d i)), ((d 12), aQ (g.2.1 4) 4 fsh)] (q_X8_copyB3 g hd d i fsh k y x xi x2 xj n) := by
  refine Ct.intro (maxL := 8) (ret := (some .int)) (by decide) rfl (Nat.le_of_ble_eq_true rfl) ?_
  intro p e s m below meth c A ls hx hb hr hml hown hts hlocks hnm hA hG hP hD hS hl
  have hown : s.vm.findClass RX8 = some m.cls := hown
  have hl : lv_has ls 8 [(0, .ref hd), (1, .int (iI x)), (2, .int (iI xi)), (3, .int (iI x2)), (4, .int (iI xj)), (5, .int (iI n))] := hl
  have hP : va_P g.1 vwCl [(hd, .inr (8, dF d i)), ((d 12), aQ (g.2.1 4) 4 fsh)] s.heap := hP
  have hS : va_S A s.heap s.heap [] := hS
  obtain ⟨H, hHe⟩ : ∃ H : Heap, H = s.heap := ⟨_, rfl⟩
  obtain ⟨locs, hLe⟩ : ∃ L : List Loc, L = [] := ⟨_, rfl⟩
  have hP : va_P g.1 vwCl [(hd, .inr (8, dF d i)), ((d 12), aQ (g.2.1 4) 4 fsh)] H := by rw [hHe]; exact hP
  have hS : va_S A s.heap H locs := by rw [hHe, hLe]; exact hS
  suffices hgo : W p l e ({ frames := 2, cells := 0, slots := 0, locals := 43 } : Room) s m [.ref hd, .int (iI x), .int (iI xi), .int (iI x2), .int (iI xj), .int (iI n)].toArray below meth c H locs 0 0 (MQ below (CQ g (q_X8_copyB3 g hd d i fsh k y x xi x2 xj n) A) [.ref hd, .int (iI x), .int (iI xi), .int (iI x2), .int (iI xj), .int (iI n)].toArray s ({ frames := 2, cells := 0, slots := 0, locals := 43 } : Room).cells ({ frames := 2, cells := 0, slots := 0, locals := 43 } : Room).slots A) (F0 m 0 ls []) by rw [hHe, hLe] at hgo; exact hgo
  clear hHe hLe
  refine lv_aload_n hx hb dX8_copy_0 rfl (lv_at hl 0 rfl) ?_
  refine lv_iload_n hx hb dX8_copy_1 rfl (lv_at hl 1 rfl) ?_
  refine Ct.callV (ci := 8) (q0 := 0) (qc := (RX8, TX8, 13)) (As := [.int (iI x)]) (rest := []) (wr := []) (c1 := 0) (s1 := 0) ⟨hx, hb, hml, hown, hts⟩ (c_X8_sheetAt l g hd d i fsh x k y (by omega) (h2b)) rfl rfl (cwV 1 hts gX8_copy_X8_sheetAt rfl rfl rfl (by decide +kernel) ⟨Nat.le_of_ble_eq_true rfl, Nat.le_of_ble_eq_true rfl⟩) hG hP hD hS hA [0, 1] [] rfl rfl (by decide) (by decide) (by decide) rfl hl.1 rfl (Nat.le_of_ble_eq_true rfl) dX8_copy_2 ⟨Nat.le_of_ble_eq_true rfl, Nat.le_of_ble_eq_true rfl⟩ rfl rfl (fun v w H locs hv hP hD hS => ?_)
  obtain ⟨rfl, rfl⟩ := hv
  show W p l e _ s m _ below meth c H locs 0 0 _ (F0 m 5 ls (.ref y :: []))
  have hP : va_P g.1 vwCl [(hd, .inr (8, dF d i)), ((d 12), aQ (g.2.1 4) 4 fsh)] H := hP
  have hD : va_D A [(hd, .inr (8, dF d i)), ((d 12), aQ (g.2.1 4) 4 fsh)] := hD
  refine lv_astore (lv' := [(6, .ref y), (0, .ref hd), (1, .int (iI x)), (2, .int (iI xi)), (3, .int (iI x2)), (4, .int (iI xj)), (5, .int (iI n))]) hx hb dX8_copy_5 hl (by decide) rfl (fun ls hl => ?_)
  refine lv_aload_n hx hb dX8_copy_7 rfl (lv_at hl 1 rfl) ?_
  refine lv_iload_n hx hb dX8_copy_8 rfl (lv_at hl 4 rfl) ?_
  refine Ct.callV (ci := 8) (q0 := 0) (qc := (RX8, TX8, 13)) (As := [.int (iI x2)]) (rest := []) (wr := []) (c1 := 0) (s1 := 0) ⟨hx, hb, hml, hown, hts⟩ (c_X8_sheetAtB l g hd d i fsh x2 (by omega)) rfl rfl (cwV 1 hts gX8_copy_X8_sheetAt rfl rfl rfl (by decide +kernel) ⟨Nat.le_of_ble_eq_true rfl, Nat.le_of_ble_eq_true rfl⟩) hG hP hD hS hA [0, 1] [] rfl rfl (by decide) (by decide) (by decide) rfl hl.1 rfl (Nat.le_of_ble_eq_true rfl) dX8_copy_9 ⟨Nat.le_of_ble_eq_true rfl, Nat.le_of_ble_eq_true rfl⟩ rfl rfl (fun v w H locs hv hP hD hS => ?_)
  obtain ⟨rfl, rfl⟩ := hv
  show W p l e _ s m _ below meth c H locs 0 0 _ (F0 m 12 ls (.null :: []))
  have hP : va_P g.1 vwCl [(hd, .inr (8, dF d i)), ((d 12), aQ (g.2.1 4) 4 fsh)] H := hP
  have hD : va_D A [(hd, .inr (8, dF d i)), ((d 12), aQ (g.2.1 4) 4 fsh)] := hD
  refine lv_astoreN (lv' := [(7, .null), (6, .ref y), (0, .ref hd), (1, .int (iI x)), (2, .int (iI xi)), (3, .int (iI x2)), (4, .int (iI xj)), (5, .int (iI n))]) hx hb dX8_copy_12 hl (by decide) rfl (fun ls hl => ?_)
  refine lv_aload hx hb dX8_copy_14 (lv_at hl 1 rfl) ?_
  refine lv_ifnull hx hb dX8_copy_16 ?_
  refine lv_aloadN hx hb dX8_copy_19 (lv_at hl 0 rfl) ?_
  refine lv_ifnonnullN hx hb dX8_copy_21 ?_
  refine lv_iconst (v := iI (-1)) hx hb dX8_copy_24 rfl ?_
  exact Ct.iret hx hb hr hlocks (hP.sub [0, 1] rfl) (hD.sub [0, 1] (by decide) rfl) hS ⟨by decide, by decide⟩ dX8_copy_25 ⟨(-1), rfl, rfl, (by omega)⟩
