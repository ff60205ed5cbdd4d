theorem kX9_copy_9 : ∀ w ∈ u_ws RX9 TX9 37, w ∈ wsX9_copy := fun _ h => List.mem_cons_of_mem _ (List.mem_append_right _ h)
abbrev q_X9_copy (g : GT) (hm : Nat) (a : Nat → Nat) (i : Nat → Int) (fl : Nat → Int) (fz : Nat → Int) (fi : Nat → Int) (fm : Nat → Int) (x : Int) (xi : Int) (x2 : Int) (xj : Int) (n : Int) : Option Value → va_W → Prop := fun v w => ∃ (r : Int), ∃ (fi' : Nat → Int), ∃ (fm' : Nat → Int), v = some (.int (iI r)) ∧ w = [(hm, .inr (9, mF a i)), ((a 33), aI (g.2.1 0) 4 fl), ((a 34), aI (g.2.1 0) 4 fz), ((a 35), aI (g.2.1 0) 160 fi'), ((a 36), aI (g.2.1 0) 40 fm')] ∧ (r = (if ¬ (0 ≤ x ∧ x ≤ 3) ∨ ¬ (0 ≤ x2 ∧ x2 ≤ 3) then -1 else if fl x.toNat < 0 ∨ fl x2.toNat < 0 then -11 else if fl x.toNat ≠ fl x2.toNat then -12 else if n < 0 ∨ findS (fl x.toNat) (fz x.toNat) (fl x.toNat) xi n < 0 ∨ findS (fl x2.toNat) (fz x2.toNat) (fl x2.toNat) xj n < 0 then -13 else n)) ∧ (0 ≤ r → fi' = va_cpy fi fi (40 * x.toNat + xi.toNat) (40 * x2.toNat + xj.toNat) n.toNat) ∧ (r < 0 → fi' = fi)
set_option maxHeartbeats 4000000 in
set_option maxRecDepth 100000 in
theorem c_X9_copy (l : Launch) (g : GT) (hm : Nat) (a : Nat → Nat) (i : Nat → Int) (fl : Nat → Int) (fz : Nat → Int) (fi : Nat → Int) (fm : Nat → Int) (x : Int) (xi : Int) (x2 : Int) (xj : Int) (n : Int) (h1 : (-2147483648 ≤ x ∧ x < 2147483648) ∧ (-2147483648 ≤ xi ∧ xi < 2147483648) ∧ (-2147483648 ≤ x2 ∧ x2 < 2147483648) ∧ (-2147483648 ≤ xj ∧ xj < 2147483648) ∧ (-2147483648 ≤ n ∧ n < 2147483648)) (hL : ∀ j, j < 4 → -1 ≤ fl j ∧ fl j ≤ 2 ∧ 0 ≤ fz j ∧ fz j ≤ 40) : Ct l g yX9_copy wsX9_copy ({ frames := 2, cells := 0, slots := 0, locals := 45 } : Room) [.ref hm, .int (iI x), .int (iI xi), .int (iI x2), .int (iI xj), .int (iI n)] [(hm, .inr (9, mF a i)), ((a 33), aI (g.2.1 0) 4 fl), ((a 34), aI (g.2.1 0) 4 fz), ((a 35), aI (g.2.1 0) 160 fi), ((a 36), aI (g.2.1 0) 40 fm)] (q_X9_copy g hm a i fl fz fi fm x xi x2 xj n) := by
  refine Ct.intro (maxL := 7) (ret := (some .int)) (by decide) rfl (Nat.le_of_ble_eq_true rfl) ?_
  intro p e s m below meth c A ls hx hb hr hml hown hts hlocks hnm hA hG hP hD hS hl
  have hown : s.vm.findClass RX9 = some m.cls := hown
  have hl : lv_has ls 7 [(0, .ref hm), (1, .int (iI x)), (2, .int (iI xi)), (3, .int (iI x2)), (4, .int (iI xj)), (5, .int (iI n))] := hl
  have hP : va_P g.1 vwCl [(hm, .inr (9, mF a i)), ((a 33), aI (g.2.1 0) 4 fl), ((a 34), aI (g.2.1 0) 4 fz), ((a 35), aI (g.2.1 0) 160 fi), ((a 36), aI (g.2.1 0) 40 fm)] s.heap := hP
  have hS : va_S A s.heap s.heap [] := hS
  obtain ⟨H, hHe⟩ : ∃ H : Heap, H = s.heap := ⟨_, rfl⟩
  obtain ⟨locs, hLe⟩ : ∃ L : List Loc, L = [] := ⟨_, rfl⟩
  have hP : va_P g.1 vwCl [(hm, .inr (9, mF a i)), ((a 33), aI (g.2.1 0) 4 fl), ((a 34), aI (g.2.1 0) 4 fz), ((a 35), aI (g.2.1 0) 160 fi), ((a 36), aI (g.2.1 0) 40 fm)] H := by rw [hHe]; exact hP
  have hS : va_S A s.heap H locs := by rw [hHe, hLe]; exact hS
  suffices hgo : W p l e ({ frames := 2, cells := 0, slots := 0, locals := 45 } : Room) s m [.ref hm, .int (iI x), .int (iI xi), .int (iI x2), .int (iI xj), .int (iI n)].toArray below meth c H locs 0 0 (MQ below (CQ g (q_X9_copy g hm a i fl fz fi fm x xi x2 xj n) A) [.ref hm, .int (iI x), .int (iI xi), .int (iI x2), .int (iI xj), .int (iI n)].toArray s ({ frames := 2, cells := 0, slots := 0, locals := 45 } : Room).cells ({ frames := 2, cells := 0, slots := 0, locals := 45 } : Room).slots A) (F0 m 0 ls []) by rw [hHe, hLe] at hgo; exact hgo
  clear hHe hLe
  refine lv_iload_n hx hb dX9_copy_0 rfl (lv_at hl 1 rfl) ?_
  refine Ct.callS (As := [.int (iI x)]) (rest := []) (wr := [(hm, .inr (9, mF a i)), ((a 33), aI (g.2.1 0) 4 fl), ((a 34), aI (g.2.1 0) 4 fz), ((a 35), aI (g.2.1 0) 160 fi), ((a 36), aI (g.2.1 0) 40 fm)]) (c1 := 0) (s1 := 0) ⟨hx, hb, hml, hown, hts⟩ (c_X9_isSheet l g x (by omega)) (va_cwS 1 hts gX9_copy_X9_isSheet rfl rfl rfl (by decide +kernel) ⟨Nat.le_of_ble_eq_true rfl, Nat.le_of_ble_eq_true rfl⟩) hG hP hD hS hA [] [0, 1, 2, 3, 4] rfl rfl (by decide) (by decide) (by decide) rfl hl.1 rfl (Nat.le_of_ble_eq_true rfl) dX9_copy_1 ⟨Nat.le_of_ble_eq_true rfl, Nat.le_of_ble_eq_true rfl⟩ rfl rfl (fun v w H locs hv hP hD hS => ?_)
  obtain ⟨⟨rfl, hb1⟩ | ⟨rfl, hb1⟩, rfl⟩ := hv
  · show W p l e _ s m _ below meth c H locs 0 0 _ (F0 m 4 ls (.int (iI 1) :: []))
    have hb1 : 0 ≤ x ∧ x ≤ 3 := hb1
    have hP : va_P g.1 vwCl [(hm, .inr (9, mF a i)), ((a 33), aI (g.2.1 0) 4 fl), ((a 34), aI (g.2.1 0) 4 fz), ((a 35), aI (g.2.1 0) 160 fi), ((a 36), aI (g.2.1 0) 40 fm)] H := hP
    have hD : va_D A [(hm, .inr (9, mF a i)), ((a 33), aI (g.2.1 0) 4 fl), ((a 34), aI (g.2.1 0) 4 fz), ((a 35), aI (g.2.1 0) 160 fi), ((a 36), aI (g.2.1 0) 40 fm)] := hD
    refine iv_if_eq (tgt := 14) hx hb dX9_copy_4 (by decide) (by decide) (fun h => absurd h (by decide)) (fun _ => ?_)
    refine lv_iload_n hx hb dX9_copy_7 rfl (lv_at hl 3 rfl) ?_
    refine Ct.callS (As := [.int (iI x2)]) (rest := []) (wr := [(hm, .inr (9, mF a i)), ((a 33), aI (g.2.1 0) 4 fl), ((a 34), aI (g.2.1 0) 4 fz), ((a 35), aI (g.2.1 0) 160 fi), ((a 36), aI (g.2.1 0) 40 fm)]) (c1 := 0) (s1 := 0) ⟨hx, hb, hml, hown, hts⟩ (c_X9_isSheet l g x2 (by omega)) (va_cwS 1 hts gX9_copy_X9_isSheet rfl rfl rfl (by decide +kernel) ⟨Nat.le_of_ble_eq_true rfl, Nat.le_of_ble_eq_true rfl⟩) hG hP hD hS hA [] [0, 1, 2, 3, 4] rfl rfl (by decide) (by decide) (by decide) rfl hl.1 rfl (Nat.le_of_ble_eq_true rfl) dX9_copy_8 ⟨Nat.le_of_ble_eq_true rfl, Nat.le_of_ble_eq_true rfl⟩ rfl rfl (fun v w H locs hv hP hD hS => ?_)
    obtain ⟨⟨rfl, hb3⟩ | ⟨rfl, hb3⟩, rfl⟩ := hv
    · show W p l e _ s m _ below meth c H locs 0 0 _ (F0 m 11 ls (.int (iI 1) :: []))
      have hb3 : 0 ≤ x2 ∧ x2 ≤ 3 := hb3
      have hP : va_P g.1 vwCl [(hm, .inr (9, mF a i)), ((a 33), aI (g.2.1 0) 4 fl), ((a 34), aI (g.2.1 0) 4 fz), ((a 35), aI (g.2.1 0) 160 fi), ((a 36), aI (g.2.1 0) 40 fm)] H := hP
      have hD : va_D A [(hm, .inr (9, mF a i)), ((a 33), aI (g.2.1 0) 4 fl), ((a 34), aI (g.2.1 0) 4 fz), ((a 35), aI (g.2.1 0) 160 fi), ((a 36), aI (g.2.1 0) 40 fm)] := hD
      refine iv_if_ne (tgt := 16) hx hb dX9_copy_11 (by decide) (by decide) (fun _ => ?_) (fun h => absurd h (by decide))
      have hk := hL x.toNat (by omega)
      have hk2 := hL x2.toNat (by omega)
      refine lv_aload_n hx hb dX9_copy_16 rfl (lv_at hl 0 rfl) ?_
      refine va_get (D := g.1) (ci := 9) (v := .ref (a 33)) hx hb hts kX9_copy_9 hown hG.1 hP 0 rfl rfl 33 (by decide) (hts _ (List.mem_of_getElem? (i := 1) rfl)) (fun _ h9 => h9) rfl dX9_copy_17 ?_
      refine lv_iload_n hx hb dX9_copy_20 rfl (lv_at hl 1 rfl) ?_
      refine iv_iald hx hb hG hP 1 rfl x.toNat (by omega) (by omega) (by decide) dX9_copy_21 ?_
      refine iv_if_lt (tgt := 34) hx hb dX9_copy_22 (by decide) (by omega) (fun hc5 => ?_) (fun hc5 => ?_)
      · refine lv_bipush (v := iI (-11)) hx hb dX9_copy_34 (by decide) ?_
        exact Ct.iret hx hb hr hlocks (hP.sub [0, 1, 2, 3, 4] rfl) (hD.sub [0, 1, 2, 3, 4] (by decide) rfl) hS ⟨by decide, by decide⟩ dX9_copy_36 ⟨(-11), fi, fm, rfl, rfl, (by (repeat' split) <;> first | rfl | omega | (exfalso; omega)), (fun h => absurd h (by omega)), (fun _ => rfl)⟩
      · refine lv_aload_n hx hb dX9_copy_25 rfl (lv_at hl 0 rfl) ?_
        refine va_get (D := g.1) (ci := 9) (v := .ref (a 33)) hx hb hts kX9_copy_9 hown hG.1 hP 0 rfl rfl 33 (by decide) (hts _ (List.mem_of_getElem? (i := 1) rfl)) (fun _ h9 => h9) rfl dX9_copy_26 ?_
        refine lv_iload_n hx hb dX9_copy_29 rfl (lv_at hl 3 rfl) ?_
        refine iv_iald hx hb hG hP 1 rfl x2.toNat (by omega) (by omega) (by decide) dX9_copy_30 ?_
        refine iv_if_ge (tgt := 37) hx hb dX9_copy_31 (by decide) (by omega) (fun hc6 => ?_) (fun hc6 => ?_)
        · refine lv_aload_n hx hb dX9_copy_37 rfl (lv_at hl 0 rfl) ?_
          refine va_get (D := g.1) (ci := 9) (v := .ref (a 33)) hx hb hts kX9_copy_9 hown hG.1 hP 0 rfl rfl 33 (by decide) (hts _ (List.mem_of_getElem? (i := 1) rfl)) (fun _ h9 => h9) rfl dX9_copy_38 ?_
          refine lv_iload_n hx hb dX9_copy_41 rfl (lv_at hl 1 rfl) ?_
          refine iv_iald hx hb hG hP 1 rfl x.toNat (by omega) (by omega) (by decide) dX9_copy_42 ?_
          refine lv_aload_n hx hb dX9_copy_43 rfl (lv_at hl 0 rfl) ?_
          refine va_get (D := g.1) (ci := 9) (v := .ref (a 33)) hx hb hts kX9_copy_9 hown hG.1 hP 0 rfl rfl 33 (by decide) (hts _ (List.mem_of_getElem? (i := 1) rfl)) (fun _ h9 => h9) rfl dX9_copy_44 ?_
          refine lv_iload_n hx hb dX9_copy_47 rfl (lv_at hl 3 rfl) ?_
          refine iv_iald hx hb hG hP 1 rfl x2.toNat (by omega) (by omega) (by decide) dX9_copy_48 ?_
          refine iv_icmp_eq (tgt := 55) hx hb dX9_copy_49 (by decide) (by omega) (fun hc7 => ?_) (fun hc7 => ?_)
          · refine lv_iload hx hb dX9_copy_55 (lv_at hl 5 rfl) ?_
            refine iv_if_lt (tgt := 95) hx hb dX9_copy_57 (by decide) (by omega) (fun hc8 => ?_) (fun hc8 => ?_)
            · refine lv_bipush (v := iI (-13)) hx hb dX9_copy_95 (by decide) ?_
              exact Ct.iret hx hb hr hlocks (hP.sub [0, 1, 2, 3, 4] rfl) (hD.sub [0, 1, 2, 3, 4] (by decide) rfl) hS ⟨by decide, by decide⟩ dX9_copy_97 ⟨(-13), fi, fm, rfl, rfl, (by (repeat' split) <;> first | rfl | omega | (exfalso; omega)), (fun h => absurd h (by omega)), (fun _ => rfl)⟩
            · refine lv_aload_n hx hb dX9_copy_60 rfl (lv_at hl 0 rfl) ?_
              refine lv_iload_n hx hb dX9_copy_61 rfl (lv_at hl 1 rfl) ?_
              refine lv_aload_n hx hb dX9_copy_62 rfl (lv_at hl 0 rfl) ?_
              refine va_get (D := g.1) (ci := 9) (v := .ref (a 33)) hx hb hts kX9_copy_9 hown hG.1 hP 0 rfl rfl 33 (by decide) (hts _ (List.mem_of_getElem? (i := 1) rfl)) (fun _ h9 => h9) rfl dX9_copy_63 ?_
              refine lv_iload_n hx hb dX9_copy_66 rfl (lv_at hl 1 rfl) ?_
              refine iv_iald hx hb hG hP 1 rfl x.toNat (by omega) (by omega) (by decide) dX9_copy_67 ?_
              refine lv_iload_n hx hb dX9_copy_68 rfl (lv_at hl 2 rfl) ?_
              refine lv_iload hx hb dX9_copy_69 (lv_at hl 5 rfl) ?_
              refine Ct.callV (ci := 9) (q0 := 0) (qc := (RX9, TX9, 37)) (As := [.int (iI x), .int (iI (fl x.toNat)), .int (iI xi), .int (iI n)]) (rest := []) (wr := [((a 35), aI (g.2.1 0) 160 fi), ((a 36), aI (g.2.1 0) 40 fm)]) (c1 := 0) (s1 := 0) ⟨hx, hb, hml, hown, hts⟩ (c_X9_finds l g hm a i fl fz x (fl x.toNat) xi n x.toNat (by omega) (hL)) rfl rfl (cwV 4 hts gX9_copy_X9_finds rfl rfl rfl (by decide +kernel) ⟨Nat.le_of_ble_eq_true rfl, Nat.le_of_ble_eq_true rfl⟩) hG hP hD hS hA [0, 1, 2] [3, 4] rfl rfl (by decide) (by decide) (by decide) rfl hl.1 rfl (Nat.le_of_ble_eq_true rfl) dX9_copy_71 ⟨Nat.le_of_ble_eq_true rfl, Nat.le_of_ble_eq_true rfl⟩ rfl rfl (fun v w H locs hv hP hD hS => ?_)
              obtain ⟨r9, rfl, rfl, hf10⟩ := hv
              show W p l e _ s m _ below meth c H locs 0 0 _ (F0 m 74 ls (.int (iI r9) :: []))
              have hP : va_P g.1 vwCl [((a 35), aI (g.2.1 0) 160 fi), ((a 36), aI (g.2.1 0) 40 fm), (hm, .inr (9, mF a i)), ((a 33), aI (g.2.1 0) 4 fl), ((a 34), aI (g.2.1 0) 4 fz)] H := hP
              have hD : va_D A [((a 35), aI (g.2.1 0) 160 fi), ((a 36), aI (g.2.1 0) 40 fm), (hm, .inr (9, mF a i)), ((a 33), aI (g.2.1 0) 4 fl), ((a 34), aI (g.2.1 0) 4 fz)] := hD
              have hf10 : r9 = findS (fl x.toNat) (fz x.toNat) (fl x.toNat) xi n := hf10
              have hfa : findS (fl x.toNat) (fz x.toNat) (fl x.toNat) xi n = -13 ∨ (findS (fl x.toNat) (fz x.toNat) (fl x.toNat) xi n = 0 ∧ 0 ≤ xi ∧ xi + n ≤ 40) := by unfold findS; (repeat' split) <;> omega
              refine iv_if_lt (tgt := 95) hx hb dX9_copy_74 (by decide) (by omega) (fun hc11 => ?_) (fun hc11 => ?_)
              · refine lv_bipush (v := iI (-13)) hx hb dX9_copy_95 (by decide) ?_
                exact Ct.iret hx hb hr hlocks (hP.sub [2, 3, 4, 0, 1] rfl) (hD.sub [2, 3, 4, 0, 1] (by decide) rfl) hS ⟨by decide, by decide⟩ dX9_copy_97 ⟨(-13), fi, fm, rfl, rfl, (by (repeat' split) <;> first | rfl | omega | (exfalso; omega)), (fun h => absurd h (by omega)), (fun _ => rfl)⟩
              · refine lv_aload_n hx hb dX9_copy_77 rfl (lv_at hl 0 rfl) ?_
                refine lv_iload_n hx hb dX9_copy_78 rfl (lv_at hl 3 rfl) ?_
                refine lv_aload_n hx hb dX9_copy_79 rfl (lv_at hl 0 rfl) ?_
                refine va_get (D := g.1) (ci := 9) (v := .ref (a 33)) hx hb hts kX9_copy_9 hown hG.1 hP 2 rfl rfl 33 (by decide) (hts _ (List.mem_of_getElem? (i := 1) rfl)) (fun _ h9 => h9) rfl dX9_copy_80 ?_
                refine lv_iload_n hx hb dX9_copy_83 rfl (lv_at hl 3 rfl) ?_
                refine iv_iald hx hb hG hP 3 rfl x2.toNat (by omega) (by omega) (by decide) dX9_copy_84 ?_
                refine lv_iload hx hb dX9_copy_85 (lv_at hl 4 rfl) ?_
                refine lv_iload hx hb dX9_copy_87 (lv_at hl 5 rfl) ?_
                refine Ct.callV (ci := 9) (q0 := 2) (qc := (RX9, TX9, 37)) (As := [.int (iI x2), .int (iI (fl x2.toNat)), .int (iI xj), .int (iI n)]) (rest := []) (wr := [((a 35), aI (g.2.1 0) 160 fi), ((a 36), aI (g.2.1 0) 40 fm)]) (c1 := 0) (s1 := 0) ⟨hx, hb, hml, hown, hts⟩ (c_X9_finds l g hm a i fl fz x2 (fl x2.toNat) xj n x2.toNat (by omega) (hL)) rfl rfl (cwV 4 hts gX9_copy_X9_finds rfl rfl rfl (by decide +kernel) ⟨Nat.le_of_ble_eq_true rfl, Nat.le_of_ble_eq_true rfl⟩) hG hP hD hS hA [2, 3, 4] [0, 1] rfl rfl (by decide) (by decide) (by decide) rfl hl.1 rfl (Nat.le_of_ble_eq_true rfl) dX9_copy_89 ⟨Nat.le_of_ble_eq_true rfl, Nat.le_of_ble_eq_true rfl⟩ rfl rfl (fun v w H locs hv hP hD hS => ?_)
                obtain ⟨r12, rfl, rfl, hf13⟩ := hv
                show W p l e _ s m _ below meth c H locs 0 0 _ (F0 m 92 ls (.int (iI r12) :: []))
                have hP : va_P g.1 vwCl [((a 35), aI (g.2.1 0) 160 fi), ((a 36), aI (g.2.1 0) 40 fm), (hm, .inr (9, mF a i)), ((a 33), aI (g.2.1 0) 4 fl), ((a 34), aI (g.2.1 0) 4 fz)] H := hP
                have hD : va_D A [((a 35), aI (g.2.1 0) 160 fi), ((a 36), aI (g.2.1 0) 40 fm), (hm, .inr (9, mF a i)), ((a 33), aI (g.2.1 0) 4 fl), ((a 34), aI (g.2.1 0) 4 fz)] := hD
                have hf13 : r12 = findS (fl x2.toNat) (fz x2.toNat) (fl x2.toNat) xj n := hf13
                have hfb : findS (fl x2.toNat) (fz x2.toNat) (fl x2.toNat) xj n = -13 ∨ (findS (fl x2.toNat) (fz x2.toNat) (fl x2.toNat) xj n = 0 ∧ 0 ≤ xj ∧ xj + n ≤ 40) := by unfold findS; (repeat' split) <;> omega
                refine iv_if_ge (tgt := 98) hx hb dX9_copy_92 (by decide) (by omega) (fun hc14 => ?_) (fun hc14 => ?_)
                · refine lv_iconst (v := iI (0)) hx hb dX9_copy_98 rfl ?_
                  refine lv_istore (lv' := [(6, .int (iI 0)), (0, .ref hm), (1, .int (iI x)), (2, .int (iI xi)), (3, .int (iI x2)), (4, .int (iI xj)), (5, .int (iI n))]) hx hb dX9_copy_99 hl (by decide) rfl (fun ls hl => ?_)
                  have hloop101 : ∀ (fuel : Nat) (k : Int) (fx : Nat → Int) (m_ : Nat) (hc : k = (m_ : Int) ∧ k ≤ n) (he : ∀ j, j < m_ → fx j = fi (40 * x.toNat + xi.toNat + j)) (hmeas : n.toNat - m_ < fuel), ∀ (H : Heap) (locs : List Loc) (ls : Array Slot), va_P g.1 vwCl [((a 35), aI (g.2.1 0) 160 fi), ((a 36), aI (g.2.1 0) 40 fx), (hm, .inr (9, mF a i)), ((a 33), aI (g.2.1 0) 4 fl), ((a 34), aI (g.2.1 0) 4 fz)] H → va_D A [((a 35), aI (g.2.1 0) 160 fi), ((a 36), aI (g.2.1 0) 40 fx), (hm, .inr (9, mF a i)), ((a 33), aI (g.2.1 0) 4 fl), ((a 34), aI (g.2.1 0) 4 fz)] → va_S A s.heap H locs → lv_has ls 7 [(6, .int (iI k)), (0, .ref hm), (1, .int (iI x)), (2, .int (iI xi)), (3, .int (iI x2)), (4, .int (iI xj)), (5, .int (iI n))] → W p l e ({ frames := 2, cells := 0, slots := 0, locals := 45 } : Room) s m [.ref hm, .int (iI x), .int (iI xi), .int (iI x2), .int (iI xj), .int (iI n)].toArray below meth c H locs 0 0 (MQ below (CQ g (q_X9_copy g hm a i fl fz fi fm x xi x2 xj n) A) [.ref hm, .int (iI x), .int (iI xi), .int (iI x2), .int (iI xj), .int (iI n)].toArray s ({ frames := 2, cells := 0, slots := 0, locals := 45 } : Room).cells ({ frames := 2, cells := 0, slots := 0, locals := 45 } : Room).slots A) (F0 m 101 ls []) := by
                    intro fuel
                    induction fuel with
                    | zero => intro k fx m_ hc he hmeas; exact absurd hmeas (Nat.not_lt_zero _)
                    | succ fuel ih101 =>
                      intro k fx m_ hc he hmeas H locs ls hP hD hS hl
                      refine lv_iload hx hb dX9_copy_101 (lv_at hl 0 rfl) ?_
                      refine lv_iload hx hb dX9_copy_103 (lv_at hl 6 rfl) ?_
                      refine iv_icmp_ge (tgt := 135) hx hb dX9_copy_105 (by decide) (by omega) (fun hc15 => ?_) (fun hc15 => ?_)
                      · refine lv_iconst (v := iI (0)) hx hb dX9_copy_135 rfl ?_
                        refine lv_istore (lv' := [(6, .int (iI 0)), (0, .ref hm), (1, .int (iI x)), (2, .int (iI xi)), (3, .int (iI x2)), (4, .int (iI xj)), (5, .int (iI n))]) hx hb dX9_copy_136 hl (by decide) rfl (fun ls hl => ?_)
                        have hloop138 : ∀ (fuel : Nat) (k2 : Int) (fw : Nat → Int) (m2 : Nat) (hc2 : k2 = (m2 : Int) ∧ k2 ≤ n) (he2 : fw = va_cpy fi fi (40 * x.toNat + xi.toNat) (40 * x2.toNat + xj.toNat) m2) (hmeas : n.toNat - m2 < fuel), ∀ (H : Heap) (locs : List Loc) (ls : Array Slot), va_P g.1 vwCl [((a 35), aI (g.2.1 0) 160 fw), ((a 36), aI (g.2.1 0) 40 fx), (hm, .inr (9, mF a i)), ((a 33), aI (g.2.1 0) 4 fl), ((a 34), aI (g.2.1 0) 4 fz)] H → va_D A [((a 35), aI (g.2.1 0) 160 fw), ((a 36), aI (g.2.1 0) 40 fx), (hm, .inr (9, mF a i)), ((a 33), aI (g.2.1 0) 4 fl), ((a 34), aI (g.2.1 0) 4 fz)] → va_S A s.heap H locs → lv_has ls 7 [(6, .int (iI k2)), (0, .ref hm), (1, .int (iI x)), (2, .int (iI xi)), (3, .int (iI x2)), (4, .int (iI xj)), (5, .int (iI n))] → W p l e ({ frames := 2, cells := 0, slots := 0, locals := 45 } : Room) s m [.ref hm, .int (iI x), .int (iI xi), .int (iI x2), .int (iI xj), .int (iI n)].toArray below meth c H locs 0 0 (MQ below (CQ g (q_X9_copy g hm a i fl fz fi fm x xi x2 xj n) A) [.ref hm, .int (iI x), .int (iI xi), .int (iI x2), .int (iI xj), .int (iI n)].toArray s ({ frames := 2, cells := 0, slots := 0, locals := 45 } : Room).cells ({ frames := 2, cells := 0, slots := 0, locals := 45 } : Room).slots A) (F0 m 138 ls []) := by
                          intro fuel
                          induction fuel with
                          | zero => intro k2 fw m2 hc2 he2 hmeas; exact absurd hmeas (Nat.not_lt_zero _)
                          | succ fuel ih138 =>
                            intro k2 fw m2 hc2 he2 hmeas H locs ls hP hD hS hl
                            refine lv_iload hx hb dX9_copy_138 (lv_at hl 0 rfl) ?_
                            refine lv_iload hx hb dX9_copy_140 (lv_at hl 6 rfl) ?_
                            refine iv_icmp_ge (tgt := 173) hx hb dX9_copy_142 (by decide) (by omega) (fun hc16 => ?_) (fun hc16 => ?_)
                            · refine lv_iload hx hb dX9_copy_173 (lv_at hl 6 rfl) ?_
                              exact Ct.iret hx hb hr hlocks (hP.sub [2, 3, 4, 0, 1] rfl) (hD.sub [2, 3, 4, 0, 1] (by decide) rfl) hS ⟨by decide, by decide⟩ dX9_copy_175 ⟨n, fw, fx, rfl, rfl, (by (repeat' split) <;> first | rfl | omega | (exfalso; omega)), (fun _ => by rw [he2, show m2 = n.toNat from by omega]), (fun h => absurd h (by omega))⟩
                            · refine lv_aload_n hx hb dX9_copy_145 rfl (lv_at hl 1 rfl) ?_
                              refine va_get (D := g.1) (ci := 9) (v := .ref (a 35)) hx hb hts kX9_copy_9 hown hG.1 hP 2 rfl rfl 35 (by decide) (hts _ (List.mem_of_getElem? (i := 3) rfl)) (fun _ h9 => h9) rfl dX9_copy_146 ?_
                              refine lv_bipush (v := iI (40)) hx hb dX9_copy_149 (by decide) ?_
                              refine lv_iload_n hx hb dX9_copy_151 rfl (lv_at hl 4 rfl) ?_
                              refine iv_imul hx hb dX9_copy_152 ?_
                              refine lv_iload hx hb dX9_copy_153 (lv_at hl 5 rfl) ?_
                              refine iv_iadd hx hb dX9_copy_155 ?_
                              refine lv_iload hx hb dX9_copy_156 (lv_at hl 0 rfl) ?_
                              refine iv_iadd hx hb dX9_copy_158 ?_
                              refine lv_aload_n hx hb dX9_copy_159 rfl (lv_at hl 1 rfl) ?_
                              refine va_get (D := g.1) (ci := 9) (v := .ref (a 36)) hx hb hts kX9_copy_9 hown hG.1 hP 2 rfl rfl 36 (by decide) (hts _ (List.mem_of_getElem? (i := 2) rfl)) (fun _ h9 => h9) rfl dX9_copy_160 ?_
                              refine lv_iload hx hb dX9_copy_163 (lv_at hl 0 rfl) ?_
                              refine iv_iald hx hb hG hP 1 rfl m2 (by omega) (by omega) (by decide) dX9_copy_165 ?_
                              refine iv_iast hx hb hG hP hD hS 0 rfl (40 * x2.toNat + xj.toNat + m2) (by omega) (by omega) (by decide) dX9_copy_166 (fun H locs hP hD hS => ?_)
                              have hP : va_P g.1 vwCl [((a 35), aI (g.2.1 0) 160 (va_up fw (40 * x2.toNat + xj.toNat + m2) (fx m2))), ((a 36), aI (g.2.1 0) 40 fx), (hm, .inr (9, mF a i)), ((a 33), aI (g.2.1 0) 4 fl), ((a 34), aI (g.2.1 0) 4 fz)] H := hP
                              have hD : va_D A [((a 35), aI (g.2.1 0) 160 (va_up fw (40 * x2.toNat + xj.toNat + m2) (fx m2))), ((a 36), aI (g.2.1 0) 40 fx), (hm, .inr (9, mF a i)), ((a 33), aI (g.2.1 0) 4 fl), ((a 34), aI (g.2.1 0) 4 fz)] := hD
                              refine iv_iinc (k := 0) (x := k2) (lv' := [(6, .int (iI (k2 + 1))), (0, .ref hm), (1, .int (iI x)), (2, .int (iI xi)), (3, .int (iI x2)), (4, .int (iI xj)), (5, .int (iI n))]) hx hb dX9_copy_167 hl rfl (by decide) rfl (fun ls hl => ?_)
                              refine lv_goto (tgt := 138) hx hb dX9_copy_170 (by decide) ?_
                              exact ih138 (k2 + 1) (va_up fw (40 * x2.toNat + xj.toNat + m2) (fx m2)) (m2 + 1) (by omega) (by rw [he2, cpy_succ (he m2 (by omega))]) (by omega) H locs ls (hP.sub [0, 1, 2, 3, 4] rfl) (hD.sub [0, 1, 2, 3, 4] (by decide) rfl) hS (lv_sub hl [0, 1, 2, 3, 4, 5, 6] rfl)
                        exact hloop138 _ 0 fi 0 (by omega) (cpy_0.symm) (Nat.lt_succ_self _) H locs ls (hP.sub [0, 1, 2, 3, 4] rfl) (hD.sub [0, 1, 2, 3, 4] (by decide) rfl) hS (lv_sub hl [0, 1, 2, 3, 4, 5, 6] rfl)
                      · refine lv_aload_n hx hb dX9_copy_108 rfl (lv_at hl 1 rfl) ?_
                        refine va_get (D := g.1) (ci := 9) (v := .ref (a 36)) hx hb hts kX9_copy_9 hown hG.1 hP 2 rfl rfl 36 (by decide) (hts _ (List.mem_of_getElem? (i := 2) rfl)) (fun _ h9 => h9) rfl dX9_copy_109 ?_
                        refine lv_iload hx hb dX9_copy_112 (lv_at hl 0 rfl) ?_
                        refine lv_aload_n hx hb dX9_copy_114 rfl (lv_at hl 1 rfl) ?_
                        refine va_get (D := g.1) (ci := 9) (v := .ref (a 35)) hx hb hts kX9_copy_9 hown hG.1 hP 2 rfl rfl 35 (by decide) (hts _ (List.mem_of_getElem? (i := 3) rfl)) (fun _ h9 => h9) rfl dX9_copy_115 ?_
                        refine lv_bipush (v := iI (40)) hx hb dX9_copy_118 (by decide) ?_
                        refine lv_iload_n hx hb dX9_copy_120 rfl (lv_at hl 2 rfl) ?_
                        refine iv_imul hx hb dX9_copy_121 ?_
                        refine lv_iload_n hx hb dX9_copy_122 rfl (lv_at hl 3 rfl) ?_
                        refine iv_iadd hx hb dX9_copy_123 ?_
                        refine lv_iload hx hb dX9_copy_124 (lv_at hl 0 rfl) ?_
                        refine iv_iadd hx hb dX9_copy_126 ?_
                        refine iv_iald hx hb hG hP 0 rfl (40 * x.toNat + xi.toNat + m_) (by omega) (by omega) (by decide) dX9_copy_127 ?_
                        refine iv_iast hx hb hG hP hD hS 1 rfl m_ (by omega) (by omega) (by decide) dX9_copy_128 (fun H locs hP hD hS => ?_)
                        have hP : va_P g.1 vwCl [((a 35), aI (g.2.1 0) 160 fi), ((a 36), aI (g.2.1 0) 40 (va_up fx m_ (fi (40 * x.toNat + xi.toNat + m_)))), (hm, .inr (9, mF a i)), ((a 33), aI (g.2.1 0) 4 fl), ((a 34), aI (g.2.1 0) 4 fz)] H := hP
                        have hD : va_D A [((a 35), aI (g.2.1 0) 160 fi), ((a 36), aI (g.2.1 0) 40 (va_up fx m_ (fi (40 * x.toNat + xi.toNat + m_)))), (hm, .inr (9, mF a i)), ((a 33), aI (g.2.1 0) 4 fl), ((a 34), aI (g.2.1 0) 4 fz)] := hD
                        refine iv_iinc (k := 0) (x := k) (lv' := [(6, .int (iI (k + 1))), (0, .ref hm), (1, .int (iI x)), (2, .int (iI xi)), (3, .int (iI x2)), (4, .int (iI xj)), (5, .int (iI n))]) hx hb dX9_copy_129 hl rfl (by decide) rfl (fun ls hl => ?_)
                        refine lv_goto (tgt := 101) hx hb dX9_copy_132 (by decide) ?_
                        exact ih101 (k + 1) (va_up fx m_ (fi (40 * x.toNat + xi.toNat + m_))) (m_ + 1) (by omega) (up_le (h := fun j => fi (40 * x.toNat + xi.toNat + j)) rfl he) (by omega) H locs ls (hP.sub [0, 1, 2, 3, 4] rfl) (hD.sub [0, 1, 2, 3, 4] (by decide) rfl) hS (lv_sub hl [0, 1, 2, 3, 4, 5, 6] rfl)
                  exact hloop101 _ 0 fm 0 (by omega) (fun j hj => absurd hj (Nat.not_lt_zero j)) (Nat.lt_succ_self _) H locs ls (hP.sub [0, 1, 2, 3, 4] rfl) (hD.sub [0, 1, 2, 3, 4] (by decide) rfl) hS (lv_sub hl [0, 1, 2, 3, 4, 5, 6] rfl)
                · refine lv_bipush (v := iI (-13)) hx hb dX9_copy_95 (by decide) ?_
                  exact Ct.iret hx hb hr hlocks (hP.sub [2, 3, 4, 0, 1] rfl) (hD.sub [2, 3, 4, 0, 1] (by decide) rfl) hS ⟨by decide, by decide⟩ dX9_copy_97 ⟨(-13), fi, fm, rfl, rfl, (by (repeat' split) <;> first | rfl | omega | (exfalso; omega)), (fun h => absurd h (by omega)), (fun _ => rfl)⟩
          · refine lv_bipush (v := iI (-12)) hx hb dX9_copy_52 (by decide) ?_
            exact Ct.iret hx hb hr hlocks (hP.sub [0, 1, 2, 3, 4] rfl) (hD.sub [0, 1, 2, 3, 4] (by decide) rfl) hS ⟨by decide, by decide⟩ dX9_copy_54 ⟨(-12), fi, fm, rfl, rfl, (by (repeat' split) <;> first | rfl | omega | (exfalso; omega)), (fun h => absurd h (by omega)), (fun _ => rfl)⟩
        · refine lv_bipush (v := iI (-11)) hx hb dX9_copy_34 (by decide) ?_
          exact Ct.iret hx hb hr hlocks (hP.sub [0, 1, 2, 3, 4] rfl) (hD.sub [0, 1, 2, 3, 4] (by decide) rfl) hS ⟨by decide, by decide⟩ dX9_copy_36 ⟨(-11), fi, fm, rfl, rfl, (by (repeat' split) <;> first | rfl | omega | (exfalso; omega)), (fun h => absurd h (by omega)), (fun _ => rfl)⟩
    · show W p l e _ s m _ below meth c H locs 0 0 _ (F0 m 11 ls (.int (iI 0) :: []))
      have hb3 : ¬ (0 ≤ x2 ∧ x2 ≤ 3) := hb3
      have hP : va_P g.1 vwCl [(hm, .inr (9, mF a i)), ((a 33), aI (g.2.1 0) 4 fl), ((a 34), aI (g.2.1 0) 4 fz), ((a 35), aI (g.2.1 0) 160 fi), ((a 36), aI (g.2.1 0) 40 fm)] H := hP
      have hD : va_D A [(hm, .inr (9, mF a i)), ((a 33), aI (g.2.1 0) 4 fl), ((a 34), aI (g.2.1 0) 4 fz), ((a 35), aI (g.2.1 0) 160 fi), ((a 36), aI (g.2.1 0) 40 fm)] := hD
      refine iv_if_ne (tgt := 16) hx hb dX9_copy_11 (by decide) (by decide) (fun h => absurd h (by decide)) (fun _ => ?_)
      refine lv_iconst (v := iI (-1)) hx hb dX9_copy_14 rfl ?_
      exact Ct.iret hx hb hr hlocks (hP.sub [0, 1, 2, 3, 4] rfl) (hD.sub [0, 1, 2, 3, 4] (by decide) rfl) hS ⟨by decide, by decide⟩ dX9_copy_15 ⟨(-1), fi, fm, rfl, rfl, (by (repeat' split) <;> first | rfl | omega | (exfalso; omega)), (fun h => absurd h (by omega)), (fun _ => rfl)⟩
  · show W p l e _ s m _ below meth c H locs 0 0 _ (F0 m 4 ls (.int (iI 0) :: []))
    have hb1 : ¬ (0 ≤ x ∧ x ≤ 3) := hb1
    have hP : va_P g.1 vwCl [(hm, .inr (9, mF a i)), ((a 33), aI (g.2.1 0) 4 fl), ((a 34), aI (g.2.1 0) 4 fz), ((a 35), aI (g.2.1 0) 160 fi), ((a 36), aI (g.2.1 0) 40 fm)] H := hP
    have hD : va_D A [(hm, .inr (9, mF a i)), ((a 33), aI (g.2.1 0) 4 fl), ((a 34), aI (g.2.1 0) 4 fz), ((a 35), aI (g.2.1 0) 160 fi), ((a 36), aI (g.2.1 0) 40 fm)] := hD
    refine iv_if_eq (tgt := 14) hx hb dX9_copy_4 (by decide) (by decide) (fun _ => ?_) (fun h => absurd h (by decide))
    refine lv_iconst (v := iI (-1)) hx hb dX9_copy_14 rfl ?_
    exact Ct.iret hx hb hr hlocks (hP.sub [0, 1, 2, 3, 4] rfl) (hD.sub [0, 1, 2, 3, 4] (by decide) rfl) hS ⟨by decide, by decide⟩ dX9_copy_15 ⟨(-1), fi, fm, rfl, rfl, (by (repeat' split) <;> first | rfl | omega | (exfalso; omega)), (fun h => absurd h (by omega)), (fun _ => rfl)⟩
