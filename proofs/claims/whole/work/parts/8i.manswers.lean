theorem kX9_answers_9 : ∀ w ∈ u_ws RX9 TX9 37, w ∈ wsX9_answers := fun _ h => List.mem_cons_of_mem _ (List.mem_append_right _ h)
abbrev q_X9_answers (g : GT) (hm : Nat) (a : Nat → Nat) (i : Nat → Int) (qm : Nat → Int) (qu : Nat → Int) (ql : Nat → Int) (qg : Nat → Int) (qa : Nat → Int) (fl : Nat → Int) (fz : Nat → Int) (fi : Nat → Int) (x : Int) (xs : Int) (lane : Int) (x2 : Int) (n : Int) : Option Value → va_W → Prop := fun v w => ∃ (r : Int), ∃ (qm' : Nat → Int), ∃ (qu' : Nat → Int), ∃ (ql' : Nat → Int), ∃ (qg' : Nat → Int), ∃ (qa' : Nat → Int), v = some (.int (iI r)) ∧ w = [(hm, .inr (9, mF a i)), ((a 6), aI (g.2.1 0) 12 qm'), ((a 7), aI (g.2.1 0) 480 qu'), ((a 8), aI (g.2.1 0) 480 ql'), ((a 9), aI (g.2.1 0) 480 qg'), ((a 10), aI (g.2.1 1) 480 qa'), ((a 33), aI (g.2.1 0) 4 fl), ((a 34), aI (g.2.1 0) 4 fz), ((a 35), aI (g.2.1 0) 160 fi)] ∧ (r = (if ((0 ≤ x ∧ x < i 5) ∧ 0 ≤ xs ∧ xs ≤ 3) then ansM (qm x.toNat) (fl xs.toNat) (fz xs.toNat) lane x2 n (fun j => fi (40 * xs.toNat + x2.toNat + j)) else -1)) ∧ (r < 0 → qm' = qm ∧ qu' = qu ∧ ql' = ql ∧ qg' = qg ∧ qa' = qa) ∧ (0 ≤ r → ((0 ≤ x ∧ x < i 5) ∧ 0 ≤ xs ∧ xs ≤ 3) ∧ 0 ≤ n ∧ qm x.toNat + n ≤ 40 ∧ avF (fun j => fi (40 * xs.toNat + x2.toNat + j)) n.toNat 0 = 1 ∧ (qm' x.toNat = qm x.toNat + n ∧ ∀ j, ¬ j = x.toNat → qm' j = qm j) ∧ (∀ e, e < n.toNat → qu' (40 * x.toNat + (qm x.toNat).toNat + e) = (fun j => fi (40 * xs.toNat + x2.toNat + j)) (3 * e) ∧ ql' (40 * x.toNat + (qm x.toNat).toNat + e) = (fun j => fi (40 * xs.toNat + x2.toNat + j)) (3 * e + 1) ∧ qg' (40 * x.toNat + (qm x.toNat).toNat + e) = (fun j => fi (40 * xs.toNat + x2.toNat + j)) (3 * e + 2) ∧ qa' (40 * x.toNat + (qm x.toNat).toNat + e) = 0) ∧ ∀ k, (k < (40 * x.toNat + (qm x.toNat).toNat + 0) ∨ (40 * x.toNat + (qm x.toNat).toNat + n.toNat) ≤ k) → qu' k = qu k ∧ ql' k = ql k ∧ qg' k = qg k ∧ qa' k = qa k)
set_option maxHeartbeats 4000000 in
set_option maxRecDepth 100000 in
theorem c_X9_answers (l : Launch) (g : GT) (hm : Nat) (a : Nat → Nat) (i : Nat → Int) (qm : Nat → Int) (qu : Nat → Int) (ql : Nat → Int) (qg : Nat → Int) (qa : Nat → Int) (fl : Nat → Int) (fz : Nat → Int) (fi : Nat → Int) (x : Int) (xs : Int) (lane : Int) (x2 : Int) (n : Int) (h1 : (-2147483648 ≤ x ∧ x < 2147483648) ∧ (-2147483648 ≤ xs ∧ xs < 2147483648) ∧ (-2147483648 ≤ lane ∧ lane < 2147483648) ∧ (-2147483648 ≤ x2 ∧ x2 < 2147483648) ∧ (-2147483648 ≤ n ∧ n < 2147483648)) (h5 : 0 ≤ i 5 ∧ i 5 ≤ 12) (hm_ : ∀ j, j < 12 → 0 ≤ qm j ∧ qm j ≤ 40) (hL : ∀ j, j < 4 → -1 ≤ fl j ∧ fl j ≤ 2 ∧ 0 ≤ fz j ∧ fz j ≤ 40) (h9 : ∀ j, j < 160 → -2147483648 ≤ fi j ∧ fi j < 2147483648) : Ct l g yX9_answers wsX9_answers ({ frames := 2, cells := 0, slots := 0, locals := 46 } : Room) [.ref hm, .int (iI x), .int (iI xs), .int (iI lane), .int (iI x2), .int (iI n)] [(hm, .inr (9, mF a i)), ((a 6), aI (g.2.1 0) 12 qm), ((a 7), aI (g.2.1 0) 480 qu), ((a 8), aI (g.2.1 0) 480 ql), ((a 9), aI (g.2.1 0) 480 qg), ((a 10), aI (g.2.1 1) 480 qa), ((a 33), aI (g.2.1 0) 4 fl), ((a 34), aI (g.2.1 0) 4 fz), ((a 35), aI (g.2.1 0) 160 fi)] (q_X9_answers g hm a i qm qu ql qg qa fl fz fi x xs lane x2 n) := by
  refine Ct.intro (maxL := 9) (ret := (some .int)) (by decide) rfl (Nat.le_of_ble_eq_true rfl) ?_
  intro p e s m below meth c A ls hx hb hr hml hown hts hlocks hnm hA hG hP hD hS hl
  have hown : s.vm.findClass RX9 = some m.cls := hown
  have hl : lv_has ls 9 [(0, .ref hm), (1, .int (iI x)), (2, .int (iI xs)), (3, .int (iI lane)), (4, .int (iI x2)), (5, .int (iI n))] := hl
  have hP : va_P g.1 vwCl [(hm, .inr (9, mF a i)), ((a 6), aI (g.2.1 0) 12 qm), ((a 7), aI (g.2.1 0) 480 qu), ((a 8), aI (g.2.1 0) 480 ql), ((a 9), aI (g.2.1 0) 480 qg), ((a 10), aI (g.2.1 1) 480 qa), ((a 33), aI (g.2.1 0) 4 fl), ((a 34), aI (g.2.1 0) 4 fz), ((a 35), aI (g.2.1 0) 160 fi)] s.heap := hP
  have hS : va_S A s.heap s.heap [] := hS
  obtain ⟨H, hHe⟩ : ∃ H : Heap, H = s.heap := ⟨_, rfl⟩
  obtain ⟨locs, hLe⟩ : ∃ L : List Loc, L = [] := ⟨_, rfl⟩
  have hP : va_P g.1 vwCl [(hm, .inr (9, mF a i)), ((a 6), aI (g.2.1 0) 12 qm), ((a 7), aI (g.2.1 0) 480 qu), ((a 8), aI (g.2.1 0) 480 ql), ((a 9), aI (g.2.1 0) 480 qg), ((a 10), aI (g.2.1 1) 480 qa), ((a 33), aI (g.2.1 0) 4 fl), ((a 34), aI (g.2.1 0) 4 fz), ((a 35), aI (g.2.1 0) 160 fi)] H := by rw [hHe]; exact hP
  have hS : va_S A s.heap H locs := by rw [hHe, hLe]; exact hS
  suffices hgo : W p l e ({ frames := 2, cells := 0, slots := 0, locals := 46 } : Room) s m [.ref hm, .int (iI x), .int (iI xs), .int (iI lane), .int (iI x2), .int (iI n)].toArray below meth c H locs 0 0 (MQ below (CQ g (q_X9_answers g hm a i qm qu ql qg qa fl fz fi x xs lane x2 n) A) [.ref hm, .int (iI x), .int (iI xs), .int (iI lane), .int (iI x2), .int (iI n)].toArray s ({ frames := 2, cells := 0, slots := 0, locals := 46 } : Room).cells ({ frames := 2, cells := 0, slots := 0, locals := 46 } : Room).slots A) (F0 m 0 ls []) by rw [hHe, hLe] at hgo; exact hgo
  clear hHe hLe
  refine lv_aload_n hx hb dX9_answers_0 rfl (lv_at hl 0 rfl) ?_
  refine lv_iload_n hx hb dX9_answers_1 rfl (lv_at hl 1 rfl) ?_
  refine Ct.callV (ci := 9) (q0 := 0) (qc := (RX9, TX9, 37)) (As := [.int (iI x)]) (rest := []) (wr := [((a 6), aI (g.2.1 0) 12 qm), ((a 7), aI (g.2.1 0) 480 qu), ((a 8), aI (g.2.1 0) 480 ql), ((a 9), aI (g.2.1 0) 480 qg), ((a 10), aI (g.2.1 1) 480 qa), ((a 33), aI (g.2.1 0) 4 fl), ((a 34), aI (g.2.1 0) 4 fz), ((a 35), aI (g.2.1 0) 160 fi)]) (c1 := 0) (s1 := 0) ⟨hx, hb, hml, hown, hts⟩ (c_X9_isLearner l g hm a i x (by omega)) rfl rfl (cwV 1 hts gX9_answers_X9_isLearner rfl rfl rfl (by decide +kernel) ⟨Nat.le_of_ble_eq_true rfl, Nat.le_of_ble_eq_true rfl⟩) hG hP hD hS hA [0] [1, 2, 3, 4, 5, 6, 7, 8] rfl rfl (by decide) (by decide) (by decide) rfl hl.1 rfl (Nat.le_of_ble_eq_true rfl) dX9_answers_2 ⟨Nat.le_of_ble_eq_true rfl, Nat.le_of_ble_eq_true rfl⟩ rfl rfl (fun v w H locs hv hP hD hS => ?_)
  obtain ⟨⟨rfl, hb1⟩ | ⟨rfl, hb1⟩, rfl⟩ := hv
  · show W p l e _ s m _ below meth c H locs 0 0 _ (F0 m 5 ls (.int (iI 1) :: []))
    have hb1 : 0 ≤ x ∧ x < i 5 := hb1
    have hP : va_P g.1 vwCl [((a 6), aI (g.2.1 0) 12 qm), ((a 7), aI (g.2.1 0) 480 qu), ((a 8), aI (g.2.1 0) 480 ql), ((a 9), aI (g.2.1 0) 480 qg), ((a 10), aI (g.2.1 1) 480 qa), ((a 33), aI (g.2.1 0) 4 fl), ((a 34), aI (g.2.1 0) 4 fz), ((a 35), aI (g.2.1 0) 160 fi), (hm, .inr (9, mF a i))] H := hP
    have hD : va_D A [((a 6), aI (g.2.1 0) 12 qm), ((a 7), aI (g.2.1 0) 480 qu), ((a 8), aI (g.2.1 0) 480 ql), ((a 9), aI (g.2.1 0) 480 qg), ((a 10), aI (g.2.1 1) 480 qa), ((a 33), aI (g.2.1 0) 4 fl), ((a 34), aI (g.2.1 0) 4 fz), ((a 35), aI (g.2.1 0) 160 fi), (hm, .inr (9, mF a i))] := hD
    refine iv_if_eq (tgt := 35) hx hb dX9_answers_5 (by decide) (by decide) (fun h => absurd h (by decide)) (fun _ => ?_)
    refine lv_iload_n hx hb dX9_answers_8 rfl (lv_at hl 2 rfl) ?_
    refine Ct.callS (As := [.int (iI xs)]) (rest := []) (wr := [((a 6), aI (g.2.1 0) 12 qm), ((a 7), aI (g.2.1 0) 480 qu), ((a 8), aI (g.2.1 0) 480 ql), ((a 9), aI (g.2.1 0) 480 qg), ((a 10), aI (g.2.1 1) 480 qa), ((a 33), aI (g.2.1 0) 4 fl), ((a 34), aI (g.2.1 0) 4 fz), ((a 35), aI (g.2.1 0) 160 fi), (hm, .inr (9, mF a i))]) (c1 := 0) (s1 := 0) ⟨hx, hb, hml, hown, hts⟩ (c_X9_isSheet l g xs (by omega)) (va_cwS 1 hts gX9_answers_X9_isSheet rfl rfl rfl (by decide +kernel) ⟨Nat.le_of_ble_eq_true rfl, Nat.le_of_ble_eq_true rfl⟩) hG hP hD hS hA [] [0, 1, 2, 3, 4, 5, 6, 7, 8] rfl rfl (by decide) (by decide) (by decide) rfl hl.1 rfl (Nat.le_of_ble_eq_true rfl) dX9_answers_9 ⟨Nat.le_of_ble_eq_true rfl, Nat.le_of_ble_eq_true rfl⟩ rfl rfl (fun v w H locs hv hP hD hS => ?_)
    obtain ⟨⟨rfl, hb3⟩ | ⟨rfl, hb3⟩, rfl⟩ := hv
    · show W p l e _ s m _ below meth c H locs 0 0 _ (F0 m 12 ls (.int (iI 1) :: []))
      have hb3 : 0 ≤ xs ∧ xs ≤ 3 := hb3
      have hP : va_P g.1 vwCl [((a 6), aI (g.2.1 0) 12 qm), ((a 7), aI (g.2.1 0) 480 qu), ((a 8), aI (g.2.1 0) 480 ql), ((a 9), aI (g.2.1 0) 480 qg), ((a 10), aI (g.2.1 1) 480 qa), ((a 33), aI (g.2.1 0) 4 fl), ((a 34), aI (g.2.1 0) 4 fz), ((a 35), aI (g.2.1 0) 160 fi), (hm, .inr (9, mF a i))] H := hP
      have hD : va_D A [((a 6), aI (g.2.1 0) 12 qm), ((a 7), aI (g.2.1 0) 480 qu), ((a 8), aI (g.2.1 0) 480 ql), ((a 9), aI (g.2.1 0) 480 qg), ((a 10), aI (g.2.1 1) 480 qa), ((a 33), aI (g.2.1 0) 4 fl), ((a 34), aI (g.2.1 0) 4 fz), ((a 35), aI (g.2.1 0) 160 fi), (hm, .inr (9, mF a i))] := hD
      refine iv_if_eq (tgt := 35) hx hb dX9_answers_12 (by decide) (by decide) (fun h => absurd h (by decide)) (fun _ => ?_)
      refine lv_iload_n hx hb dX9_answers_15 rfl (lv_at hl 3 rfl) ?_
      refine Ct.callS (As := [.int (iI lane)]) (rest := []) (wr := [((a 6), aI (g.2.1 0) 12 qm), ((a 7), aI (g.2.1 0) 480 qu), ((a 8), aI (g.2.1 0) 480 ql), ((a 9), aI (g.2.1 0) 480 qg), ((a 10), aI (g.2.1 1) 480 qa), ((a 33), aI (g.2.1 0) 4 fl), ((a 34), aI (g.2.1 0) 4 fz), ((a 35), aI (g.2.1 0) 160 fi), (hm, .inr (9, mF a i))]) (c1 := 0) (s1 := 0) ⟨hx, hb, hml, hown, hts⟩ (c_X9_isLane l g lane (by omega)) (va_cwS 1 hts gX9_answers_X9_isLane rfl rfl rfl (by decide +kernel) ⟨Nat.le_of_ble_eq_true rfl, Nat.le_of_ble_eq_true rfl⟩) hG hP hD hS hA [] [0, 1, 2, 3, 4, 5, 6, 7, 8] rfl rfl (by decide) (by decide) (by decide) rfl hl.1 rfl (Nat.le_of_ble_eq_true rfl) dX9_answers_16 ⟨Nat.le_of_ble_eq_true rfl, Nat.le_of_ble_eq_true rfl⟩ rfl rfl (fun v w H locs hv hP hD hS => ?_)
      obtain ⟨⟨rfl, hb5⟩ | ⟨rfl, hb5⟩, rfl⟩ := hv
      · show W p l e _ s m _ below meth c H locs 0 0 _ (F0 m 19 ls (.int (iI 1) :: []))
        have hb5 : 0 ≤ lane ∧ lane ≤ 2 := hb5
        have hP : va_P g.1 vwCl [((a 6), aI (g.2.1 0) 12 qm), ((a 7), aI (g.2.1 0) 480 qu), ((a 8), aI (g.2.1 0) 480 ql), ((a 9), aI (g.2.1 0) 480 qg), ((a 10), aI (g.2.1 1) 480 qa), ((a 33), aI (g.2.1 0) 4 fl), ((a 34), aI (g.2.1 0) 4 fz), ((a 35), aI (g.2.1 0) 160 fi), (hm, .inr (9, mF a i))] H := hP
        have hD : va_D A [((a 6), aI (g.2.1 0) 12 qm), ((a 7), aI (g.2.1 0) 480 qu), ((a 8), aI (g.2.1 0) 480 ql), ((a 9), aI (g.2.1 0) 480 qg), ((a 10), aI (g.2.1 1) 480 qa), ((a 33), aI (g.2.1 0) 4 fl), ((a 34), aI (g.2.1 0) 4 fz), ((a 35), aI (g.2.1 0) 160 fi), (hm, .inr (9, mF a i))] := hD
        refine iv_if_eq (tgt := 35) hx hb dX9_answers_19 (by decide) (by decide) (fun h => absurd h (by decide)) (fun _ => ?_)
        refine lv_iload hx hb dX9_answers_22 (lv_at hl 5 rfl) ?_
        refine iv_i2l hx hb dX9_answers_24 (by omega) ?_
        refine lv_lconst (v := lI (0)) hx hb dX9_answers_25 (by decide) ?_
        refine iv_ldc2 (v := 13) (z := 13) hx hb hown (hts _ (List.mem_of_getElem? (i := 1) rfl)) dX9_answers_26 (by decide) ?_
        refine Ct.callS (As := [.long (lI n), .long (lI 0), .long (lI 13)]) (rest := []) (wr := [((a 6), aI (g.2.1 0) 12 qm), ((a 7), aI (g.2.1 0) 480 qu), ((a 8), aI (g.2.1 0) 480 ql), ((a 9), aI (g.2.1 0) 480 qg), ((a 10), aI (g.2.1 1) 480 qa), ((a 33), aI (g.2.1 0) 4 fl), ((a 34), aI (g.2.1 0) 4 fz), ((a 35), aI (g.2.1 0) 160 fi), (hm, .inr (9, mF a i))]) (c1 := 0) (s1 := 0) ⟨hx, hb, hml, hown, hts⟩ (c_X9_in l g n 0 13 (by omega)) (va_cwS 3 hts gX9_answers_X9_in rfl rfl rfl (by decide +kernel) ⟨Nat.le_of_ble_eq_true rfl, Nat.le_of_ble_eq_true rfl⟩) hG hP hD hS hA [] [0, 1, 2, 3, 4, 5, 6, 7, 8] rfl rfl (by decide) (by decide) (by decide) rfl hl.1 rfl (Nat.le_of_ble_eq_true rfl) dX9_answers_29 ⟨Nat.le_of_ble_eq_true rfl, Nat.le_of_ble_eq_true rfl⟩ rfl rfl (fun v w H locs hv hP hD hS => ?_)
        obtain ⟨⟨rfl, hb7⟩ | ⟨rfl, hb7⟩, rfl⟩ := hv
        · show W p l e _ s m _ below meth c H locs 0 0 _ (F0 m 32 ls (.int (iI 1) :: []))
          have hb7 : 0 ≤ n ∧ n ≤ 13 := hb7
          have hP : va_P g.1 vwCl [((a 6), aI (g.2.1 0) 12 qm), ((a 7), aI (g.2.1 0) 480 qu), ((a 8), aI (g.2.1 0) 480 ql), ((a 9), aI (g.2.1 0) 480 qg), ((a 10), aI (g.2.1 1) 480 qa), ((a 33), aI (g.2.1 0) 4 fl), ((a 34), aI (g.2.1 0) 4 fz), ((a 35), aI (g.2.1 0) 160 fi), (hm, .inr (9, mF a i))] H := hP
          have hD : va_D A [((a 6), aI (g.2.1 0) 12 qm), ((a 7), aI (g.2.1 0) 480 qu), ((a 8), aI (g.2.1 0) 480 ql), ((a 9), aI (g.2.1 0) 480 qg), ((a 10), aI (g.2.1 1) 480 qa), ((a 33), aI (g.2.1 0) 4 fl), ((a 34), aI (g.2.1 0) 4 fz), ((a 35), aI (g.2.1 0) 160 fi), (hm, .inr (9, mF a i))] := hD
          refine iv_if_ne (tgt := 37) hx hb dX9_answers_32 (by decide) (by decide) (fun _ => ?_) (fun h => absurd h (by decide))
          have hq := hm_ x.toNat (by omega)
          have hk := hL xs.toNat (by omega)
          refine lv_aload_n hx hb dX9_answers_37 rfl (lv_at hl 0 rfl) ?_
          refine lv_iload_n hx hb dX9_answers_38 rfl (lv_at hl 2 rfl) ?_
          refine lv_iload_n hx hb dX9_answers_39 rfl (lv_at hl 3 rfl) ?_
          refine lv_iload hx hb dX9_answers_40 (lv_at hl 4 rfl) ?_
          refine lv_iconst (v := iI (3)) hx hb dX9_answers_42 rfl ?_
          refine lv_iload hx hb dX9_answers_43 (lv_at hl 5 rfl) ?_
          refine iv_imul hx hb dX9_answers_45 ?_
          refine Ct.callV (ci := 9) (q0 := 8) (qc := (RX9, TX9, 37)) (As := [.int (iI xs), .int (iI lane), .int (iI x2), .int (iI (3 * n))]) (rest := []) (wr := [((a 6), aI (g.2.1 0) 12 qm), ((a 7), aI (g.2.1 0) 480 qu), ((a 8), aI (g.2.1 0) 480 ql), ((a 9), aI (g.2.1 0) 480 qg), ((a 10), aI (g.2.1 1) 480 qa), ((a 35), aI (g.2.1 0) 160 fi)]) (c1 := 0) (s1 := 0) ⟨hx, hb, hml, hown, hts⟩ (c_X9_finds l g hm a i fl fz xs lane x2 (3 * n) xs.toNat (by omega) (hL)) rfl rfl (cwV 4 hts gX9_answers_X9_finds rfl rfl rfl (by decide +kernel) ⟨Nat.le_of_ble_eq_true rfl, Nat.le_of_ble_eq_true rfl⟩) hG hP hD hS hA [8, 5, 6] [0, 1, 2, 3, 4, 7] rfl rfl (by decide) (by decide) (by decide) rfl hl.1 rfl (Nat.le_of_ble_eq_true rfl) dX9_answers_46 ⟨Nat.le_of_ble_eq_true rfl, Nat.le_of_ble_eq_true rfl⟩ rfl rfl (fun v w H locs hv hP hD hS => ?_)
          obtain ⟨r9, rfl, rfl, hf10⟩ := hv
          show W p l e _ s m _ below meth c H locs 0 0 _ (F0 m 49 ls (.int (iI r9) :: []))
          have hP : va_P g.1 vwCl [((a 6), aI (g.2.1 0) 12 qm), ((a 7), aI (g.2.1 0) 480 qu), ((a 8), aI (g.2.1 0) 480 ql), ((a 9), aI (g.2.1 0) 480 qg), ((a 10), aI (g.2.1 1) 480 qa), ((a 35), aI (g.2.1 0) 160 fi), (hm, .inr (9, mF a i)), ((a 33), aI (g.2.1 0) 4 fl), ((a 34), aI (g.2.1 0) 4 fz)] H := hP
          have hD : va_D A [((a 6), aI (g.2.1 0) 12 qm), ((a 7), aI (g.2.1 0) 480 qu), ((a 8), aI (g.2.1 0) 480 ql), ((a 9), aI (g.2.1 0) 480 qg), ((a 10), aI (g.2.1 1) 480 qa), ((a 35), aI (g.2.1 0) 160 fi), (hm, .inr (9, mF a i)), ((a 33), aI (g.2.1 0) 4 fl), ((a 34), aI (g.2.1 0) 4 fz)] := hD
          have hf10 : r9 = findS (fl xs.toNat) (fz xs.toNat) lane x2 (3 * n) := hf10
          have hrf : findS (fl xs.toNat) (fz xs.toNat) lane x2 (3 * n) = -11 ∨ findS (fl xs.toNat) (fz xs.toNat) lane x2 (3 * n) = -12 ∨ findS (fl xs.toNat) (fz xs.toNat) lane x2 (3 * n) = -13 ∨ (findS (fl xs.toNat) (fz xs.toNat) lane x2 (3 * n) = 0 ∧ 0 ≤ x2 ∧ x2 + 3 * n ≤ 40) := by unfold findS; (repeat' split) <;> omega
          refine lv_istore (lv' := [(6, .int (iI r9)), (0, .ref hm), (1, .int (iI x)), (2, .int (iI xs)), (3, .int (iI lane)), (4, .int (iI x2)), (5, .int (iI n))]) hx hb dX9_answers_49 hl (by decide) rfl (fun ls hl => ?_)
          refine lv_iload hx hb dX9_answers_51 (lv_at hl 0 rfl) ?_
          refine iv_if_ge (tgt := 59) hx hb dX9_answers_53 (by decide) (by omega) (fun hc11 => ?_) (fun hc11 => ?_)
          · refine lv_bipush (v := iI (40)) hx hb dX9_answers_59 (by decide) ?_
            refine lv_iload_n hx hb dX9_answers_61 rfl (lv_at hl 3 rfl) ?_
            refine iv_imul hx hb dX9_answers_62 ?_
            refine lv_iload hx hb dX9_answers_63 (lv_at hl 5 rfl) ?_
            refine iv_iadd hx hb dX9_answers_65 ?_
            refine lv_istore (lv' := [(7, .int (iI ((40 * xs) + x2))), (6, .int (iI r9)), (0, .ref hm), (1, .int (iI x)), (2, .int (iI xs)), (3, .int (iI lane)), (4, .int (iI x2)), (5, .int (iI n))]) hx hb dX9_answers_66 hl (by decide) rfl (fun ls hl => ?_)
            refine lv_iconst (v := iI (0)) hx hb dX9_answers_68 rfl ?_
            refine lv_istore (lv' := [(8, .int (iI 0)), (7, .int (iI ((40 * xs) + x2))), (6, .int (iI r9)), (0, .ref hm), (1, .int (iI x)), (2, .int (iI xs)), (3, .int (iI lane)), (4, .int (iI x2)), (5, .int (iI n))]) hx hb dX9_answers_69 hl (by decide) rfl (fun ls hl => ?_)
            have hloop71 : ∀ (fuel : Nat) (ze : Int) (e9 : Nat) (hc : ze = (e9 : Int) ∧ ze ≤ n) (hav : avF (fun j => fi (40 * xs.toNat + x2.toNat + j)) (n.toNat - e9) e9 = avF (fun j => fi (40 * xs.toNat + x2.toNat + j)) n.toNat 0) (hmeas : n.toNat - e9 < fuel), ∀ (H : Heap) (locs : List Loc) (ls : Array Slot), va_P g.1 vwCl [((a 6), aI (g.2.1 0) 12 qm), ((a 7), aI (g.2.1 0) 480 qu), ((a 8), aI (g.2.1 0) 480 ql), ((a 9), aI (g.2.1 0) 480 qg), ((a 10), aI (g.2.1 1) 480 qa), ((a 35), aI (g.2.1 0) 160 fi), (hm, .inr (9, mF a i)), ((a 33), aI (g.2.1 0) 4 fl), ((a 34), aI (g.2.1 0) 4 fz)] H → va_D A [((a 6), aI (g.2.1 0) 12 qm), ((a 7), aI (g.2.1 0) 480 qu), ((a 8), aI (g.2.1 0) 480 ql), ((a 9), aI (g.2.1 0) 480 qg), ((a 10), aI (g.2.1 1) 480 qa), ((a 35), aI (g.2.1 0) 160 fi), (hm, .inr (9, mF a i)), ((a 33), aI (g.2.1 0) 4 fl), ((a 34), aI (g.2.1 0) 4 fz)] → va_S A s.heap H locs → lv_has ls 9 [(8, .int (iI ze)), (7, .int (iI ((40 * xs) + x2))), (6, .int (iI r9)), (0, .ref hm), (1, .int (iI x)), (2, .int (iI xs)), (3, .int (iI lane)), (4, .int (iI x2)), (5, .int (iI n))] → W p l e ({ frames := 2, cells := 0, slots := 0, locals := 46 } : Room) s m [.ref hm, .int (iI x), .int (iI xs), .int (iI lane), .int (iI x2), .int (iI n)].toArray below meth c H locs 0 0 (MQ below (CQ g (q_X9_answers g hm a i qm qu ql qg qa fl fz fi x xs lane x2 n) A) [.ref hm, .int (iI x), .int (iI xs), .int (iI lane), .int (iI x2), .int (iI n)].toArray s ({ frames := 2, cells := 0, slots := 0, locals := 46 } : Room).cells ({ frames := 2, cells := 0, slots := 0, locals := 46 } : Room).slots A) (F0 m 71 ls []) := by
              intro fuel
              induction fuel with
              | zero => intro ze e9 hc hav hmeas; exact absurd hmeas (Nat.not_lt_zero _)
              | succ fuel ih71 =>
                intro ze e9 hc hav hmeas H locs ls hP hD hS hl
                refine lv_iload hx hb dX9_answers_71 (lv_at hl 0 rfl) ?_
                refine lv_iload hx hb dX9_answers_73 (lv_at hl 8 rfl) ?_
                refine iv_icmp_ge (tgt := 144) hx hb dX9_answers_75 (by decide) (by omega) (fun hc12 => ?_) (fun hc12 => ?_)
                · have hall : avF (fun j => fi (40 * xs.toNat + x2.toNat + j)) n.toNat 0 = 1 := by rw [← hav, show n.toNat - e9 = 0 from by omega]; rfl
                  refine lv_aload_n hx hb dX9_answers_144 rfl (lv_at hl 3 rfl) ?_
                  refine va_get (D := g.1) (ci := 9) (v := .ref (a 6)) hx hb hts kX9_answers_9 hown hG.1 hP 6 rfl rfl 6 (by decide) (hts _ (List.mem_of_getElem? (i := 4) rfl)) (fun _ h9 => h9) rfl dX9_answers_145 ?_
                  refine lv_iload_n hx hb dX9_answers_148 rfl (lv_at hl 4 rfl) ?_
                  refine iv_iald hx hb hG hP 0 rfl x.toNat (by omega) (by omega) (by decide) dX9_answers_149 ?_
                  refine lv_iload hx hb dX9_answers_150 (lv_at hl 8 rfl) ?_
                  refine iv_iadd hx hb dX9_answers_152 ?_
                  refine lv_bipush (v := iI (40)) hx hb dX9_answers_153 (by decide) ?_
                  refine iv_icmp_le (tgt := 161) hx hb dX9_answers_155 (by decide) (by omega) (fun hc13 => ?_) (fun hc13 => ?_)
                  · refine lv_iconst (v := iI (0)) hx hb dX9_answers_161 rfl ?_
                    refine lv_istore (lv' := [(8, .int (iI 0)), (7, .int (iI ((40 * xs) + x2))), (6, .int (iI r9)), (0, .ref hm), (1, .int (iI x)), (2, .int (iI xs)), (3, .int (iI lane)), (4, .int (iI x2)), (5, .int (iI n))]) hx hb dX9_answers_162 hl (by decide) rfl (fun ls hl => ?_)
                    have hloop164 : ∀ (fuel : Nat) (ze : Int) (gm : Nat → Int) (gu : Nat → Int) (gl : Nat → Int) (gg : Nat → Int) (ga : Nat → Int) (e9 : Nat) (hc : ze = (e9 : Int) ∧ ze ≤ n ∧ gm x.toNat = qm x.toNat + ze) (hI0 : ∀ j, ¬ j = x.toNat → gm j = qm j) (hI1 : ∀ e, e < e9 → gu (40 * x.toNat + (qm x.toNat).toNat + e) = (fun j => fi (40 * xs.toNat + x2.toNat + j)) (3 * e) ∧ gl (40 * x.toNat + (qm x.toNat).toNat + e) = (fun j => fi (40 * xs.toNat + x2.toNat + j)) (3 * e + 1) ∧ gg (40 * x.toNat + (qm x.toNat).toNat + e) = (fun j => fi (40 * xs.toNat + x2.toNat + j)) (3 * e + 2) ∧ ga (40 * x.toNat + (qm x.toNat).toNat + e) = 0) (hI2 : ∀ k, (k < (40 * x.toNat + (qm x.toNat).toNat + 0) ∨ (40 * x.toNat + (qm x.toNat).toNat + e9) ≤ k) → gu k = qu k ∧ gl k = ql k ∧ gg k = qg k ∧ ga k = qa k) (hmeas : n.toNat - e9 < fuel), ∀ (H : Heap) (locs : List Loc) (ls : Array Slot), va_P g.1 vwCl [((a 6), aI (g.2.1 0) 12 gm), ((a 7), aI (g.2.1 0) 480 gu), ((a 8), aI (g.2.1 0) 480 gl), ((a 9), aI (g.2.1 0) 480 gg), ((a 10), aI (g.2.1 1) 480 ga), ((a 35), aI (g.2.1 0) 160 fi), (hm, .inr (9, mF a i)), ((a 33), aI (g.2.1 0) 4 fl), ((a 34), aI (g.2.1 0) 4 fz)] H → va_D A [((a 6), aI (g.2.1 0) 12 gm), ((a 7), aI (g.2.1 0) 480 gu), ((a 8), aI (g.2.1 0) 480 gl), ((a 9), aI (g.2.1 0) 480 gg), ((a 10), aI (g.2.1 1) 480 ga), ((a 35), aI (g.2.1 0) 160 fi), (hm, .inr (9, mF a i)), ((a 33), aI (g.2.1 0) 4 fl), ((a 34), aI (g.2.1 0) 4 fz)] → va_S A s.heap H locs → lv_has ls 9 [(8, .int (iI ze)), (7, .int (iI ((40 * xs) + x2))), (6, .int (iI r9)), (0, .ref hm), (1, .int (iI x)), (2, .int (iI xs)), (3, .int (iI lane)), (4, .int (iI x2)), (5, .int (iI n))] → W p l e ({ frames := 2, cells := 0, slots := 0, locals := 46 } : Room) s m [.ref hm, .int (iI x), .int (iI xs), .int (iI lane), .int (iI x2), .int (iI n)].toArray below meth c H locs 0 0 (MQ below (CQ g (q_X9_answers g hm a i qm qu ql qg qa fl fz fi x xs lane x2 n) A) [.ref hm, .int (iI x), .int (iI xs), .int (iI lane), .int (iI x2), .int (iI n)].toArray s ({ frames := 2, cells := 0, slots := 0, locals := 46 } : Room).cells ({ frames := 2, cells := 0, slots := 0, locals := 46 } : Room).slots A) (F0 m 164 ls []) := by
                      intro fuel
                      induction fuel with
                      | zero => intro ze gm gu gl gg ga e9 hc hI0 hI1 hI2 hmeas; exact absurd hmeas (Nat.not_lt_zero _)
                      | succ fuel ih164 =>
                        intro ze gm gu gl gg ga e9 hc hI0 hI1 hI2 hmeas H locs ls hP hD hS hl
                        refine lv_iload hx hb dX9_answers_164 (lv_at hl 0 rfl) ?_
                        refine lv_iload hx hb dX9_answers_166 (lv_at hl 8 rfl) ?_
                        refine iv_icmp_ge (tgt := 222) hx hb dX9_answers_168 (by decide) (by omega) (fun hc14 => ?_) (fun hc14 => ?_)
                        · refine lv_aload_n hx hb dX9_answers_222 rfl (lv_at hl 3 rfl) ?_
                          refine va_get (D := g.1) (ci := 9) (v := .ref (a 6)) hx hb hts kX9_answers_9 hown hG.1 hP 6 rfl rfl 6 (by decide) (hts _ (List.mem_of_getElem? (i := 4) rfl)) (fun _ h9 => h9) rfl dX9_answers_223 ?_
                          refine lv_iload_n hx hb dX9_answers_226 rfl (lv_at hl 4 rfl) ?_
                          refine iv_iald hx hb hG hP 0 rfl x.toNat (by omega) (by omega) (by decide) dX9_answers_227 ?_
                          exact Ct.iret hx hb hr hlocks (hP.sub [6, 0, 1, 2, 3, 4, 7, 8, 5] rfl) (hD.sub [6, 0, 1, 2, 3, 4, 7, 8, 5] (by decide) rfl) hS ⟨by decide, by decide⟩ dX9_answers_228 ⟨(gm x.toNat), gm, gu, gl, gg, ga, rfl, rfl, (by rw [if_pos (by omega)]; unfold ansM; rw [if_neg (by omega), if_neg (by omega), if_neg (by rw [hall]; omega), if_neg (by omega)]; omega), (fun h => absurd h (by omega)), (fun _ => by rw [← show e9 = n.toNat from by omega]; exact ⟨by omega, by omega, by omega, by rw [show e9 = n.toNat from by omega]; exact hall, ⟨by omega, hI0⟩, hI1, hI2⟩)⟩
                        · have hMe : 40 * x.toNat + (gm x.toNat).toNat = (40 * x.toNat + (qm x.toNat).toNat + e9) := by omega
                          refine lv_aload_n hx hb dX9_answers_171 rfl (lv_at hl 3 rfl) ?_
                          refine lv_iload_n hx hb dX9_answers_172 rfl (lv_at hl 4 rfl) ?_
                          refine lv_aload_n hx hb dX9_answers_173 rfl (lv_at hl 3 rfl) ?_
                          refine va_get (D := g.1) (ci := 9) (v := .ref (a 35)) hx hb hts kX9_answers_9 hown hG.1 hP 6 rfl rfl 35 (by decide) (hts _ (List.mem_of_getElem? (i := 2) rfl)) (fun _ h9 => h9) rfl dX9_answers_174 ?_
                          refine lv_iload hx hb dX9_answers_177 (lv_at hl 1 rfl) ?_
                          refine lv_iconst (v := iI (3)) hx hb dX9_answers_179 rfl ?_
                          refine lv_iload hx hb dX9_answers_180 (lv_at hl 0 rfl) ?_
                          refine iv_imul hx hb dX9_answers_182 ?_
                          refine iv_iadd hx hb dX9_answers_183 ?_
                          refine iv_iald hx hb hG hP 5 rfl (40 * xs.toNat + x2.toNat + 3 * e9) (by omega) (by omega) (by decide) dX9_answers_184 ?_
                          refine lv_aload_n hx hb dX9_answers_185 rfl (lv_at hl 3 rfl) ?_
                          refine va_get (D := g.1) (ci := 9) (v := .ref (a 35)) hx hb hts kX9_answers_9 hown hG.1 hP 6 rfl rfl 35 (by decide) (hts _ (List.mem_of_getElem? (i := 2) rfl)) (fun _ h9 => h9) rfl dX9_answers_186 ?_
                          refine lv_iload hx hb dX9_answers_189 (lv_at hl 1 rfl) ?_
                          refine lv_iconst (v := iI (3)) hx hb dX9_answers_191 rfl ?_
                          refine lv_iload hx hb dX9_answers_192 (lv_at hl 0 rfl) ?_
                          refine iv_imul hx hb dX9_answers_194 ?_
                          refine iv_iadd hx hb dX9_answers_195 ?_
                          refine lv_iconst (v := iI (1)) hx hb dX9_answers_196 rfl ?_
                          refine iv_iadd hx hb dX9_answers_197 ?_
                          refine iv_iald hx hb hG hP 5 rfl (40 * xs.toNat + x2.toNat + (3 * e9 + 1)) (by omega) (by omega) (by decide) dX9_answers_198 ?_
                          refine lv_aload_n hx hb dX9_answers_199 rfl (lv_at hl 3 rfl) ?_
                          refine va_get (D := g.1) (ci := 9) (v := .ref (a 35)) hx hb hts kX9_answers_9 hown hG.1 hP 6 rfl rfl 35 (by decide) (hts _ (List.mem_of_getElem? (i := 2) rfl)) (fun _ h9 => h9) rfl dX9_answers_200 ?_
                          refine lv_iload hx hb dX9_answers_203 (lv_at hl 1 rfl) ?_
                          refine lv_iconst (v := iI (3)) hx hb dX9_answers_205 rfl ?_
                          refine lv_iload hx hb dX9_answers_206 (lv_at hl 0 rfl) ?_
                          refine iv_imul hx hb dX9_answers_208 ?_
                          refine iv_iadd hx hb dX9_answers_209 ?_
                          refine lv_iconst (v := iI (2)) hx hb dX9_answers_210 rfl ?_
                          refine iv_iadd hx hb dX9_answers_211 ?_
                          refine iv_iald hx hb hG hP 5 rfl (40 * xs.toNat + x2.toNat + (3 * e9 + 2)) (by omega) (by omega) (by decide) dX9_answers_212 ?_
                          refine Ct.callV (ci := 9) (q0 := 6) (qc := (RX9, TX9, 37)) (As := [.int (iI x), .int (iI (fi (40 * xs.toNat + x2.toNat + 3 * e9))), .int (iI (fi (40 * xs.toNat + x2.toNat + (3 * e9 + 1)))), .int (iI (fi (40 * xs.toNat + x2.toNat + (3 * e9 + 2))))]) (rest := []) (wr := [((a 35), aI (g.2.1 0) 160 fi), ((a 33), aI (g.2.1 0) 4 fl), ((a 34), aI (g.2.1 0) 4 fz)]) (c1 := 0) (s1 := 0) ⟨hx, hb, hml, hown, hts⟩ (c_X9_puts l g hm a i gm gu gl gg ga x (fi (40 * xs.toNat + x2.toNat + 3 * e9)) (fi (40 * xs.toNat + x2.toNat + (3 * e9 + 1))) (fi (40 * xs.toNat + x2.toNat + (3 * e9 + 2))) x.toNat ((gm x.toNat).toNat) (by omega)) rfl rfl (cwV 4 hts gX9_answers_X9_puts rfl rfl rfl (by decide +kernel) ⟨Nat.le_of_ble_eq_true rfl, Nat.le_of_ble_eq_true rfl⟩) hG hP hD hS hA [6, 0, 1, 2, 3, 4] [5, 7, 8] rfl rfl (by decide) (by decide) (by decide) rfl hl.1 rfl (Nat.le_of_ble_eq_true rfl) dX9_answers_213 ⟨Nat.le_of_ble_eq_true rfl, Nat.le_of_ble_eq_true rfl⟩ rfl rfl (fun v w H locs hv hP hD hS => ?_)
                          obtain ⟨rfl, rfl⟩ := hv
                          show W p l e _ s m _ below meth c H locs 0 0 _ (F0 m 216 ls [])
                          have hP : va_P g.1 vwCl [((a 35), aI (g.2.1 0) 160 fi), ((a 33), aI (g.2.1 0) 4 fl), ((a 34), aI (g.2.1 0) 4 fz), (hm, .inr (9, mF a i)), ((a 6), aI (g.2.1 0) 12 (va_up gm x.toNat (gm x.toNat + 1))), ((a 7), aI (g.2.1 0) 480 (va_up gu (40 * x.toNat + ((gm x.toNat).toNat)) (fi (40 * xs.toNat + x2.toNat + 3 * e9)))), ((a 8), aI (g.2.1 0) 480 (va_up gl (40 * x.toNat + ((gm x.toNat).toNat)) (fi (40 * xs.toNat + x2.toNat + (3 * e9 + 1))))), ((a 9), aI (g.2.1 0) 480 (va_up gg (40 * x.toNat + ((gm x.toNat).toNat)) (fi (40 * xs.toNat + x2.toNat + (3 * e9 + 2))))), ((a 10), aI (g.2.1 1) 480 (va_up ga (40 * x.toNat + ((gm x.toNat).toNat)) 0))] H := hP
                          have hD : va_D A [((a 35), aI (g.2.1 0) 160 fi), ((a 33), aI (g.2.1 0) 4 fl), ((a 34), aI (g.2.1 0) 4 fz), (hm, .inr (9, mF a i)), ((a 6), aI (g.2.1 0) 12 (va_up gm x.toNat (gm x.toNat + 1))), ((a 7), aI (g.2.1 0) 480 (va_up gu (40 * x.toNat + ((gm x.toNat).toNat)) (fi (40 * xs.toNat + x2.toNat + 3 * e9)))), ((a 8), aI (g.2.1 0) 480 (va_up gl (40 * x.toNat + ((gm x.toNat).toNat)) (fi (40 * xs.toNat + x2.toNat + (3 * e9 + 1))))), ((a 9), aI (g.2.1 0) 480 (va_up gg (40 * x.toNat + ((gm x.toNat).toNat)) (fi (40 * xs.toNat + x2.toNat + (3 * e9 + 2))))), ((a 10), aI (g.2.1 1) 480 (va_up ga (40 * x.toNat + ((gm x.toNat).toNat)) 0))] := hD
                          refine iv_iinc (k := 0) (x := ze) (lv' := [(8, .int (iI (ze + 1))), (7, .int (iI ((40 * xs) + x2))), (6, .int (iI r9)), (0, .ref hm), (1, .int (iI x)), (2, .int (iI xs)), (3, .int (iI lane)), (4, .int (iI x2)), (5, .int (iI n))]) hx hb dX9_answers_216 hl rfl (by decide) rfl (fun ls hl => ?_)
                          refine lv_goto (tgt := 164) hx hb dX9_answers_219 (by decide) ?_
                          exact ih164 (ze + 1) (va_up gm x.toNat (gm x.toNat + 1)) (va_up gu (40 * x.toNat + ((gm x.toNat).toNat)) (fi (40 * xs.toNat + x2.toNat + 3 * e9))) (va_up gl (40 * x.toNat + ((gm x.toNat).toNat)) (fi (40 * xs.toNat + x2.toNat + (3 * e9 + 1)))) (va_up gg (40 * x.toNat + ((gm x.toNat).toNat)) (fi (40 * xs.toNat + x2.toNat + (3 * e9 + 2)))) (va_up ga (40 * x.toNat + ((gm x.toNat).toNat)) 0) (e9 + 1) (⟨by omega, by omega, by rw [up_s]; omega⟩) (fun j hj => by rw [up_n _ _ _ _ hj]; exact hI0 j hj) (fun e he => by rw [hMe]; exact if q : e = e9 then (by rw [q, up_s, up_s, up_s, up_s]; exact ⟨rfl, rfl, rfl, rfl⟩) else (by rw [up_n _ _ _ _ (by omega), up_n _ _ _ _ (by omega), up_n _ _ _ _ (by omega), up_n _ _ _ _ (by omega)]; exact hI1 e (by omega))) (fun k hk => by rw [hMe, up_n _ _ _ _ (by omega), up_n _ _ _ _ (by omega), up_n _ _ _ _ (by omega), up_n _ _ _ _ (by omega)]; exact hI2 k (by omega)) (by omega) H locs ls (hP.sub [4, 5, 6, 7, 8, 0, 3, 1, 2] rfl) (hD.sub [4, 5, 6, 7, 8, 0, 3, 1, 2] (by decide) rfl) hS (lv_sub hl [0, 1, 2, 3, 4, 5, 6, 7, 8] rfl)
                    exact hloop164 _ 0 qm qu ql qg qa 0 (by omega) (fun j _ => rfl) (fun e h => absurd h (Nat.not_lt_zero e)) (fun k _ => ⟨rfl, rfl, rfl, rfl⟩) (Nat.lt_succ_self _) H locs ls (hP.sub [0, 1, 2, 3, 4, 5, 6, 7, 8] rfl) (hD.sub [0, 1, 2, 3, 4, 5, 6, 7, 8] (by decide) rfl) hS (lv_sub hl [0, 1, 2, 3, 4, 5, 6, 7, 8] rfl)
                  · refine lv_bipush (v := iI (-3)) hx hb dX9_answers_158 (by decide) ?_
                    exact Ct.iret hx hb hr hlocks (hP.sub [6, 0, 1, 2, 3, 4, 7, 8, 5] rfl) (hD.sub [6, 0, 1, 2, 3, 4, 7, 8, 5] (by decide) rfl) hS ⟨by decide, by decide⟩ dX9_answers_160 ⟨(-3), qm, qu, ql, qg, qa, rfl, rfl, (by rw [if_pos (by omega)]; unfold ansM; rw [if_neg (by omega), if_neg (by omega), if_neg (by rw [hall]; omega), if_pos (by omega)]), (fun _ => ⟨rfl, rfl, rfl, rfl, rfl⟩), (fun h => absurd h (by omega))⟩
                · have q0 := h9 (40 * xs.toNat + x2.toNat + 3 * e9) (by omega)
                  have q1 := h9 (40 * xs.toNat + x2.toNat + (3 * e9 + 1)) (by omega)
                  have q2 := h9 (40 * xs.toNat + x2.toNat + (3 * e9 + 2)) (by omega)
                  refine lv_aload_n hx hb dX9_answers_78 rfl (lv_at hl 3 rfl) ?_
                  refine va_get (D := g.1) (ci := 9) (v := .ref (a 35)) hx hb hts kX9_answers_9 hown hG.1 hP 6 rfl rfl 35 (by decide) (hts _ (List.mem_of_getElem? (i := 2) rfl)) (fun _ h9 => h9) rfl dX9_answers_79 ?_
                  refine lv_iload hx hb dX9_answers_82 (lv_at hl 1 rfl) ?_
                  refine lv_iconst (v := iI (3)) hx hb dX9_answers_84 rfl ?_
                  refine lv_iload hx hb dX9_answers_85 (lv_at hl 0 rfl) ?_
                  refine iv_imul hx hb dX9_answers_87 ?_
                  refine iv_iadd hx hb dX9_answers_88 ?_
                  refine iv_iald hx hb hG hP 5 rfl (40 * xs.toNat + x2.toNat + 3 * e9) (by omega) (by omega) (by decide) dX9_answers_89 ?_
                  refine lv_aload_n hx hb dX9_answers_90 rfl (lv_at hl 3 rfl) ?_
                  refine va_get (D := g.1) (ci := 9) (v := .ref (a 35)) hx hb hts kX9_answers_9 hown hG.1 hP 6 rfl rfl 35 (by decide) (hts _ (List.mem_of_getElem? (i := 2) rfl)) (fun _ h9 => h9) rfl dX9_answers_91 ?_
                  refine lv_iload hx hb dX9_answers_94 (lv_at hl 1 rfl) ?_
                  refine lv_iconst (v := iI (3)) hx hb dX9_answers_96 rfl ?_
                  refine lv_iload hx hb dX9_answers_97 (lv_at hl 0 rfl) ?_
                  refine iv_imul hx hb dX9_answers_99 ?_
                  refine iv_iadd hx hb dX9_answers_100 ?_
                  refine lv_iconst (v := iI (1)) hx hb dX9_answers_101 rfl ?_
                  refine iv_iadd hx hb dX9_answers_102 ?_
                  refine iv_iald hx hb hG hP 5 rfl (40 * xs.toNat + x2.toNat + (3 * e9 + 1)) (by omega) (by omega) (by decide) dX9_answers_103 ?_
                  refine Ct.callS (As := [.int (iI (fi (40 * xs.toNat + x2.toNat + 3 * e9))), .int (iI (fi (40 * xs.toNat + x2.toNat + (3 * e9 + 1))))]) (rest := []) (wr := [((a 6), aI (g.2.1 0) 12 qm), ((a 7), aI (g.2.1 0) 480 qu), ((a 8), aI (g.2.1 0) 480 ql), ((a 9), aI (g.2.1 0) 480 qg), ((a 10), aI (g.2.1 1) 480 qa), ((a 35), aI (g.2.1 0) 160 fi), (hm, .inr (9, mF a i)), ((a 33), aI (g.2.1 0) 4 fl), ((a 34), aI (g.2.1 0) 4 fz)]) (c1 := 0) (s1 := 0) ⟨hx, hb, hml, hown, hts⟩ (c_X9_isTask l g (fi (40 * xs.toNat + x2.toNat + 3 * e9)) (fi (40 * xs.toNat + x2.toNat + (3 * e9 + 1))) (by omega)) (va_cwS 2 hts gX9_answers_X9_isTask rfl rfl rfl (by decide +kernel) ⟨Nat.le_of_ble_eq_true rfl, Nat.le_of_ble_eq_true rfl⟩) hG hP hD hS hA [] [0, 1, 2, 3, 4, 5, 6, 7, 8] rfl rfl (by decide) (by decide) (by decide) rfl hl.1 rfl (Nat.le_of_ble_eq_true rfl) dX9_answers_104 ⟨Nat.le_of_ble_eq_true rfl, Nat.le_of_ble_eq_true rfl⟩ rfl rfl (fun v w H locs hv hP hD hS => ?_)
                  obtain ⟨⟨rfl, hb15⟩ | ⟨rfl, hb15⟩, rfl⟩ := hv
                  · show W p l e _ s m _ below meth c H locs 0 0 _ (F0 m 107 ls (.int (iI 1) :: []))
                    have hb15 : 0 ≤ (fi (40 * xs.toNat + x2.toNat + (3 * e9 + 1))) ∧ (fi (40 * xs.toNat + x2.toNat + (3 * e9 + 1))) ≤ (fi (40 * xs.toNat + x2.toNat + 3 * e9)) ∧ (fi (40 * xs.toNat + x2.toNat + 3 * e9)) ≤ 999 := hb15
                    have hP : va_P g.1 vwCl [((a 6), aI (g.2.1 0) 12 qm), ((a 7), aI (g.2.1 0) 480 qu), ((a 8), aI (g.2.1 0) 480 ql), ((a 9), aI (g.2.1 0) 480 qg), ((a 10), aI (g.2.1 1) 480 qa), ((a 35), aI (g.2.1 0) 160 fi), (hm, .inr (9, mF a i)), ((a 33), aI (g.2.1 0) 4 fl), ((a 34), aI (g.2.1 0) 4 fz)] H := hP
                    have hD : va_D A [((a 6), aI (g.2.1 0) 12 qm), ((a 7), aI (g.2.1 0) 480 qu), ((a 8), aI (g.2.1 0) 480 ql), ((a 9), aI (g.2.1 0) 480 qg), ((a 10), aI (g.2.1 1) 480 qa), ((a 35), aI (g.2.1 0) 160 fi), (hm, .inr (9, mF a i)), ((a 33), aI (g.2.1 0) 4 fl), ((a 34), aI (g.2.1 0) 4 fz)] := hD
                    refine iv_if_eq (tgt := 135) hx hb dX9_answers_107 (by decide) (by decide) (fun h => absurd h (by decide)) (fun _ => ?_)
                    refine lv_aload_n hx hb dX9_answers_110 rfl (lv_at hl 3 rfl) ?_
                    refine va_get (D := g.1) (ci := 9) (v := .ref (a 35)) hx hb hts kX9_answers_9 hown hG.1 hP 6 rfl rfl 35 (by decide) (hts _ (List.mem_of_getElem? (i := 2) rfl)) (fun _ h9 => h9) rfl dX9_answers_111 ?_
                    refine lv_iload hx hb dX9_answers_114 (lv_at hl 1 rfl) ?_
                    refine lv_iconst (v := iI (3)) hx hb dX9_answers_116 rfl ?_
                    refine lv_iload hx hb dX9_answers_117 (lv_at hl 0 rfl) ?_
                    refine iv_imul hx hb dX9_answers_119 ?_
                    refine iv_iadd hx hb dX9_answers_120 ?_
                    refine lv_iconst (v := iI (2)) hx hb dX9_answers_121 rfl ?_
                    refine iv_iadd hx hb dX9_answers_122 ?_
                    refine iv_iald hx hb hG hP 5 rfl (40 * xs.toNat + x2.toNat + (3 * e9 + 2)) (by omega) (by omega) (by decide) dX9_answers_123 ?_
                    refine iv_i2l hx hb dX9_answers_124 (by omega) ?_
                    refine lv_lconst (v := lI (0)) hx hb dX9_answers_125 (by decide) ?_
                    refine iv_ldc2 (v := 999) (z := 999) hx hb hown (hts _ (List.mem_of_getElem? (i := 3) rfl)) dX9_answers_126 (by decide) ?_
                    refine Ct.callS (As := [.long (lI (fi (40 * xs.toNat + x2.toNat + (3 * e9 + 2)))), .long (lI 0), .long (lI 999)]) (rest := []) (wr := [((a 6), aI (g.2.1 0) 12 qm), ((a 7), aI (g.2.1 0) 480 qu), ((a 8), aI (g.2.1 0) 480 ql), ((a 9), aI (g.2.1 0) 480 qg), ((a 10), aI (g.2.1 1) 480 qa), ((a 35), aI (g.2.1 0) 160 fi), (hm, .inr (9, mF a i)), ((a 33), aI (g.2.1 0) 4 fl), ((a 34), aI (g.2.1 0) 4 fz)]) (c1 := 0) (s1 := 0) ⟨hx, hb, hml, hown, hts⟩ (c_X9_in l g (fi (40 * xs.toNat + x2.toNat + (3 * e9 + 2))) 0 999 (by omega)) (va_cwS 3 hts gX9_answers_X9_in rfl rfl rfl (by decide +kernel) ⟨Nat.le_of_ble_eq_true rfl, Nat.le_of_ble_eq_true rfl⟩) hG hP hD hS hA [] [0, 1, 2, 3, 4, 5, 6, 7, 8] rfl rfl (by decide) (by decide) (by decide) rfl hl.1 rfl (Nat.le_of_ble_eq_true rfl) dX9_answers_129 ⟨Nat.le_of_ble_eq_true rfl, Nat.le_of_ble_eq_true rfl⟩ rfl rfl (fun v w H locs hv hP hD hS => ?_)
                    obtain ⟨⟨rfl, hb17⟩ | ⟨rfl, hb17⟩, rfl⟩ := hv
                    · show W p l e _ s m _ below meth c H locs 0 0 _ (F0 m 132 ls (.int (iI 1) :: []))
                      have hb17 : 0 ≤ (fi (40 * xs.toNat + x2.toNat + (3 * e9 + 2))) ∧ (fi (40 * xs.toNat + x2.toNat + (3 * e9 + 2))) ≤ 999 := hb17
                      have hP : va_P g.1 vwCl [((a 6), aI (g.2.1 0) 12 qm), ((a 7), aI (g.2.1 0) 480 qu), ((a 8), aI (g.2.1 0) 480 ql), ((a 9), aI (g.2.1 0) 480 qg), ((a 10), aI (g.2.1 1) 480 qa), ((a 35), aI (g.2.1 0) 160 fi), (hm, .inr (9, mF a i)), ((a 33), aI (g.2.1 0) 4 fl), ((a 34), aI (g.2.1 0) 4 fz)] H := hP
                      have hD : va_D A [((a 6), aI (g.2.1 0) 12 qm), ((a 7), aI (g.2.1 0) 480 qu), ((a 8), aI (g.2.1 0) 480 ql), ((a 9), aI (g.2.1 0) 480 qg), ((a 10), aI (g.2.1 1) 480 qa), ((a 35), aI (g.2.1 0) 160 fi), (hm, .inr (9, mF a i)), ((a 33), aI (g.2.1 0) 4 fl), ((a 34), aI (g.2.1 0) 4 fz)] := hD
                      refine iv_if_ne (tgt := 138) hx hb dX9_answers_132 (by decide) (by decide) (fun _ => ?_) (fun h => absurd h (by decide))
                      refine iv_iinc (k := 0) (x := ze) (lv' := [(8, .int (iI (ze + 1))), (7, .int (iI ((40 * xs) + x2))), (6, .int (iI r9)), (0, .ref hm), (1, .int (iI x)), (2, .int (iI xs)), (3, .int (iI lane)), (4, .int (iI x2)), (5, .int (iI n))]) hx hb dX9_answers_138 hl rfl (by decide) rfl (fun ls hl => ?_)
                      refine lv_goto (tgt := 71) hx hb dX9_answers_141 (by decide) ?_
                      exact ih71 (ze + 1) (e9 + 1) (by omega) (by rw [← hav, show n.toNat - e9 = (n.toNat - (e9 + 1)) + 1 from by omega]; simp only [avF]; rw [if_pos (by omega)]) (by omega) H locs ls (hP.sub [0, 1, 2, 3, 4, 5, 6, 7, 8] rfl) (hD.sub [0, 1, 2, 3, 4, 5, 6, 7, 8] (by decide) rfl) hS (lv_sub hl [0, 1, 2, 3, 4, 5, 6, 7, 8] rfl)
                    · show W p l e _ s m _ below meth c H locs 0 0 _ (F0 m 132 ls (.int (iI 0) :: []))
                      have hb17 : ¬ (0 ≤ (fi (40 * xs.toNat + x2.toNat + (3 * e9 + 2))) ∧ (fi (40 * xs.toNat + x2.toNat + (3 * e9 + 2))) ≤ 999) := hb17
                      have hP : va_P g.1 vwCl [((a 6), aI (g.2.1 0) 12 qm), ((a 7), aI (g.2.1 0) 480 qu), ((a 8), aI (g.2.1 0) 480 ql), ((a 9), aI (g.2.1 0) 480 qg), ((a 10), aI (g.2.1 1) 480 qa), ((a 35), aI (g.2.1 0) 160 fi), (hm, .inr (9, mF a i)), ((a 33), aI (g.2.1 0) 4 fl), ((a 34), aI (g.2.1 0) 4 fz)] H := hP
                      have hD : va_D A [((a 6), aI (g.2.1 0) 12 qm), ((a 7), aI (g.2.1 0) 480 qu), ((a 8), aI (g.2.1 0) 480 ql), ((a 9), aI (g.2.1 0) 480 qg), ((a 10), aI (g.2.1 1) 480 qa), ((a 35), aI (g.2.1 0) 160 fi), (hm, .inr (9, mF a i)), ((a 33), aI (g.2.1 0) 4 fl), ((a 34), aI (g.2.1 0) 4 fz)] := hD
                      refine iv_if_ne (tgt := 138) hx hb dX9_answers_132 (by decide) (by decide) (fun h => absurd h (by decide)) (fun _ => ?_)
                      refine lv_bipush (v := iI (-2)) hx hb dX9_answers_135 (by decide) ?_
                      exact Ct.iret hx hb hr hlocks (hP.sub [6, 0, 1, 2, 3, 4, 7, 8, 5] rfl) (hD.sub [6, 0, 1, 2, 3, 4, 7, 8, 5] (by decide) rfl) hS ⟨by decide, by decide⟩ dX9_answers_137 ⟨(-2), qm, qu, ql, qg, qa, rfl, rfl, (by rw [if_pos (by omega)]; unfold ansM; rw [if_neg (by omega), if_neg (by omega), if_pos (show avF (fun j => fi (40 * xs.toNat + x2.toNat + j)) n.toNat 0 = 0 by rw [← hav, show n.toNat - e9 = (n.toNat - (e9 + 1)) + 1 from by omega]; simp only [avF]; rw [if_neg (by omega)])]), (fun _ => ⟨rfl, rfl, rfl, rfl, rfl⟩), (fun h => absurd h (by omega))⟩
                  · show W p l e _ s m _ below meth c H locs 0 0 _ (F0 m 107 ls (.int (iI 0) :: []))
                    have hb15 : ¬ (0 ≤ (fi (40 * xs.toNat + x2.toNat + (3 * e9 + 1))) ∧ (fi (40 * xs.toNat + x2.toNat + (3 * e9 + 1))) ≤ (fi (40 * xs.toNat + x2.toNat + 3 * e9)) ∧ (fi (40 * xs.toNat + x2.toNat + 3 * e9)) ≤ 999) := hb15
                    have hP : va_P g.1 vwCl [((a 6), aI (g.2.1 0) 12 qm), ((a 7), aI (g.2.1 0) 480 qu), ((a 8), aI (g.2.1 0) 480 ql), ((a 9), aI (g.2.1 0) 480 qg), ((a 10), aI (g.2.1 1) 480 qa), ((a 35), aI (g.2.1 0) 160 fi), (hm, .inr (9, mF a i)), ((a 33), aI (g.2.1 0) 4 fl), ((a 34), aI (g.2.1 0) 4 fz)] H := hP
                    have hD : va_D A [((a 6), aI (g.2.1 0) 12 qm), ((a 7), aI (g.2.1 0) 480 qu), ((a 8), aI (g.2.1 0) 480 ql), ((a 9), aI (g.2.1 0) 480 qg), ((a 10), aI (g.2.1 1) 480 qa), ((a 35), aI (g.2.1 0) 160 fi), (hm, .inr (9, mF a i)), ((a 33), aI (g.2.1 0) 4 fl), ((a 34), aI (g.2.1 0) 4 fz)] := hD
                    refine iv_if_eq (tgt := 135) hx hb dX9_answers_107 (by decide) (by decide) (fun _ => ?_) (fun h => absurd h (by decide))
                    refine lv_bipush (v := iI (-2)) hx hb dX9_answers_135 (by decide) ?_
                    exact Ct.iret hx hb hr hlocks (hP.sub [6, 0, 1, 2, 3, 4, 7, 8, 5] rfl) (hD.sub [6, 0, 1, 2, 3, 4, 7, 8, 5] (by decide) rfl) hS ⟨by decide, by decide⟩ dX9_answers_137 ⟨(-2), qm, qu, ql, qg, qa, rfl, rfl, (by rw [if_pos (by omega)]; unfold ansM; rw [if_neg (by omega), if_neg (by omega), if_pos (show avF (fun j => fi (40 * xs.toNat + x2.toNat + j)) n.toNat 0 = 0 by rw [← hav, show n.toNat - e9 = (n.toNat - (e9 + 1)) + 1 from by omega]; simp only [avF]; rw [if_neg (by omega)])]), (fun _ => ⟨rfl, rfl, rfl, rfl, rfl⟩), (fun h => absurd h (by omega))⟩
            exact hloop71 _ 0 0 (by omega) (rfl) (Nat.lt_succ_self _) H locs ls (hP.sub [0, 1, 2, 3, 4, 5, 6, 7, 8] rfl) (hD.sub [0, 1, 2, 3, 4, 5, 6, 7, 8] (by decide) rfl) hS (lv_sub hl [0, 1, 2, 3, 4, 5, 6, 7, 8] rfl)
          · refine lv_iload hx hb dX9_answers_56 (lv_at hl 0 rfl) ?_
            exact Ct.iret hx hb hr hlocks (hP.sub [6, 0, 1, 2, 3, 4, 7, 8, 5] rfl) (hD.sub [6, 0, 1, 2, 3, 4, 7, 8, 5] (by decide) rfl) hS ⟨by decide, by decide⟩ dX9_answers_58 ⟨r9, qm, qu, ql, qg, qa, rfl, rfl, (by rw [if_pos (by omega)]; unfold ansM; rw [if_neg (by omega), if_pos (by omega)]; assumption), (fun _ => ⟨rfl, rfl, rfl, rfl, rfl⟩), (fun h => absurd h (by omega))⟩
        · show W p l e _ s m _ below meth c H locs 0 0 _ (F0 m 32 ls (.int (iI 0) :: []))
          have hb7 : ¬ (0 ≤ n ∧ n ≤ 13) := hb7
          have hP : va_P g.1 vwCl [((a 6), aI (g.2.1 0) 12 qm), ((a 7), aI (g.2.1 0) 480 qu), ((a 8), aI (g.2.1 0) 480 ql), ((a 9), aI (g.2.1 0) 480 qg), ((a 10), aI (g.2.1 1) 480 qa), ((a 33), aI (g.2.1 0) 4 fl), ((a 34), aI (g.2.1 0) 4 fz), ((a 35), aI (g.2.1 0) 160 fi), (hm, .inr (9, mF a i))] H := hP
          have hD : va_D A [((a 6), aI (g.2.1 0) 12 qm), ((a 7), aI (g.2.1 0) 480 qu), ((a 8), aI (g.2.1 0) 480 ql), ((a 9), aI (g.2.1 0) 480 qg), ((a 10), aI (g.2.1 1) 480 qa), ((a 33), aI (g.2.1 0) 4 fl), ((a 34), aI (g.2.1 0) 4 fz), ((a 35), aI (g.2.1 0) 160 fi), (hm, .inr (9, mF a i))] := hD
          refine iv_if_ne (tgt := 37) hx hb dX9_answers_32 (by decide) (by decide) (fun h => absurd h (by decide)) (fun _ => ?_)
          refine lv_iconst (v := iI (-1)) hx hb dX9_answers_35 rfl ?_
          exact Ct.iret hx hb hr hlocks (hP.sub [8, 0, 1, 2, 3, 4, 5, 6, 7] rfl) (hD.sub [8, 0, 1, 2, 3, 4, 5, 6, 7] (by decide) rfl) hS ⟨by decide, by decide⟩ dX9_answers_36 ⟨(-1), qm, qu, ql, qg, qa, rfl, rfl, (by first | (rw [if_neg (by omega)]) | (rw [if_pos (by omega)]; unfold ansM; rw [if_pos (by omega)])), (fun _ => ⟨rfl, rfl, rfl, rfl, rfl⟩), (fun h => absurd h (by omega))⟩
      · show W p l e _ s m _ below meth c H locs 0 0 _ (F0 m 19 ls (.int (iI 0) :: []))
        have hb5 : ¬ (0 ≤ lane ∧ lane ≤ 2) := hb5
        have hP : va_P g.1 vwCl [((a 6), aI (g.2.1 0) 12 qm), ((a 7), aI (g.2.1 0) 480 qu), ((a 8), aI (g.2.1 0) 480 ql), ((a 9), aI (g.2.1 0) 480 qg), ((a 10), aI (g.2.1 1) 480 qa), ((a 33), aI (g.2.1 0) 4 fl), ((a 34), aI (g.2.1 0) 4 fz), ((a 35), aI (g.2.1 0) 160 fi), (hm, .inr (9, mF a i))] H := hP
        have hD : va_D A [((a 6), aI (g.2.1 0) 12 qm), ((a 7), aI (g.2.1 0) 480 qu), ((a 8), aI (g.2.1 0) 480 ql), ((a 9), aI (g.2.1 0) 480 qg), ((a 10), aI (g.2.1 1) 480 qa), ((a 33), aI (g.2.1 0) 4 fl), ((a 34), aI (g.2.1 0) 4 fz), ((a 35), aI (g.2.1 0) 160 fi), (hm, .inr (9, mF a i))] := hD
        refine iv_if_eq (tgt := 35) hx hb dX9_answers_19 (by decide) (by decide) (fun _ => ?_) (fun h => absurd h (by decide))
        refine lv_iconst (v := iI (-1)) hx hb dX9_answers_35 rfl ?_
        exact Ct.iret hx hb hr hlocks (hP.sub [8, 0, 1, 2, 3, 4, 5, 6, 7] rfl) (hD.sub [8, 0, 1, 2, 3, 4, 5, 6, 7] (by decide) rfl) hS ⟨by decide, by decide⟩ dX9_answers_36 ⟨(-1), qm, qu, ql, qg, qa, rfl, rfl, (by first | (rw [if_neg (by omega)]) | (rw [if_pos (by omega)]; unfold ansM; rw [if_pos (by omega)])), (fun _ => ⟨rfl, rfl, rfl, rfl, rfl⟩), (fun h => absurd h (by omega))⟩
    · show W p l e _ s m _ below meth c H locs 0 0 _ (F0 m 12 ls (.int (iI 0) :: []))
      have hb3 : ¬ (0 ≤ xs ∧ xs ≤ 3) := hb3
      have hP : va_P g.1 vwCl [((a 6), aI (g.2.1 0) 12 qm), ((a 7), aI (g.2.1 0) 480 qu), ((a 8), aI (g.2.1 0) 480 ql), ((a 9), aI (g.2.1 0) 480 qg), ((a 10), aI (g.2.1 1) 480 qa), ((a 33), aI (g.2.1 0) 4 fl), ((a 34), aI (g.2.1 0) 4 fz), ((a 35), aI (g.2.1 0) 160 fi), (hm, .inr (9, mF a i))] H := hP
      have hD : va_D A [((a 6), aI (g.2.1 0) 12 qm), ((a 7), aI (g.2.1 0) 480 qu), ((a 8), aI (g.2.1 0) 480 ql), ((a 9), aI (g.2.1 0) 480 qg), ((a 10), aI (g.2.1 1) 480 qa), ((a 33), aI (g.2.1 0) 4 fl), ((a 34), aI (g.2.1 0) 4 fz), ((a 35), aI (g.2.1 0) 160 fi), (hm, .inr (9, mF a i))] := hD
      refine iv_if_eq (tgt := 35) hx hb dX9_answers_12 (by decide) (by decide) (fun _ => ?_) (fun h => absurd h (by decide))
      refine lv_iconst (v := iI (-1)) hx hb dX9_answers_35 rfl ?_
      exact Ct.iret hx hb hr hlocks (hP.sub [8, 0, 1, 2, 3, 4, 5, 6, 7] rfl) (hD.sub [8, 0, 1, 2, 3, 4, 5, 6, 7] (by decide) rfl) hS ⟨by decide, by decide⟩ dX9_answers_36 ⟨(-1), qm, qu, ql, qg, qa, rfl, rfl, (by first | (rw [if_neg (by omega)]) | (rw [if_pos (by omega)]; unfold ansM; rw [if_pos (by omega)])), (fun _ => ⟨rfl, rfl, rfl, rfl, rfl⟩), (fun h => absurd h (by omega))⟩
  · show W p l e _ s m _ below meth c H locs 0 0 _ (F0 m 5 ls (.int (iI 0) :: []))
    have hb1 : ¬ (0 ≤ x ∧ x < i 5) := hb1
    have hP : va_P g.1 vwCl [((a 6), aI (g.2.1 0) 12 qm), ((a 7), aI (g.2.1 0) 480 qu), ((a 8), aI (g.2.1 0) 480 ql), ((a 9), aI (g.2.1 0) 480 qg), ((a 10), aI (g.2.1 1) 480 qa), ((a 33), aI (g.2.1 0) 4 fl), ((a 34), aI (g.2.1 0) 4 fz), ((a 35), aI (g.2.1 0) 160 fi), (hm, .inr (9, mF a i))] H := hP
    have hD : va_D A [((a 6), aI (g.2.1 0) 12 qm), ((a 7), aI (g.2.1 0) 480 qu), ((a 8), aI (g.2.1 0) 480 ql), ((a 9), aI (g.2.1 0) 480 qg), ((a 10), aI (g.2.1 1) 480 qa), ((a 33), aI (g.2.1 0) 4 fl), ((a 34), aI (g.2.1 0) 4 fz), ((a 35), aI (g.2.1 0) 160 fi), (hm, .inr (9, mF a i))] := hD
    refine iv_if_eq (tgt := 35) hx hb dX9_answers_5 (by decide) (by decide) (fun _ => ?_) (fun h => absurd h (by decide))
    refine lv_iconst (v := iI (-1)) hx hb dX9_answers_35 rfl ?_
    exact Ct.iret hx hb hr hlocks (hP.sub [8, 0, 1, 2, 3, 4, 5, 6, 7] rfl) (hD.sub [8, 0, 1, 2, 3, 4, 5, 6, 7] (by decide) rfl) hS ⟨by decide, by decide⟩ dX9_answers_36 ⟨(-1), qm, qu, ql, qg, qa, rfl, rfl, (by first | (rw [if_neg (by omega)]) | (rw [if_pos (by omega)]; unfold ansM; rw [if_pos (by omega)])), (fun _ => ⟨rfl, rfl, rfl, rfl, rfl⟩), (fun h => absurd h (by omega))⟩
