theorem kX9_probe_9 : ∀ w ∈ u_ws RX9 TX9 37, w ∈ wsX9_probe := fun _ h => List.mem_cons_of_mem _ (List.mem_append_right _ h)
abbrev q_X9_probe (g : GT) (hm : Nat) (a : Nat → Nat) (i : Nat → Int) (fa : Nat → Int) (fd : Nat → Int) (fn : Nat → Int) (fp : Nat → Int) (fi : Nat → Int) (fl : Nat → Int) (fz : Nat → Int) (n : Int) (x : Int) (lane : Int) (x2 : Int) (k : Int) : Option Value → va_W → Prop := fun v w => ∃ (r : Int), ∃ (fa' : Nat → Int), ∃ (fd' : Nat → Int), ∃ (fn' : Nat → Int), ∃ (fp' : Nat → Int), v = some (.int (iI r)) ∧ w = [(hm, .inr (9, mF a i)), ((a 1), aI (g.2.1 0) 3 fa'), ((a 2), aI (g.2.1 0) 3 fd'), ((a 3), aI (g.2.1 0) 3 fn'), ((a 4), aI (g.2.1 0) 6 fp'), ((a 35), aI (g.2.1 0) 160 fi), ((a 33), aI (g.2.1 0) 4 fl), ((a 34), aI (g.2.1 0) 4 fz)] ∧ (r = (if ¬ (1 ≤ n ∧ n ≤ 200) ∨ ¬ (0 ≤ x ∧ x ≤ 3) ∨ ¬ (0 ≤ lane ∧ lane ≤ 2) ∨ ¬ (1 ≤ k ∧ k ≤ 6) then -1 else if findS (fl x.toNat) (fz x.toNat) lane x2 k < 0 then findS (fl x.toNat) (fz x.toNat) lane x2 k else probeR (fun j => fi (40 * x.toNat + x2.toNat + j)) k n))
set_option maxHeartbeats 4000000 in
set_option maxRecDepth 100000 in
theorem c_X9_probe (l : Launch) (g : GT) (hm : Nat) (a : Nat → Nat) (i : Nat → Int) (fa : Nat → Int) (fd : Nat → Int) (fn : Nat → Int) (fp : Nat → Int) (fi : Nat → Int) (fl : Nat → Int) (fz : Nat → Int) (n : Int) (x : Int) (lane : Int) (x2 : Int) (k : Int) (h1 : (-2147483648 ≤ n ∧ n < 2147483648) ∧ (-2147483648 ≤ x ∧ x < 2147483648) ∧ (-2147483648 ≤ lane ∧ lane < 2147483648) ∧ (-2147483648 ≤ x2 ∧ x2 < 2147483648) ∧ (-2147483648 ≤ k ∧ k < 2147483648)) (hL : ∀ j, j < 4 → -1 ≤ fl j ∧ fl j ≤ 2 ∧ 0 ≤ fz j ∧ fz j ≤ 40) (h5 : ∀ j, j < 160 → -2147483648 ≤ fi j ∧ fi j < 2147483648) : Ct l g yX9_probe wsX9_probe ({ frames := 3, cells := 0, slots := 0, locals := 80 } : Room) [.ref hm, .int (iI n), .int (iI x), .int (iI lane), .int (iI x2), .int (iI k)] [(hm, .inr (9, mF a i)), ((a 1), aI (g.2.1 0) 3 fa), ((a 2), aI (g.2.1 0) 3 fd), ((a 3), aI (g.2.1 0) 3 fn), ((a 4), aI (g.2.1 0) 6 fp), ((a 35), aI (g.2.1 0) 160 fi), ((a 33), aI (g.2.1 0) 4 fl), ((a 34), aI (g.2.1 0) 4 fz)] (q_X9_probe g hm a i fa fd fn fp fi fl fz n x lane x2 k) := by
  refine Ct.intro (maxL := 12) (ret := (some .int)) (by decide) rfl (Nat.le_of_ble_eq_true rfl) ?_
  intro p e s m below meth c A ls hx hb hr hml hown hts hlocks hnm hA hG hP hD hS hl
  have hown : s.vm.findClass RX9 = some m.cls := hown
  have hl : lv_has ls 12 [(0, .ref hm), (1, .int (iI n)), (2, .int (iI x)), (3, .int (iI lane)), (4, .int (iI x2)), (5, .int (iI k))] := hl
  have hP : va_P g.1 vwCl [(hm, .inr (9, mF a i)), ((a 1), aI (g.2.1 0) 3 fa), ((a 2), aI (g.2.1 0) 3 fd), ((a 3), aI (g.2.1 0) 3 fn), ((a 4), aI (g.2.1 0) 6 fp), ((a 35), aI (g.2.1 0) 160 fi), ((a 33), aI (g.2.1 0) 4 fl), ((a 34), aI (g.2.1 0) 4 fz)] s.heap := hP
  have hS : va_S A s.heap s.heap [] := hS
  obtain ⟨H, hHe⟩ : ∃ H : Heap, H = s.heap := ⟨_, rfl⟩
  obtain ⟨locs, hLe⟩ : ∃ L : List Loc, L = [] := ⟨_, rfl⟩
  have hP : va_P g.1 vwCl [(hm, .inr (9, mF a i)), ((a 1), aI (g.2.1 0) 3 fa), ((a 2), aI (g.2.1 0) 3 fd), ((a 3), aI (g.2.1 0) 3 fn), ((a 4), aI (g.2.1 0) 6 fp), ((a 35), aI (g.2.1 0) 160 fi), ((a 33), aI (g.2.1 0) 4 fl), ((a 34), aI (g.2.1 0) 4 fz)] H := by rw [hHe]; exact hP
  have hS : va_S A s.heap H locs := by rw [hHe, hLe]; exact hS
  suffices hgo : W p l e ({ frames := 3, cells := 0, slots := 0, locals := 80 } : Room) s m [.ref hm, .int (iI n), .int (iI x), .int (iI lane), .int (iI x2), .int (iI k)].toArray below meth c H locs 0 0 (MQ below (CQ g (q_X9_probe g hm a i fa fd fn fp fi fl fz n x lane x2 k) A) [.ref hm, .int (iI n), .int (iI x), .int (iI lane), .int (iI x2), .int (iI k)].toArray s ({ frames := 3, cells := 0, slots := 0, locals := 80 } : Room).cells ({ frames := 3, cells := 0, slots := 0, locals := 80 } : Room).slots A) (F0 m 0 ls []) by rw [hHe, hLe] at hgo; exact hgo
  clear hHe hLe
  refine lv_iload_n hx hb dX9_probe_0 rfl (lv_at hl 1 rfl) ?_
  refine iv_i2l hx hb dX9_probe_1 (by omega) ?_
  refine lv_lconst (v := lI (1)) hx hb dX9_probe_2 (by decide) ?_
  refine iv_ldc2 (v := 200) (z := 200) hx hb hown (hts _ (List.mem_of_getElem? (i := 1) rfl)) dX9_probe_3 (by decide) ?_
  refine Ct.callS (As := [.long (lI n), .long (lI 1), .long (lI 200)]) (rest := []) (wr := [(hm, .inr (9, mF a i)), ((a 1), aI (g.2.1 0) 3 fa), ((a 2), aI (g.2.1 0) 3 fd), ((a 3), aI (g.2.1 0) 3 fn), ((a 4), aI (g.2.1 0) 6 fp), ((a 35), aI (g.2.1 0) 160 fi), ((a 33), aI (g.2.1 0) 4 fl), ((a 34), aI (g.2.1 0) 4 fz)]) (c1 := 0) (s1 := 0) ⟨hx, hb, hml, hown, hts⟩ (c_X9_in l g n 1 200 (by omega)) (va_cwS 3 hts gX9_probe_X9_in rfl rfl rfl (by decide +kernel) ⟨Nat.le_of_ble_eq_true rfl, Nat.le_of_ble_eq_true rfl⟩) hG hP hD hS hA [] [0, 1, 2, 3, 4, 5, 6, 7] rfl rfl (by decide) (by decide) (by decide) rfl hl.1 rfl (Nat.le_of_ble_eq_true rfl) dX9_probe_6 ⟨Nat.le_of_ble_eq_true rfl, Nat.le_of_ble_eq_true rfl⟩ rfl rfl (fun v w H locs hv hP hD hS => ?_)
  obtain ⟨⟨rfl, hb1⟩ | ⟨rfl, hb1⟩, rfl⟩ := hv
  · show W p l e _ s m _ below meth c H locs 0 0 _ (F0 m 9 ls (.int (iI 1) :: []))
    have hb1 : 1 ≤ n ∧ n ≤ 200 := hb1
    have hP : va_P g.1 vwCl [(hm, .inr (9, mF a i)), ((a 1), aI (g.2.1 0) 3 fa), ((a 2), aI (g.2.1 0) 3 fd), ((a 3), aI (g.2.1 0) 3 fn), ((a 4), aI (g.2.1 0) 6 fp), ((a 35), aI (g.2.1 0) 160 fi), ((a 33), aI (g.2.1 0) 4 fl), ((a 34), aI (g.2.1 0) 4 fz)] H := hP
    have hD : va_D A [(hm, .inr (9, mF a i)), ((a 1), aI (g.2.1 0) 3 fa), ((a 2), aI (g.2.1 0) 3 fd), ((a 3), aI (g.2.1 0) 3 fn), ((a 4), aI (g.2.1 0) 6 fp), ((a 35), aI (g.2.1 0) 160 fi), ((a 33), aI (g.2.1 0) 4 fl), ((a 34), aI (g.2.1 0) 4 fz)] := hD
    refine iv_if_eq (tgt := 39) hx hb dX9_probe_9 (by decide) (by decide) (fun h => absurd h (by decide)) (fun _ => ?_)
    refine lv_iload_n hx hb dX9_probe_12 rfl (lv_at hl 2 rfl) ?_
    refine Ct.callS (As := [.int (iI x)]) (rest := []) (wr := [(hm, .inr (9, mF a i)), ((a 1), aI (g.2.1 0) 3 fa), ((a 2), aI (g.2.1 0) 3 fd), ((a 3), aI (g.2.1 0) 3 fn), ((a 4), aI (g.2.1 0) 6 fp), ((a 35), aI (g.2.1 0) 160 fi), ((a 33), aI (g.2.1 0) 4 fl), ((a 34), aI (g.2.1 0) 4 fz)]) (c1 := 0) (s1 := 0) ⟨hx, hb, hml, hown, hts⟩ (c_X9_isSheet l g x (by omega)) (va_cwS 1 hts gX9_probe_X9_isSheet rfl rfl rfl (by decide +kernel) ⟨Nat.le_of_ble_eq_true rfl, Nat.le_of_ble_eq_true rfl⟩) hG hP hD hS hA [] [0, 1, 2, 3, 4, 5, 6, 7] rfl rfl (by decide) (by decide) (by decide) rfl hl.1 rfl (Nat.le_of_ble_eq_true rfl) dX9_probe_13 ⟨Nat.le_of_ble_eq_true rfl, Nat.le_of_ble_eq_true rfl⟩ rfl rfl (fun v w H locs hv hP hD hS => ?_)
    obtain ⟨⟨rfl, hb3⟩ | ⟨rfl, hb3⟩, rfl⟩ := hv
    · show W p l e _ s m _ below meth c H locs 0 0 _ (F0 m 16 ls (.int (iI 1) :: []))
      have hb3 : 0 ≤ x ∧ x ≤ 3 := hb3
      have hP : va_P g.1 vwCl [(hm, .inr (9, mF a i)), ((a 1), aI (g.2.1 0) 3 fa), ((a 2), aI (g.2.1 0) 3 fd), ((a 3), aI (g.2.1 0) 3 fn), ((a 4), aI (g.2.1 0) 6 fp), ((a 35), aI (g.2.1 0) 160 fi), ((a 33), aI (g.2.1 0) 4 fl), ((a 34), aI (g.2.1 0) 4 fz)] H := hP
      have hD : va_D A [(hm, .inr (9, mF a i)), ((a 1), aI (g.2.1 0) 3 fa), ((a 2), aI (g.2.1 0) 3 fd), ((a 3), aI (g.2.1 0) 3 fn), ((a 4), aI (g.2.1 0) 6 fp), ((a 35), aI (g.2.1 0) 160 fi), ((a 33), aI (g.2.1 0) 4 fl), ((a 34), aI (g.2.1 0) 4 fz)] := hD
      refine iv_if_eq (tgt := 39) hx hb dX9_probe_16 (by decide) (by decide) (fun h => absurd h (by decide)) (fun _ => ?_)
      refine lv_iload_n hx hb dX9_probe_19 rfl (lv_at hl 3 rfl) ?_
      refine Ct.callS (As := [.int (iI lane)]) (rest := []) (wr := [(hm, .inr (9, mF a i)), ((a 1), aI (g.2.1 0) 3 fa), ((a 2), aI (g.2.1 0) 3 fd), ((a 3), aI (g.2.1 0) 3 fn), ((a 4), aI (g.2.1 0) 6 fp), ((a 35), aI (g.2.1 0) 160 fi), ((a 33), aI (g.2.1 0) 4 fl), ((a 34), aI (g.2.1 0) 4 fz)]) (c1 := 0) (s1 := 0) ⟨hx, hb, hml, hown, hts⟩ (c_X9_isLane l g lane (by omega)) (va_cwS 1 hts gX9_probe_X9_isLane rfl rfl rfl (by decide +kernel) ⟨Nat.le_of_ble_eq_true rfl, Nat.le_of_ble_eq_true rfl⟩) hG hP hD hS hA [] [0, 1, 2, 3, 4, 5, 6, 7] rfl rfl (by decide) (by decide) (by decide) rfl hl.1 rfl (Nat.le_of_ble_eq_true rfl) dX9_probe_20 ⟨Nat.le_of_ble_eq_true rfl, Nat.le_of_ble_eq_true rfl⟩ rfl rfl (fun v w H locs hv hP hD hS => ?_)
      obtain ⟨⟨rfl, hb5⟩ | ⟨rfl, hb5⟩, rfl⟩ := hv
      · show W p l e _ s m _ below meth c H locs 0 0 _ (F0 m 23 ls (.int (iI 1) :: []))
        have hb5 : 0 ≤ lane ∧ lane ≤ 2 := hb5
        have hP : va_P g.1 vwCl [(hm, .inr (9, mF a i)), ((a 1), aI (g.2.1 0) 3 fa), ((a 2), aI (g.2.1 0) 3 fd), ((a 3), aI (g.2.1 0) 3 fn), ((a 4), aI (g.2.1 0) 6 fp), ((a 35), aI (g.2.1 0) 160 fi), ((a 33), aI (g.2.1 0) 4 fl), ((a 34), aI (g.2.1 0) 4 fz)] H := hP
        have hD : va_D A [(hm, .inr (9, mF a i)), ((a 1), aI (g.2.1 0) 3 fa), ((a 2), aI (g.2.1 0) 3 fd), ((a 3), aI (g.2.1 0) 3 fn), ((a 4), aI (g.2.1 0) 6 fp), ((a 35), aI (g.2.1 0) 160 fi), ((a 33), aI (g.2.1 0) 4 fl), ((a 34), aI (g.2.1 0) 4 fz)] := hD
        refine iv_if_eq (tgt := 39) hx hb dX9_probe_23 (by decide) (by decide) (fun h => absurd h (by decide)) (fun _ => ?_)
        refine lv_iload hx hb dX9_probe_26 (lv_at hl 5 rfl) ?_
        refine iv_i2l hx hb dX9_probe_28 (by omega) ?_
        refine lv_lconst (v := lI (1)) hx hb dX9_probe_29 (by decide) ?_
        refine iv_ldc2 (v := 6) (z := 6) hx hb hown (hts _ (List.mem_of_getElem? (i := 2) rfl)) dX9_probe_30 (by decide) ?_
        refine Ct.callS (As := [.long (lI k), .long (lI 1), .long (lI 6)]) (rest := []) (wr := [(hm, .inr (9, mF a i)), ((a 1), aI (g.2.1 0) 3 fa), ((a 2), aI (g.2.1 0) 3 fd), ((a 3), aI (g.2.1 0) 3 fn), ((a 4), aI (g.2.1 0) 6 fp), ((a 35), aI (g.2.1 0) 160 fi), ((a 33), aI (g.2.1 0) 4 fl), ((a 34), aI (g.2.1 0) 4 fz)]) (c1 := 0) (s1 := 0) ⟨hx, hb, hml, hown, hts⟩ (c_X9_in l g k 1 6 (by omega)) (va_cwS 3 hts gX9_probe_X9_in rfl rfl rfl (by decide +kernel) ⟨Nat.le_of_ble_eq_true rfl, Nat.le_of_ble_eq_true rfl⟩) hG hP hD hS hA [] [0, 1, 2, 3, 4, 5, 6, 7] rfl rfl (by decide) (by decide) (by decide) rfl hl.1 rfl (Nat.le_of_ble_eq_true rfl) dX9_probe_33 ⟨Nat.le_of_ble_eq_true rfl, Nat.le_of_ble_eq_true rfl⟩ rfl rfl (fun v w H locs hv hP hD hS => ?_)
        obtain ⟨⟨rfl, hb7⟩ | ⟨rfl, hb7⟩, rfl⟩ := hv
        · show W p l e _ s m _ below meth c H locs 0 0 _ (F0 m 36 ls (.int (iI 1) :: []))
          have hb7 : 1 ≤ k ∧ k ≤ 6 := hb7
          have hP : va_P g.1 vwCl [(hm, .inr (9, mF a i)), ((a 1), aI (g.2.1 0) 3 fa), ((a 2), aI (g.2.1 0) 3 fd), ((a 3), aI (g.2.1 0) 3 fn), ((a 4), aI (g.2.1 0) 6 fp), ((a 35), aI (g.2.1 0) 160 fi), ((a 33), aI (g.2.1 0) 4 fl), ((a 34), aI (g.2.1 0) 4 fz)] H := hP
          have hD : va_D A [(hm, .inr (9, mF a i)), ((a 1), aI (g.2.1 0) 3 fa), ((a 2), aI (g.2.1 0) 3 fd), ((a 3), aI (g.2.1 0) 3 fn), ((a 4), aI (g.2.1 0) 6 fp), ((a 35), aI (g.2.1 0) 160 fi), ((a 33), aI (g.2.1 0) 4 fl), ((a 34), aI (g.2.1 0) 4 fz)] := hD
          refine iv_if_ne (tgt := 41) hx hb dX9_probe_36 (by decide) (by decide) (fun _ => ?_) (fun h => absurd h (by decide))
          have hk := hL x.toNat (by omega)
          refine lv_aload_n hx hb dX9_probe_41 rfl (lv_at hl 0 rfl) ?_
          refine lv_iload_n hx hb dX9_probe_42 rfl (lv_at hl 2 rfl) ?_
          refine lv_iload_n hx hb dX9_probe_43 rfl (lv_at hl 3 rfl) ?_
          refine lv_iload hx hb dX9_probe_44 (lv_at hl 4 rfl) ?_
          refine lv_iload hx hb dX9_probe_46 (lv_at hl 5 rfl) ?_
          refine Ct.callV (ci := 9) (q0 := 0) (qc := (RX9, TX9, 37)) (As := [.int (iI x), .int (iI lane), .int (iI x2), .int (iI k)]) (rest := []) (wr := [((a 1), aI (g.2.1 0) 3 fa), ((a 2), aI (g.2.1 0) 3 fd), ((a 3), aI (g.2.1 0) 3 fn), ((a 4), aI (g.2.1 0) 6 fp), ((a 35), aI (g.2.1 0) 160 fi)]) (c1 := 0) (s1 := 0) ⟨hx, hb, hml, hown, hts⟩ (c_X9_finds l g hm a i fl fz x lane x2 k x.toNat (by omega) (hL)) rfl rfl (cwV 4 hts gX9_probe_X9_finds rfl rfl rfl (by decide +kernel) ⟨Nat.le_of_ble_eq_true rfl, Nat.le_of_ble_eq_true rfl⟩) hG hP hD hS hA [0, 6, 7] [1, 2, 3, 4, 5] rfl rfl (by decide) (by decide) (by decide) rfl hl.1 rfl (Nat.le_of_ble_eq_true rfl) dX9_probe_48 ⟨Nat.le_of_ble_eq_true rfl, Nat.le_of_ble_eq_true rfl⟩ rfl rfl (fun v w H locs hv hP hD hS => ?_)
          obtain ⟨r9, rfl, rfl, hf10⟩ := hv
          show W p l e _ s m _ below meth c H locs 0 0 _ (F0 m 51 ls (.int (iI r9) :: []))
          have hP : va_P g.1 vwCl [((a 1), aI (g.2.1 0) 3 fa), ((a 2), aI (g.2.1 0) 3 fd), ((a 3), aI (g.2.1 0) 3 fn), ((a 4), aI (g.2.1 0) 6 fp), ((a 35), aI (g.2.1 0) 160 fi), (hm, .inr (9, mF a i)), ((a 33), aI (g.2.1 0) 4 fl), ((a 34), aI (g.2.1 0) 4 fz)] H := hP
          have hD : va_D A [((a 1), aI (g.2.1 0) 3 fa), ((a 2), aI (g.2.1 0) 3 fd), ((a 3), aI (g.2.1 0) 3 fn), ((a 4), aI (g.2.1 0) 6 fp), ((a 35), aI (g.2.1 0) 160 fi), (hm, .inr (9, mF a i)), ((a 33), aI (g.2.1 0) 4 fl), ((a 34), aI (g.2.1 0) 4 fz)] := hD
          have hf10 : r9 = findS (fl x.toNat) (fz x.toNat) lane x2 k := hf10
          have hrf : findS (fl x.toNat) (fz x.toNat) lane x2 k = -11 ∨ findS (fl x.toNat) (fz x.toNat) lane x2 k = -12 ∨ findS (fl x.toNat) (fz x.toNat) lane x2 k = -13 ∨ (findS (fl x.toNat) (fz x.toNat) lane x2 k = 0 ∧ 0 ≤ x2 ∧ x2 + k ≤ 40) := by unfold findS; (repeat' split) <;> omega
          refine lv_istore (lv' := [(6, .int (iI r9)), (0, .ref hm), (1, .int (iI n)), (2, .int (iI x)), (3, .int (iI lane)), (4, .int (iI x2)), (5, .int (iI k))]) hx hb dX9_probe_51 hl (by decide) rfl (fun ls hl => ?_)
          refine lv_iload hx hb dX9_probe_53 (lv_at hl 0 rfl) ?_
          refine iv_if_ge (tgt := 61) hx hb dX9_probe_55 (by decide) (by omega) (fun hc11 => ?_) (fun hc11 => ?_)
          · refine lv_iconst (v := iI (0)) hx hb dX9_probe_61 rfl ?_
            refine lv_istore (lv' := [(7, .int (iI 0)), (6, .int (iI r9)), (0, .ref hm), (1, .int (iI n)), (2, .int (iI x)), (3, .int (iI lane)), (4, .int (iI x2)), (5, .int (iI k))]) hx hb dX9_probe_62 hl (by decide) rfl (fun ls hl => ?_)
            have hloop64 : ∀ (fuel : Nat) (zj : Int) (j : Nat) (hc : zj = (j : Int) ∧ zj ≤ k) (ha : aS (fun j => fi (40 * x.toNat + x2.toNat + j)) (k.toNat - j) j = aS (fun j => fi (40 * x.toNat + x2.toNat + j)) k.toNat 0) (hmeas : k.toNat - j < fuel), ∀ (H : Heap) (locs : List Loc) (ls : Array Slot), va_P g.1 vwCl [((a 1), aI (g.2.1 0) 3 fa), ((a 2), aI (g.2.1 0) 3 fd), ((a 3), aI (g.2.1 0) 3 fn), ((a 4), aI (g.2.1 0) 6 fp), ((a 35), aI (g.2.1 0) 160 fi), (hm, .inr (9, mF a i)), ((a 33), aI (g.2.1 0) 4 fl), ((a 34), aI (g.2.1 0) 4 fz)] H → va_D A [((a 1), aI (g.2.1 0) 3 fa), ((a 2), aI (g.2.1 0) 3 fd), ((a 3), aI (g.2.1 0) 3 fn), ((a 4), aI (g.2.1 0) 6 fp), ((a 35), aI (g.2.1 0) 160 fi), (hm, .inr (9, mF a i)), ((a 33), aI (g.2.1 0) 4 fl), ((a 34), aI (g.2.1 0) 4 fz)] → va_S A s.heap H locs → lv_has ls 12 [(7, .int (iI zj)), (6, .int (iI r9)), (0, .ref hm), (1, .int (iI n)), (2, .int (iI x)), (3, .int (iI lane)), (4, .int (iI x2)), (5, .int (iI k))] → W p l e ({ frames := 3, cells := 0, slots := 0, locals := 80 } : Room) s m [.ref hm, .int (iI n), .int (iI x), .int (iI lane), .int (iI x2), .int (iI k)].toArray below meth c H locs 0 0 (MQ below (CQ g (q_X9_probe g hm a i fa fd fn fp fi fl fz n x lane x2 k) A) [.ref hm, .int (iI n), .int (iI x), .int (iI lane), .int (iI x2), .int (iI k)].toArray s ({ frames := 3, cells := 0, slots := 0, locals := 80 } : Room).cells ({ frames := 3, cells := 0, slots := 0, locals := 80 } : Room).slots A) (F0 m 64 ls []) := by
              intro fuel
              induction fuel with
              | zero => intro zj j hc ha hmeas; exact absurd hmeas (Nat.not_lt_zero _)
              | succ fuel ih64 =>
                intro zj j hc ha hmeas H locs ls hP hD hS hl
                refine lv_iload hx hb dX9_probe_64 (lv_at hl 0 rfl) ?_
                refine lv_iload hx hb dX9_probe_66 (lv_at hl 7 rfl) ?_
                refine iv_icmp_ge (tgt := 101) hx hb dX9_probe_68 (by decide) (by omega) (fun hc12 => ?_) (fun hc12 => ?_)
                · have hall : aS (fun j => fi (40 * x.toNat + x2.toNat + j)) k.toNat 0 = 1 := by rw [← ha, show k.toNat - j = 0 from by omega]; rfl
                  refine lv_iconst (v := iI (0)) hx hb dX9_probe_101 rfl ?_
                  refine lv_istore (lv' := [(7, .int (iI 0)), (6, .int (iI r9)), (0, .ref hm), (1, .int (iI n)), (2, .int (iI x)), (3, .int (iI lane)), (4, .int (iI x2)), (5, .int (iI k))]) hx hb dX9_probe_102 hl (by decide) rfl (fun ls hl => ?_)
                  refine lv_iconst (v := iI (0)) hx hb dX9_probe_104 rfl ?_
                  refine lv_istore (lv' := [(8, .int (iI 0)), (7, .int (iI 0)), (6, .int (iI r9)), (0, .ref hm), (1, .int (iI n)), (2, .int (iI x)), (3, .int (iI lane)), (4, .int (iI x2)), (5, .int (iI k))]) hx hb dX9_probe_105 hl (by decide) rfl (fun ls hl => ?_)
                  refine lv_iconst (v := iI (0)) hx hb dX9_probe_107 rfl ?_
                  refine lv_istore (lv' := [(9, .int (iI 0)), (8, .int (iI 0)), (7, .int (iI 0)), (6, .int (iI r9)), (0, .ref hm), (1, .int (iI n)), (2, .int (iI x)), (3, .int (iI lane)), (4, .int (iI x2)), (5, .int (iI k))]) hx hb dX9_probe_108 hl (by decide) rfl (fun ls hl => ?_)
                  have hloop110 : ∀ (fuel : Nat) (bs : Int) (ms : Int) (zm : Int) (gz : Nat → Int) (gx : Nat → Int) (gy : Nat → Int) (gv : Nat → Int) (mu : Nat) (hmu : zm = (mu : Int) ∧ zm ≤ n ∧ 0 ≤ ms ∧ ms ≤ k) (hO : pbO (dfD (fun j => fi (40 * x.toNat + x2.toNat + j)) k.toNat) (n.toNat - mu) mu (bs, ms) = pbO (dfD (fun j => fi (40 * x.toNat + x2.toNat + j)) k.toNat) n.toNat 0 (0, 0)) (hmeas : n.toNat - mu < fuel), ∀ (H : Heap) (locs : List Loc) (ls : Array Slot), va_P g.1 vwCl [((a 1), aI (g.2.1 0) 3 gz), ((a 2), aI (g.2.1 0) 3 gx), ((a 3), aI (g.2.1 0) 3 gy), ((a 4), aI (g.2.1 0) 6 gv), ((a 35), aI (g.2.1 0) 160 fi), (hm, .inr (9, mF a i)), ((a 33), aI (g.2.1 0) 4 fl), ((a 34), aI (g.2.1 0) 4 fz)] H → va_D A [((a 1), aI (g.2.1 0) 3 gz), ((a 2), aI (g.2.1 0) 3 gx), ((a 3), aI (g.2.1 0) 3 gy), ((a 4), aI (g.2.1 0) 6 gv), ((a 35), aI (g.2.1 0) 160 fi), (hm, .inr (9, mF a i)), ((a 33), aI (g.2.1 0) 4 fl), ((a 34), aI (g.2.1 0) 4 fz)] → va_S A s.heap H locs → lv_has ls 12 [(9, .int (iI zm)), (8, .int (iI ms)), (7, .int (iI bs)), (6, .int (iI r9)), (0, .ref hm), (1, .int (iI n)), (2, .int (iI x)), (3, .int (iI lane)), (4, .int (iI x2)), (5, .int (iI k))] → W p l e ({ frames := 3, cells := 0, slots := 0, locals := 80 } : Room) s m [.ref hm, .int (iI n), .int (iI x), .int (iI lane), .int (iI x2), .int (iI k)].toArray below meth c H locs 0 0 (MQ below (CQ g (q_X9_probe g hm a i fa fd fn fp fi fl fz n x lane x2 k) A) [.ref hm, .int (iI n), .int (iI x), .int (iI lane), .int (iI x2), .int (iI k)].toArray s ({ frames := 3, cells := 0, slots := 0, locals := 80 } : Room).cells ({ frames := 3, cells := 0, slots := 0, locals := 80 } : Room).slots A) (F0 m 110 ls []) := by
                    intro fuel
                    induction fuel with
                    | zero => intro bs ms zm gz gx gy gv mu hmu hO hmeas; exact absurd hmeas (Nat.not_lt_zero _)
                    | succ fuel ih110 =>
                      intro bs ms zm gz gx gy gv mu hmu hO hmeas H locs ls hP hD hS hl
                      refine lv_iload hx hb dX9_probe_110 (lv_at hl 0 rfl) ?_
                      refine lv_iload_n hx hb dX9_probe_112 rfl (lv_at hl 5 rfl) ?_
                      refine iv_icmp_ge (tgt := 192) hx hb dX9_probe_113 (by decide) (by omega) (fun hc13 => ?_) (fun hc13 => ?_)
                      · refine lv_iload hx hb dX9_probe_192 (lv_at hl 2 rfl) ?_
                        exact Ct.iret hx hb hr hlocks (hP.sub [5, 0, 1, 2, 3, 4, 6, 7] rfl) (hD.sub [5, 0, 1, 2, 3, 4, 6, 7] (by decide) rfl) hS ⟨by decide, by decide⟩ dX9_probe_194 ⟨bs, gz, gx, gy, gv, rfl, rfl, (by rw [if_neg (by omega), if_neg (by omega)]; unfold probeR; rw [if_neg (by rw [hall]; omega), ← hO, show n.toNat - mu = 0 from by omega]; rfl)⟩
                      · refine lv_iconst (v := iI (0)) hx hb dX9_probe_116 rfl ?_
                        refine lv_istore (lv' := [(10, .int (iI 0)), (9, .int (iI zm)), (8, .int (iI ms)), (7, .int (iI bs)), (6, .int (iI r9)), (0, .ref hm), (1, .int (iI n)), (2, .int (iI x)), (3, .int (iI lane)), (4, .int (iI x2)), (5, .int (iI k))]) hx hb dX9_probe_117 hl (by decide) rfl (fun ls hl => ?_)
                        have hloop119 : ∀ (fuel : Nat) (b2 : Int) (m2 : Int) (zl : Int) (gz2 : Nat → Int) (gx2 : Nat → Int) (gy2 : Nat → Int) (gv2 : Nat → Int) (le : Nat) (hle : zl = (le : Int) ∧ zl ≤ zm + 1 ∧ 0 ≤ m2 ∧ m2 ≤ k) (hI : pbI (dfD (fun j => fi (40 * x.toNat + x2.toNat + j)) k.toNat) mu (mu + 1 - le) le (b2, m2) = pbI (dfD (fun j => fi (40 * x.toNat + x2.toNat + j)) k.toNat) mu (mu + 1) 0 (bs, ms)) (hmeas : mu + 1 - le < fuel), ∀ (H : Heap) (locs : List Loc) (ls : Array Slot), va_P g.1 vwCl [((a 1), aI (g.2.1 0) 3 gz2), ((a 2), aI (g.2.1 0) 3 gx2), ((a 3), aI (g.2.1 0) 3 gy2), ((a 4), aI (g.2.1 0) 6 gv2), ((a 35), aI (g.2.1 0) 160 fi), (hm, .inr (9, mF a i)), ((a 33), aI (g.2.1 0) 4 fl), ((a 34), aI (g.2.1 0) 4 fz)] H → va_D A [((a 1), aI (g.2.1 0) 3 gz2), ((a 2), aI (g.2.1 0) 3 gx2), ((a 3), aI (g.2.1 0) 3 gy2), ((a 4), aI (g.2.1 0) 6 gv2), ((a 35), aI (g.2.1 0) 160 fi), (hm, .inr (9, mF a i)), ((a 33), aI (g.2.1 0) 4 fl), ((a 34), aI (g.2.1 0) 4 fz)] → va_S A s.heap H locs → lv_has ls 12 [(10, .int (iI zl)), (9, .int (iI zm)), (8, .int (iI m2)), (7, .int (iI b2)), (6, .int (iI r9)), (0, .ref hm), (1, .int (iI n)), (2, .int (iI x)), (3, .int (iI lane)), (4, .int (iI x2)), (5, .int (iI k))] → W p l e ({ frames := 3, cells := 0, slots := 0, locals := 80 } : Room) s m [.ref hm, .int (iI n), .int (iI x), .int (iI lane), .int (iI x2), .int (iI k)].toArray below meth c H locs 0 0 (MQ below (CQ g (q_X9_probe g hm a i fa fd fn fp fi fl fz n x lane x2 k) A) [.ref hm, .int (iI n), .int (iI x), .int (iI lane), .int (iI x2), .int (iI k)].toArray s ({ frames := 3, cells := 0, slots := 0, locals := 80 } : Room).cells ({ frames := 3, cells := 0, slots := 0, locals := 80 } : Room).slots A) (F0 m 119 ls []) := by
                          intro fuel
                          induction fuel with
                          | zero => intro b2 m2 zl gz2 gx2 gy2 gv2 le hle hI hmeas; exact absurd hmeas (Nat.not_lt_zero _)
                          | succ fuel ih119 =>
                            intro b2 m2 zl gz2 gx2 gy2 gv2 le hle hI hmeas H locs ls hP hD hS hl
                            refine lv_iload hx hb dX9_probe_119 (lv_at hl 0 rfl) ?_
                            refine lv_iload hx hb dX9_probe_121 (lv_at hl 1 rfl) ?_
                            refine iv_icmp_gt (tgt := 186) hx hb dX9_probe_123 (by decide) (by omega) (fun hc14 => ?_) (fun hc14 => ?_)
                            · refine iv_iinc (k := 1) (x := zm) (lv' := [(9, .int (iI (zm + 1))), (10, .int (iI zl)), (8, .int (iI m2)), (7, .int (iI b2)), (6, .int (iI r9)), (0, .ref hm), (1, .int (iI n)), (2, .int (iI x)), (3, .int (iI lane)), (4, .int (iI x2)), (5, .int (iI k))]) hx hb dX9_probe_186 hl rfl (by decide) rfl (fun ls hl => ?_)
                              refine lv_goto (tgt := 110) hx hb dX9_probe_189 (by decide) ?_
                              exact ih110 b2 m2 (zm + 1) gz2 gx2 gy2 gv2 (mu + 1) (by omega) (by rw [← hO, show n.toNat - mu = (n.toNat - (mu + 1)) + 1 from by omega]; simp only [pbO]; rw [← hI, show mu + 1 - le = 0 from by omega]; rfl) (by omega) H locs ls (hP.sub [0, 1, 2, 3, 4, 5, 6, 7] rfl) (hD.sub [0, 1, 2, 3, 4, 5, 6, 7] (by decide) rfl) hS (lv_sub hl [0, 2, 3, 4, 5, 6, 7, 8, 9, 10] rfl)
                            · refine lv_aload_n hx hb dX9_probe_126 rfl (lv_at hl 5 rfl) ?_
                              refine lv_iload hx hb dX9_probe_127 (lv_at hl 1 rfl) ?_
                              refine lv_iload hx hb dX9_probe_129 (lv_at hl 0 rfl) ?_
                              refine lv_iload_n hx hb dX9_probe_131 rfl (lv_at hl 7 rfl) ?_
                              refine lv_iload hx hb dX9_probe_132 (lv_at hl 9 rfl) ?_
                              refine lv_iload hx hb dX9_probe_134 (lv_at hl 10 rfl) ?_
                              refine Ct.callV (ci := 9) (q0 := 5) (qc := (RX9, TX9, 37)) (As := [.int (iI zm), .int (iI zl), .int (iI x), .int (iI x2), .int (iI k)]) (rest := []) (wr := [((a 33), aI (g.2.1 0) 4 fl), ((a 34), aI (g.2.1 0) 4 fz)]) (c1 := 0) (s1 := 0) ⟨hx, hb, hml, hown, hts⟩ (c_X9_unlike l g hm a i gz2 gx2 gy2 gv2 fi (fun j => fi (40 * x.toNat + x2.toNat + j)) zm zl x x2 k k.toNat (40 * x.toNat + x2.toNat) (by omega) (fun e he => ⟨rfl, aS_all (ps := (fun j => fi (40 * x.toNat + x2.toNat + j))) _ _ hall e (by omega) (by omega)⟩)) rfl rfl (cwV 5 hts gX9_probe_X9_unlike rfl rfl rfl (by decide +kernel) ⟨Nat.le_of_ble_eq_true rfl, Nat.le_of_ble_eq_true rfl⟩) hG hP hD hS hA [5, 0, 1, 2, 3, 4] [6, 7] rfl rfl (by decide) (by decide) (by decide) rfl hl.1 rfl (Nat.le_of_ble_eq_true rfl) dX9_probe_136 ⟨Nat.le_of_ble_eq_true rfl, Nat.le_of_ble_eq_true rfl⟩ rfl rfl (fun v w H locs hv hP hD hS => ?_)
                              obtain ⟨r15, fa16, fd17, fn18, fp19, rfl, rfl, hf20⟩ := hv
                              show W p l e _ s m _ below meth c H locs 0 0 _ (F0 m 139 ls (.int (iI r15) :: []))
                              have hP : va_P g.1 vwCl [((a 33), aI (g.2.1 0) 4 fl), ((a 34), aI (g.2.1 0) 4 fz), (hm, .inr (9, mF a i)), ((a 1), aI (g.2.1 0) 3 fa16), ((a 2), aI (g.2.1 0) 3 fd17), ((a 3), aI (g.2.1 0) 3 fn18), ((a 4), aI (g.2.1 0) 6 fp19), ((a 35), aI (g.2.1 0) 160 fi)] H := hP
                              have hD : va_D A [((a 33), aI (g.2.1 0) 4 fl), ((a 34), aI (g.2.1 0) 4 fz), (hm, .inr (9, mF a i)), ((a 1), aI (g.2.1 0) 3 fa16), ((a 2), aI (g.2.1 0) 3 fd17), ((a 3), aI (g.2.1 0) 3 fn18), ((a 4), aI (g.2.1 0) 6 fp19), ((a 35), aI (g.2.1 0) 160 fi)] := hD
                              have hdr := dfD_rng (fun j => fi (40 * x.toNat + x2.toNat + j)) k.toNat mu le
                              have hdf : r15 = dfD (fun j => fi (40 * x.toNat + x2.toNat + j)) k.toNat mu le := by rw [hf20, hmu.1, hle.1]; rfl
                              refine lv_istore (lv' := [(11, .int (iI r15)), (10, .int (iI zl)), (9, .int (iI zm)), (8, .int (iI m2)), (7, .int (iI b2)), (6, .int (iI r9)), (0, .ref hm), (1, .int (iI n)), (2, .int (iI x)), (3, .int (iI lane)), (4, .int (iI x2)), (5, .int (iI k))]) hx hb dX9_probe_139 hl (by decide) rfl (fun ls hl => ?_)
                              refine lv_iload hx hb dX9_probe_141 (lv_at hl 0 rfl) ?_
                              refine lv_iload hx hb dX9_probe_143 (lv_at hl 3 rfl) ?_
                              refine iv_icmp_le (tgt := 160) hx hb dX9_probe_145 (by decide) (by omega) (fun hc21 => ?_) (fun hc21 => ?_)
                              · refine lv_iload hx hb dX9_probe_160 (lv_at hl 4 rfl) ?_
                                refine lv_istore (lv' := [(7, .int (iI b2)), (11, .int (iI r15)), (10, .int (iI zl)), (9, .int (iI zm)), (8, .int (iI m2)), (6, .int (iI r9)), (0, .ref hm), (1, .int (iI n)), (2, .int (iI x)), (3, .int (iI lane)), (4, .int (iI x2)), (5, .int (iI k))]) hx hb dX9_probe_162 hl (by decide) rfl (fun ls hl => ?_)
                                refine lv_iload hx hb dX9_probe_164 (lv_at hl 1 rfl) ?_
                                refine lv_iload hx hb dX9_probe_166 (lv_at hl 4 rfl) ?_
                                refine iv_icmp_le (tgt := 176) hx hb dX9_probe_168 (by decide) (by omega) (fun hc22 => ?_) (fun hc22 => ?_)
                                · refine lv_iload hx hb dX9_probe_176 (lv_at hl 4 rfl) ?_
                                  refine lv_istore (lv' := [(8, .int (iI m2)), (7, .int (iI b2)), (11, .int (iI r15)), (10, .int (iI zl)), (9, .int (iI zm)), (6, .int (iI r9)), (0, .ref hm), (1, .int (iI n)), (2, .int (iI x)), (3, .int (iI lane)), (4, .int (iI x2)), (5, .int (iI k))]) hx hb dX9_probe_178 hl (by decide) rfl (fun ls hl => ?_)
                                  refine iv_iinc (k := 3) (x := zl) (lv' := [(10, .int (iI (zl + 1))), (8, .int (iI m2)), (7, .int (iI b2)), (11, .int (iI r15)), (9, .int (iI zm)), (6, .int (iI r9)), (0, .ref hm), (1, .int (iI n)), (2, .int (iI x)), (3, .int (iI lane)), (4, .int (iI x2)), (5, .int (iI k))]) hx hb dX9_probe_180 hl rfl (by decide) rfl (fun ls hl => ?_)
                                  refine lv_goto (tgt := 119) hx hb dX9_probe_183 (by decide) ?_
                                  exact ih119 b2 m2 (zl + 1) fa16 fd17 fn18 fp19 (le + 1) (by omega) (by rw [← hI, show mu + 1 - le = (mu + 1 - (le + 1)) + 1 from by omega]; simp only [pbI]; first | (exfalso; omega) | rw [if_pos (show m2 < dfD (fun j => fi (40 * x.toNat + x2.toNat + j)) k.toNat mu le by omega), ← hdf, hmu.1, hle.1] | rw [if_neg (show ¬ m2 < dfD (fun j => fi (40 * x.toNat + x2.toNat + j)) k.toNat mu le by omega)]) (by omega) H locs ls (hP.sub [3, 4, 5, 6, 7, 2, 0, 1] rfl) (hD.sub [3, 4, 5, 6, 7, 2, 0, 1] (by decide) rfl) hS (lv_sub hl [0, 4, 1, 2, 5, 6, 7, 8, 9, 10, 11] rfl)
                                · refine lv_iload hx hb dX9_probe_171 (lv_at hl 1 rfl) ?_
                                  refine lv_goto (tgt := 178) hx hb dX9_probe_173 (by decide) ?_
                                  refine lv_istore (lv' := [(8, .int (iI r15)), (7, .int (iI b2)), (11, .int (iI r15)), (10, .int (iI zl)), (9, .int (iI zm)), (6, .int (iI r9)), (0, .ref hm), (1, .int (iI n)), (2, .int (iI x)), (3, .int (iI lane)), (4, .int (iI x2)), (5, .int (iI k))]) hx hb dX9_probe_178 hl (by decide) rfl (fun ls hl => ?_)
                                  refine iv_iinc (k := 3) (x := zl) (lv' := [(10, .int (iI (zl + 1))), (8, .int (iI r15)), (7, .int (iI b2)), (11, .int (iI r15)), (9, .int (iI zm)), (6, .int (iI r9)), (0, .ref hm), (1, .int (iI n)), (2, .int (iI x)), (3, .int (iI lane)), (4, .int (iI x2)), (5, .int (iI k))]) hx hb dX9_probe_180 hl rfl (by decide) rfl (fun ls hl => ?_)
                                  refine lv_goto (tgt := 119) hx hb dX9_probe_183 (by decide) ?_
                                  exact ih119 b2 r15 (zl + 1) fa16 fd17 fn18 fp19 (le + 1) (by omega) (by rw [← hI, show mu + 1 - le = (mu + 1 - (le + 1)) + 1 from by omega]; simp only [pbI]; first | (exfalso; omega) | rw [if_pos (show m2 < dfD (fun j => fi (40 * x.toNat + x2.toNat + j)) k.toNat mu le by omega), ← hdf, hmu.1, hle.1] | rw [if_neg (show ¬ m2 < dfD (fun j => fi (40 * x.toNat + x2.toNat + j)) k.toNat mu le by omega)]) (by omega) H locs ls (hP.sub [3, 4, 5, 6, 7, 2, 0, 1] rfl) (hD.sub [3, 4, 5, 6, 7, 2, 0, 1] (by decide) rfl) hS (lv_sub hl [0, 4, 1, 2, 5, 6, 7, 8, 9, 10, 11] rfl)
                              · refine lv_sipush (v := iI (1000)) hx hb dX9_probe_148 (by decide) ?_
                                refine lv_iload hx hb dX9_probe_151 (lv_at hl 2 rfl) ?_
                                refine iv_imul hx hb dX9_probe_153 ?_
                                refine lv_iload hx hb dX9_probe_154 (lv_at hl 1 rfl) ?_
                                refine iv_iadd hx hb dX9_probe_156 ?_
                                refine lv_goto (tgt := 162) hx hb dX9_probe_157 (by decide) ?_
                                refine lv_istore (lv' := [(7, .int (iI ((1000 * zm) + zl))), (11, .int (iI r15)), (10, .int (iI zl)), (9, .int (iI zm)), (8, .int (iI m2)), (6, .int (iI r9)), (0, .ref hm), (1, .int (iI n)), (2, .int (iI x)), (3, .int (iI lane)), (4, .int (iI x2)), (5, .int (iI k))]) hx hb dX9_probe_162 hl (by decide) rfl (fun ls hl => ?_)
                                refine lv_iload hx hb dX9_probe_164 (lv_at hl 1 rfl) ?_
                                refine lv_iload hx hb dX9_probe_166 (lv_at hl 4 rfl) ?_
                                refine iv_icmp_le (tgt := 176) hx hb dX9_probe_168 (by decide) (by omega) (fun hc23 => ?_) (fun hc23 => ?_)
                                · refine lv_iload hx hb dX9_probe_176 (lv_at hl 4 rfl) ?_
                                  refine lv_istore (lv' := [(8, .int (iI m2)), (7, .int (iI ((1000 * zm) + zl))), (11, .int (iI r15)), (10, .int (iI zl)), (9, .int (iI zm)), (6, .int (iI r9)), (0, .ref hm), (1, .int (iI n)), (2, .int (iI x)), (3, .int (iI lane)), (4, .int (iI x2)), (5, .int (iI k))]) hx hb dX9_probe_178 hl (by decide) rfl (fun ls hl => ?_)
                                  refine iv_iinc (k := 3) (x := zl) (lv' := [(10, .int (iI (zl + 1))), (8, .int (iI m2)), (7, .int (iI ((1000 * zm) + zl))), (11, .int (iI r15)), (9, .int (iI zm)), (6, .int (iI r9)), (0, .ref hm), (1, .int (iI n)), (2, .int (iI x)), (3, .int (iI lane)), (4, .int (iI x2)), (5, .int (iI k))]) hx hb dX9_probe_180 hl rfl (by decide) rfl (fun ls hl => ?_)
                                  refine lv_goto (tgt := 119) hx hb dX9_probe_183 (by decide) ?_
                                  exact ih119 ((1000 * zm) + zl) m2 (zl + 1) fa16 fd17 fn18 fp19 (le + 1) (by omega) (by rw [← hI, show mu + 1 - le = (mu + 1 - (le + 1)) + 1 from by omega]; simp only [pbI]; first | (exfalso; omega) | rw [if_pos (show m2 < dfD (fun j => fi (40 * x.toNat + x2.toNat + j)) k.toNat mu le by omega), ← hdf, hmu.1, hle.1] | rw [if_neg (show ¬ m2 < dfD (fun j => fi (40 * x.toNat + x2.toNat + j)) k.toNat mu le by omega)]) (by omega) H locs ls (hP.sub [3, 4, 5, 6, 7, 2, 0, 1] rfl) (hD.sub [3, 4, 5, 6, 7, 2, 0, 1] (by decide) rfl) hS (lv_sub hl [0, 4, 1, 2, 5, 6, 7, 8, 9, 10, 11] rfl)
                                · refine lv_iload hx hb dX9_probe_171 (lv_at hl 1 rfl) ?_
                                  refine lv_goto (tgt := 178) hx hb dX9_probe_173 (by decide) ?_
                                  refine lv_istore (lv' := [(8, .int (iI r15)), (7, .int (iI ((1000 * zm) + zl))), (11, .int (iI r15)), (10, .int (iI zl)), (9, .int (iI zm)), (6, .int (iI r9)), (0, .ref hm), (1, .int (iI n)), (2, .int (iI x)), (3, .int (iI lane)), (4, .int (iI x2)), (5, .int (iI k))]) hx hb dX9_probe_178 hl (by decide) rfl (fun ls hl => ?_)
                                  refine iv_iinc (k := 3) (x := zl) (lv' := [(10, .int (iI (zl + 1))), (8, .int (iI r15)), (7, .int (iI ((1000 * zm) + zl))), (11, .int (iI r15)), (9, .int (iI zm)), (6, .int (iI r9)), (0, .ref hm), (1, .int (iI n)), (2, .int (iI x)), (3, .int (iI lane)), (4, .int (iI x2)), (5, .int (iI k))]) hx hb dX9_probe_180 hl rfl (by decide) rfl (fun ls hl => ?_)
                                  refine lv_goto (tgt := 119) hx hb dX9_probe_183 (by decide) ?_
                                  exact ih119 ((1000 * zm) + zl) r15 (zl + 1) fa16 fd17 fn18 fp19 (le + 1) (by omega) (by rw [← hI, show mu + 1 - le = (mu + 1 - (le + 1)) + 1 from by omega]; simp only [pbI]; first | (exfalso; omega) | rw [if_pos (show m2 < dfD (fun j => fi (40 * x.toNat + x2.toNat + j)) k.toNat mu le by omega), ← hdf, hmu.1, hle.1] | rw [if_neg (show ¬ m2 < dfD (fun j => fi (40 * x.toNat + x2.toNat + j)) k.toNat mu le by omega)]) (by omega) H locs ls (hP.sub [3, 4, 5, 6, 7, 2, 0, 1] rfl) (hD.sub [3, 4, 5, 6, 7, 2, 0, 1] (by decide) rfl) hS (lv_sub hl [0, 4, 1, 2, 5, 6, 7, 8, 9, 10, 11] rfl)
                        exact hloop119 _ bs ms 0 gz gx gy gv 0 (by omega) (rfl) (Nat.lt_succ_self _) H locs ls (hP.sub [0, 1, 2, 3, 4, 5, 6, 7] rfl) (hD.sub [0, 1, 2, 3, 4, 5, 6, 7] (by decide) rfl) hS (lv_sub hl [0, 1, 2, 3, 4, 5, 6, 7, 8, 9, 10] rfl)
                  exact hloop110 _ 0 0 0 fa fd fn fp 0 (by omega) (rfl) (Nat.lt_succ_self _) H locs ls (hP.sub [0, 1, 2, 3, 4, 5, 6, 7] rfl) (hD.sub [0, 1, 2, 3, 4, 5, 6, 7] (by decide) rfl) hS (lv_sub hl [0, 1, 2, 3, 4, 5, 6, 7, 8, 9] rfl)
                · have h5j := h5 (40 * x.toNat + x2.toNat + j) (by omega)
                  refine lv_aload_n hx hb dX9_probe_71 rfl (lv_at hl 2 rfl) ?_
                  refine va_get (D := g.1) (ci := 9) (v := .ref (a 35)) hx hb hts kX9_probe_9 hown hG.1 hP 5 rfl rfl 35 (by decide) (hts _ (List.mem_of_getElem? (i := 3) rfl)) (fun _ h9 => h9) rfl dX9_probe_72 ?_
                  refine lv_bipush (v := iI (40)) hx hb dX9_probe_75 (by decide) ?_
                  refine lv_iload_n hx hb dX9_probe_77 rfl (lv_at hl 4 rfl) ?_
                  refine iv_imul hx hb dX9_probe_78 ?_
                  refine lv_iload hx hb dX9_probe_79 (lv_at hl 6 rfl) ?_
                  refine iv_iadd hx hb dX9_probe_81 ?_
                  refine lv_iload hx hb dX9_probe_82 (lv_at hl 0 rfl) ?_
                  refine iv_iadd hx hb dX9_probe_84 ?_
                  refine iv_iald hx hb hG hP 4 rfl (40 * x.toNat + x2.toNat + j) (by omega) (by omega) (by decide) dX9_probe_85 ?_
                  refine Ct.callS (As := [.int (iI (fi (40 * x.toNat + x2.toNat + j)))]) (rest := []) (wr := [((a 1), aI (g.2.1 0) 3 fa), ((a 2), aI (g.2.1 0) 3 fd), ((a 3), aI (g.2.1 0) 3 fn), ((a 4), aI (g.2.1 0) 6 fp), ((a 35), aI (g.2.1 0) 160 fi), (hm, .inr (9, mF a i)), ((a 33), aI (g.2.1 0) 4 fl), ((a 34), aI (g.2.1 0) 4 fz)]) (c1 := 0) (s1 := 0) ⟨hx, hb, hml, hown, hts⟩ (c_X9_isSet l g (fi (40 * x.toNat + x2.toNat + j)) (by omega)) (va_cwS 1 hts gX9_probe_X9_isSet rfl rfl rfl (by decide +kernel) ⟨Nat.le_of_ble_eq_true rfl, Nat.le_of_ble_eq_true rfl⟩) hG hP hD hS hA [] [0, 1, 2, 3, 4, 5, 6, 7] rfl rfl (by decide) (by decide) (by decide) rfl hl.1 rfl (Nat.le_of_ble_eq_true rfl) dX9_probe_86 ⟨Nat.le_of_ble_eq_true rfl, Nat.le_of_ble_eq_true rfl⟩ rfl rfl (fun v w H locs hv hP hD hS => ?_)
                  obtain ⟨⟨rfl, hb24⟩ | ⟨rfl, hb24⟩, rfl⟩ := hv
                  · show W p l e _ s m _ below meth c H locs 0 0 _ (F0 m 89 ls (.int (iI 1) :: []))
                    have hb24 : 0 ≤ (fi (40 * x.toNat + x2.toNat + j)) ∧ (fi (40 * x.toNat + x2.toNat + j)) ≤ 255 := hb24
                    have hP : va_P g.1 vwCl [((a 1), aI (g.2.1 0) 3 fa), ((a 2), aI (g.2.1 0) 3 fd), ((a 3), aI (g.2.1 0) 3 fn), ((a 4), aI (g.2.1 0) 6 fp), ((a 35), aI (g.2.1 0) 160 fi), (hm, .inr (9, mF a i)), ((a 33), aI (g.2.1 0) 4 fl), ((a 34), aI (g.2.1 0) 4 fz)] H := hP
                    have hD : va_D A [((a 1), aI (g.2.1 0) 3 fa), ((a 2), aI (g.2.1 0) 3 fd), ((a 3), aI (g.2.1 0) 3 fn), ((a 4), aI (g.2.1 0) 6 fp), ((a 35), aI (g.2.1 0) 160 fi), (hm, .inr (9, mF a i)), ((a 33), aI (g.2.1 0) 4 fl), ((a 34), aI (g.2.1 0) 4 fz)] := hD
                    refine iv_if_ne (tgt := 95) hx hb dX9_probe_89 (by decide) (by decide) (fun _ => ?_) (fun h => absurd h (by decide))
                    refine iv_iinc (k := 0) (x := zj) (lv' := [(7, .int (iI (zj + 1))), (6, .int (iI r9)), (0, .ref hm), (1, .int (iI n)), (2, .int (iI x)), (3, .int (iI lane)), (4, .int (iI x2)), (5, .int (iI k))]) hx hb dX9_probe_95 hl rfl (by decide) rfl (fun ls hl => ?_)
                    refine lv_goto (tgt := 64) hx hb dX9_probe_98 (by decide) ?_
                    exact ih64 (zj + 1) (j + 1) (by omega) (by rw [← ha, show k.toNat - j = (k.toNat - (j + 1)) + 1 from by omega]; simp only [aS]; rw [if_pos (by assumption)]) (by omega) H locs ls (hP.sub [0, 1, 2, 3, 4, 5, 6, 7] rfl) (hD.sub [0, 1, 2, 3, 4, 5, 6, 7] (by decide) rfl) hS (lv_sub hl [0, 1, 2, 3, 4, 5, 6, 7] rfl)
                  · show W p l e _ s m _ below meth c H locs 0 0 _ (F0 m 89 ls (.int (iI 0) :: []))
                    have hb24 : ¬ (0 ≤ (fi (40 * x.toNat + x2.toNat + j)) ∧ (fi (40 * x.toNat + x2.toNat + j)) ≤ 255) := hb24
                    have hP : va_P g.1 vwCl [((a 1), aI (g.2.1 0) 3 fa), ((a 2), aI (g.2.1 0) 3 fd), ((a 3), aI (g.2.1 0) 3 fn), ((a 4), aI (g.2.1 0) 6 fp), ((a 35), aI (g.2.1 0) 160 fi), (hm, .inr (9, mF a i)), ((a 33), aI (g.2.1 0) 4 fl), ((a 34), aI (g.2.1 0) 4 fz)] H := hP
                    have hD : va_D A [((a 1), aI (g.2.1 0) 3 fa), ((a 2), aI (g.2.1 0) 3 fd), ((a 3), aI (g.2.1 0) 3 fn), ((a 4), aI (g.2.1 0) 6 fp), ((a 35), aI (g.2.1 0) 160 fi), (hm, .inr (9, mF a i)), ((a 33), aI (g.2.1 0) 4 fl), ((a 34), aI (g.2.1 0) 4 fz)] := hD
                    refine iv_if_ne (tgt := 95) hx hb dX9_probe_89 (by decide) (by decide) (fun h => absurd h (by decide)) (fun _ => ?_)
                    refine lv_bipush (v := iI (-2)) hx hb dX9_probe_92 (by decide) ?_
                    exact Ct.iret hx hb hr hlocks (hP.sub [5, 0, 1, 2, 3, 4, 6, 7] rfl) (hD.sub [5, 0, 1, 2, 3, 4, 6, 7] (by decide) rfl) hS ⟨by decide, by decide⟩ dX9_probe_94 ⟨(-2), fa, fd, fn, fp, rfl, rfl, (by rw [if_neg (by omega), if_neg (by omega)]; have hz : aS (fun j => fi (40 * x.toNat + x2.toNat + j)) k.toNat 0 = 0 := (by rw [← ha, show k.toNat - j = (k.toNat - (j + 1)) + 1 from by omega]; simp only [aS]; rw [if_neg (by assumption)]); unfold probeR; rw [if_pos hz])⟩
            exact hloop64 _ 0 0 (by omega) (rfl) (Nat.lt_succ_self _) H locs ls (hP.sub [0, 1, 2, 3, 4, 5, 6, 7] rfl) (hD.sub [0, 1, 2, 3, 4, 5, 6, 7] (by decide) rfl) hS (lv_sub hl [0, 1, 2, 3, 4, 5, 6, 7] rfl)
          · refine lv_iload hx hb dX9_probe_58 (lv_at hl 0 rfl) ?_
            exact Ct.iret hx hb hr hlocks (hP.sub [5, 0, 1, 2, 3, 4, 6, 7] rfl) (hD.sub [5, 0, 1, 2, 3, 4, 6, 7] (by decide) rfl) hS ⟨by decide, by decide⟩ dX9_probe_60 ⟨r9, fa, fd, fn, fp, rfl, rfl, (by rw [if_neg (by omega), if_pos (by omega)]; assumption)⟩
        · show W p l e _ s m _ below meth c H locs 0 0 _ (F0 m 36 ls (.int (iI 0) :: []))
          have hb7 : ¬ (1 ≤ k ∧ k ≤ 6) := hb7
          have hP : va_P g.1 vwCl [(hm, .inr (9, mF a i)), ((a 1), aI (g.2.1 0) 3 fa), ((a 2), aI (g.2.1 0) 3 fd), ((a 3), aI (g.2.1 0) 3 fn), ((a 4), aI (g.2.1 0) 6 fp), ((a 35), aI (g.2.1 0) 160 fi), ((a 33), aI (g.2.1 0) 4 fl), ((a 34), aI (g.2.1 0) 4 fz)] H := hP
          have hD : va_D A [(hm, .inr (9, mF a i)), ((a 1), aI (g.2.1 0) 3 fa), ((a 2), aI (g.2.1 0) 3 fd), ((a 3), aI (g.2.1 0) 3 fn), ((a 4), aI (g.2.1 0) 6 fp), ((a 35), aI (g.2.1 0) 160 fi), ((a 33), aI (g.2.1 0) 4 fl), ((a 34), aI (g.2.1 0) 4 fz)] := hD
          refine iv_if_ne (tgt := 41) hx hb dX9_probe_36 (by decide) (by decide) (fun h => absurd h (by decide)) (fun _ => ?_)
          refine lv_iconst (v := iI (-1)) hx hb dX9_probe_39 rfl ?_
          exact Ct.iret hx hb hr hlocks (hP.sub [0, 1, 2, 3, 4, 5, 6, 7] rfl) (hD.sub [0, 1, 2, 3, 4, 5, 6, 7] (by decide) rfl) hS ⟨by decide, by decide⟩ dX9_probe_40 ⟨(-1), fa, fd, fn, fp, rfl, rfl, (by rw [if_pos (by omega)])⟩
      · show W p l e _ s m _ below meth c H locs 0 0 _ (F0 m 23 ls (.int (iI 0) :: []))
        have hb5 : ¬ (0 ≤ lane ∧ lane ≤ 2) := hb5
        have hP : va_P g.1 vwCl [(hm, .inr (9, mF a i)), ((a 1), aI (g.2.1 0) 3 fa), ((a 2), aI (g.2.1 0) 3 fd), ((a 3), aI (g.2.1 0) 3 fn), ((a 4), aI (g.2.1 0) 6 fp), ((a 35), aI (g.2.1 0) 160 fi), ((a 33), aI (g.2.1 0) 4 fl), ((a 34), aI (g.2.1 0) 4 fz)] H := hP
        have hD : va_D A [(hm, .inr (9, mF a i)), ((a 1), aI (g.2.1 0) 3 fa), ((a 2), aI (g.2.1 0) 3 fd), ((a 3), aI (g.2.1 0) 3 fn), ((a 4), aI (g.2.1 0) 6 fp), ((a 35), aI (g.2.1 0) 160 fi), ((a 33), aI (g.2.1 0) 4 fl), ((a 34), aI (g.2.1 0) 4 fz)] := hD
        refine iv_if_eq (tgt := 39) hx hb dX9_probe_23 (by decide) (by decide) (fun _ => ?_) (fun h => absurd h (by decide))
        refine lv_iconst (v := iI (-1)) hx hb dX9_probe_39 rfl ?_
        exact Ct.iret hx hb hr hlocks (hP.sub [0, 1, 2, 3, 4, 5, 6, 7] rfl) (hD.sub [0, 1, 2, 3, 4, 5, 6, 7] (by decide) rfl) hS ⟨by decide, by decide⟩ dX9_probe_40 ⟨(-1), fa, fd, fn, fp, rfl, rfl, (by rw [if_pos (by omega)])⟩
    · show W p l e _ s m _ below meth c H locs 0 0 _ (F0 m 16 ls (.int (iI 0) :: []))
      have hb3 : ¬ (0 ≤ x ∧ x ≤ 3) := hb3
      have hP : va_P g.1 vwCl [(hm, .inr (9, mF a i)), ((a 1), aI (g.2.1 0) 3 fa), ((a 2), aI (g.2.1 0) 3 fd), ((a 3), aI (g.2.1 0) 3 fn), ((a 4), aI (g.2.1 0) 6 fp), ((a 35), aI (g.2.1 0) 160 fi), ((a 33), aI (g.2.1 0) 4 fl), ((a 34), aI (g.2.1 0) 4 fz)] H := hP
      have hD : va_D A [(hm, .inr (9, mF a i)), ((a 1), aI (g.2.1 0) 3 fa), ((a 2), aI (g.2.1 0) 3 fd), ((a 3), aI (g.2.1 0) 3 fn), ((a 4), aI (g.2.1 0) 6 fp), ((a 35), aI (g.2.1 0) 160 fi), ((a 33), aI (g.2.1 0) 4 fl), ((a 34), aI (g.2.1 0) 4 fz)] := hD
      refine iv_if_eq (tgt := 39) hx hb dX9_probe_16 (by decide) (by decide) (fun _ => ?_) (fun h => absurd h (by decide))
      refine lv_iconst (v := iI (-1)) hx hb dX9_probe_39 rfl ?_
      exact Ct.iret hx hb hr hlocks (hP.sub [0, 1, 2, 3, 4, 5, 6, 7] rfl) (hD.sub [0, 1, 2, 3, 4, 5, 6, 7] (by decide) rfl) hS ⟨by decide, by decide⟩ dX9_probe_40 ⟨(-1), fa, fd, fn, fp, rfl, rfl, (by rw [if_pos (by omega)])⟩
  · show W p l e _ s m _ below meth c H locs 0 0 _ (F0 m 9 ls (.int (iI 0) :: []))
    have hb1 : ¬ (1 ≤ n ∧ n ≤ 200) := hb1
    have hP : va_P g.1 vwCl [(hm, .inr (9, mF a i)), ((a 1), aI (g.2.1 0) 3 fa), ((a 2), aI (g.2.1 0) 3 fd), ((a 3), aI (g.2.1 0) 3 fn), ((a 4), aI (g.2.1 0) 6 fp), ((a 35), aI (g.2.1 0) 160 fi), ((a 33), aI (g.2.1 0) 4 fl), ((a 34), aI (g.2.1 0) 4 fz)] H := hP
    have hD : va_D A [(hm, .inr (9, mF a i)), ((a 1), aI (g.2.1 0) 3 fa), ((a 2), aI (g.2.1 0) 3 fd), ((a 3), aI (g.2.1 0) 3 fn), ((a 4), aI (g.2.1 0) 6 fp), ((a 35), aI (g.2.1 0) 160 fi), ((a 33), aI (g.2.1 0) 4 fl), ((a 34), aI (g.2.1 0) 4 fz)] := hD
    refine iv_if_eq (tgt := 39) hx hb dX9_probe_9 (by decide) (by decide) (fun _ => ?_) (fun h => absurd h (by decide))
    refine lv_iconst (v := iI (-1)) hx hb dX9_probe_39 rfl ?_
    exact Ct.iret hx hb hr hlocks (hP.sub [0, 1, 2, 3, 4, 5, 6, 7] rfl) (hD.sub [0, 1, 2, 3, 4, 5, 6, 7] (by decide) rfl) hS ⟨by decide, by decide⟩ dX9_probe_40 ⟨(-1), fa, fd, fn, fp, rfl, rfl, (by rw [if_pos (by omega)])⟩
