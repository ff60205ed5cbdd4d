theorem kX8_hint_8 : ∀ w ∈ u_ws RX8 TX8 13, w ∈ wsX8_hint := fun _ h => List.mem_cons_of_mem _ (List.mem_append_right _ h)
abbrev q_X8_hint (g : GT) (hd : Nat) (d : Nat → Nat) (i : Nat → Int) (much : Int) (less : Int) (w_ : Int) (k : Int) : Option Value → va_W → Prop := fun v w => ∃ (r : Int), ∃ (i' : Nat → Int), v = some (.int (iI r)) ∧ w = [(hd, .inr (8, dF d i'))] ∧ (r = hintF (if i 7 = 1000 * much + less then 1 else 0) much less w_ k) ∧ ((r = -1 ∧ i' = i) ∨ (r ≠ -1 ∧ TaskP much less ∧ i' = va_up i 7 (1000 * much + less)))
set_option maxHeartbeats 4000000 in
set_option maxRecDepth 100000 in
theorem c_X8_hint (l : Launch) (g : GT) (hd : Nat) (d : Nat → Nat) (i : Nat → Int) (much : Int) (less : Int) (w_ : Int) (k : Int) (h1 : (-2147483648 ≤ much ∧ much < 2147483648) ∧ (-2147483648 ≤ less ∧ less < 2147483648) ∧ (-2147483648 ≤ w_ ∧ w_ < 2147483648) ∧ (-2147483648 ≤ k ∧ k < 2147483648) ∧ -1 ≤ i 7 ∧ i 7 ≤ 1000000) : Ct l g yX8_hint wsX8_hint ({ frames := 3, cells := 0, slots := 0, locals := 63 } : Room) [.ref hd, .int (iI much), .int (iI less), .int (iI w_), .int (iI k)] [(hd, .inr (8, dF d i))] (q_X8_hint g hd d i much less w_ k) := by
  refine Ct.intro (maxL := 9) (ret := (some .int)) (by decide) rfl (Nat.le_of_ble_eq_true rfl) ?_
  intro p e s m below meth c A ls hx hb hr hml hown hts hlocks hnm hA hG hP hD hS hl
  have hown : s.vm.findClass RX8 = some m.cls := hown
  have hl : lv_has ls 9 [(0, .ref hd), (1, .int (iI much)), (2, .int (iI less)), (3, .int (iI w_)), (4, .int (iI k))] := hl
  have hP : va_P g.1 vwCl [(hd, .inr (8, dF d i))] s.heap := hP
  have hS : va_S A s.heap s.heap [] := hS
  obtain ⟨H, hHe⟩ : ∃ H : Heap, H = s.heap := ⟨_, rfl⟩
  obtain ⟨locs, hLe⟩ : ∃ L : List Loc, L = [] := ⟨_, rfl⟩
  have hP : va_P g.1 vwCl [(hd, .inr (8, dF d i))] H := by rw [hHe]; exact hP
  have hS : va_S A s.heap H locs := by rw [hHe, hLe]; exact hS
  suffices hgo : W p l e ({ frames := 3, cells := 0, slots := 0, locals := 63 } : Room) s m [.ref hd, .int (iI much), .int (iI less), .int (iI w_), .int (iI k)].toArray below meth c H locs 0 0 (MQ below (CQ g (q_X8_hint g hd d i much less w_ k) A) [.ref hd, .int (iI much), .int (iI less), .int (iI w_), .int (iI k)].toArray s ({ frames := 3, cells := 0, slots := 0, locals := 63 } : Room).cells ({ frames := 3, cells := 0, slots := 0, locals := 63 } : Room).slots A) (F0 m 0 ls []) by rw [hHe, hLe] at hgo; exact hgo
  clear hHe hLe
  refine lv_iload_n hx hb dX8_hint_0 rfl (lv_at hl 1 rfl) ?_
  refine lv_iload_n hx hb dX8_hint_1 rfl (lv_at hl 2 rfl) ?_
  refine Ct.callS (As := [.int (iI much), .int (iI less)]) (rest := []) (wr := [(hd, .inr (8, dF d i))]) (c1 := 0) (s1 := 0) ⟨hx, hb, hml, hown, hts⟩ (c_X8_isTask l g much less (by omega)) (va_cwS 2 hts gX8_hint_X8_isTask rfl rfl rfl (by decide +kernel) ⟨Nat.le_of_ble_eq_true rfl, Nat.le_of_ble_eq_true rfl⟩) hG hP hD hS hA [] [0] rfl rfl (by decide) (by decide) (by decide) rfl hl.1 rfl (Nat.le_of_ble_eq_true rfl) dX8_hint_2 ⟨Nat.le_of_ble_eq_true rfl, Nat.le_of_ble_eq_true rfl⟩ rfl rfl (fun v w H locs hv hP hD hS => ?_)
  obtain ⟨⟨rfl, hb1⟩ | ⟨rfl, hb1⟩, rfl⟩ := hv
  · show W p l e _ s m _ below meth c H locs 0 0 _ (F0 m 5 ls (.int (iI 1) :: []))
    have hb1 : 0 ≤ less ∧ less ≤ much ∧ much ≤ 999 := hb1
    have hP : va_P g.1 vwCl [(hd, .inr (8, dF d i))] H := hP
    have hD : va_D A [(hd, .inr (8, dF d i))] := hD
    refine iv_if_eq (tgt := 34) hx hb dX8_hint_5 (by decide) (by decide) (fun h => absurd h (by decide)) (fun _ => ?_)
    refine lv_iload hx hb dX8_hint_8 (lv_at hl 4 rfl) ?_
    refine lv_iconst (v := iI (0)) hx hb dX8_hint_10 rfl ?_
    refine lv_iconst (v := iI (2)) hx hb dX8_hint_11 rfl ?_
    refine Ct.callS (As := [.int (iI k), .int (iI 0), .int (iI 2)]) (rest := []) (wr := [(hd, .inr (8, dF d i))]) (c1 := 0) (s1 := 0) ⟨hx, hb, hml, hown, hts⟩ (c_X8_within l g k 0 2 (by omega)) (va_cwS 3 hts gX8_hint_X8_within rfl rfl rfl (by decide +kernel) ⟨Nat.le_of_ble_eq_true rfl, Nat.le_of_ble_eq_true rfl⟩) hG hP hD hS hA [] [0] rfl rfl (by decide) (by decide) (by decide) rfl hl.1 rfl (Nat.le_of_ble_eq_true rfl) dX8_hint_12 ⟨Nat.le_of_ble_eq_true rfl, Nat.le_of_ble_eq_true rfl⟩ rfl rfl (fun v w H locs hv hP hD hS => ?_)
    obtain ⟨⟨rfl, hb3⟩ | ⟨rfl, hb3⟩, rfl⟩ := hv
    · show W p l e _ s m _ below meth c H locs 0 0 _ (F0 m 15 ls (.int (iI 1) :: []))
      have hb3 : 0 ≤ k ∧ k ≤ 2 := hb3
      have hP : va_P g.1 vwCl [(hd, .inr (8, dF d i))] H := hP
      have hD : va_D A [(hd, .inr (8, dF d i))] := hD
      refine iv_if_eq (tgt := 34) hx hb dX8_hint_15 (by decide) (by decide) (fun h => absurd h (by decide)) (fun _ => ?_)
      have htt := tT_rng k.toNat (by omega)
      refine lv_iload_n hx hb dX8_hint_18 rfl (lv_at hl 3 rfl) ?_
      refine lv_iconst (v := iI (0)) hx hb dX8_hint_19 rfl ?_
      refine va_gets hx hb hG.2.2.2.1.1 hS hown (hts _ (List.mem_of_getElem? (i := 1) rfl)) (fun _ h9 => h9) dX8_hint_20 ?_
      refine lv_iload hx hb dX8_hint_23 (lv_at hl 4 rfl) ?_
      refine iv_tld hx hb hG.2.2.2.1 hS k.toNat (by omega) (by omega) (by decide) dX8_hint_25 ?_
      refine lv_iconst (v := iI (1)) hx hb dX8_hint_26 rfl ?_
      refine iv_isub hx hb dX8_hint_27 ?_
      refine Ct.callS (As := [.int (iI w_), .int (iI 0), .int (iI ((tT k.toNat) - 1))]) (rest := []) (wr := [(hd, .inr (8, dF d i))]) (c1 := 0) (s1 := 0) ⟨hx, hb, hml, hown, hts⟩ (c_X8_within l g w_ 0 ((tT k.toNat) - 1) (by omega)) (va_cwS 3 hts gX8_hint_X8_within rfl rfl rfl (by decide +kernel) ⟨Nat.le_of_ble_eq_true rfl, Nat.le_of_ble_eq_true rfl⟩) hG hP hD hS hA [] [0] rfl rfl (by decide) (by decide) (by decide) rfl hl.1 rfl (Nat.le_of_ble_eq_true rfl) dX8_hint_28 ⟨Nat.le_of_ble_eq_true rfl, Nat.le_of_ble_eq_true rfl⟩ rfl rfl (fun v w H locs hv hP hD hS => ?_)
      obtain ⟨⟨rfl, hb5⟩ | ⟨rfl, hb5⟩, rfl⟩ := hv
      · show W p l e _ s m _ below meth c H locs 0 0 _ (F0 m 31 ls (.int (iI 1) :: []))
        have hb5 : 0 ≤ w_ ∧ w_ ≤ ((tT k.toNat) - 1) := hb5
        have hP : va_P g.1 vwCl [(hd, .inr (8, dF d i))] H := hP
        have hD : va_D A [(hd, .inr (8, dF d i))] := hD
        refine iv_if_ne (tgt := 36) hx hb dX8_hint_31 (by decide) (by decide) (fun _ => ?_) (fun h => absurd h (by decide))
        refine lv_iload_n hx hb dX8_hint_36 rfl (lv_at hl 1 rfl) ?_
        refine lv_iload_n hx hb dX8_hint_37 rfl (lv_at hl 2 rfl) ?_
        refine Ct.callS (As := [.int (iI much), .int (iI less)]) (rest := []) (wr := [(hd, .inr (8, dF d i))]) (c1 := 0) (s1 := 0) ⟨hx, hb, hml, hown, hts⟩ (c_X8_taskNumber l g much less ) (va_cwS 2 hts gX8_hint_X8_taskNumber rfl rfl rfl (by decide +kernel) ⟨Nat.le_of_ble_eq_true rfl, Nat.le_of_ble_eq_true rfl⟩) hG hP hD hS hA [] [0] rfl rfl (by decide) (by decide) (by decide) rfl hl.1 rfl (Nat.le_of_ble_eq_true rfl) dX8_hint_38 ⟨Nat.le_of_ble_eq_true rfl, Nat.le_of_ble_eq_true rfl⟩ rfl rfl (fun v w H locs hv hP hD hS => ?_)
        obtain ⟨rfl, rfl⟩ := hv
        show W p l e _ s m _ below meth c H locs 0 0 _ (F0 m 41 ls (.int (iI (1000 * much + less)) :: []))
        have hP : va_P g.1 vwCl [(hd, .inr (8, dF d i))] H := hP
        have hD : va_D A [(hd, .inr (8, dF d i))] := hD
        refine lv_istore (lv' := [(5, .int (iI (1000 * much + less))), (0, .ref hd), (1, .int (iI much)), (2, .int (iI less)), (3, .int (iI w_)), (4, .int (iI k))]) hx hb dX8_hint_41 hl (by decide) rfl (fun ls hl => ?_)
        have hjoin57 : ∀ (sm : Int) (hsm : sm = (if i 7 = 1000 * much + less then 1 else 0)) (hsm2 : sm = 0 ∨ sm = 1), ∀ (H : Heap) (locs : List Loc) (ls : Array Slot), va_P g.1 vwCl [(hd, .inr (8, dF d i))] H → va_D A [(hd, .inr (8, dF d i))] → va_S A s.heap H locs → lv_has ls 9 [(5, .int (iI (1000 * much + less))), (0, .ref hd), (1, .int (iI much)), (2, .int (iI less)), (3, .int (iI w_)), (4, .int (iI k))] → W p l e ({ frames := 3, cells := 0, slots := 0, locals := 63 } : Room) s m [.ref hd, .int (iI much), .int (iI less), .int (iI w_), .int (iI k)].toArray below meth c H locs 0 0 (MQ below (CQ g (q_X8_hint g hd d i much less w_ k) A) [.ref hd, .int (iI much), .int (iI less), .int (iI w_), .int (iI k)].toArray s ({ frames := 3, cells := 0, slots := 0, locals := 63 } : Room).cells ({ frames := 3, cells := 0, slots := 0, locals := 63 } : Room).slots A) (F0 m 57 ls [.int (iI sm)]) := by
          intro sm hsm hsm2 H locs ls hP hD hS hl
          refine lv_istore (lv' := [(6, .int (iI sm)), (5, .int (iI (1000 * much + less))), (0, .ref hd), (1, .int (iI much)), (2, .int (iI less)), (3, .int (iI w_)), (4, .int (iI k))]) hx hb dX8_hint_57 hl (by decide) rfl (fun ls hl => ?_)
          refine lv_aload_n hx hb dX8_hint_59 rfl (lv_at hl 2 rfl) ?_
          refine lv_iload hx hb dX8_hint_60 (lv_at hl 1 rfl) ?_
          refine va_put (D := g.1) (ci := 8) (v := .int (iI (1000 * much + less))) hx hb hts kX8_hint_8 tyX8 tyX8_ok nmX8 hown hG.1 hP hD hS 0 rfl rfl 7 (by decide) (hts _ (List.mem_of_getElem? (i := 2) rfl)) (fun _ h9 => h9) rfl (tyX8_ok 7 (by decide)) rfl rfl (Nat.le_of_ble_eq_true rfl) dX8_hint_62 (fun H locs hP hD hS => ?_)
          have hP : va_P g.1 vwCl [(hd, .inr (8, dF d (va_up i 7 (1000 * much + less))))] H := hP
          have hD : va_D A [(hd, .inr (8, dF d (va_up i 7 (1000 * much + less))))] := hD
          refine lv_iload_n hx hb dX8_hint_65 rfl (lv_at hl 3 rfl) ?_
          refine lv_iload_n hx hb dX8_hint_66 rfl (lv_at hl 4 rfl) ?_
          refine iv_isub hx hb dX8_hint_67 ?_
          refine lv_istore (lv' := [(7, .int (iI (much - less))), (6, .int (iI sm)), (5, .int (iI (1000 * much + less))), (0, .ref hd), (1, .int (iI much)), (2, .int (iI less)), (3, .int (iI w_)), (4, .int (iI k))]) hx hb dX8_hint_68 hl (by decide) rfl (fun ls hl => ?_)
          have hdgr := dg_rng (much - less) k.toNat
          refine lv_iconst (v := iI (0)) hx hb dX8_hint_70 rfl ?_
          refine lv_istore (lv' := [(8, .int (iI 0)), (7, .int (iI (much - less))), (6, .int (iI sm)), (5, .int (iI (1000 * much + less))), (0, .ref hd), (1, .int (iI much)), (2, .int (iI less)), (3, .int (iI w_)), (4, .int (iI k))]) hx hb dX8_hint_71 hl (by decide) rfl (fun ls hl => ?_)
          have hloop73 : ∀ (fuel : Nat) (zc : Int) (n : Nat) (hc : zc = (n : Int) ∧ zc ≤ k) (he : ∀ j, j < n → dg w_ j = dg (much - less) j) (hmeas : k.toNat - n < fuel), ∀ (H : Heap) (locs : List Loc) (ls : Array Slot), va_P g.1 vwCl [(hd, .inr (8, dF d (va_up i 7 (1000 * much + less))))] H → va_D A [(hd, .inr (8, dF d (va_up i 7 (1000 * much + less))))] → va_S A s.heap H locs → lv_has ls 9 [(8, .int (iI zc)), (7, .int (iI (much - less))), (6, .int (iI sm)), (5, .int (iI (1000 * much + less))), (0, .ref hd), (1, .int (iI much)), (2, .int (iI less)), (3, .int (iI w_)), (4, .int (iI k))] → W p l e ({ frames := 3, cells := 0, slots := 0, locals := 63 } : Room) s m [.ref hd, .int (iI much), .int (iI less), .int (iI w_), .int (iI k)].toArray below meth c H locs 0 0 (MQ below (CQ g (q_X8_hint g hd d i much less w_ k) A) [.ref hd, .int (iI much), .int (iI less), .int (iI w_), .int (iI k)].toArray s ({ frames := 3, cells := 0, slots := 0, locals := 63 } : Room).cells ({ frames := 3, cells := 0, slots := 0, locals := 63 } : Room).slots A) (F0 m 73 ls []) := by
            intro fuel
            induction fuel with
            | zero => intro zc n hc he hmeas; exact absurd hmeas (Nat.not_lt_zero _)
            | succ fuel ih73 =>
              intro zc n hc he hmeas H locs ls hP hD hS hl
              refine lv_iload hx hb dX8_hint_73 (lv_at hl 0 rfl) ?_
              refine lv_iload hx hb dX8_hint_75 (lv_at hl 8 rfl) ?_
              refine iv_icmp_ge (tgt := 105) hx hb dX8_hint_77 (by decide) (by omega) (fun hc7 => ?_) (fun hc7 => ?_)
              · refine lv_iload hx hb dX8_hint_105 (lv_at hl 2 rfl) ?_
                refine iv_if_eq (tgt := 120) hx hb dX8_hint_107 (by decide) (by omega) (fun hc8 => ?_) (fun hc8 => ?_)
                · refine lv_bipush (v := iI (-5)) hx hb dX8_hint_120 (by decide) ?_
                  exact Ct.iret hx hb hr hlocks (hP.sub [0] rfl) (hD.sub [0] (by decide) rfl) hS ⟨by decide, by decide⟩ dX8_hint_122 ⟨(-5), (va_up i 7 (1000 * much + less)), rfl, rfl, (by unfold hintF; rw [if_neg (by omega), if_neg (fun hz => hz (hint_ok (by omega) (by omega) (by omega) (fun j hj => he j (by omega)))), ← hsm]; first | (rw [if_pos (by omega)]; assumption) | rw [if_neg (by omega)]), (Or.inr ⟨by omega, by omega, rfl⟩)⟩
                · refine lv_iload hx hb dX8_hint_110 (lv_at hl 1 rfl) ?_
                  refine lv_iload hx hb dX8_hint_112 (lv_at hl 8 rfl) ?_
                  refine Ct.callS (As := [.int (iI (much - less)), .int (iI k)]) (rest := []) (wr := [(hd, .inr (8, dF d (va_up i 7 (1000 * much + less))))]) (c1 := 0) (s1 := 0) ⟨hx, hb, hml, hown, hts⟩ (c_X8_digitOf l g (much - less) k k.toNat (by omega)) (va_cwS 2 hts gX8_hint_X8_digitOf rfl rfl rfl (by decide +kernel) ⟨Nat.le_of_ble_eq_true rfl, Nat.le_of_ble_eq_true rfl⟩) hG hP hD hS hA [] [0] rfl rfl (by decide) (by decide) (by decide) rfl hl.1 rfl (Nat.le_of_ble_eq_true rfl) dX8_hint_114 ⟨Nat.le_of_ble_eq_true rfl, Nat.le_of_ble_eq_true rfl⟩ rfl rfl (fun v w H locs hv hP hD hS => ?_)
                  obtain ⟨r9, rfl, rfl, hf10⟩ := hv
                  show W p l e _ s m _ below meth c H locs 0 0 _ (F0 m 117 ls (.int (iI r9) :: []))
                  have hP : va_P g.1 vwCl [(hd, .inr (8, dF d (va_up i 7 (1000 * much + less))))] H := hP
                  have hD : va_D A [(hd, .inr (8, dF d (va_up i 7 (1000 * much + less))))] := hD
                  have hf10 : r9 = dg (much - less) k.toNat := hf10
                  refine lv_goto (tgt := 122) hx hb dX8_hint_117 (by decide) ?_
                  exact Ct.iret hx hb hr hlocks (hP.sub [0] rfl) (hD.sub [0] (by decide) rfl) hS ⟨by decide, by decide⟩ dX8_hint_122 ⟨r9, (va_up i 7 (1000 * much + less)), rfl, rfl, (by unfold hintF; rw [if_neg (by omega), if_neg (fun hz => hz (hint_ok (by omega) (by omega) (by omega) (fun j hj => he j (by omega)))), ← hsm]; first | (rw [if_pos (by omega)]; assumption) | rw [if_neg (by omega)]), (Or.inr ⟨by omega, by omega, rfl⟩)⟩
              · refine lv_iload_n hx hb dX8_hint_80 rfl (lv_at hl 7 rfl) ?_
                refine lv_iload hx hb dX8_hint_81 (lv_at hl 0 rfl) ?_
                refine Ct.callS (As := [.int (iI w_), .int (iI zc)]) (rest := []) (wr := [(hd, .inr (8, dF d (va_up i 7 (1000 * much + less))))]) (c1 := 0) (s1 := 0) ⟨hx, hb, hml, hown, hts⟩ (c_X8_digitOf l g w_ zc n (by omega)) (va_cwS 2 hts gX8_hint_X8_digitOf rfl rfl rfl (by decide +kernel) ⟨Nat.le_of_ble_eq_true rfl, Nat.le_of_ble_eq_true rfl⟩) hG hP hD hS hA [] [0] rfl rfl (by decide) (by decide) (by decide) rfl hl.1 rfl (Nat.le_of_ble_eq_true rfl) dX8_hint_83 ⟨Nat.le_of_ble_eq_true rfl, Nat.le_of_ble_eq_true rfl⟩ rfl rfl (fun v w H locs hv hP hD hS => ?_)
                obtain ⟨r11, rfl, rfl, hf12⟩ := hv
                show W p l e _ s m _ below meth c H locs 0 0 _ (F0 m 86 ls (.int (iI r11) :: []))
                have hP : va_P g.1 vwCl [(hd, .inr (8, dF d (va_up i 7 (1000 * much + less))))] H := hP
                have hD : va_D A [(hd, .inr (8, dF d (va_up i 7 (1000 * much + less))))] := hD
                have hf12 : r11 = dg w_ n := hf12
                have hd1 := dg_rng w_ n
                refine lv_iload hx hb dX8_hint_86 (lv_at hl 1 rfl) ?_
                refine lv_iload hx hb dX8_hint_88 (lv_at hl 0 rfl) ?_
                refine Ct.callS (As := [.int (iI (much - less)), .int (iI zc)]) (rest := [.int (iI r11)]) (wr := [(hd, .inr (8, dF d (va_up i 7 (1000 * much + less))))]) (c1 := 0) (s1 := 0) ⟨hx, hb, hml, hown, hts⟩ (c_X8_digitOf l g (much - less) zc n (by omega)) (va_cwS 2 hts gX8_hint_X8_digitOf rfl rfl rfl (by decide +kernel) ⟨Nat.le_of_ble_eq_true rfl, Nat.le_of_ble_eq_true rfl⟩) hG hP hD hS hA [] [0] rfl rfl (by decide) (by decide) (by decide) rfl hl.1 rfl (Nat.le_of_ble_eq_true rfl) dX8_hint_90 ⟨Nat.le_of_ble_eq_true rfl, Nat.le_of_ble_eq_true rfl⟩ rfl rfl (fun v w H locs hv hP hD hS => ?_)
                obtain ⟨r13, rfl, rfl, hf14⟩ := hv
                show W p l e _ s m _ below meth c H locs 0 0 _ (F0 m 93 ls (.int (iI r13) :: [.int (iI r11)]))
                have hP : va_P g.1 vwCl [(hd, .inr (8, dF d (va_up i 7 (1000 * much + less))))] H := hP
                have hD : va_D A [(hd, .inr (8, dF d (va_up i 7 (1000 * much + less))))] := hD
                have hf14 : r13 = dg (much - less) n := hf14
                have hd2 := dg_rng (much - less) n
                refine iv_icmp_eq (tgt := 99) hx hb dX8_hint_93 (by decide) (by omega) (fun hc15 => ?_) (fun hc15 => ?_)
                · refine iv_iinc (k := 0) (x := zc) (lv' := [(8, .int (iI (zc + 1))), (7, .int (iI (much - less))), (6, .int (iI sm)), (5, .int (iI (1000 * much + less))), (0, .ref hd), (1, .int (iI much)), (2, .int (iI less)), (3, .int (iI w_)), (4, .int (iI k))]) hx hb dX8_hint_99 hl rfl (by decide) rfl (fun ls hl => ?_)
                  refine lv_goto (tgt := 73) hx hb dX8_hint_102 (by decide) ?_
                  exact ih73 (zc + 1) (n + 1) (by omega) (fun j hj => if q : j = n then (by rw [q]; omega) else he j (by omega)) (by omega) H locs ls (hP.sub [0] rfl) (hD.sub [0] (by decide) rfl) hS (lv_sub hl [0, 1, 2, 3, 4, 5, 6, 7, 8] rfl)
                · refine lv_bipush (v := iI (-2)) hx hb dX8_hint_96 (by decide) ?_
                  exact Ct.iret hx hb hr hlocks (hP.sub [0] rfl) (hD.sub [0] (by decide) rfl) hS ⟨by decide, by decide⟩ dX8_hint_98 ⟨(-2), (va_up i 7 (1000 * much + less)), rfl, rfl, (by unfold hintF; rw [if_neg (by omega), if_pos (hint_no (j := n) (by omega) (by omega) (by omega) (by omega))]), (Or.inr ⟨by omega, by omega, rfl⟩)⟩
          exact hloop73 _ 0 0 (by omega) (fun j hj => absurd hj (Nat.not_lt_zero j)) (Nat.lt_succ_self _) H locs ls (hP.sub [0] rfl) (hD.sub [0] (by decide) rfl) hS (lv_sub hl [0, 1, 2, 3, 4, 5, 6, 7, 8] rfl)
        refine lv_aload_n hx hb dX8_hint_43 rfl (lv_at hl 1 rfl) ?_
        refine va_get (D := g.1) (ci := 8) (v := .int (iI (i 7))) hx hb hts kX8_hint_8 hown hG.1 hP 0 rfl rfl 7 (by decide) (hts _ (List.mem_of_getElem? (i := 2) rfl)) (fun _ h9 => h9) rfl dX8_hint_44 ?_
        refine lv_iload hx hb dX8_hint_47 (lv_at hl 0 rfl) ?_
        refine iv_icmp_ne (tgt := 56) hx hb dX8_hint_49 (by decide) (by omega) (fun hc16 => ?_) (fun hc16 => ?_)
        · refine lv_iconst (v := iI (0)) hx hb dX8_hint_56 rfl ?_
          exact hjoin57 0 (by split <;> omega) (by omega) H locs ls (hP.sub [0] rfl) (hD.sub [0] (by decide) rfl) hS (lv_sub hl [0, 1, 2, 3, 4, 5] rfl)
        · refine lv_iconst (v := iI (1)) hx hb dX8_hint_52 rfl ?_
          refine lv_goto (tgt := 57) hx hb dX8_hint_53 (by decide) ?_
          exact hjoin57 1 (by split <;> omega) (by omega) H locs ls (hP.sub [0] rfl) (hD.sub [0] (by decide) rfl) hS (lv_sub hl [0, 1, 2, 3, 4, 5] rfl)
      · show W p l e _ s m _ below meth c H locs 0 0 _ (F0 m 31 ls (.int (iI 0) :: []))
        have hb5 : ¬ (0 ≤ w_ ∧ w_ ≤ ((tT k.toNat) - 1)) := hb5
        have hP : va_P g.1 vwCl [(hd, .inr (8, dF d i))] H := hP
        have hD : va_D A [(hd, .inr (8, dF d i))] := hD
        refine iv_if_ne (tgt := 36) hx hb dX8_hint_31 (by decide) (by decide) (fun h => absurd h (by decide)) (fun _ => ?_)
        refine lv_iconst (v := iI (-1)) hx hb dX8_hint_34 rfl ?_
        exact Ct.iret hx hb hr hlocks (hP.sub [0] rfl) (hD.sub [0] (by decide) rfl) hS ⟨by decide, by decide⟩ dX8_hint_35 ⟨(-1), i, rfl, rfl, (by unfold hintF; rw [if_pos (by omega)]), (Or.inl ⟨rfl, rfl⟩)⟩
    · show W p l e _ s m _ below meth c H locs 0 0 _ (F0 m 15 ls (.int (iI 0) :: []))
      have hb3 : ¬ (0 ≤ k ∧ k ≤ 2) := hb3
      have hP : va_P g.1 vwCl [(hd, .inr (8, dF d i))] H := hP
      have hD : va_D A [(hd, .inr (8, dF d i))] := hD
      refine iv_if_eq (tgt := 34) hx hb dX8_hint_15 (by decide) (by decide) (fun _ => ?_) (fun h => absurd h (by decide))
      refine lv_iconst (v := iI (-1)) hx hb dX8_hint_34 rfl ?_
      exact Ct.iret hx hb hr hlocks (hP.sub [0] rfl) (hD.sub [0] (by decide) rfl) hS ⟨by decide, by decide⟩ dX8_hint_35 ⟨(-1), i, rfl, rfl, (by unfold hintF; rw [if_pos (by omega)]), (Or.inl ⟨rfl, rfl⟩)⟩
  · show W p l e _ s m _ below meth c H locs 0 0 _ (F0 m 5 ls (.int (iI 0) :: []))
    have hb1 : ¬ (0 ≤ less ∧ less ≤ much ∧ much ≤ 999) := hb1
    have hP : va_P g.1 vwCl [(hd, .inr (8, dF d i))] H := hP
    have hD : va_D A [(hd, .inr (8, dF d i))] := hD
    refine iv_if_eq (tgt := 34) hx hb dX8_hint_5 (by decide) (by decide) (fun _ => ?_) (fun h => absurd h (by decide))
    refine lv_iconst (v := iI (-1)) hx hb dX8_hint_34 rfl ?_
    exact Ct.iret hx hb hr hlocks (hP.sub [0] rfl) (hD.sub [0] (by decide) rfl) hS ⟨by decide, by decide⟩ dX8_hint_35 ⟨(-1), i, rfl, rfl, (by unfold hintF; rw [if_pos (by omega)]), (Or.inl ⟨rfl, rfl⟩)⟩
