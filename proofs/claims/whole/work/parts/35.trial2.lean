theorem kX7_thousandthsAsGood_7 : ∀ w ∈ u_ws RX7 TX7 3, w ∈ wsX7_thousandthsAsGood := fun _ h => List.mem_cons_of_mem _ (List.mem_append_right _ h)
abbrev q_X7_thousandthsAsGood (g : GT) (ht : Nat) (tw : Nat) (to_ : Nat) (tm : Int) (fw : Nat → Int) (fo : Nat → Int) (M : Nat) : Option Value → va_W → Prop := fun v w => ∃ (r : Int), v = some (.int (iI r)) ∧ w = [(ht, .inr (7, [.int (iI tm), .ref tw, .ref to_])), (tw, aI (g.2.1 0) 12 fw), (to_, aI (g.2.1 0) 12 fo)] ∧ (r = shareR fw fo M)
set_option maxHeartbeats 4000000 in
set_option maxRecDepth 100000 in
theorem c_X7_thousandthsAsGood (l : Launch) (g : GT) (ht : Nat) (tw : Nat) (to_ : Nat) (tm : Int) (fw : Nat → Int) (fo : Nat → Int) (M : Nat) (h1 : tm = (M : Int) ∧ M ≤ 12) (h2 : ∀ j, j < M → (fw j = 0 ∨ fw j = 1) ∧ -999 ≤ fo j ∧ fo j ≤ 999) : Ct l g yX7_thousandthsAsGood wsX7_thousandthsAsGood ({ frames := 1, cells := 0, slots := 0, locals := 23 } : Room) [.ref ht] [(ht, .inr (7, [.int (iI tm), .ref tw, .ref to_])), (tw, aI (g.2.1 0) 12 fw), (to_, aI (g.2.1 0) 12 fo)] (q_X7_thousandthsAsGood g ht tw to_ tm fw fo M) := by
  refine Ct.intro (maxL := 6) (ret := (some .int)) (by decide) rfl (Nat.le_of_ble_eq_true rfl) ?_
  intro p e s m below meth c A ls hx hb hr hml hown hts hlocks hnm hA hG hP hD hS hl
  have hown : s.vm.findClass RX7 = some m.cls := hown
  have hl : lv_has ls 6 [(0, .ref ht)] := hl
  have hP : va_P g.1 vwCl [(ht, .inr (7, [.int (iI tm), .ref tw, .ref to_])), (tw, aI (g.2.1 0) 12 fw), (to_, aI (g.2.1 0) 12 fo)] s.heap := hP
  have hS : va_S A s.heap s.heap [] := hS
  have hpw := pw_rng (M := M) (by omega)
  have hpn : ((2 ^ M : Nat) : Int) = (2 : Int) ^ M := by simp
  have hr1 := mW_rng fw 1 M
  have hr2 := sW_rng fw fo 1 M (fun j hj => (h2 j hj).2)
  have hsp := shR_pos fw fo (M := M) (by omega)
  obtain ⟨H, hHe⟩ : ∃ H : Heap, H = s.heap := ⟨_, rfl⟩
  obtain ⟨locs, hLe⟩ : ∃ L : List Loc, L = [] := ⟨_, rfl⟩
  have hP : va_P g.1 vwCl [(ht, .inr (7, [.int (iI tm), .ref tw, .ref to_])), (tw, aI (g.2.1 0) 12 fw), (to_, aI (g.2.1 0) 12 fo)] H := by rw [hHe]; exact hP
  have hS : va_S A s.heap H locs := by rw [hHe, hLe]; exact hS
  suffices hgo : W p l e ({ frames := 1, cells := 0, slots := 0, locals := 23 } : Room) s m [.ref ht].toArray below meth c H locs 0 0 (MQ below (CQ g (q_X7_thousandthsAsGood g ht tw to_ tm fw fo M) A) [.ref ht].toArray s ({ frames := 1, cells := 0, slots := 0, locals := 23 } : Room).cells ({ frames := 1, cells := 0, slots := 0, locals := 23 } : Room).slots A) (F0 m 0 ls []) by rw [hHe, hLe] at hgo; exact hgo
  clear hHe hLe
  refine lv_aload_n hx hb dX7_thousandthsAsGood_0 rfl (lv_at hl 0 rfl) ?_
  refine lv_iconst (v := iI (1)) hx hb dX7_thousandthsAsGood_1 rfl ?_
  refine Ct.callV (ci := 7) (q0 := 0) (qc := (RX7, TX7, 3)) (As := [.int (iI 1)]) (rest := []) (wr := []) (c1 := 0) (s1 := 0) ⟨hx, hb, hml, hown, hts⟩ (c_X7_manyOf l g ht tw to_ tm fw fo M 1 (by omega) (h2)) rfl rfl (cwV 1 hts gX7_thousandthsAsGood_X7_manyOf rfl rfl rfl (by decide +kernel) ⟨Nat.le_of_ble_eq_true rfl, Nat.le_of_ble_eq_true rfl⟩) hG hP hD hS hA [0, 1, 2] [] rfl rfl (by decide) (by decide) (by decide) rfl hl.1 rfl (Nat.le_of_ble_eq_true rfl) dX7_thousandthsAsGood_2 ⟨Nat.le_of_ble_eq_true rfl, Nat.le_of_ble_eq_true rfl⟩ rfl rfl (fun v w H locs hv hP hD hS => ?_)
  obtain ⟨r1, rfl, rfl, hf2⟩ := hv
  show W p l e _ s m _ below meth c H locs 0 0 _ (F0 m 5 ls (.int (iI r1) :: []))
  have hP : va_P g.1 vwCl [(ht, .inr (7, [.int (iI tm), .ref tw, .ref to_])), (tw, aI (g.2.1 0) 12 fw), (to_, aI (g.2.1 0) 12 fo)] H := hP
  have hD : va_D A [(ht, .inr (7, [.int (iI tm), .ref tw, .ref to_])), (tw, aI (g.2.1 0) 12 fw), (to_, aI (g.2.1 0) 12 fo)] := hD
  have hf2 : r1 = mW fw 1 M := hf2
  refine lv_istore_n (lv' := [(1, .int (iI r1)), (0, .ref ht)]) hx hb dX7_thousandthsAsGood_5 rfl hl (by decide) rfl (fun ls hl => ?_)
  refine lv_aload_n hx hb dX7_thousandthsAsGood_6 rfl (lv_at hl 1 rfl) ?_
  refine lv_iconst (v := iI (1)) hx hb dX7_thousandthsAsGood_7 rfl ?_
  refine Ct.callV (ci := 7) (q0 := 0) (qc := (RX7, TX7, 3)) (As := [.int (iI 1)]) (rest := []) (wr := []) (c1 := 0) (s1 := 0) ⟨hx, hb, hml, hown, hts⟩ (c_X7_sumOf l g ht tw to_ tm fw fo M 1 (by omega) (h2)) rfl rfl (cwV 1 hts gX7_thousandthsAsGood_X7_sumOf rfl rfl rfl (by decide +kernel) ⟨Nat.le_of_ble_eq_true rfl, Nat.le_of_ble_eq_true rfl⟩) hG hP hD hS hA [0, 1, 2] [] rfl rfl (by decide) (by decide) (by decide) rfl hl.1 rfl (Nat.le_of_ble_eq_true rfl) dX7_thousandthsAsGood_8 ⟨Nat.le_of_ble_eq_true rfl, Nat.le_of_ble_eq_true rfl⟩ rfl rfl (fun v w H locs hv hP hD hS => ?_)
  obtain ⟨r3, rfl, rfl, hf4⟩ := hv
  show W p l e _ s m _ below meth c H locs 0 0 _ (F0 m 11 ls (.int (iI r3) :: []))
  have hP : va_P g.1 vwCl [(ht, .inr (7, [.int (iI tm), .ref tw, .ref to_])), (tw, aI (g.2.1 0) 12 fw), (to_, aI (g.2.1 0) 12 fo)] H := hP
  have hD : va_D A [(ht, .inr (7, [.int (iI tm), .ref tw, .ref to_])), (tw, aI (g.2.1 0) 12 fw), (to_, aI (g.2.1 0) 12 fo)] := hD
  have hf4 : r3 = sW fw fo 1 M := hf4
  refine lv_istore_n (lv' := [(2, .int (iI r3)), (1, .int (iI r1)), (0, .ref ht)]) hx hb dX7_thousandthsAsGood_11 rfl hl (by decide) rfl (fun ls hl => ?_)
  refine lv_iconst (v := iI (0)) hx hb dX7_thousandthsAsGood_12 rfl ?_
  refine lv_istore_n (lv' := [(3, .int (iI 0)), (2, .int (iI r3)), (1, .int (iI r1)), (0, .ref ht)]) hx hb dX7_thousandthsAsGood_13 rfl hl (by decide) rfl (fun ls hl => ?_)
  refine lv_iconst (v := iI (0)) hx hb dX7_thousandthsAsGood_14 rfl ?_
  refine lv_istore (lv' := [(4, .int (iI 0)), (3, .int (iI 0)), (2, .int (iI r3)), (1, .int (iI r1)), (0, .ref ht)]) hx hb dX7_thousandthsAsGood_15 hl (by decide) rfl (fun ls hl => ?_)
  refine lv_iconst (v := iI (0)) hx hb dX7_thousandthsAsGood_17 rfl ?_
  refine lv_istore (lv' := [(5, .int (iI 0)), (4, .int (iI 0)), (3, .int (iI 0)), (2, .int (iI r3)), (1, .int (iI r1)), (0, .ref ht)]) hx hb dX7_thousandthsAsGood_18 hl (by decide) rfl (fun ls hl => ?_)
  have hloop20 : ∀ (fuel : Nat) (al : Int) (go : Int) (zx : Int) (xx : Nat) (hxx : zx = (xx : Int) ∧ xx ≤ 2 ^ M ∧ 0 ≤ go ∧ go ≤ al ∧ al ≤ zx) (hS1 : shF fo (mW fw 1 M) (sW fw fo 1 M) M (2 ^ M - xx) xx (al, go) = shR fw fo M) (hmeas : 2 ^ M - xx < fuel), ∀ (H : Heap) (locs : List Loc) (ls : Array Slot), va_P g.1 vwCl [(ht, .inr (7, [.int (iI tm), .ref tw, .ref to_])), (tw, aI (g.2.1 0) 12 fw), (to_, aI (g.2.1 0) 12 fo)] H → va_D A [(ht, .inr (7, [.int (iI tm), .ref tw, .ref to_])), (tw, aI (g.2.1 0) 12 fw), (to_, aI (g.2.1 0) 12 fo)] → va_S A s.heap H locs → lv_has ls 6 [(5, .int (iI zx)), (4, .int (iI go)), (3, .int (iI al)), (2, .int (iI r3)), (1, .int (iI r1)), (0, .ref ht)] → W p l e ({ frames := 1, cells := 0, slots := 0, locals := 23 } : Room) s m [.ref ht].toArray below meth c H locs 0 0 (MQ below (CQ g (q_X7_thousandthsAsGood g ht tw to_ tm fw fo M) A) [.ref ht].toArray s ({ frames := 1, cells := 0, slots := 0, locals := 23 } : Room).cells ({ frames := 1, cells := 0, slots := 0, locals := 23 } : Room).slots A) (F0 m 20 ls []) := by
    intro fuel
    induction fuel with
    | zero => intro al go zx xx hxx hS1 hmeas; exact absurd hmeas (Nat.not_lt_zero _)
    | succ fuel ih20 =>
      intro al go zx xx hxx hS1 hmeas H locs ls hP hD hS hl
      refine lv_iload hx hb dX7_thousandthsAsGood_20 (lv_at hl 0 rfl) ?_
      refine lv_iconst (v := iI (1)) hx hb dX7_thousandthsAsGood_22 rfl ?_
      refine lv_aload_n hx hb dX7_thousandthsAsGood_23 rfl (lv_at hl 5 rfl) ?_
      refine va_get (D := g.1) (ci := 7) (v := .int (iI tm)) hx hb hts kX7_thousandthsAsGood_7 hown hG.1 hP 0 rfl rfl 0 (by decide) (hts _ (List.mem_of_getElem? (i := 1) rfl)) (fun _ h9 => h9) rfl dX7_thousandthsAsGood_24 ?_
      refine iv_ishl1 hx hb M dX7_thousandthsAsGood_27 (by omega) ?_
      refine iv_icmp_ge (tgt := 62) hx hb dX7_thousandthsAsGood_28 (by decide) (by omega) (fun hc5 => ?_) (fun hc5 => ?_)
      · have hE1 : (al, go) = shR fw fo M := by rw [← hS1, show 2 ^ M - xx = 0 from by omega]; rfl
        have hE2 : al = (shR fw fo M).1 := by rw [← hE1]
        refine lv_iload_n hx hb dX7_thousandthsAsGood_62 rfl (lv_at hl 2 rfl) ?_
        refine iv_if_le (tgt := 77) hx hb dX7_thousandthsAsGood_63 (by decide) (by omega) (fun hc6 => ?_) (fun hc6 => ?_)
        · refine lv_bipush (v := iI (-2)) hx hb dX7_thousandthsAsGood_77 (by decide) ?_
          exact Ct.iret hx hb hr hlocks (hP.sub [0, 1, 2] rfl) (hD.sub [0, 1, 2] (by decide) rfl) hS ⟨by decide, by decide⟩ dX7_thousandthsAsGood_79 ⟨(-2), rfl, rfl, (by first | (exfalso; omega) | (unfold shareR; rw [← hE1]))⟩
        · refine lv_sipush (v := iI (1000)) hx hb dX7_thousandthsAsGood_66 (by decide) ?_
          refine lv_iload hx hb dX7_thousandthsAsGood_69 (lv_at hl 1 rfl) ?_
          refine iv_imul hx hb dX7_thousandthsAsGood_71 ?_
          refine lv_iload_n hx hb dX7_thousandthsAsGood_72 rfl (lv_at hl 2 rfl) ?_
          refine iv_idiv hx hb dX7_thousandthsAsGood_73 (by omega) ?_
          refine lv_goto (tgt := 79) hx hb dX7_thousandthsAsGood_74 (by decide) ?_
          exact Ct.iret hx hb hr hlocks (hP.sub [0, 1, 2] rfl) (hD.sub [0, 1, 2] (by decide) rfl) hS ⟨by decide, by decide⟩ dX7_thousandthsAsGood_79 ⟨((1000 * go) / al), rfl, rfl, (by first | (exfalso; omega) | (unfold shareR; rw [← hE1]))⟩
      · refine lv_iload hx hb dX7_thousandthsAsGood_31 (lv_at hl 0 rfl) ?_
        have hsz := szB_rng zx 12
        refine Ct.callS (As := [.int (iI zx)]) (rest := []) (wr := [(ht, .inr (7, [.int (iI tm), .ref tw, .ref to_])), (tw, aI (g.2.1 0) 12 fw), (to_, aI (g.2.1 0) 12 fo)]) (c1 := 0) (s1 := 0) ⟨hx, hb, hml, hown, hts⟩ (c_bitCount l g zx (by omega)) (va_cwS 1 hts gX7_thousandthsAsGood_J6_bitCount_0f7a4 rfl rfl rfl (by decide +kernel) ⟨Nat.le_of_ble_eq_true rfl, Nat.le_of_ble_eq_true rfl⟩) hG hP hD hS hA [] [0, 1, 2] rfl rfl (by decide) (by decide) (by decide) rfl hl.1 rfl (Nat.le_of_ble_eq_true rfl) dX7_thousandthsAsGood_33 ⟨Nat.le_of_ble_eq_true rfl, Nat.le_of_ble_eq_true rfl⟩ rfl rfl (fun v w H locs hv hP hD hS => ?_)
        obtain ⟨rfl, rfl⟩ := hv
        show W p l e _ s m _ below meth c H locs 0 0 _ (F0 m 36 ls (.int (iI (szB zx 12)) :: []))
        have hP : va_P g.1 vwCl [(ht, .inr (7, [.int (iI tm), .ref tw, .ref to_])), (tw, aI (g.2.1 0) 12 fw), (to_, aI (g.2.1 0) 12 fo)] H := hP
        have hD : va_D A [(ht, .inr (7, [.int (iI tm), .ref tw, .ref to_])), (tw, aI (g.2.1 0) 12 fw), (to_, aI (g.2.1 0) 12 fo)] := hD
        refine lv_iload_n hx hb dX7_thousandthsAsGood_36 rfl (lv_at hl 4 rfl) ?_
        refine iv_icmp_ne (tgt := 56) hx hb dX7_thousandthsAsGood_37 (by decide) (by omega) (fun hc7 => ?_) (fun hc7 => ?_)
        · refine iv_iinc (k := 0) (x := zx) (lv' := [(5, .int (iI (zx + 1))), (4, .int (iI go)), (3, .int (iI al)), (2, .int (iI r3)), (1, .int (iI r1)), (0, .ref ht)]) hx hb dX7_thousandthsAsGood_56 hl rfl (by decide) rfl (fun ls hl => ?_)
          refine lv_goto (tgt := 20) hx hb dX7_thousandthsAsGood_59 (by decide) ?_
          exact ih20 al go (zx + 1) (xx + 1) (by omega) (by rw [← hS1, show 2 ^ M - xx = (2 ^ M - (xx + 1)) + 1 from by omega]; simp only [shF]; first | (rw [if_neg (by rw [← hxx.1]; omega)]) | (rw [if_pos (by rw [← hxx.1]; omega), if_pos (by rw [← hxx.1]; omega)]) | (rw [if_pos (by rw [← hxx.1]; omega), if_neg (by rw [← hxx.1]; omega), Int.add_zero])) (by omega) H locs ls (hP.sub [0, 1, 2] rfl) (hD.sub [0, 1, 2] (by decide) rfl) hS (lv_sub hl [0, 1, 2, 3, 4, 5] rfl)
        · refine iv_iinc (k := 2) (x := al) (lv' := [(3, .int (iI (al + 1))), (5, .int (iI zx)), (4, .int (iI go)), (2, .int (iI r3)), (1, .int (iI r1)), (0, .ref ht)]) hx hb dX7_thousandthsAsGood_40 hl rfl (by decide) rfl (fun ls hl => ?_)
          refine lv_aload_n hx hb dX7_thousandthsAsGood_43 rfl (lv_at hl 5 rfl) ?_
          refine lv_iload hx hb dX7_thousandthsAsGood_44 (lv_at hl 1 rfl) ?_
          refine Ct.callV (ci := 7) (q0 := 0) (qc := (RX7, TX7, 3)) (As := [.int (iI zx)]) (rest := []) (wr := []) (c1 := 0) (s1 := 0) ⟨hx, hb, hml, hown, hts⟩ (c_X7_sumDealt l g ht tw to_ tm fw fo M zx (by omega)) rfl rfl (cwV 1 hts gX7_thousandthsAsGood_X7_sumDealt rfl rfl rfl (by decide +kernel) ⟨Nat.le_of_ble_eq_true rfl, Nat.le_of_ble_eq_true rfl⟩) hG hP hD hS hA [0, 1, 2] [] rfl rfl (by decide) (by decide) (by decide) rfl hl.1 rfl (Nat.le_of_ble_eq_true rfl) dX7_thousandthsAsGood_46 ⟨Nat.le_of_ble_eq_true rfl, Nat.le_of_ble_eq_true rfl⟩ rfl rfl (fun v w H locs hv hP hD hS => ?_)
          obtain ⟨r8, rfl, rfl, hf9⟩ := hv
          show W p l e _ s m _ below meth c H locs 0 0 _ (F0 m 49 ls (.int (iI r8) :: []))
          have hP : va_P g.1 vwCl [(ht, .inr (7, [.int (iI tm), .ref tw, .ref to_])), (tw, aI (g.2.1 0) 12 fw), (to_, aI (g.2.1 0) 12 fo)] H := hP
          have hD : va_D A [(ht, .inr (7, [.int (iI tm), .ref tw, .ref to_])), (tw, aI (g.2.1 0) 12 fw), (to_, aI (g.2.1 0) 12 fo)] := hD
          have hf9 : r8 = sD fo zx M := hf9
          have hsd := sD_rng fo zx M (fun j hj => (h2 j hj).2)
          refine lv_iload_n hx hb dX7_thousandthsAsGood_49 rfl (lv_at hl 3 rfl) ?_
          refine iv_icmp_lt (tgt := 56) hx hb dX7_thousandthsAsGood_50 (by decide) (by omega) (fun hc10 => ?_) (fun hc10 => ?_)
          · refine iv_iinc (k := 1) (x := zx) (lv' := [(5, .int (iI (zx + 1))), (3, .int (iI (al + 1))), (4, .int (iI go)), (2, .int (iI r3)), (1, .int (iI r1)), (0, .ref ht)]) hx hb dX7_thousandthsAsGood_56 hl rfl (by decide) rfl (fun ls hl => ?_)
            refine lv_goto (tgt := 20) hx hb dX7_thousandthsAsGood_59 (by decide) ?_
            exact ih20 (al + 1) go (zx + 1) (xx + 1) (by omega) (by rw [← hS1, show 2 ^ M - xx = (2 ^ M - (xx + 1)) + 1 from by omega]; simp only [shF]; first | (rw [if_neg (by rw [← hxx.1]; omega)]) | (rw [if_pos (by rw [← hxx.1]; omega), if_pos (by rw [← hxx.1]; omega)]) | (rw [if_pos (by rw [← hxx.1]; omega), if_neg (by rw [← hxx.1]; omega), Int.add_zero])) (by omega) H locs ls (hP.sub [0, 1, 2] rfl) (hD.sub [0, 1, 2] (by decide) rfl) hS (lv_sub hl [0, 2, 1, 3, 4, 5] rfl)
          · refine iv_iinc (k := 2) (x := go) (lv' := [(4, .int (iI (go + 1))), (3, .int (iI (al + 1))), (5, .int (iI zx)), (2, .int (iI r3)), (1, .int (iI r1)), (0, .ref ht)]) hx hb dX7_thousandthsAsGood_53 hl rfl (by decide) rfl (fun ls hl => ?_)
            refine iv_iinc (k := 2) (x := zx) (lv' := [(5, .int (iI (zx + 1))), (4, .int (iI (go + 1))), (3, .int (iI (al + 1))), (2, .int (iI r3)), (1, .int (iI r1)), (0, .ref ht)]) hx hb dX7_thousandthsAsGood_56 hl rfl (by decide) rfl (fun ls hl => ?_)
            refine lv_goto (tgt := 20) hx hb dX7_thousandthsAsGood_59 (by decide) ?_
            exact ih20 (al + 1) (go + 1) (zx + 1) (xx + 1) (by omega) (by rw [← hS1, show 2 ^ M - xx = (2 ^ M - (xx + 1)) + 1 from by omega]; simp only [shF]; first | (rw [if_neg (by rw [← hxx.1]; omega)]) | (rw [if_pos (by rw [← hxx.1]; omega), if_pos (by rw [← hxx.1]; omega)]) | (rw [if_pos (by rw [← hxx.1]; omega), if_neg (by rw [← hxx.1]; omega), Int.add_zero])) (by omega) H locs ls (hP.sub [0, 1, 2] rfl) (hD.sub [0, 1, 2] (by decide) rfl) hS (lv_sub hl [0, 1, 2, 3, 4, 5] rfl)
  exact hloop20 _ 0 0 0 0 (by omega) (rfl) (Nat.lt_succ_self _) H locs ls (hP.sub [0, 1, 2] rfl) (hD.sub [0, 1, 2] (by decide) rfl) hS (lv_sub hl [0, 1, 2, 3, 4, 5] rfl)
