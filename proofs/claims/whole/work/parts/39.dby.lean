theorem kX8_by_8 : ∀ w ∈ u_ws RX8 TX8 13, w ∈ wsX8_by := fun _ h => List.mem_cons_of_mem _ (List.mem_append_left _ (List.mem_append_right _ h))
abbrev q_X8_by (g : GT) (hd : Nat) (d : Nat → Nat) (i : Nat → Int) (tw : Nat) (to_ : Nat) (tm : Int) (fw : Nat → Int) (fo : Nat → Int) (M : Nat) (what : Int) : Option Value → va_W → Prop := fun v w => ∃ (r : Int), v = some (.int (iI r)) ∧ w = [(hd, .inr (8, dF d i)), ((d 11), .inr (7, [.int (iI tm), .ref tw, .ref to_])), (tw, aI (g.2.1 0) 12 fw), (to_, aI (g.2.1 0) 12 fo)] ∧ (r = byR fw fo M what)
set_option maxHeartbeats 4000000 in
set_option maxRecDepth 100000 in
theorem c_X8_by (l : Launch) (g : GT) (hd : Nat) (d : Nat → Nat) (i : Nat → Int) (tw : Nat) (to_ : Nat) (tm : Int) (fw : Nat → Int) (fo : Nat → Int) (M : Nat) (what : Int) (h1 : tm = (M : Int) ∧ M ≤ 12) (h2 : ∀ j, j < M → (fw j = 0 ∨ fw j = 1) ∧ -999 ≤ fo j ∧ fo j ≤ 999) (h3 : (-2147483648 ≤ what ∧ what < 2147483648)) : Ct l g yX8_by wsX8_by ({ frames := 2, cells := 0, slots := 0, locals := 43 } : Room) [.ref hd, .int (iI what)] [(hd, .inr (8, dF d i)), ((d 11), .inr (7, [.int (iI tm), .ref tw, .ref to_])), (tw, aI (g.2.1 0) 12 fw), (to_, aI (g.2.1 0) 12 fo)] (q_X8_by g hd d i tw to_ tm fw fo M what) := by
  refine Ct.intro (maxL := 7) (ret := (some .int)) (by decide) rfl (Nat.le_of_ble_eq_true rfl) ?_
  intro p e s m below meth c A ls hx hb hr hml hown hts hlocks hnm hA hG hP hD hS hl
  have hown : s.vm.findClass RX8 = some m.cls := hown
  have hl : lv_has ls 7 [(0, .ref hd), (1, .int (iI what))] := hl
  have hP : va_P g.1 vwCl [(hd, .inr (8, dF d i)), ((d 11), .inr (7, [.int (iI tm), .ref tw, .ref to_])), (tw, aI (g.2.1 0) 12 fw), (to_, aI (g.2.1 0) 12 fo)] s.heap := hP
  have hS : va_S A s.heap s.heap [] := hS
  obtain ⟨H, hHe⟩ : ∃ H : Heap, H = s.heap := ⟨_, rfl⟩
  obtain ⟨locs, hLe⟩ : ∃ L : List Loc, L = [] := ⟨_, rfl⟩
  have hP : va_P g.1 vwCl [(hd, .inr (8, dF d i)), ((d 11), .inr (7, [.int (iI tm), .ref tw, .ref to_])), (tw, aI (g.2.1 0) 12 fw), (to_, aI (g.2.1 0) 12 fo)] H := by rw [hHe]; exact hP
  have hS : va_S A s.heap H locs := by rw [hHe, hLe]; exact hS
  suffices hgo : W p l e ({ frames := 2, cells := 0, slots := 0, locals := 43 } : Room) s m [.ref hd, .int (iI what)].toArray below meth c H locs 0 0 (MQ below (CQ g (q_X8_by g hd d i tw to_ tm fw fo M what) A) [.ref hd, .int (iI what)].toArray s ({ frames := 2, cells := 0, slots := 0, locals := 43 } : Room).cells ({ frames := 2, cells := 0, slots := 0, locals := 43 } : Room).slots A) (F0 m 0 ls []) by rw [hHe, hLe] at hgo; exact hgo
  clear hHe hLe
  refine lv_iload_n hx hb dX8_by_0 rfl (lv_at hl 1 rfl) ?_
  refine lv_iconst (v := iI (0)) hx hb dX8_by_1 rfl ?_
  refine lv_iconst (v := iI (1)) hx hb dX8_by_2 rfl ?_
  refine Ct.callS (As := [.int (iI what), .int (iI 0), .int (iI 1)]) (rest := []) (wr := [(hd, .inr (8, dF d i)), ((d 11), .inr (7, [.int (iI tm), .ref tw, .ref to_])), (tw, aI (g.2.1 0) 12 fw), (to_, aI (g.2.1 0) 12 fo)]) (c1 := 0) (s1 := 0) ⟨hx, hb, hml, hown, hts⟩ (c_X8_within l g what 0 1 (by omega)) (va_cwS 3 hts gX8_by_X8_within rfl rfl rfl (by decide +kernel) ⟨Nat.le_of_ble_eq_true rfl, Nat.le_of_ble_eq_true rfl⟩) hG hP hD hS hA [] [0, 1, 2, 3] rfl rfl (by decide) (by decide) (by decide) rfl hl.1 rfl (Nat.le_of_ble_eq_true rfl) dX8_by_3 ⟨Nat.le_of_ble_eq_true rfl, Nat.le_of_ble_eq_true rfl⟩ rfl rfl (fun v w H locs hv hP hD hS => ?_)
  obtain ⟨⟨rfl, hb1⟩ | ⟨rfl, hb1⟩, rfl⟩ := hv
  · show W p l e _ s m _ below meth c H locs 0 0 _ (F0 m 6 ls (.int (iI 1) :: []))
    have hb1 : 0 ≤ what ∧ what ≤ 1 := hb1
    have hP : va_P g.1 vwCl [(hd, .inr (8, dF d i)), ((d 11), .inr (7, [.int (iI tm), .ref tw, .ref to_])), (tw, aI (g.2.1 0) 12 fw), (to_, aI (g.2.1 0) 12 fo)] H := hP
    have hD : va_D A [(hd, .inr (8, dF d i)), ((d 11), .inr (7, [.int (iI tm), .ref tw, .ref to_])), (tw, aI (g.2.1 0) 12 fw), (to_, aI (g.2.1 0) 12 fo)] := hD
    refine iv_if_ne (tgt := 12) hx hb dX8_by_6 (by decide) (by decide) (fun _ => ?_) (fun h => absurd h (by decide))
    refine lv_aload_n hx hb dX8_by_12 rfl (lv_at hl 0 rfl) ?_
    refine va_get (D := g.1) (ci := 8) (v := .ref (d 11)) hx hb hts kX8_by_8 hown hG.1 hP 0 rfl rfl 11 (by decide) (hts _ (List.mem_of_getElem? (i := 2) rfl)) (fun _ h9 => h9) rfl dX8_by_13 ?_
    refine Ct.callV (ci := 7) (q0 := 1) (qc := (RX7, TX7, 3)) (As := []) (rest := []) (wr := [(hd, .inr (8, dF d i))]) (c1 := 0) (s1 := 0) ⟨hx, hb, hml, hown, hts⟩ (c_X7_lacksWay l g (d 11) tw to_ tm fw fo M (by omega) (h2)) rfl rfl (cwV 0 hts gX8_by_X7_lacksWay rfl rfl rfl (by decide +kernel) ⟨Nat.le_of_ble_eq_true rfl, Nat.le_of_ble_eq_true rfl⟩) hG hP hD hS hA [1, 2, 3] [0] rfl rfl (by decide) (by decide) (by decide) rfl hl.1 rfl (Nat.le_of_ble_eq_true rfl) dX8_by_16 ⟨Nat.le_of_ble_eq_true rfl, Nat.le_of_ble_eq_true rfl⟩ rfl rfl (fun v w H locs hv hP hD hS => ?_)
    obtain ⟨⟨rfl, hb3⟩ | ⟨rfl, hb3⟩, rfl⟩ := hv
    · show W p l e _ s m _ below meth c H locs 0 0 _ (F0 m 19 ls (.int (iI 1) :: []))
      have hb3 : mW fw 0 M = 0 ∨ mW fw 1 M = 0 := hb3
      have hP : va_P g.1 vwCl [(hd, .inr (8, dF d i)), ((d 11), .inr (7, [.int (iI tm), .ref tw, .ref to_])), (tw, aI (g.2.1 0) 12 fw), (to_, aI (g.2.1 0) 12 fo)] H := hP
      have hD : va_D A [(hd, .inr (8, dF d i)), ((d 11), .inr (7, [.int (iI tm), .ref tw, .ref to_])), (tw, aI (g.2.1 0) 12 fw), (to_, aI (g.2.1 0) 12 fo)] := hD
      refine iv_if_eq (tgt := 26) hx hb dX8_by_19 (by decide) (by decide) (fun h => absurd h (by decide)) (fun _ => ?_)
      refine iv_ldcw (v := -100002) (z := -100002) hx hb hown (hts _ (List.mem_of_getElem? (i := 3) rfl)) dX8_by_22 (by decide) ?_
      exact Ct.iret hx hb hr hlocks (hP.sub [0, 1, 2, 3] rfl) (hD.sub [0, 1, 2, 3] (by decide) rfl) hS ⟨by decide, by decide⟩ dX8_by_25 ⟨(-100002), rfl, rfl, (by unfold byR; (repeat' split) <;> first | rfl | omega)⟩
    · show W p l e _ s m _ below meth c H locs 0 0 _ (F0 m 19 ls (.int (iI 0) :: []))
      have hb3 : ¬ (mW fw 0 M = 0 ∨ mW fw 1 M = 0) := hb3
      have hP : va_P g.1 vwCl [(hd, .inr (8, dF d i)), ((d 11), .inr (7, [.int (iI tm), .ref tw, .ref to_])), (tw, aI (g.2.1 0) 12 fw), (to_, aI (g.2.1 0) 12 fo)] H := hP
      have hD : va_D A [(hd, .inr (8, dF d i)), ((d 11), .inr (7, [.int (iI tm), .ref tw, .ref to_])), (tw, aI (g.2.1 0) 12 fw), (to_, aI (g.2.1 0) 12 fo)] := hD
      refine iv_if_eq (tgt := 26) hx hb dX8_by_19 (by decide) (by decide) (fun _ => ?_) (fun h => absurd h (by decide))
      refine lv_aload_n hx hb dX8_by_26 rfl (lv_at hl 0 rfl) ?_
      refine va_get (D := g.1) (ci := 8) (v := .ref (d 11)) hx hb hts kX8_by_8 hown hG.1 hP 0 rfl rfl 11 (by decide) (hts _ (List.mem_of_getElem? (i := 2) rfl)) (fun _ h9 => h9) rfl dX8_by_27 ?_
      refine lv_iconst (v := iI (1)) hx hb dX8_by_30 rfl ?_
      refine Ct.callV (ci := 7) (q0 := 1) (qc := (RX7, TX7, 3)) (As := [.int (iI 1)]) (rest := []) (wr := [(hd, .inr (8, dF d i))]) (c1 := 0) (s1 := 0) ⟨hx, hb, hml, hown, hts⟩ (c_X7_manyOf l g (d 11) tw to_ tm fw fo M 1 (by omega) (h2)) rfl rfl (cwV 1 hts gX8_by_X7_manyOf rfl rfl rfl (by decide +kernel) ⟨Nat.le_of_ble_eq_true rfl, Nat.le_of_ble_eq_true rfl⟩) hG hP hD hS hA [1, 2, 3] [0] rfl rfl (by decide) (by decide) (by decide) rfl hl.1 rfl (Nat.le_of_ble_eq_true rfl) dX8_by_31 ⟨Nat.le_of_ble_eq_true rfl, Nat.le_of_ble_eq_true rfl⟩ rfl rfl (fun v w H locs hv hP hD hS => ?_)
      obtain ⟨r6, rfl, rfl, hf7⟩ := hv
      show W p l e _ s m _ below meth c H locs 0 0 _ (F0 m 34 ls (.int (iI r6) :: []))
      have hP : va_P g.1 vwCl [(hd, .inr (8, dF d i)), ((d 11), .inr (7, [.int (iI tm), .ref tw, .ref to_])), (tw, aI (g.2.1 0) 12 fw), (to_, aI (g.2.1 0) 12 fo)] H := hP
      have hD : va_D A [(hd, .inr (8, dF d i)), ((d 11), .inr (7, [.int (iI tm), .ref tw, .ref to_])), (tw, aI (g.2.1 0) 12 fw), (to_, aI (g.2.1 0) 12 fo)] := hD
      have hf7 : r6 = mW fw 1 M := hf7
      refine lv_istore_n (lv' := [(2, .int (iI r6)), (0, .ref hd), (1, .int (iI what))]) hx hb dX8_by_34 rfl hl (by decide) rfl (fun ls hl => ?_)
      refine lv_aload_n hx hb dX8_by_35 rfl (lv_at hl 1 rfl) ?_
      refine va_get (D := g.1) (ci := 8) (v := .ref (d 11)) hx hb hts kX8_by_8 hown hG.1 hP 0 rfl rfl 11 (by decide) (hts _ (List.mem_of_getElem? (i := 2) rfl)) (fun _ h9 => h9) rfl dX8_by_36 ?_
      refine lv_iconst (v := iI (0)) hx hb dX8_by_39 rfl ?_
      refine Ct.callV (ci := 7) (q0 := 1) (qc := (RX7, TX7, 3)) (As := [.int (iI 0)]) (rest := []) (wr := [(hd, .inr (8, dF d i))]) (c1 := 0) (s1 := 0) ⟨hx, hb, hml, hown, hts⟩ (c_X7_manyOf l g (d 11) tw to_ tm fw fo M 0 (by omega) (h2)) rfl rfl (cwV 1 hts gX8_by_X7_manyOf rfl rfl rfl (by decide +kernel) ⟨Nat.le_of_ble_eq_true rfl, Nat.le_of_ble_eq_true rfl⟩) hG hP hD hS hA [1, 2, 3] [0] rfl rfl (by decide) (by decide) (by decide) rfl hl.1 rfl (Nat.le_of_ble_eq_true rfl) dX8_by_40 ⟨Nat.le_of_ble_eq_true rfl, Nat.le_of_ble_eq_true rfl⟩ rfl rfl (fun v w H locs hv hP hD hS => ?_)
      obtain ⟨r8, rfl, rfl, hf9⟩ := hv
      show W p l e _ s m _ below meth c H locs 0 0 _ (F0 m 43 ls (.int (iI r8) :: []))
      have hP : va_P g.1 vwCl [(hd, .inr (8, dF d i)), ((d 11), .inr (7, [.int (iI tm), .ref tw, .ref to_])), (tw, aI (g.2.1 0) 12 fw), (to_, aI (g.2.1 0) 12 fo)] H := hP
      have hD : va_D A [(hd, .inr (8, dF d i)), ((d 11), .inr (7, [.int (iI tm), .ref tw, .ref to_])), (tw, aI (g.2.1 0) 12 fw), (to_, aI (g.2.1 0) 12 fo)] := hD
      have hf9 : r8 = mW fw 0 M := hf9
      refine lv_istore_n (lv' := [(3, .int (iI r8)), (2, .int (iI r6)), (0, .ref hd), (1, .int (iI what))]) hx hb dX8_by_43 rfl hl (by decide) rfl (fun ls hl => ?_)
      refine lv_aload_n hx hb dX8_by_44 rfl (lv_at hl 2 rfl) ?_
      refine va_get (D := g.1) (ci := 8) (v := .ref (d 11)) hx hb hts kX8_by_8 hown hG.1 hP 0 rfl rfl 11 (by decide) (hts _ (List.mem_of_getElem? (i := 2) rfl)) (fun _ h9 => h9) rfl dX8_by_45 ?_
      refine lv_iconst (v := iI (1)) hx hb dX8_by_48 rfl ?_
      refine Ct.callV (ci := 7) (q0 := 1) (qc := (RX7, TX7, 3)) (As := [.int (iI 1)]) (rest := []) (wr := [(hd, .inr (8, dF d i))]) (c1 := 0) (s1 := 0) ⟨hx, hb, hml, hown, hts⟩ (c_X7_sumOf l g (d 11) tw to_ tm fw fo M 1 (by omega) (h2)) rfl rfl (cwV 1 hts gX8_by_X7_sumOf rfl rfl rfl (by decide +kernel) ⟨Nat.le_of_ble_eq_true rfl, Nat.le_of_ble_eq_true rfl⟩) hG hP hD hS hA [1, 2, 3] [0] rfl rfl (by decide) (by decide) (by decide) rfl hl.1 rfl (Nat.le_of_ble_eq_true rfl) dX8_by_49 ⟨Nat.le_of_ble_eq_true rfl, Nat.le_of_ble_eq_true rfl⟩ rfl rfl (fun v w H locs hv hP hD hS => ?_)
      obtain ⟨r10, rfl, rfl, hf11⟩ := hv
      show W p l e _ s m _ below meth c H locs 0 0 _ (F0 m 52 ls (.int (iI r10) :: []))
      have hP : va_P g.1 vwCl [(hd, .inr (8, dF d i)), ((d 11), .inr (7, [.int (iI tm), .ref tw, .ref to_])), (tw, aI (g.2.1 0) 12 fw), (to_, aI (g.2.1 0) 12 fo)] H := hP
      have hD : va_D A [(hd, .inr (8, dF d i)), ((d 11), .inr (7, [.int (iI tm), .ref tw, .ref to_])), (tw, aI (g.2.1 0) 12 fw), (to_, aI (g.2.1 0) 12 fo)] := hD
      have hf11 : r10 = sW fw fo 1 M := hf11
      refine lv_iload_n hx hb dX8_by_52 rfl (lv_at hl 0 rfl) ?_
      refine iv_imul hx hb dX8_by_53 ?_
      refine lv_aload_n hx hb dX8_by_54 rfl (lv_at hl 2 rfl) ?_
      refine va_get (D := g.1) (ci := 8) (v := .ref (d 11)) hx hb hts kX8_by_8 hown hG.1 hP 0 rfl rfl 11 (by decide) (hts _ (List.mem_of_getElem? (i := 2) rfl)) (fun _ h9 => h9) rfl dX8_by_55 ?_
      refine lv_iconst (v := iI (0)) hx hb dX8_by_58 rfl ?_
      refine Ct.callV (ci := 7) (q0 := 1) (qc := (RX7, TX7, 3)) (As := [.int (iI 0)]) (rest := [.int (iI (r10 * r8))]) (wr := [(hd, .inr (8, dF d i))]) (c1 := 0) (s1 := 0) ⟨hx, hb, hml, hown, hts⟩ (c_X7_sumOf l g (d 11) tw to_ tm fw fo M 0 (by omega) (h2)) rfl rfl (cwV 1 hts gX8_by_X7_sumOf rfl rfl rfl (by decide +kernel) ⟨Nat.le_of_ble_eq_true rfl, Nat.le_of_ble_eq_true rfl⟩) hG hP hD hS hA [1, 2, 3] [0] rfl rfl (by decide) (by decide) (by decide) rfl hl.1 rfl (Nat.le_of_ble_eq_true rfl) dX8_by_59 ⟨Nat.le_of_ble_eq_true rfl, Nat.le_of_ble_eq_true rfl⟩ rfl rfl (fun v w H locs hv hP hD hS => ?_)
      obtain ⟨r12, rfl, rfl, hf13⟩ := hv
      show W p l e _ s m _ below meth c H locs 0 0 _ (F0 m 62 ls (.int (iI r12) :: [.int (iI (r10 * r8))]))
      have hP : va_P g.1 vwCl [(hd, .inr (8, dF d i)), ((d 11), .inr (7, [.int (iI tm), .ref tw, .ref to_])), (tw, aI (g.2.1 0) 12 fw), (to_, aI (g.2.1 0) 12 fo)] H := hP
      have hD : va_D A [(hd, .inr (8, dF d i)), ((d 11), .inr (7, [.int (iI tm), .ref tw, .ref to_])), (tw, aI (g.2.1 0) 12 fw), (to_, aI (g.2.1 0) 12 fo)] := hD
      have hf13 : r12 = sW fw fo 0 M := hf13
      refine lv_iload_n hx hb dX8_by_62 rfl (lv_at hl 1 rfl) ?_
      refine iv_imul hx hb dX8_by_63 ?_
      refine iv_isub hx hb dX8_by_64 ?_
      refine iv_as (byAb fw fo M) (by unfold byAb; simp only [*]) ?_
      have hr0 := mW_rng fw 0 M
      have hr1 := mW_rng fw 1 M
      have hr2 := mW_two fw M
      have hs0 := sW_rng fw fo 0 M (fun j hj => (h2 j hj).2)
      have hs1 := sW_rng fw fo 1 M (fun j hj => (h2 j hj).2)
      have hp0 := mulB (s := sW fw fo 1 M) (c := mW fw 0 M) (by omega) (by omega)
      have hp1 := mulB (s := sW fw fo 0 M) (c := mW fw 1 M) (by omega) (by omega)
      have hpp := prodB (o := mW fw 1 M) (z := mW fw 0 M) (by omega) (by omega) (by omega)
      have hab9 : -287712 ≤ byAb fw fo M ∧ byAb fw fo M ≤ 287712 := by unfold byAb; omega
      refine lv_istore (lv' := [(4, .int (iI (byAb fw fo M))), (3, .int (iI r8)), (2, .int (iI r6)), (0, .ref hd), (1, .int (iI what))]) hx hb dX8_by_65 hl (by decide) rfl (fun ls hl => ?_)
      refine lv_iload_n hx hb dX8_by_67 rfl (lv_at hl 2 rfl) ?_
      refine lv_iload_n hx hb dX8_by_68 rfl (lv_at hl 1 rfl) ?_
      refine iv_imul hx hb dX8_by_69 ?_
      refine iv_as (byBe fw M) (by unfold byBe; simp only [*]) ?_
      have hbe9 : 1 ≤ byBe fw M ∧ byBe fw M ≤ 36 := by unfold byBe; omega
      refine lv_istore (lv' := [(5, .int (iI (byBe fw M))), (4, .int (iI (byAb fw fo M))), (3, .int (iI r8)), (2, .int (iI r6)), (0, .ref hd), (1, .int (iI what))]) hx hb dX8_by_70 hl (by decide) rfl (fun ls hl => ?_)
      refine lv_iload hx hb dX8_by_72 (lv_at hl 1 rfl) ?_
      refine iv_abs hx hb (by rw [hml]; exact hl.1.symm) hown (hts _ (List.mem_of_getElem? (i := 4) rfl)) (hts _ (List.mem_of_getElem? (i := 5) rfl)) (hts _ (List.mem_of_getElem? (i := 6) rfl)) (hts _ (List.mem_of_getElem? (i := 7) rfl)) (Nat.le_of_ble_eq_true rfl) (Nat.le_of_ble_eq_true rfl) (Nat.le_of_ble_eq_true rfl) (Nat.le_of_ble_eq_true rfl) (by omega) dX8_by_74 ?_
      refine lv_iload hx hb dX8_by_77 (lv_at hl 0 rfl) ?_
      refine Ct.callS (As := [.int (iI ((byAb fw fo M).natAbs : Int)), .int (iI (byBe fw M))]) (rest := []) (wr := [(hd, .inr (8, dF d i)), ((d 11), .inr (7, [.int (iI tm), .ref tw, .ref to_])), (tw, aI (g.2.1 0) 12 fw), (to_, aI (g.2.1 0) 12 fo)]) (c1 := 0) (s1 := 0) ⟨hx, hb, hml, hown, hts⟩ (c_X8_commonDivisor l g ((byAb fw fo M).natAbs : Int) (byBe fw M) (by omega)) (va_cwS 2 hts gX8_by_X8_commonDivisor rfl rfl rfl (by decide +kernel) ⟨Nat.le_of_ble_eq_true rfl, Nat.le_of_ble_eq_true rfl⟩) hG hP hD hS hA [] [0, 1, 2, 3] rfl rfl (by decide) (by decide) (by decide) rfl hl.1 rfl (Nat.le_of_ble_eq_true rfl) dX8_by_79 ⟨Nat.le_of_ble_eq_true rfl, Nat.le_of_ble_eq_true rfl⟩ rfl rfl (fun v w H locs hv hP hD hS => ?_)
      obtain ⟨r14, rfl, rfl, hf15⟩ := hv
      show W p l e _ s m _ below meth c H locs 0 0 _ (F0 m 82 ls (.int (iI r14) :: []))
      have hP : va_P g.1 vwCl [(hd, .inr (8, dF d i)), ((d 11), .inr (7, [.int (iI tm), .ref tw, .ref to_])), (tw, aI (g.2.1 0) 12 fw), (to_, aI (g.2.1 0) 12 fo)] H := hP
      have hD : va_D A [(hd, .inr (8, dF d i)), ((d 11), .inr (7, [.int (iI tm), .ref tw, .ref to_])), (tw, aI (g.2.1 0) 12 fw), (to_, aI (g.2.1 0) 12 fo)] := hD
      have hf15 : r14 = ((Nat.gcd ((byAb fw fo M).natAbs : Int).toNat (byBe fw M).toNat : Nat) : Int) := hf15
      have hgg : r14 = ((Nat.gcd (byAb fw fo M).natAbs (byBe fw M).toNat : Nat) : Int) := by rw [hf15]; simp
      have hgp : 0 < Nat.gcd (byAb fw fo M).natAbs (byBe fw M).toNat := Nat.gcd_pos_of_pos_right _ (by unfold byBe; omega)
      have hgl : Nat.gcd (byAb fw fo M).natAbs (byBe fw M).toNat ≤ 36 := Nat.le_trans (Nat.gcd_le_right _ (by unfold byBe; omega)) (by unfold byBe; omega)
      refine lv_istore (lv' := [(6, .int (iI r14)), (5, .int (iI (byBe fw M))), (4, .int (iI (byAb fw fo M))), (3, .int (iI r8)), (2, .int (iI r6)), (0, .ref hd), (1, .int (iI what))]) hx hb dX8_by_82 hl (by decide) rfl (fun ls hl => ?_)
      refine lv_iload hx hb dX8_by_84 (lv_at hl 0 rfl) ?_
      refine iv_if_gt (tgt := 93) hx hb dX8_by_86 (by decide) (by omega) (fun hc16 => ?_) (fun hc16 => ?_)
      · refine lv_iload_n hx hb dX8_by_93 rfl (lv_at hl 6 rfl) ?_
        refine iv_if_ne (tgt := 102) hx hb dX8_by_94 (by decide) (by omega) (fun hc17 => ?_) (fun hc17 => ?_)
        · refine lv_iload hx hb dX8_by_102 (lv_at hl 1 rfl) ?_
          refine lv_iload hx hb dX8_by_104 (lv_at hl 0 rfl) ?_
          refine iv_idivT hx hb dX8_by_106 (by omega) ?_
          exact Ct.iret hx hb hr hlocks (hP.sub [0, 1, 2, 3] rfl) (hD.sub [0, 1, 2, 3] (by decide) rfl) hS ⟨by decide, by decide⟩ dX8_by_107 ⟨(Int.tdiv (byBe fw M) r14), rfl, rfl, (by unfold byR; rw [if_neg (by omega), if_neg (by omega), ← hgg]; first | rw [if_pos (by omega)] | rw [if_neg (by omega)])⟩
        · refine lv_iload hx hb dX8_by_97 (lv_at hl 2 rfl) ?_
          refine lv_goto (tgt := 104) hx hb dX8_by_99 (by decide) ?_
          refine lv_iload hx hb dX8_by_104 (lv_at hl 0 rfl) ?_
          refine iv_idivT hx hb dX8_by_106 (by omega) ?_
          exact Ct.iret hx hb hr hlocks (hP.sub [0, 1, 2, 3] rfl) (hD.sub [0, 1, 2, 3] (by decide) rfl) hS ⟨by decide, by decide⟩ dX8_by_107 ⟨(Int.tdiv (byAb fw fo M) r14), rfl, rfl, (by unfold byR; rw [if_neg (by omega), if_neg (by omega), ← hgg]; first | rw [if_pos (by omega)] | rw [if_neg (by omega)])⟩
      · refine iv_ldcw (v := -100002) (z := -100002) hx hb hown (hts _ (List.mem_of_getElem? (i := 3) rfl)) dX8_by_89 (by decide) ?_
        exact Ct.iret hx hb hr hlocks (hP.sub [0, 1, 2, 3] rfl) (hD.sub [0, 1, 2, 3] (by decide) rfl) hS ⟨by decide, by decide⟩ dX8_by_92 ⟨(-100002), rfl, rfl, (by unfold byR; (repeat' split) <;> first | rfl | omega)⟩
  · show W p l e _ s m _ below meth c H locs 0 0 _ (F0 m 6 ls (.int (iI 0) :: []))
    have hb1 : ¬ (0 ≤ what ∧ what ≤ 1) := hb1
    have hP : va_P g.1 vwCl [(hd, .inr (8, dF d i)), ((d 11), .inr (7, [.int (iI tm), .ref tw, .ref to_])), (tw, aI (g.2.1 0) 12 fw), (to_, aI (g.2.1 0) 12 fo)] H := hP
    have hD : va_D A [(hd, .inr (8, dF d i)), ((d 11), .inr (7, [.int (iI tm), .ref tw, .ref to_])), (tw, aI (g.2.1 0) 12 fw), (to_, aI (g.2.1 0) 12 fo)] := hD
    refine iv_if_ne (tgt := 12) hx hb dX8_by_6 (by decide) (by decide) (fun h => absurd h (by decide)) (fun _ => ?_)
    refine iv_ldc (v := -100001) (z := -100001) hx hb hown (hts _ (List.mem_of_getElem? (i := 1) rfl)) dX8_by_9 (by decide) ?_
    exact Ct.iret hx hb hr hlocks (hP.sub [0, 1, 2, 3] rfl) (hD.sub [0, 1, 2, 3] (by decide) rfl) hS ⟨by decide, by decide⟩ dX8_by_11 ⟨(-100001), rfl, rfl, (by unfold byR; (repeat' split) <;> first | rfl | omega)⟩
