theorem kX8_skill_0 : ∀ w ∈ u_ws RX0 TX0 3, w ∈ wsX8_skill := fun _ h => List.mem_cons_of_mem _ (List.mem_append_right _ h)
theorem kX8_skill_8 : ∀ w ∈ u_ws RX8 TX8 13, w ∈ wsX8_skill := fun _ h => List.mem_cons_of_mem _ (List.mem_append_left _ (List.mem_append_right _ h))
abbrev q_X8_skill (g : GT) (hd : Nat) (d : Nat → Nat) (i : Nat → Int) (ch : Nat) (cg_ : Nat) (cl : Nat) (fh : Nat → Int) (fg : Nat → Int) (fl : Nat → Int) (sk : Int) (what : Int) : Option Value → va_W → Prop := fun v w => ∃ (r : Int), v = some (.int (iI r)) ∧ w = [(hd, .inr (8, dF d i)), ((d 9), .inr (0, [.ref ch, .ref cg_, .ref cl])), (ch, aI (g.2.1 0) 8 fh), (cg_, aI (g.2.1 0) 8 fg), (cl, aI (g.2.1 0) 8 fl)] ∧ (r = (if ¬ (((0 ≤ sk ∧ sk ≤ 7) ∧ 0 < fh sk.toNat) ∧ 0 ≤ what ∧ what ≤ 2) then -1 else if what = 0 then fh sk.toNat else if what = 1 then fg sk.toNat else fl sk.toNat))
set_option maxHeartbeats 4000000 in
set_option maxRecDepth 100000 in
theorem c_X8_skill (l : Launch) (g : GT) (hd : Nat) (d : Nat → Nat) (i : Nat → Int) (ch : Nat) (cg_ : Nat) (cl : Nat) (fh : Nat → Int) (fg : Nat → Int) (fl : Nat → Int) (sk : Int) (what : Int) (h1 : (-2147483648 ≤ sk ∧ sk < 2147483648) ∧ (-2147483648 ≤ what ∧ what < 2147483648)) (hC : ∀ j, j < 8 → 0 ≤ fh j ∧ fh j ≤ 20 ∧ 0 ≤ fg j ∧ fg j ≤ 99 ∧ 0 ≤ fl j ∧ fl j < 256) : Ct l g yX8_skill wsX8_skill ({ frames := 2, cells := 0, slots := 0, locals := 43 } : Room) [.ref hd, .int (iI sk), .int (iI what)] [(hd, .inr (8, dF d i)), ((d 9), .inr (0, [.ref ch, .ref cg_, .ref cl])), (ch, aI (g.2.1 0) 8 fh), (cg_, aI (g.2.1 0) 8 fg), (cl, aI (g.2.1 0) 8 fl)] (q_X8_skill g hd d i ch cg_ cl fh fg fl sk what) := by
  refine Ct.intro (maxL := 3) (ret := (some .int)) (by decide) rfl (Nat.le_of_ble_eq_true rfl) ?_
  intro p e s m below meth c A ls hx hb hr hml hown hts hlocks hnm hA hG hP hD hS hl
  have hown : s.vm.findClass RX8 = some m.cls := hown
  have hl : lv_has ls 3 [(0, .ref hd), (1, .int (iI sk)), (2, .int (iI what))] := hl
  have hP : va_P g.1 vwCl [(hd, .inr (8, dF d i)), ((d 9), .inr (0, [.ref ch, .ref cg_, .ref cl])), (ch, aI (g.2.1 0) 8 fh), (cg_, aI (g.2.1 0) 8 fg), (cl, aI (g.2.1 0) 8 fl)] s.heap := hP
  have hS : va_S A s.heap s.heap [] := hS
  obtain ⟨H, hHe⟩ : ∃ H : Heap, H = s.heap := ⟨_, rfl⟩
  obtain ⟨locs, hLe⟩ : ∃ L : List Loc, L = [] := ⟨_, rfl⟩
  have hP : va_P g.1 vwCl [(hd, .inr (8, dF d i)), ((d 9), .inr (0, [.ref ch, .ref cg_, .ref cl])), (ch, aI (g.2.1 0) 8 fh), (cg_, aI (g.2.1 0) 8 fg), (cl, aI (g.2.1 0) 8 fl)] H := by rw [hHe]; exact hP
  have hS : va_S A s.heap H locs := by rw [hHe, hLe]; exact hS
  suffices hgo : W p l e ({ frames := 2, cells := 0, slots := 0, locals := 43 } : Room) s m [.ref hd, .int (iI sk), .int (iI what)].toArray below meth c H locs 0 0 (MQ below (CQ g (q_X8_skill g hd d i ch cg_ cl fh fg fl sk what) A) [.ref hd, .int (iI sk), .int (iI what)].toArray s ({ frames := 2, cells := 0, slots := 0, locals := 43 } : Room).cells ({ frames := 2, cells := 0, slots := 0, locals := 43 } : Room).slots A) (F0 m 0 ls []) by rw [hHe, hLe] at hgo; exact hgo
  clear hHe hLe
  refine lv_aload_n hx hb dX8_skill_0 rfl (lv_at hl 0 rfl) ?_
  refine va_get (D := g.1) (ci := 8) (v := .ref (d 9)) hx hb hts kX8_skill_8 hown hG.1 hP 0 rfl rfl 9 (by decide) (hts _ (List.mem_of_getElem? (i := 1) rfl)) (fun _ h9 => h9) rfl dX8_skill_1 ?_
  refine lv_iload_n hx hb dX8_skill_4 rfl (lv_at hl 1 rfl) ?_
  refine Ct.callV (ci := 0) (q0 := 1) (qc := (RX0, TX0, 3)) (As := [.int (iI sk)]) (rest := []) (wr := [(hd, .inr (8, dF d i))]) (c1 := 0) (s1 := 0) ⟨hx, hb, hml, hown, hts⟩ (c_X0_has l g (d 9) ch cg_ cl fh fg fl sk (by omega) (hC)) rfl rfl (cwV 1 hts gX8_skill_X0_has rfl rfl rfl (by decide +kernel) ⟨Nat.le_of_ble_eq_true rfl, Nat.le_of_ble_eq_true rfl⟩) hG hP hD hS hA [1, 2, 3, 4] [0] rfl rfl (by decide) (by decide) (by decide) rfl hl.1 rfl (Nat.le_of_ble_eq_true rfl) dX8_skill_5 ⟨Nat.le_of_ble_eq_true rfl, Nat.le_of_ble_eq_true rfl⟩ rfl rfl (fun v w H locs hv hP hD hS => ?_)
  obtain ⟨⟨rfl, hb1⟩ | ⟨rfl, hb1⟩, rfl⟩ := hv
  · show W p l e _ s m _ below meth c H locs 0 0 _ (F0 m 8 ls (.int (iI 1) :: []))
    have hb1 : (0 ≤ sk ∧ sk ≤ 7) ∧ 0 < fh sk.toNat := hb1
    have hP : va_P g.1 vwCl [(hd, .inr (8, dF d i)), ((d 9), .inr (0, [.ref ch, .ref cg_, .ref cl])), (ch, aI (g.2.1 0) 8 fh), (cg_, aI (g.2.1 0) 8 fg), (cl, aI (g.2.1 0) 8 fl)] H := hP
    have hD : va_D A [(hd, .inr (8, dF d i)), ((d 9), .inr (0, [.ref ch, .ref cg_, .ref cl])), (ch, aI (g.2.1 0) 8 fh), (cg_, aI (g.2.1 0) 8 fg), (cl, aI (g.2.1 0) 8 fl)] := hD
    refine iv_if_eq (tgt := 20) hx hb dX8_skill_8 (by decide) (by decide) (fun h => absurd h (by decide)) (fun _ => ?_)
    refine lv_iload_n hx hb dX8_skill_11 rfl (lv_at hl 2 rfl) ?_
    refine lv_iconst (v := iI (0)) hx hb dX8_skill_12 rfl ?_
    refine lv_iconst (v := iI (2)) hx hb dX8_skill_13 rfl ?_
    refine Ct.callS (As := [.int (iI what), .int (iI 0), .int (iI 2)]) (rest := []) (wr := [(hd, .inr (8, dF d i)), ((d 9), .inr (0, [.ref ch, .ref cg_, .ref cl])), (ch, aI (g.2.1 0) 8 fh), (cg_, aI (g.2.1 0) 8 fg), (cl, aI (g.2.1 0) 8 fl)]) (c1 := 0) (s1 := 0) ⟨hx, hb, hml, hown, hts⟩ (c_X8_within l g what 0 2 (by omega)) (va_cwS 3 hts gX8_skill_X8_within rfl rfl rfl (by decide +kernel) ⟨Nat.le_of_ble_eq_true rfl, Nat.le_of_ble_eq_true rfl⟩) hG hP hD hS hA [] [0, 1, 2, 3, 4] rfl rfl (by decide) (by decide) (by decide) rfl hl.1 rfl (Nat.le_of_ble_eq_true rfl) dX8_skill_14 ⟨Nat.le_of_ble_eq_true rfl, Nat.le_of_ble_eq_true rfl⟩ rfl rfl (fun v w H locs hv hP hD hS => ?_)
    obtain ⟨⟨rfl, hb3⟩ | ⟨rfl, hb3⟩, rfl⟩ := hv
    · show W p l e _ s m _ below meth c H locs 0 0 _ (F0 m 17 ls (.int (iI 1) :: []))
      have hb3 : 0 ≤ what ∧ what ≤ 2 := hb3
      have hP : va_P g.1 vwCl [(hd, .inr (8, dF d i)), ((d 9), .inr (0, [.ref ch, .ref cg_, .ref cl])), (ch, aI (g.2.1 0) 8 fh), (cg_, aI (g.2.1 0) 8 fg), (cl, aI (g.2.1 0) 8 fl)] H := hP
      have hD : va_D A [(hd, .inr (8, dF d i)), ((d 9), .inr (0, [.ref ch, .ref cg_, .ref cl])), (ch, aI (g.2.1 0) 8 fh), (cg_, aI (g.2.1 0) 8 fg), (cl, aI (g.2.1 0) 8 fl)] := hD
      refine iv_if_ne (tgt := 22) hx hb dX8_skill_17 (by decide) (by decide) (fun _ => ?_) (fun h => absurd h (by decide))
      refine lv_iload_n hx hb dX8_skill_22 rfl (lv_at hl 2 rfl) ?_
      rcases (show what = 0 ∨ what = 1 ∨ (¬ what = 0 ∧ ¬ what = 1) from by omega) with hc5 | hc5 | hc5
      · refine iv_as (0) hc5 ?_
        refine lv_lookup (off := 25) (tgt := 48) hx hb dX8_skill_23 (by decide) (by decide) (by decide) ?_
        refine lv_aload_n hx hb dX8_skill_48 rfl (lv_at hl 0 rfl) ?_
        refine va_get (D := g.1) (ci := 8) (v := .ref (d 9)) hx hb hts kX8_skill_8 hown hG.1 hP 0 rfl rfl 9 (by decide) (hts _ (List.mem_of_getElem? (i := 1) rfl)) (fun _ h9 => h9) rfl dX8_skill_49 ?_
        refine va_get (D := g.1) (ci := 0) (v := .ref ch) hx hb hts kX8_skill_0 hown hG.1 hP 1 rfl rfl 0 (by decide) (hts _ (List.mem_of_getElem? (i := 2) rfl)) (fun _ h9 => h9) rfl dX8_skill_52 ?_
        refine lv_iload_n hx hb dX8_skill_55 rfl (lv_at hl 1 rfl) ?_
        refine iv_iald hx hb hG hP 2 rfl sk.toNat (by omega) (by omega) (by decide) dX8_skill_56 ?_
        exact Ct.iret hx hb hr hlocks (hP.sub [0, 1, 2, 3, 4] rfl) (hD.sub [0, 1, 2, 3, 4] (by decide) rfl) hS ⟨by decide, by decide⟩ dX8_skill_57 ⟨(fh sk.toNat), rfl, rfl, (by rw [if_neg (by omega), if_pos (by omega)])⟩
      · refine iv_as (1) hc5 ?_
        refine lv_lookup (off := 35) (tgt := 58) hx hb dX8_skill_23 (by decide) (by decide) (by decide) ?_
        refine lv_aload_n hx hb dX8_skill_58 rfl (lv_at hl 0 rfl) ?_
        refine va_get (D := g.1) (ci := 8) (v := .ref (d 9)) hx hb hts kX8_skill_8 hown hG.1 hP 0 rfl rfl 9 (by decide) (hts _ (List.mem_of_getElem? (i := 1) rfl)) (fun _ h9 => h9) rfl dX8_skill_59 ?_
        refine va_get (D := g.1) (ci := 0) (v := .ref cg_) hx hb hts kX8_skill_0 hown hG.1 hP 1 rfl rfl 1 (by decide) (hts _ (List.mem_of_getElem? (i := 3) rfl)) (fun _ h9 => h9) rfl dX8_skill_62 ?_
        refine lv_iload_n hx hb dX8_skill_65 rfl (lv_at hl 1 rfl) ?_
        refine iv_iald hx hb hG hP 3 rfl sk.toNat (by omega) (by omega) (by decide) dX8_skill_66 ?_
        exact Ct.iret hx hb hr hlocks (hP.sub [0, 1, 2, 3, 4] rfl) (hD.sub [0, 1, 2, 3, 4] (by decide) rfl) hS ⟨by decide, by decide⟩ dX8_skill_67 ⟨(fg sk.toNat), rfl, rfl, (by rw [if_neg (by omega), if_neg (by omega), if_pos (by omega)])⟩
      · refine lv_lookup (off := 45) (tgt := 68) hx hb dX8_skill_23 (by decide) (by rw [iI_toInt (by omega)]; show (if (0 : Int) = what then (25 : Int) else (if (1 : Int) = what then (35 : Int) else (45 : Int))) = 45; rw [if_neg (by omega), if_neg (by omega)]) (by decide) ?_
        refine lv_aload_n hx hb dX8_skill_68 rfl (lv_at hl 0 rfl) ?_
        refine va_get (D := g.1) (ci := 8) (v := .ref (d 9)) hx hb hts kX8_skill_8 hown hG.1 hP 0 rfl rfl 9 (by decide) (hts _ (List.mem_of_getElem? (i := 1) rfl)) (fun _ h9 => h9) rfl dX8_skill_69 ?_
        refine va_get (D := g.1) (ci := 0) (v := .ref cl) hx hb hts kX8_skill_0 hown hG.1 hP 1 rfl rfl 2 (by decide) (hts _ (List.mem_of_getElem? (i := 4) rfl)) (fun _ h9 => h9) rfl dX8_skill_72 ?_
        refine lv_iload_n hx hb dX8_skill_75 rfl (lv_at hl 1 rfl) ?_
        refine iv_iald hx hb hG hP 4 rfl sk.toNat (by omega) (by omega) (by decide) dX8_skill_76 ?_
        exact Ct.iret hx hb hr hlocks (hP.sub [0, 1, 2, 3, 4] rfl) (hD.sub [0, 1, 2, 3, 4] (by decide) rfl) hS ⟨by decide, by decide⟩ dX8_skill_77 ⟨(fl sk.toNat), rfl, rfl, (by rw [if_neg (by omega), if_neg (by omega), if_neg (by omega)])⟩
    · show W p l e _ s m _ below meth c H locs 0 0 _ (F0 m 17 ls (.int (iI 0) :: []))
      have hb3 : ¬ (0 ≤ what ∧ what ≤ 2) := hb3
      have hP : va_P g.1 vwCl [(hd, .inr (8, dF d i)), ((d 9), .inr (0, [.ref ch, .ref cg_, .ref cl])), (ch, aI (g.2.1 0) 8 fh), (cg_, aI (g.2.1 0) 8 fg), (cl, aI (g.2.1 0) 8 fl)] H := hP
      have hD : va_D A [(hd, .inr (8, dF d i)), ((d 9), .inr (0, [.ref ch, .ref cg_, .ref cl])), (ch, aI (g.2.1 0) 8 fh), (cg_, aI (g.2.1 0) 8 fg), (cl, aI (g.2.1 0) 8 fl)] := hD
      refine iv_if_ne (tgt := 22) hx hb dX8_skill_17 (by decide) (by decide) (fun h => absurd h (by decide)) (fun _ => ?_)
      refine lv_iconst (v := iI (-1)) hx hb dX8_skill_20 rfl ?_
      exact Ct.iret hx hb hr hlocks (hP.sub [0, 1, 2, 3, 4] rfl) (hD.sub [0, 1, 2, 3, 4] (by decide) rfl) hS ⟨by decide, by decide⟩ dX8_skill_21 ⟨(-1), rfl, rfl, (by rw [if_pos (by omega)])⟩
  · show W p l e _ s m _ below meth c H locs 0 0 _ (F0 m 8 ls (.int (iI 0) :: []))
    have hb1 : ¬ ((0 ≤ sk ∧ sk ≤ 7) ∧ 0 < fh sk.toNat) := hb1
    have hP : va_P g.1 vwCl [(hd, .inr (8, dF d i)), ((d 9), .inr (0, [.ref ch, .ref cg_, .ref cl])), (ch, aI (g.2.1 0) 8 fh), (cg_, aI (g.2.1 0) 8 fg), (cl, aI (g.2.1 0) 8 fl)] H := hP
    have hD : va_D A [(hd, .inr (8, dF d i)), ((d 9), .inr (0, [.ref ch, .ref cg_, .ref cl])), (ch, aI (g.2.1 0) 8 fh), (cg_, aI (g.2.1 0) 8 fg), (cl, aI (g.2.1 0) 8 fl)] := hD
    refine iv_if_eq (tgt := 20) hx hb dX8_skill_8 (by decide) (by decide) (fun _ => ?_) (fun h => absurd h (by decide))
    refine lv_iconst (v := iI (-1)) hx hb dX8_skill_20 rfl ?_
    exact Ct.iret hx hb hr hlocks (hP.sub [0, 1, 2, 3, 4] rfl) (hD.sub [0, 1, 2, 3, 4] (by decide) rfl) hS ⟨by decide, by decide⟩ dX8_skill_21 ⟨(-1), rfl, rfl, (by rw [if_pos (by omega)])⟩
