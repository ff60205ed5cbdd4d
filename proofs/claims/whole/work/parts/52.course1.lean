theorem kX0_clear_0 : ∀ w ∈ u_ws RX0 TX0 3, w ∈ wsX0_clear := fun _ h => List.mem_cons_of_mem _ (List.mem_append_right _ h)
abbrev q_X0_clear (g : GT) (co : Nat) (ch : Nat) (cg_ : Nat) (cl : Nat) (fh : Nat → Int) (fg : Nat → Int) (fl : Nat → Int) : Option Value → va_W → Prop := fun v w => ∃ (fh' : Nat → Int), ∃ (fg' : Nat → Int), ∃ (fl' : Nat → Int), v = none ∧ w = [(co, .inr (0, [.ref ch, .ref cg_, .ref cl])), (ch, aI (g.2.1 0) 8 fh'), (cg_, aI (g.2.1 0) 8 fg'), (cl, aI (g.2.1 0) 8 fl')] ∧ (∀ j, j < 8 → fh' j = 0 ∧ fg' j = 0 ∧ fl' j = 0)
set_option maxHeartbeats 4000000 in
set_option maxRecDepth 100000 in
theorem c_X0_clear (l : Launch) (g : GT) (co : Nat) (ch : Nat) (cg_ : Nat) (cl : Nat) (fh : Nat → Int) (fg : Nat → Int) (fl : Nat → Int) : Ct l g yX0_clear wsX0_clear ({ frames := 0, cells := 0, slots := 0, locals := 0 } : Room) [.ref co] [(co, .inr (0, [.ref ch, .ref cg_, .ref cl])), (ch, aI (g.2.1 0) 8 fh), (cg_, aI (g.2.1 0) 8 fg), (cl, aI (g.2.1 0) 8 fl)] (q_X0_clear g co ch cg_ cl fh fg fl) := by
  refine Ct.intro (maxL := 2) (ret := none) (by decide) rfl (Nat.le_of_ble_eq_true rfl) ?_
  intro p e s m below meth c A ls hx hb hr hml hown hts hlocks hnm hA hG hP hD hS hl
  have hown : s.vm.findClass RX0 = some m.cls := hown
  have hl : lv_has ls 2 [(0, .ref co)] := hl
  have hP : va_P g.1 vwCl [(co, .inr (0, [.ref ch, .ref cg_, .ref cl])), (ch, aI (g.2.1 0) 8 fh), (cg_, aI (g.2.1 0) 8 fg), (cl, aI (g.2.1 0) 8 fl)] s.heap := hP
  have hS : va_S A s.heap s.heap [] := hS
  obtain ⟨H, hHe⟩ : ∃ H : Heap, H = s.heap := ⟨_, rfl⟩
  obtain ⟨locs, hLe⟩ : ∃ L : List Loc, L = [] := ⟨_, rfl⟩
  have hP : va_P g.1 vwCl [(co, .inr (0, [.ref ch, .ref cg_, .ref cl])), (ch, aI (g.2.1 0) 8 fh), (cg_, aI (g.2.1 0) 8 fg), (cl, aI (g.2.1 0) 8 fl)] H := by rw [hHe]; exact hP
  have hS : va_S A s.heap H locs := by rw [hHe, hLe]; exact hS
  suffices hgo : W p l e ({ frames := 0, cells := 0, slots := 0, locals := 0 } : Room) s m [.ref co].toArray below meth c H locs 0 0 (MQ below (CQ g (q_X0_clear g co ch cg_ cl fh fg fl) A) [.ref co].toArray s ({ frames := 0, cells := 0, slots := 0, locals := 0 } : Room).cells ({ frames := 0, cells := 0, slots := 0, locals := 0 } : Room).slots A) (F0 m 0 ls []) by rw [hHe, hLe] at hgo; exact hgo
  clear hHe hLe
  refine lv_iconst (v := iI (0)) hx hb dX0_clear_0 rfl ?_
  refine lv_istore_n (lv' := [(1, .int (iI 0)), (0, .ref co)]) hx hb dX0_clear_1 rfl hl (by decide) rfl (fun ls hl => ?_)
  have hloop2 : ∀ (fuel : Nat) (zj : Int) (f1 : Nat → Int) (f2 : Nat → Int) (f3 : Nat → Int) (j : Nat) (hc : zj = (j : Int) ∧ j ≤ 8) (he : ∀ k, k < j → f1 k = 0 ∧ f2 k = 0 ∧ f3 k = 0) (hmeas : 8 - j < fuel), ∀ (H : Heap) (locs : List Loc) (ls : Array Slot), va_P g.1 vwCl [(co, .inr (0, [.ref ch, .ref cg_, .ref cl])), (ch, aI (g.2.1 0) 8 f1), (cg_, aI (g.2.1 0) 8 f2), (cl, aI (g.2.1 0) 8 f3)] H → va_D A [(co, .inr (0, [.ref ch, .ref cg_, .ref cl])), (ch, aI (g.2.1 0) 8 f1), (cg_, aI (g.2.1 0) 8 f2), (cl, aI (g.2.1 0) 8 f3)] → va_S A s.heap H locs → lv_has ls 2 [(1, .int (iI zj)), (0, .ref co)] → W p l e ({ frames := 0, cells := 0, slots := 0, locals := 0 } : Room) s m [.ref co].toArray below meth c H locs 0 0 (MQ below (CQ g (q_X0_clear g co ch cg_ cl fh fg fl) A) [.ref co].toArray s ({ frames := 0, cells := 0, slots := 0, locals := 0 } : Room).cells ({ frames := 0, cells := 0, slots := 0, locals := 0 } : Room).slots A) (F0 m 2 ls []) := by
    intro fuel
    induction fuel with
    | zero => intro zj f1 f2 f3 j hc he hmeas; exact absurd hmeas (Nat.not_lt_zero _)
    | succ fuel ih2 =>
      intro zj f1 f2 f3 j hc he hmeas H locs ls hP hD hS hl
      refine lv_iload_n hx hb dX0_clear_2 rfl (lv_at hl 0 rfl) ?_
      refine lv_bipush (v := iI (8)) hx hb dX0_clear_3 (by decide) ?_
      refine iv_icmp_ge (tgt := 35) hx hb dX0_clear_5 (by decide) (by omega) (fun hc1 => ?_) (fun hc1 => ?_)
      · exact Ct.vret hx hb hr hlocks (hP.sub [0, 1, 2, 3] rfl) (hD.sub [0, 1, 2, 3] (by decide) rfl) hS ⟨by decide, by decide⟩ dX0_clear_35 ⟨f1, f2, f3, rfl, rfl, (fun j hj => he j (by omega))⟩
      · refine lv_aload_n hx hb dX0_clear_8 rfl (lv_at hl 1 rfl) ?_
        refine va_get (D := g.1) (ci := 0) (v := .ref ch) hx hb hts kX0_clear_0 hown hG.1 hP 0 rfl rfl 0 (by decide) (hts _ (List.mem_of_getElem? (i := 1) rfl)) (fun _ h9 => h9) rfl dX0_clear_9 ?_
        refine lv_iload_n hx hb dX0_clear_12 rfl (lv_at hl 0 rfl) ?_
        refine lv_iconst (v := iI (0)) hx hb dX0_clear_13 rfl ?_
        refine iv_iast hx hb hG hP hD hS 1 rfl j (by omega) (by omega) (by decide) dX0_clear_14 (fun H locs hP hD hS => ?_)
        have hP : va_P g.1 vwCl [(co, .inr (0, [.ref ch, .ref cg_, .ref cl])), (ch, aI (g.2.1 0) 8 (va_up f1 j 0)), (cg_, aI (g.2.1 0) 8 f2), (cl, aI (g.2.1 0) 8 f3)] H := hP
        have hD : va_D A [(co, .inr (0, [.ref ch, .ref cg_, .ref cl])), (ch, aI (g.2.1 0) 8 (va_up f1 j 0)), (cg_, aI (g.2.1 0) 8 f2), (cl, aI (g.2.1 0) 8 f3)] := hD
        refine lv_aload_n hx hb dX0_clear_15 rfl (lv_at hl 1 rfl) ?_
        refine va_get (D := g.1) (ci := 0) (v := .ref cg_) hx hb hts kX0_clear_0 hown hG.1 hP 0 rfl rfl 1 (by decide) (hts _ (List.mem_of_getElem? (i := 2) rfl)) (fun _ h9 => h9) rfl dX0_clear_16 ?_
        refine lv_iload_n hx hb dX0_clear_19 rfl (lv_at hl 0 rfl) ?_
        refine lv_iconst (v := iI (0)) hx hb dX0_clear_20 rfl ?_
        refine iv_iast hx hb hG hP hD hS 2 rfl j (by omega) (by omega) (by decide) dX0_clear_21 (fun H locs hP hD hS => ?_)
        have hP : va_P g.1 vwCl [(co, .inr (0, [.ref ch, .ref cg_, .ref cl])), (ch, aI (g.2.1 0) 8 (va_up f1 j 0)), (cg_, aI (g.2.1 0) 8 (va_up f2 j 0)), (cl, aI (g.2.1 0) 8 f3)] H := hP
        have hD : va_D A [(co, .inr (0, [.ref ch, .ref cg_, .ref cl])), (ch, aI (g.2.1 0) 8 (va_up f1 j 0)), (cg_, aI (g.2.1 0) 8 (va_up f2 j 0)), (cl, aI (g.2.1 0) 8 f3)] := hD
        refine lv_aload_n hx hb dX0_clear_22 rfl (lv_at hl 1 rfl) ?_
        refine va_get (D := g.1) (ci := 0) (v := .ref cl) hx hb hts kX0_clear_0 hown hG.1 hP 0 rfl rfl 2 (by decide) (hts _ (List.mem_of_getElem? (i := 3) rfl)) (fun _ h9 => h9) rfl dX0_clear_23 ?_
        refine lv_iload_n hx hb dX0_clear_26 rfl (lv_at hl 0 rfl) ?_
        refine lv_iconst (v := iI (0)) hx hb dX0_clear_27 rfl ?_
        refine iv_iast hx hb hG hP hD hS 3 rfl j (by omega) (by omega) (by decide) dX0_clear_28 (fun H locs hP hD hS => ?_)
        have hP : va_P g.1 vwCl [(co, .inr (0, [.ref ch, .ref cg_, .ref cl])), (ch, aI (g.2.1 0) 8 (va_up f1 j 0)), (cg_, aI (g.2.1 0) 8 (va_up f2 j 0)), (cl, aI (g.2.1 0) 8 (va_up f3 j 0))] H := hP
        have hD : va_D A [(co, .inr (0, [.ref ch, .ref cg_, .ref cl])), (ch, aI (g.2.1 0) 8 (va_up f1 j 0)), (cg_, aI (g.2.1 0) 8 (va_up f2 j 0)), (cl, aI (g.2.1 0) 8 (va_up f3 j 0))] := hD
        refine iv_iinc (k := 0) (x := zj) (lv' := [(1, .int (iI (zj + 1))), (0, .ref co)]) hx hb dX0_clear_29 hl rfl (by decide) rfl (fun ls hl => ?_)
        refine lv_goto (tgt := 2) hx hb dX0_clear_32 (by decide) ?_
        exact ih2 (zj + 1) (va_up f1 j 0) (va_up f2 j 0) (va_up f3 j 0) (j + 1) (by omega) (fun k hk => if q : k = j then (by rw [q, up_s, up_s, up_s]; exact ⟨rfl, rfl, rfl⟩) else (by rw [up_n _ _ _ _ q, up_n _ _ _ _ q, up_n _ _ _ _ q]; exact he k (by omega))) (by omega) H locs ls (hP.sub [0, 1, 2, 3] rfl) (hD.sub [0, 1, 2, 3] (by decide) rfl) hS (lv_sub hl [0, 1] rfl)
  exact hloop2 _ 0 fh fg fl 0 (by omega) (fun j hj => absurd hj (Nat.not_lt_zero j)) (Nat.lt_succ_self _) H locs ls (hP.sub [0, 1, 2, 3] rfl) (hD.sub [0, 1, 2, 3] (by decide) rfl) hS (lv_sub hl [0, 1] rfl)
theorem kX0_has_0 : ∀ w ∈ u_ws RX0 TX0 3, w ∈ wsX0_has := fun _ h => List.mem_cons_of_mem _ (List.mem_append_right _ h)
abbrev q_X0_has (g : GT) (co : Nat) (ch : Nat) (cg_ : Nat) (cl : Nat) (fh : Nat → Int) (fg : Nat → Int) (fl : Nat → Int) (sk : Int) : Option Value → va_W → Prop := fun v w => (v = some (.int (iI 1)) ∧ ((0 ≤ sk ∧ sk ≤ 7) ∧ 0 < fh sk.toNat) ∨ v = some (.int (iI 0)) ∧ ¬ ((0 ≤ sk ∧ sk ≤ 7) ∧ 0 < fh sk.toNat)) ∧ w = [(co, .inr (0, [.ref ch, .ref cg_, .ref cl])), (ch, aI (g.2.1 0) 8 fh), (cg_, aI (g.2.1 0) 8 fg), (cl, aI (g.2.1 0) 8 fl)]
set_option maxHeartbeats 4000000 in
set_option maxRecDepth 100000 in
theorem c_X0_has (l : Launch) (g : GT) (co : Nat) (ch : Nat) (cg_ : Nat) (cl : Nat) (fh : Nat → Int) (fg : Nat → Int) (fl : Nat → Int) (sk : Int) (h1 : (-2147483648 ≤ sk ∧ sk < 2147483648)) (hC : ∀ j, j < 8 → 0 ≤ fh j ∧ fh j ≤ 20 ∧ 0 ≤ fg j ∧ fg j ≤ 99 ∧ 0 ≤ fl j ∧ fl j < 256) : Ct l g yX0_has wsX0_has ({ frames := 1, cells := 0, slots := 0, locals := 22 } : Room) [.ref co, .int (iI sk)] [(co, .inr (0, [.ref ch, .ref cg_, .ref cl])), (ch, aI (g.2.1 0) 8 fh), (cg_, aI (g.2.1 0) 8 fg), (cl, aI (g.2.1 0) 8 fl)] (q_X0_has g co ch cg_ cl fh fg fl sk) := by
  refine Ct.intro (maxL := 2) (ret := (some .boolean)) (by decide) rfl (Nat.le_of_ble_eq_true rfl) ?_
  intro p e s m below meth c A ls hx hb hr hml hown hts hlocks hnm hA hG hP hD hS hl
  have hown : s.vm.findClass RX0 = some m.cls := hown
  have hl : lv_has ls 2 [(0, .ref co), (1, .int (iI sk))] := hl
  have hP : va_P g.1 vwCl [(co, .inr (0, [.ref ch, .ref cg_, .ref cl])), (ch, aI (g.2.1 0) 8 fh), (cg_, aI (g.2.1 0) 8 fg), (cl, aI (g.2.1 0) 8 fl)] s.heap := hP
  have hS : va_S A s.heap s.heap [] := hS
  obtain ⟨H, hHe⟩ : ∃ H : Heap, H = s.heap := ⟨_, rfl⟩
  obtain ⟨locs, hLe⟩ : ∃ L : List Loc, L = [] := ⟨_, rfl⟩
  have hP : va_P g.1 vwCl [(co, .inr (0, [.ref ch, .ref cg_, .ref cl])), (ch, aI (g.2.1 0) 8 fh), (cg_, aI (g.2.1 0) 8 fg), (cl, aI (g.2.1 0) 8 fl)] H := by rw [hHe]; exact hP
  have hS : va_S A s.heap H locs := by rw [hHe, hLe]; exact hS
  suffices hgo : W p l e ({ frames := 1, cells := 0, slots := 0, locals := 22 } : Room) s m [.ref co, .int (iI sk)].toArray below meth c H locs 0 0 (MQ below (CQ g (q_X0_has g co ch cg_ cl fh fg fl sk) A) [.ref co, .int (iI sk)].toArray s ({ frames := 1, cells := 0, slots := 0, locals := 22 } : Room).cells ({ frames := 1, cells := 0, slots := 0, locals := 22 } : Room).slots A) (F0 m 0 ls []) by rw [hHe, hLe] at hgo; exact hgo
  clear hHe hLe
  refine lv_iload_n hx hb dX0_has_0 rfl (lv_at hl 1 rfl) ?_
  refine lv_iconst (v := iI (0)) hx hb dX0_has_1 rfl ?_
  refine lv_bipush (v := iI (7)) hx hb dX0_has_2 (by decide) ?_
  refine Ct.callSN (As := [.int (iI sk), .int (iI 0), .int (iI 7)]) (rest := []) (wr := [(co, .inr (0, [.ref ch, .ref cg_, .ref cl])), (ch, aI (g.2.1 0) 8 fh), (cg_, aI (g.2.1 0) 8 fg), (cl, aI (g.2.1 0) 8 fl)]) (c1 := 0) (s1 := 0) ⟨hx, hb, hml, hown, hts⟩ (c_X8_within l g sk 0 7 (by omega)) ⟨(va_cnB 3 hts gX0_has_X8_within_n21 rfl rfl rfl (hG.2.1.m 8 rfl) (hts _ (List.mem_of_getElem? (i := 3) rfl)) (by decide +kernel) ⟨Nat.le_of_ble_eq_true rfl, Nat.le_of_ble_eq_true rfl⟩), (hts _ (List.mem_of_getElem? (i := 2) rfl)), trivial⟩ hG hP hD hS hA [] [0, 1, 2, 3] rfl rfl (by decide) (by decide) (by decide) rfl hl.1 rfl (Nat.le_of_ble_eq_true rfl) dX0_has_4 ⟨Nat.le_of_ble_eq_true rfl, Nat.le_of_ble_eq_true rfl⟩ rfl rfl (fun v w H locs hv hP hD hS => ?_)
  obtain ⟨⟨rfl, hb1⟩ | ⟨rfl, hb1⟩, rfl⟩ := hv
  · show W p l e _ s m _ below meth c H locs 0 0 _ (F0 m 7 ls (.int (iI 1) :: []))
    have hb1 : 0 ≤ sk ∧ sk ≤ 7 := hb1
    have hP : va_P g.1 vwCl [(co, .inr (0, [.ref ch, .ref cg_, .ref cl])), (ch, aI (g.2.1 0) 8 fh), (cg_, aI (g.2.1 0) 8 fg), (cl, aI (g.2.1 0) 8 fl)] H := hP
    have hD : va_D A [(co, .inr (0, [.ref ch, .ref cg_, .ref cl])), (ch, aI (g.2.1 0) 8 fh), (cg_, aI (g.2.1 0) 8 fg), (cl, aI (g.2.1 0) 8 fl)] := hD
    refine iv_if_eq (tgt := 23) hx hb dX0_has_7 (by decide) (by decide) (fun h => absurd h (by decide)) (fun _ => ?_)
    have hq := hC sk.toNat (by omega)
    refine lv_aload_n hx hb dX0_has_10 rfl (lv_at hl 0 rfl) ?_
    refine va_get (D := g.1) (ci := 0) (v := .ref ch) hx hb hts kX0_has_0 hown hG.1 hP 0 rfl rfl 0 (by decide) (hts _ (List.mem_of_getElem? (i := 1) rfl)) (fun _ h9 => h9) rfl dX0_has_11 ?_
    refine lv_iload_n hx hb dX0_has_14 rfl (lv_at hl 1 rfl) ?_
    refine iv_iald hx hb hG hP 1 rfl sk.toNat (by omega) (by omega) (by decide) dX0_has_15 ?_
    refine iv_if_le (tgt := 23) hx hb dX0_has_16 (by decide) (by omega) (fun hc3 => ?_) (fun hc3 => ?_)
    · refine lv_iconst (v := iI (0)) hx hb dX0_has_23 rfl ?_
      exact Ct.zret hx hb hr hlocks (hP.sub [0, 1, 2, 3] rfl) (hD.sub [0, 1, 2, 3] (by decide) rfl) hS ⟨by decide, by decide⟩ dX0_has_24 (by decide) ⟨Or.inr ⟨rfl, by omega⟩, rfl⟩
    · refine lv_iconst (v := iI (1)) hx hb dX0_has_19 rfl ?_
      refine lv_goto (tgt := 24) hx hb dX0_has_20 (by decide) ?_
      exact Ct.zret hx hb hr hlocks (hP.sub [0, 1, 2, 3] rfl) (hD.sub [0, 1, 2, 3] (by decide) rfl) hS ⟨by decide, by decide⟩ dX0_has_24 (by decide) ⟨Or.inl ⟨rfl, by omega⟩, rfl⟩
  · show W p l e _ s m _ below meth c H locs 0 0 _ (F0 m 7 ls (.int (iI 0) :: []))
    have hb1 : ¬ (0 ≤ sk ∧ sk ≤ 7) := hb1
    have hP : va_P g.1 vwCl [(co, .inr (0, [.ref ch, .ref cg_, .ref cl])), (ch, aI (g.2.1 0) 8 fh), (cg_, aI (g.2.1 0) 8 fg), (cl, aI (g.2.1 0) 8 fl)] H := hP
    have hD : va_D A [(co, .inr (0, [.ref ch, .ref cg_, .ref cl])), (ch, aI (g.2.1 0) 8 fh), (cg_, aI (g.2.1 0) 8 fg), (cl, aI (g.2.1 0) 8 fl)] := hD
    refine iv_if_eq (tgt := 23) hx hb dX0_has_7 (by decide) (by decide) (fun _ => ?_) (fun h => absurd h (by decide))
    refine lv_iconst (v := iI (0)) hx hb dX0_has_23 rfl ?_
    exact Ct.zret hx hb hr hlocks (hP.sub [0, 1, 2, 3] rfl) (hD.sub [0, 1, 2, 3] (by decide) rfl) hS ⟨by decide, by decide⟩ dX0_has_24 (by decide) ⟨Or.inr ⟨rfl, by omega⟩, rfl⟩
abbrev q_X8_total (g : GT) (ar : Nat) (f : Nat → Int) (x : Int) : Option Value → va_W → Prop := fun v w => v = some (.int (iI (sD f x 8))) ∧ w = [(ar, aI (g.2.1 0) 8 f)]
set_option maxHeartbeats 4000000 in
set_option maxRecDepth 100000 in
theorem c_X8_total (l : Launch) (g : GT) (ar : Nat) (f : Nat → Int) (x : Int) (h1 : 0 ≤ x ∧ x < 256) : Ct l g yX8_total wsX8_total ({ frames := 0, cells := 0, slots := 0, locals := 0 } : Room) [.ref ar, .int (iI x)] [(ar, aI (g.2.1 0) 8 f)] (q_X8_total g ar f x) := by
  refine Ct.intro (maxL := 4) (ret := (some .int)) (by decide) rfl (Nat.le_of_ble_eq_true rfl) ?_
  intro p e s m below meth c A ls hx hb hr hml hown hts hlocks hnm hA hG hP hD hS hl
  have hown : s.vm.findClass RX8 = some m.cls := hown
  have hl : lv_has ls 4 [(0, .ref ar), (1, .int (iI x))] := hl
  have hP : va_P g.1 vwCl [(ar, aI (g.2.1 0) 8 f)] s.heap := hP
  have hS : va_S A s.heap s.heap [] := hS
  obtain ⟨H, hHe⟩ : ∃ H : Heap, H = s.heap := ⟨_, rfl⟩
  obtain ⟨locs, hLe⟩ : ∃ L : List Loc, L = [] := ⟨_, rfl⟩
  have hP : va_P g.1 vwCl [(ar, aI (g.2.1 0) 8 f)] H := by rw [hHe]; exact hP
  have hS : va_S A s.heap H locs := by rw [hHe, hLe]; exact hS
  suffices hgo : W p l e ({ frames := 0, cells := 0, slots := 0, locals := 0 } : Room) s m [.ref ar, .int (iI x)].toArray below meth c H locs 0 0 (MQ below (CQ g (q_X8_total g ar f x) A) [.ref ar, .int (iI x)].toArray s ({ frames := 0, cells := 0, slots := 0, locals := 0 } : Room).cells ({ frames := 0, cells := 0, slots := 0, locals := 0 } : Room).slots A) (F0 m 0 ls []) by rw [hHe, hLe] at hgo; exact hgo
  clear hHe hLe
  refine lv_iconst (v := iI (0)) hx hb dX8_total_0 rfl ?_
  refine lv_istore_n (lv' := [(2, .int (iI 0)), (0, .ref ar), (1, .int (iI x))]) hx hb dX8_total_1 rfl hl (by decide) rfl (fun ls hl => ?_)
  refine lv_iconst (v := iI (0)) hx hb dX8_total_2 rfl ?_
  refine lv_istore_n (lv' := [(3, .int (iI 0)), (2, .int (iI 0)), (0, .ref ar), (1, .int (iI x))]) hx hb dX8_total_3 rfl hl (by decide) rfl (fun ls hl => ?_)
  have hloop4 : ∀ (fuel : Nat) (sm : Int) (zj : Int) (j : Nat) (hc : zj = (j : Int) ∧ j ≤ 8) (he : sm = sD f x j) (hmeas : 8 - j < fuel), ∀ (H : Heap) (locs : List Loc) (ls : Array Slot), va_P g.1 vwCl [(ar, aI (g.2.1 0) 8 f)] H → va_D A [(ar, aI (g.2.1 0) 8 f)] → va_S A s.heap H locs → lv_has ls 4 [(3, .int (iI zj)), (2, .int (iI sm)), (0, .ref ar), (1, .int (iI x))] → W p l e ({ frames := 0, cells := 0, slots := 0, locals := 0 } : Room) s m [.ref ar, .int (iI x)].toArray below meth c H locs 0 0 (MQ below (CQ g (q_X8_total g ar f x) A) [.ref ar, .int (iI x)].toArray s ({ frames := 0, cells := 0, slots := 0, locals := 0 } : Room).cells ({ frames := 0, cells := 0, slots := 0, locals := 0 } : Room).slots A) (F0 m 4 ls []) := by
    intro fuel
    induction fuel with
    | zero => intro sm zj j hc he hmeas; exact absurd hmeas (Nat.not_lt_zero _)
    | succ fuel ih4 =>
      intro sm zj j hc he hmeas H locs ls hP hD hS hl
      refine lv_iload_n hx hb dX8_total_4 rfl (lv_at hl 0 rfl) ?_
      refine lv_bipush (v := iI (8)) hx hb dX8_total_5 (by decide) ?_
      refine iv_icmp_ge (tgt := 37) hx hb dX8_total_7 (by decide) (by omega) (fun hc1 => ?_) (fun hc1 => ?_)
      · refine lv_iload_n hx hb dX8_total_37 rfl (lv_at hl 1 rfl) ?_
        exact Ct.iret hx hb hr hlocks (hP.sub [0] rfl) (hD.sub [0] (by decide) rfl) hS ⟨by decide, by decide⟩ dX8_total_38 ⟨(by rw [he, show j = 8 from by omega]), rfl⟩
      · refine lv_iload_n hx hb dX8_total_10 rfl (lv_at hl 0 rfl) ?_
        refine lv_aload_n hx hb dX8_total_11 rfl (lv_at hl 2 rfl) ?_
        refine iv_alen hx hb hG hP 0 0 rfl rfl dX8_total_12 ?_
        refine iv_as 8 rfl ?_
        refine iv_icmp_ge (tgt := 37) hx hb dX8_total_13 (by decide) (by omega) (fun hc2 => absurd hc2 (by omega)) (fun hc2 => ?_)
        have hq := sh_rng j (z := x) (by omega)
        refine lv_iload_n hx hb dX8_total_16 rfl (lv_at hl 3 rfl) ?_
        refine lv_iload_n hx hb dX8_total_17 rfl (lv_at hl 0 rfl) ?_
        refine iv_ishr hx hb dX8_total_18 (by omega) ?_
        refine iv_as (x / 2 ^ j) (by rw [show zj.toNat = j from by omega]) ?_
        refine lv_iconst (v := iI (1)) hx hb dX8_total_19 rfl ?_
        refine iv_and1 hx hb dX8_total_20 (by omega) ?_
        refine lv_iconst (v := iI (1)) hx hb dX8_total_21 rfl ?_
        refine iv_icmp_ne (tgt := 31) hx hb dX8_total_22 (by decide) (by omega) (fun hc3 => ?_) (fun hc3 => ?_)
        · refine iv_iinc (k := 0) (x := zj) (lv' := [(3, .int (iI (zj + 1))), (2, .int (iI sm)), (0, .ref ar), (1, .int (iI x))]) hx hb dX8_total_31 hl rfl (by decide) rfl (fun ls hl => ?_)
          refine lv_goto (tgt := 4) hx hb dX8_total_34 (by decide) ?_
          exact ih4 sm (zj + 1) (j + 1) (by omega) (by simp only [sD]; split <;> omega) (by omega) H locs ls (hP.sub [0] rfl) (hD.sub [0] (by decide) rfl) hS (lv_sub hl [0, 1, 2, 3] rfl)
        · refine lv_iload_n hx hb dX8_total_25 rfl (lv_at hl 1 rfl) ?_
          refine lv_aload_n hx hb dX8_total_26 rfl (lv_at hl 2 rfl) ?_
          refine lv_iload_n hx hb dX8_total_27 rfl (lv_at hl 0 rfl) ?_
          refine iv_iald hx hb hG hP 0 rfl j (by omega) (by omega) (by decide) dX8_total_28 ?_
          refine iv_iadd hx hb dX8_total_29 ?_
          refine lv_istore_n (lv' := [(2, .int (iI (sm + (f j)))), (3, .int (iI zj)), (0, .ref ar), (1, .int (iI x))]) hx hb dX8_total_30 rfl hl (by decide) rfl (fun ls hl => ?_)
          refine iv_iinc (k := 1) (x := zj) (lv' := [(3, .int (iI (zj + 1))), (2, .int (iI (sm + (f j)))), (0, .ref ar), (1, .int (iI x))]) hx hb dX8_total_31 hl rfl (by decide) rfl (fun ls hl => ?_)
          refine lv_goto (tgt := 4) hx hb dX8_total_34 (by decide) ?_
          exact ih4 (sm + (f j)) (zj + 1) (j + 1) (by omega) (by simp only [sD]; split <;> omega) (by omega) H locs ls (hP.sub [0] rfl) (hD.sub [0] (by decide) rfl) hS (lv_sub hl [0, 1, 2, 3] rfl)
  exact hloop4 _ 0 0 0 (by omega) (rfl) (Nat.lt_succ_self _) H locs ls (hP.sub [0] rfl) (hD.sub [0] (by decide) rfl) hS (lv_sub hl [0, 1, 2, 3] rfl)
