theorem kX5_isMissing_5 : ∀ w ∈ u_ws RX5 TX5 3, w ∈ wsX5_isMissing := fun _ h => List.mem_cons_of_mem _ (List.mem_append_right _ h)
abbrev q_X5_isMissing (g : GT) (y : Nat) (yi : Nat) (ln : Int) (la : Int) (it : Nat → Int) : Option Value → va_W → Prop := fun v w => (v = some (.int (iI 1)) ∧ (ln < 0) ∨ v = some (.int (iI 0)) ∧ ¬ (ln < 0)) ∧ w = [(y, .inr (5, [.int (iI ln), .int (iI la), .ref yi])), (yi, aI (g.2.1 0) 40 it)]
set_option maxHeartbeats 4000000 in
set_option maxRecDepth 100000 in
theorem c_X5_isMissing (l : Launch) (g : GT) (y : Nat) (yi : Nat) (ln : Int) (la : Int) (it : Nat → Int) (h1 : -1 ≤ ln ∧ ln ≤ 40) : Ct l g yX5_isMissing wsX5_isMissing ({ frames := 0, cells := 0, slots := 0, locals := 0 } : Room) [.ref y] [(y, .inr (5, [.int (iI ln), .int (iI la), .ref yi])), (yi, aI (g.2.1 0) 40 it)] (q_X5_isMissing g y yi ln la it) := by
  refine Ct.intro (maxL := 1) (ret := (some .boolean)) (by decide) rfl (Nat.le_of_ble_eq_true rfl) ?_
  intro p e s m below meth c A ls hx hb hr hml hown hts hlocks hnm hA hG hP hD hS hl
  have hown : s.vm.findClass RX5 = some m.cls := hown
  have hl : lv_has ls 1 [(0, .ref y)] := hl
  have hP : va_P g.1 vwCl [(y, .inr (5, [.int (iI ln), .int (iI la), .ref yi])), (yi, aI (g.2.1 0) 40 it)] s.heap := hP
  have hS : va_S A s.heap s.heap [] := hS
  obtain ⟨H, hHe⟩ : ∃ H : Heap, H = s.heap := ⟨_, rfl⟩
  obtain ⟨locs, hLe⟩ : ∃ L : List Loc, L = [] := ⟨_, rfl⟩
  have hP : va_P g.1 vwCl [(y, .inr (5, [.int (iI ln), .int (iI la), .ref yi])), (yi, aI (g.2.1 0) 40 it)] H := by rw [hHe]; exact hP
  have hS : va_S A s.heap H locs := by rw [hHe, hLe]; exact hS
  suffices hgo : W p l e ({ frames := 0, cells := 0, slots := 0, locals := 0 } : Room) s m [.ref y].toArray below meth c H locs 0 0 (MQ below (CQ g (q_X5_isMissing g y yi ln la it) A) [.ref y].toArray s ({ frames := 0, cells := 0, slots := 0, locals := 0 } : Room).cells ({ frames := 0, cells := 0, slots := 0, locals := 0 } : Room).slots A) (F0 m 0 ls []) by rw [hHe, hLe] at hgo; exact hgo
  clear hHe hLe
  refine lv_aload_n hx hb dX5_isMissing_0 rfl (lv_at hl 0 rfl) ?_
  refine va_get (D := g.1) (ci := 5) (v := .int (iI ln)) hx hb hts kX5_isMissing_5 hown hG.1 hP 0 rfl rfl 0 (by decide) (hts _ (List.mem_of_getElem? (i := 1) rfl)) (fun _ h9 => h9) rfl dX5_isMissing_1 ?_
  refine iv_if_ge (tgt := 11) hx hb dX5_isMissing_4 (by decide) (by omega) (fun hc1 => ?_) (fun hc1 => ?_)
  · refine lv_iconst (v := iI (0)) hx hb dX5_isMissing_11 rfl ?_
    exact Ct.zret hx hb hr hlocks (hP.sub [0, 1] rfl) (hD.sub [0, 1] (by decide) rfl) hS ⟨by decide, by decide⟩ dX5_isMissing_12 (by decide) ⟨Or.inr ⟨rfl, by omega⟩, rfl⟩
  · refine lv_iconst (v := iI (1)) hx hb dX5_isMissing_7 rfl ?_
    refine lv_goto (tgt := 12) hx hb dX5_isMissing_8 (by decide) ?_
    exact Ct.zret hx hb hr hlocks (hP.sub [0, 1] rfl) (hD.sub [0, 1] (by decide) rfl) hS ⟨by decide, by decide⟩ dX5_isMissing_12 (by decide) ⟨Or.inl ⟨rfl, by omega⟩, rfl⟩
theorem kX5_renew_5 : ∀ w ∈ u_ws RX5 TX5 3, w ∈ wsX5_renew := fun _ h => List.mem_cons_of_mem _ (List.mem_append_right _ h)
abbrev q_X5_renew (g : GT) (y : Nat) (yi : Nat) (ln : Int) (la : Int) (it : Nat → Int) (la2 : Int) (n : Int) : Option Value → va_W → Prop := fun v w => ∃ (it' : Nat → Int), v = none ∧ w = [(y, .inr (5, [.int (iI n), .int (iI la2), .ref yi])), (yi, aI (g.2.1 0) 40 it')] ∧ (∀ j, j < 40 → it' j = 0)
set_option maxHeartbeats 4000000 in
set_option maxRecDepth 100000 in
theorem c_X5_renew (l : Launch) (g : GT) (y : Nat) (yi : Nat) (ln : Int) (la : Int) (it : Nat → Int) (la2 : Int) (n : Int) (h1 : 0 ≤ n ∧ n ≤ 40) : Ct l g yX5_renew wsX5_renew ({ frames := 1, cells := 0, slots := 0, locals := 19 } : Room) [.ref y, .int (iI la2), .int (iI n)] [(y, .inr (5, [.int (iI ln), .int (iI la), .ref yi])), (yi, aI (g.2.1 0) 40 it)] (q_X5_renew g y yi ln la it la2 n) := by
  refine Ct.intro (maxL := 4) (ret := none) (by decide) rfl (Nat.le_of_ble_eq_true rfl) ?_
  intro p e s m below meth c A ls hx hb hr hml hown hts hlocks hnm hA hG hP hD hS hl
  have hown : s.vm.findClass RX5 = some m.cls := hown
  have hl : lv_has ls 4 [(0, .ref y), (1, .int (iI la2)), (2, .int (iI n))] := hl
  have hP : va_P g.1 vwCl [(y, .inr (5, [.int (iI ln), .int (iI la), .ref yi])), (yi, aI (g.2.1 0) 40 it)] s.heap := hP
  have hS : va_S A s.heap s.heap [] := hS
  obtain ⟨H, hHe⟩ : ∃ H : Heap, H = s.heap := ⟨_, rfl⟩
  obtain ⟨locs, hLe⟩ : ∃ L : List Loc, L = [] := ⟨_, rfl⟩
  have hP : va_P g.1 vwCl [(y, .inr (5, [.int (iI ln), .int (iI la), .ref yi])), (yi, aI (g.2.1 0) 40 it)] H := by rw [hHe]; exact hP
  have hS : va_S A s.heap H locs := by rw [hHe, hLe]; exact hS
  suffices hgo : W p l e ({ frames := 1, cells := 0, slots := 0, locals := 19 } : Room) s m [.ref y, .int (iI la2), .int (iI n)].toArray below meth c H locs 0 0 (MQ below (CQ g (q_X5_renew g y yi ln la it la2 n) A) [.ref y, .int (iI la2), .int (iI n)].toArray s ({ frames := 1, cells := 0, slots := 0, locals := 19 } : Room).cells ({ frames := 1, cells := 0, slots := 0, locals := 19 } : Room).slots A) (F0 m 0 ls []) by rw [hHe, hLe] at hgo; exact hgo
  clear hHe hLe
  refine lv_aload_n hx hb dX5_renew_0 rfl (lv_at hl 0 rfl) ?_
  refine lv_iload_n hx hb dX5_renew_1 rfl (lv_at hl 1 rfl) ?_
  refine va_put (D := g.1) (ci := 5) (v := .int (iI la2)) hx hb hts kX5_renew_5 tyX5 tyX5_ok nmX5 hown hG.1 hP hD hS 0 rfl rfl 1 (by decide) (hts _ (List.mem_of_getElem? (i := 1) rfl)) (fun _ h9 => h9) rfl (tyX5_ok 1 (by decide)) rfl rfl (Nat.le_of_ble_eq_true rfl) dX5_renew_2 (fun H locs hP hD hS => ?_)
  have hP : va_P g.1 vwCl [(y, .inr (5, [.int (iI ln), .int (iI la2), .ref yi])), (yi, aI (g.2.1 0) 40 it)] H := hP
  have hD : va_D A [(y, .inr (5, [.int (iI ln), .int (iI la2), .ref yi])), (yi, aI (g.2.1 0) 40 it)] := hD
  refine lv_aload_n hx hb dX5_renew_5 rfl (lv_at hl 0 rfl) ?_
  refine lv_iload_n hx hb dX5_renew_6 rfl (lv_at hl 2 rfl) ?_
  refine lv_bipush (v := iI (40)) hx hb dX5_renew_7 (by decide) ?_
  refine iv_min hx hb (by rw [hml]; exact hl.1.symm) hown (hts _ (List.mem_of_getElem? (i := 2) rfl)) (hts _ (List.mem_of_getElem? (i := 3) rfl)) (hts _ (List.mem_of_getElem? (i := 4) rfl)) (hts _ (List.mem_of_getElem? (i := 5) rfl)) (Nat.le_of_ble_eq_true rfl) (Nat.le_of_ble_eq_true rfl) (Nat.le_of_ble_eq_true rfl) (Nat.le_of_ble_eq_true rfl) (by omega) dX5_renew_9 ?_
  refine iv_as (n) (by omega) ?_
  refine va_put (D := g.1) (ci := 5) (v := .int (iI n)) hx hb hts kX5_renew_5 tyX5 tyX5_ok nmX5 hown hG.1 hP hD hS 0 rfl rfl 0 (by decide) (hts _ (List.mem_of_getElem? (i := 6) rfl)) (fun _ h9 => h9) rfl (tyX5_ok 0 (by decide)) rfl rfl (Nat.le_of_ble_eq_true rfl) dX5_renew_12 (fun H locs hP hD hS => ?_)
  have hP : va_P g.1 vwCl [(y, .inr (5, [.int (iI n), .int (iI la2), .ref yi])), (yi, aI (g.2.1 0) 40 it)] H := hP
  have hD : va_D A [(y, .inr (5, [.int (iI n), .int (iI la2), .ref yi])), (yi, aI (g.2.1 0) 40 it)] := hD
  refine lv_iconst (v := iI (0)) hx hb dX5_renew_15 rfl ?_
  refine lv_istore_n (lv' := [(3, .int (iI 0)), (0, .ref y), (1, .int (iI la2)), (2, .int (iI n))]) hx hb dX5_renew_16 rfl hl (by decide) rfl (fun ls hl => ?_)
  have hloop17 : ∀ (fuel : Nat) (k : Int) (fx : Nat → Int) (m_ : Nat) (hc : k = (m_ : Int) ∧ m_ ≤ 40) (he : ∀ j, j < m_ → fx j = 0) (hmeas : 40 - m_ < fuel), ∀ (H : Heap) (locs : List Loc) (ls : Array Slot), va_P g.1 vwCl [(y, .inr (5, [.int (iI n), .int (iI la2), .ref yi])), (yi, aI (g.2.1 0) 40 fx)] H → va_D A [(y, .inr (5, [.int (iI n), .int (iI la2), .ref yi])), (yi, aI (g.2.1 0) 40 fx)] → va_S A s.heap H locs → lv_has ls 4 [(3, .int (iI k)), (0, .ref y), (1, .int (iI la2)), (2, .int (iI n))] → W p l e ({ frames := 1, cells := 0, slots := 0, locals := 19 } : Room) s m [.ref y, .int (iI la2), .int (iI n)].toArray below meth c H locs 0 0 (MQ below (CQ g (q_X5_renew g y yi ln la it la2 n) A) [.ref y, .int (iI la2), .int (iI n)].toArray s ({ frames := 1, cells := 0, slots := 0, locals := 19 } : Room).cells ({ frames := 1, cells := 0, slots := 0, locals := 19 } : Room).slots A) (F0 m 17 ls []) := by
    intro fuel
    induction fuel with
    | zero => intro k fx m_ hc he hmeas; exact absurd hmeas (Nat.not_lt_zero _)
    | succ fuel ih17 =>
      intro k fx m_ hc he hmeas H locs ls hP hD hS hl
      refine lv_iload_n hx hb dX5_renew_17 rfl (lv_at hl 0 rfl) ?_
      refine lv_bipush (v := iI (40)) hx hb dX5_renew_18 (by decide) ?_
      refine iv_icmp_ge (tgt := 36) hx hb dX5_renew_20 (by decide) (by omega) (fun hc1 => ?_) (fun hc1 => ?_)
      · exact Ct.vret hx hb hr hlocks (hP.sub [0, 1] rfl) (hD.sub [0, 1] (by decide) rfl) hS ⟨by decide, by decide⟩ dX5_renew_36 ⟨fx, rfl, rfl, (fun j hj => he j (by omega))⟩
      · refine lv_aload_n hx hb dX5_renew_23 rfl (lv_at hl 1 rfl) ?_
        refine va_get (D := g.1) (ci := 5) (v := .ref yi) hx hb hts kX5_renew_5 hown hG.1 hP 0 rfl rfl 2 (by decide) (hts _ (List.mem_of_getElem? (i := 7) rfl)) (fun _ h9 => h9) rfl dX5_renew_24 ?_
        refine lv_iload_n hx hb dX5_renew_27 rfl (lv_at hl 0 rfl) ?_
        refine lv_iconst (v := iI (0)) hx hb dX5_renew_28 rfl ?_
        refine iv_iast hx hb hG hP hD hS 1 rfl m_ (by omega) (by omega) (by decide) dX5_renew_29 (fun H locs hP hD hS => ?_)
        have hP : va_P g.1 vwCl [(y, .inr (5, [.int (iI n), .int (iI la2), .ref yi])), (yi, aI (g.2.1 0) 40 (va_up fx m_ 0))] H := hP
        have hD : va_D A [(y, .inr (5, [.int (iI n), .int (iI la2), .ref yi])), (yi, aI (g.2.1 0) 40 (va_up fx m_ 0))] := hD
        refine iv_iinc (k := 0) (x := k) (lv' := [(3, .int (iI (k + 1))), (0, .ref y), (1, .int (iI la2)), (2, .int (iI n))]) hx hb dX5_renew_30 hl rfl (by decide) rfl (fun ls hl => ?_)
        refine lv_goto (tgt := 17) hx hb dX5_renew_33 (by decide) ?_
        exact ih17 (k + 1) (va_up fx m_ 0) (m_ + 1) (by omega) (up_le (h := fun _ => 0) rfl he) (by omega) H locs ls (hP.sub [0, 1] rfl) (hD.sub [0, 1] (by decide) rfl) hS (lv_sub hl [0, 1, 2, 3] rfl)
  exact hloop17 _ 0 it 0 (by omega) (fun j hj => absurd hj (Nat.not_lt_zero j)) (Nat.lt_succ_self _) H locs ls (hP.sub [0, 1] rfl) (hD.sub [0, 1] (by decide) rfl) hS (lv_sub hl [0, 1, 2, 3] rfl)
theorem kX5_holds_5 : ∀ w ∈ u_ws RX5 TX5 3, w ∈ wsX5_holds := fun _ h => List.mem_cons_of_mem _ (List.mem_append_right _ h)
abbrev q_X5_holds (g : GT) (y : Nat) (yi : Nat) (ln : Int) (la : Int) (it : Nat → Int) (x : Int) (n : Int) : Option Value → va_W → Prop := fun v w => (v = some (.int (iI 1)) ∧ (HoldP ln x n) ∨ v = some (.int (iI 0)) ∧ ¬ (HoldP ln x n)) ∧ w = [(y, .inr (5, [.int (iI ln), .int (iI la), .ref yi])), (yi, aI (g.2.1 0) 40 it)]
set_option maxHeartbeats 4000000 in
set_option maxRecDepth 100000 in
theorem c_X5_holds (l : Launch) (g : GT) (y : Nat) (yi : Nat) (ln : Int) (la : Int) (it : Nat → Int) (x : Int) (n : Int) (h1 : -1 ≤ ln ∧ ln ≤ 40 ∧ (-2147483648 ≤ x ∧ x < 2147483648) ∧ (-2147483648 ≤ n ∧ n < 2147483648)) : Ct l g yX5_holds wsX5_holds ({ frames := 0, cells := 0, slots := 0, locals := 0 } : Room) [.ref y, .int (iI x), .int (iI n)] [(y, .inr (5, [.int (iI ln), .int (iI la), .ref yi])), (yi, aI (g.2.1 0) 40 it)] (q_X5_holds g y yi ln la it x n) := by
  refine Ct.intro (maxL := 3) (ret := (some .boolean)) (by decide) rfl (Nat.le_of_ble_eq_true rfl) ?_
  intro p e s m below meth c A ls hx hb hr hml hown hts hlocks hnm hA hG hP hD hS hl
  have hown : s.vm.findClass RX5 = some m.cls := hown
  have hl : lv_has ls 3 [(0, .ref y), (1, .int (iI x)), (2, .int (iI n))] := hl
  have hP : va_P g.1 vwCl [(y, .inr (5, [.int (iI ln), .int (iI la), .ref yi])), (yi, aI (g.2.1 0) 40 it)] s.heap := hP
  have hS : va_S A s.heap s.heap [] := hS
  obtain ⟨H, hHe⟩ : ∃ H : Heap, H = s.heap := ⟨_, rfl⟩
  obtain ⟨locs, hLe⟩ : ∃ L : List Loc, L = [] := ⟨_, rfl⟩
  have hP : va_P g.1 vwCl [(y, .inr (5, [.int (iI ln), .int (iI la), .ref yi])), (yi, aI (g.2.1 0) 40 it)] H := by rw [hHe]; exact hP
  have hS : va_S A s.heap H locs := by rw [hHe, hLe]; exact hS
  suffices hgo : W p l e ({ frames := 0, cells := 0, slots := 0, locals := 0 } : Room) s m [.ref y, .int (iI x), .int (iI n)].toArray below meth c H locs 0 0 (MQ below (CQ g (q_X5_holds g y yi ln la it x n) A) [.ref y, .int (iI x), .int (iI n)].toArray s ({ frames := 0, cells := 0, slots := 0, locals := 0 } : Room).cells ({ frames := 0, cells := 0, slots := 0, locals := 0 } : Room).slots A) (F0 m 0 ls []) by rw [hHe, hLe] at hgo; exact hgo
  clear hHe hLe
  refine lv_iload_n hx hb dX5_holds_0 rfl (lv_at hl 1 rfl) ?_
  refine iv_if_lt (tgt := 22) hx hb dX5_holds_1 (by decide) (by omega) (fun hc1 => ?_) (fun hc1 => ?_)
  · refine lv_iconst (v := iI (0)) hx hb dX5_holds_22 rfl ?_
    exact Ct.zret hx hb hr hlocks (hP.sub [0, 1] rfl) (hD.sub [0, 1] (by decide) rfl) hS ⟨by decide, by decide⟩ dX5_holds_23 (by decide) ⟨Or.inr ⟨rfl, by omega⟩, rfl⟩
  · refine lv_iload_n hx hb dX5_holds_4 rfl (lv_at hl 2 rfl) ?_
    refine iv_if_lt (tgt := 22) hx hb dX5_holds_5 (by decide) (by omega) (fun hc2 => ?_) (fun hc2 => ?_)
    · refine lv_iconst (v := iI (0)) hx hb dX5_holds_22 rfl ?_
      exact Ct.zret hx hb hr hlocks (hP.sub [0, 1] rfl) (hD.sub [0, 1] (by decide) rfl) hS ⟨by decide, by decide⟩ dX5_holds_23 (by decide) ⟨Or.inr ⟨rfl, by omega⟩, rfl⟩
    · refine lv_iload_n hx hb dX5_holds_8 rfl (lv_at hl 2 rfl) ?_
      refine lv_aload_n hx hb dX5_holds_9 rfl (lv_at hl 0 rfl) ?_
      refine va_get (D := g.1) (ci := 5) (v := .int (iI ln)) hx hb hts kX5_holds_5 hown hG.1 hP 0 rfl rfl 0 (by decide) (hts _ (List.mem_of_getElem? (i := 1) rfl)) (fun _ h9 => h9) rfl dX5_holds_10 ?_
      refine lv_iload_n hx hb dX5_holds_13 rfl (lv_at hl 1 rfl) ?_
      refine iv_isub hx hb dX5_holds_14 ?_
      refine iv_icmp_gt (tgt := 22) hx hb dX5_holds_15 (by decide) (by omega) (fun hc3 => ?_) (fun hc3 => ?_)
      · refine lv_iconst (v := iI (0)) hx hb dX5_holds_22 rfl ?_
        exact Ct.zret hx hb hr hlocks (hP.sub [0, 1] rfl) (hD.sub [0, 1] (by decide) rfl) hS ⟨by decide, by decide⟩ dX5_holds_23 (by decide) ⟨Or.inr ⟨rfl, by omega⟩, rfl⟩
      · refine lv_iconst (v := iI (1)) hx hb dX5_holds_18 rfl ?_
        refine lv_goto (tgt := 23) hx hb dX5_holds_19 (by decide) ?_
        exact Ct.zret hx hb hr hlocks (hP.sub [0, 1] rfl) (hD.sub [0, 1] (by decide) rfl) hS ⟨by decide, by decide⟩ dX5_holds_23 (by decide) ⟨Or.inl ⟨rfl, by omega⟩, rfl⟩
theorem kX5_refusal_5 : ∀ w ∈ u_ws RX5 TX5 3, w ∈ wsX5_refusal := fun _ h => List.mem_cons_of_mem _ (List.mem_append_right _ h)
abbrev q_X5_refusal (g : GT) (y : Nat) (yi : Nat) (ln : Int) (la : Int) (it : Nat → Int) (lane : Int) (x : Int) (n : Int) : Option Value → va_W → Prop := fun v w => ∃ (r : Int), v = some (.int (iI r)) ∧ w = [(y, .inr (5, [.int (iI ln), .int (iI la), .ref yi])), (yi, aI (g.2.1 0) 40 it)] ∧ (r = refS ln la lane x n)
set_option maxHeartbeats 4000000 in
set_option maxRecDepth 100000 in
theorem c_X5_refusal (l : Launch) (g : GT) (y : Nat) (yi : Nat) (ln : Int) (la : Int) (it : Nat → Int) (lane : Int) (x : Int) (n : Int) (h1 : -1 ≤ ln ∧ ln ≤ 40 ∧ 0 ≤ la ∧ la ≤ 2 ∧ (-2147483648 ≤ lane ∧ lane < 2147483648) ∧ (-2147483648 ≤ x ∧ x < 2147483648) ∧ (-2147483648 ≤ n ∧ n < 2147483648)) : Ct l g yX5_refusal wsX5_refusal ({ frames := 1, cells := 0, slots := 0, locals := 22 } : Room) [.ref y, .int (iI lane), .int (iI x), .int (iI n)] [(y, .inr (5, [.int (iI ln), .int (iI la), .ref yi])), (yi, aI (g.2.1 0) 40 it)] (q_X5_refusal g y yi ln la it lane x n) := by
  refine Ct.intro (maxL := 4) (ret := (some .int)) (by decide) rfl (Nat.le_of_ble_eq_true rfl) ?_
  intro p e s m below meth c A ls hx hb hr hml hown hts hlocks hnm hA hG hP hD hS hl
  have hown : s.vm.findClass RX5 = some m.cls := hown
  have hl : lv_has ls 4 [(0, .ref y), (1, .int (iI lane)), (2, .int (iI x)), (3, .int (iI n))] := hl
  have hP : va_P g.1 vwCl [(y, .inr (5, [.int (iI ln), .int (iI la), .ref yi])), (yi, aI (g.2.1 0) 40 it)] s.heap := hP
  have hS : va_S A s.heap s.heap [] := hS
  obtain ⟨H, hHe⟩ : ∃ H : Heap, H = s.heap := ⟨_, rfl⟩
  obtain ⟨locs, hLe⟩ : ∃ L : List Loc, L = [] := ⟨_, rfl⟩
  have hP : va_P g.1 vwCl [(y, .inr (5, [.int (iI ln), .int (iI la), .ref yi])), (yi, aI (g.2.1 0) 40 it)] H := by rw [hHe]; exact hP
  have hS : va_S A s.heap H locs := by rw [hHe, hLe]; exact hS
  suffices hgo : W p l e ({ frames := 1, cells := 0, slots := 0, locals := 22 } : Room) s m [.ref y, .int (iI lane), .int (iI x), .int (iI n)].toArray below meth c H locs 0 0 (MQ below (CQ g (q_X5_refusal g y yi ln la it lane x n) A) [.ref y, .int (iI lane), .int (iI x), .int (iI n)].toArray s ({ frames := 1, cells := 0, slots := 0, locals := 22 } : Room).cells ({ frames := 1, cells := 0, slots := 0, locals := 22 } : Room).slots A) (F0 m 0 ls []) by rw [hHe, hLe] at hgo; exact hgo
  clear hHe hLe
  refine lv_aload_n hx hb dX5_refusal_0 rfl (lv_at hl 0 rfl) ?_
  refine Ct.callV (ci := 5) (q0 := 0) (qc := (RX5, TX5, 3)) (As := []) (rest := []) (wr := []) (c1 := 0) (s1 := 0) ⟨hx, hb, hml, hown, hts⟩ (c_X5_isMissing l g y yi ln la it (by omega)) rfl rfl (cwV 0 hts gX5_refusal_X5_isMissing rfl rfl rfl (by decide +kernel) ⟨Nat.le_of_ble_eq_true rfl, Nat.le_of_ble_eq_true rfl⟩) hG hP hD hS hA [0, 1] [] rfl rfl (by decide) (by decide) (by decide) rfl hl.1 rfl (Nat.le_of_ble_eq_true rfl) dX5_refusal_1 ⟨Nat.le_of_ble_eq_true rfl, Nat.le_of_ble_eq_true rfl⟩ rfl rfl (fun v w H locs hv hP hD hS => ?_)
  obtain ⟨⟨rfl, hb1⟩ | ⟨rfl, hb1⟩, rfl⟩ := hv
  · show W p l e _ s m _ below meth c H locs 0 0 _ (F0 m 4 ls (.int (iI 1) :: []))
    have hb1 : ln < 0 := hb1
    have hP : va_P g.1 vwCl [(y, .inr (5, [.int (iI ln), .int (iI la), .ref yi])), (yi, aI (g.2.1 0) 40 it)] H := hP
    have hD : va_D A [(y, .inr (5, [.int (iI ln), .int (iI la), .ref yi])), (yi, aI (g.2.1 0) 40 it)] := hD
    refine iv_if_eq (tgt := 10) hx hb dX5_refusal_4 (by decide) (by decide) (fun h => absurd h (by decide)) (fun _ => ?_)
    refine lv_bipush (v := iI (-11)) hx hb dX5_refusal_7 (by decide) ?_
    exact Ct.iret hx hb hr hlocks (hP.sub [0, 1] rfl) (hD.sub [0, 1] (by decide) rfl) hS ⟨by decide, by decide⟩ dX5_refusal_9 ⟨(-11), rfl, rfl, (by unfold refS; (repeat' split) <;> first | rfl | omega | (exfalso; omega))⟩
  · show W p l e _ s m _ below meth c H locs 0 0 _ (F0 m 4 ls (.int (iI 0) :: []))
    have hb1 : ¬ (ln < 0) := hb1
    have hP : va_P g.1 vwCl [(y, .inr (5, [.int (iI ln), .int (iI la), .ref yi])), (yi, aI (g.2.1 0) 40 it)] H := hP
    have hD : va_D A [(y, .inr (5, [.int (iI ln), .int (iI la), .ref yi])), (yi, aI (g.2.1 0) 40 it)] := hD
    refine iv_if_eq (tgt := 10) hx hb dX5_refusal_4 (by decide) (by decide) (fun _ => ?_) (fun h => absurd h (by decide))
    refine lv_aload_n hx hb dX5_refusal_10 rfl (lv_at hl 0 rfl) ?_
    refine va_get (D := g.1) (ci := 5) (v := .int (iI la)) hx hb hts kX5_refusal_5 hown hG.1 hP 0 rfl rfl 1 (by decide) (hts _ (List.mem_of_getElem? (i := 1) rfl)) (fun _ h9 => h9) rfl dX5_refusal_11 ?_
    refine lv_iload_n hx hb dX5_refusal_14 rfl (lv_at hl 1 rfl) ?_
    refine iv_icmp_eq (tgt := 21) hx hb dX5_refusal_15 (by decide) (by omega) (fun hc4 => ?_) (fun hc4 => ?_)
    · refine lv_aload_n hx hb dX5_refusal_21 rfl (lv_at hl 0 rfl) ?_
      refine lv_iload_n hx hb dX5_refusal_22 rfl (lv_at hl 2 rfl) ?_
      refine lv_iload_n hx hb dX5_refusal_23 rfl (lv_at hl 3 rfl) ?_
      refine Ct.callV (ci := 5) (q0 := 0) (qc := (RX5, TX5, 3)) (As := [.int (iI x), .int (iI n)]) (rest := []) (wr := []) (c1 := 0) (s1 := 0) ⟨hx, hb, hml, hown, hts⟩ (c_X5_holds l g y yi ln la it x n (by omega)) rfl rfl (cwV 2 hts gX5_refusal_X5_holds rfl rfl rfl (by decide +kernel) ⟨Nat.le_of_ble_eq_true rfl, Nat.le_of_ble_eq_true rfl⟩) hG hP hD hS hA [0, 1] [] rfl rfl (by decide) (by decide) (by decide) rfl hl.1 rfl (Nat.le_of_ble_eq_true rfl) dX5_refusal_24 ⟨Nat.le_of_ble_eq_true rfl, Nat.le_of_ble_eq_true rfl⟩ rfl rfl (fun v w H locs hv hP hD hS => ?_)
      obtain ⟨⟨rfl, hb5⟩ | ⟨rfl, hb5⟩, rfl⟩ := hv
      · show W p l e _ s m _ below meth c H locs 0 0 _ (F0 m 27 ls (.int (iI 1) :: []))
        have hb5 : HoldP ln x n := hb5
        have hP : va_P g.1 vwCl [(y, .inr (5, [.int (iI ln), .int (iI la), .ref yi])), (yi, aI (g.2.1 0) 40 it)] H := hP
        have hD : va_D A [(y, .inr (5, [.int (iI ln), .int (iI la), .ref yi])), (yi, aI (g.2.1 0) 40 it)] := hD
        refine iv_if_eq (tgt := 34) hx hb dX5_refusal_27 (by decide) (by decide) (fun h => absurd h (by decide)) (fun _ => ?_)
        refine lv_iconst (v := iI (0)) hx hb dX5_refusal_30 rfl ?_
        refine lv_goto (tgt := 36) hx hb dX5_refusal_31 (by decide) ?_
        exact Ct.iret hx hb hr hlocks (hP.sub [0, 1] rfl) (hD.sub [0, 1] (by decide) rfl) hS ⟨by decide, by decide⟩ dX5_refusal_36 ⟨0, rfl, rfl, (by unfold refS; (repeat' split) <;> first | rfl | omega | (exfalso; omega))⟩
      · show W p l e _ s m _ below meth c H locs 0 0 _ (F0 m 27 ls (.int (iI 0) :: []))
        have hb5 : ¬ (HoldP ln x n) := hb5
        have hP : va_P g.1 vwCl [(y, .inr (5, [.int (iI ln), .int (iI la), .ref yi])), (yi, aI (g.2.1 0) 40 it)] H := hP
        have hD : va_D A [(y, .inr (5, [.int (iI ln), .int (iI la), .ref yi])), (yi, aI (g.2.1 0) 40 it)] := hD
        refine iv_if_eq (tgt := 34) hx hb dX5_refusal_27 (by decide) (by decide) (fun _ => ?_) (fun h => absurd h (by decide))
        refine lv_bipush (v := iI (-13)) hx hb dX5_refusal_34 (by decide) ?_
        exact Ct.iret hx hb hr hlocks (hP.sub [0, 1] rfl) (hD.sub [0, 1] (by decide) rfl) hS ⟨by decide, by decide⟩ dX5_refusal_36 ⟨(-13), rfl, rfl, (by unfold refS; (repeat' split) <;> first | rfl | omega | (exfalso; omega))⟩
    · refine lv_bipush (v := iI (-12)) hx hb dX5_refusal_18 (by decide) ?_
      exact Ct.iret hx hb hr hlocks (hP.sub [0, 1] rfl) (hD.sub [0, 1] (by decide) rfl) hS ⟨by decide, by decide⟩ dX5_refusal_20 ⟨(-12), rfl, rfl, (by unfold refS; (repeat' split) <;> first | rfl | omega | (exfalso; omega))⟩
theorem kX5_at_5 : ∀ w ∈ u_ws RX5 TX5 3, w ∈ wsX5_at := fun _ h => List.mem_cons_of_mem _ (List.mem_append_right _ h)
abbrev q_X5_at (g : GT) (y : Nat) (yi : Nat) (ln : Int) (la : Int) (it : Nat → Int) (x : Int) : Option Value → va_W → Prop := fun v w => v = some (.int (iI (it x.toNat))) ∧ w = [(y, .inr (5, [.int (iI ln), .int (iI la), .ref yi])), (yi, aI (g.2.1 0) 40 it)]
set_option maxHeartbeats 4000000 in
set_option maxRecDepth 100000 in
theorem c_X5_at (l : Launch) (g : GT) (y : Nat) (yi : Nat) (ln : Int) (la : Int) (it : Nat → Int) (x : Int) (h1 : -1 ≤ ln ∧ ln ≤ 40 ∧ 0 ≤ x ∧ x < ln) : Ct l g yX5_at wsX5_at ({ frames := 0, cells := 0, slots := 0, locals := 0 } : Room) [.ref y, .int (iI x)] [(y, .inr (5, [.int (iI ln), .int (iI la), .ref yi])), (yi, aI (g.2.1 0) 40 it)] (q_X5_at g y yi ln la it x) := by
  refine Ct.intro (maxL := 2) (ret := (some .int)) (by decide) rfl (Nat.le_of_ble_eq_true rfl) ?_
  intro p e s m below meth c A ls hx hb hr hml hown hts hlocks hnm hA hG hP hD hS hl
  have hown : s.vm.findClass RX5 = some m.cls := hown
  have hl : lv_has ls 2 [(0, .ref y), (1, .int (iI x))] := hl
  have hP : va_P g.1 vwCl [(y, .inr (5, [.int (iI ln), .int (iI la), .ref yi])), (yi, aI (g.2.1 0) 40 it)] s.heap := hP
  have hS : va_S A s.heap s.heap [] := hS
  obtain ⟨H, hHe⟩ : ∃ H : Heap, H = s.heap := ⟨_, rfl⟩
  obtain ⟨locs, hLe⟩ : ∃ L : List Loc, L = [] := ⟨_, rfl⟩
  have hP : va_P g.1 vwCl [(y, .inr (5, [.int (iI ln), .int (iI la), .ref yi])), (yi, aI (g.2.1 0) 40 it)] H := by rw [hHe]; exact hP
  have hS : va_S A s.heap H locs := by rw [hHe, hLe]; exact hS
  suffices hgo : W p l e ({ frames := 0, cells := 0, slots := 0, locals := 0 } : Room) s m [.ref y, .int (iI x)].toArray below meth c H locs 0 0 (MQ below (CQ g (q_X5_at g y yi ln la it x) A) [.ref y, .int (iI x)].toArray s ({ frames := 0, cells := 0, slots := 0, locals := 0 } : Room).cells ({ frames := 0, cells := 0, slots := 0, locals := 0 } : Room).slots A) (F0 m 0 ls []) by rw [hHe, hLe] at hgo; exact hgo
  clear hHe hLe
  refine lv_iload_n hx hb dX5_at_0 rfl (lv_at hl 1 rfl) ?_
  refine iv_if_lt (tgt := 21) hx hb dX5_at_1 (by decide) (by omega) (fun hc1 => absurd hc1 (by omega)) (fun hc1 => ?_)
  refine lv_iload_n hx hb dX5_at_4 rfl (lv_at hl 1 rfl) ?_
  refine lv_aload_n hx hb dX5_at_5 rfl (lv_at hl 0 rfl) ?_
  refine va_get (D := g.1) (ci := 5) (v := .int (iI ln)) hx hb hts kX5_at_5 hown hG.1 hP 0 rfl rfl 0 (by decide) (hts _ (List.mem_of_getElem? (i := 1) rfl)) (fun _ h9 => h9) rfl dX5_at_6 ?_
  refine iv_icmp_ge (tgt := 21) hx hb dX5_at_9 (by decide) (by omega) (fun hc2 => absurd hc2 (by omega)) (fun hc2 => ?_)
  refine lv_aload_n hx hb dX5_at_12 rfl (lv_at hl 0 rfl) ?_
  refine va_get (D := g.1) (ci := 5) (v := .ref yi) hx hb hts kX5_at_5 hown hG.1 hP 0 rfl rfl 2 (by decide) (hts _ (List.mem_of_getElem? (i := 2) rfl)) (fun _ h9 => h9) rfl dX5_at_13 ?_
  refine lv_iload_n hx hb dX5_at_16 rfl (lv_at hl 1 rfl) ?_
  refine iv_iald hx hb hG hP 1 rfl x.toNat (by omega) (by omega) (by decide) dX5_at_17 ?_
  refine lv_goto (tgt := 22) hx hb dX5_at_18 (by decide) ?_
  exact Ct.iret hx hb hr hlocks (hP.sub [0, 1] rfl) (hD.sub [0, 1] (by decide) rfl) hS ⟨by decide, by decide⟩ dX5_at_22 ⟨rfl, rfl⟩
theorem kX5_cut_5 : ∀ w ∈ u_ws RX5 TX5 3, w ∈ wsX5_cut := fun _ h => List.mem_cons_of_mem _ (List.mem_append_right _ h)
abbrev q_X5_cut (g : GT) (y : Nat) (yi : Nat) (ln : Int) (la : Int) (it : Nat → Int) (v_ : Int) : Option Value → va_W → Prop := fun v w => ∃ (r : Int), v = some (.int (iI r)) ∧ w = [(y, .inr (5, [.int (iI ln), .int (iI la), .ref yi])), (yi, aI (g.2.1 0) 40 it)] ∧ (r = cutS la v_)
set_option maxHeartbeats 4000000 in
set_option maxRecDepth 100000 in
theorem c_X5_cut (l : Launch) (g : GT) (y : Nat) (yi : Nat) (ln : Int) (la : Int) (it : Nat → Int) (v_ : Int) (h1 : 0 ≤ la ∧ la ≤ 2) : Ct l g yX5_cut wsX5_cut ({ frames := 0, cells := 0, slots := 0, locals := 0 } : Room) [.ref y, .int (iI v_)] [(y, .inr (5, [.int (iI ln), .int (iI la), .ref yi])), (yi, aI (g.2.1 0) 40 it)] (q_X5_cut g y yi ln la it v_) := by
  refine Ct.intro (maxL := 2) (ret := (some .int)) (by decide) rfl (Nat.le_of_ble_eq_true rfl) ?_
  intro p e s m below meth c A ls hx hb hr hml hown hts hlocks hnm hA hG hP hD hS hl
  have hown : s.vm.findClass RX5 = some m.cls := hown
  have hl : lv_has ls 2 [(0, .ref y), (1, .int (iI v_))] := hl
  have hP : va_P g.1 vwCl [(y, .inr (5, [.int (iI ln), .int (iI la), .ref yi])), (yi, aI (g.2.1 0) 40 it)] s.heap := hP
  have hS : va_S A s.heap s.heap [] := hS
  obtain ⟨H, hHe⟩ : ∃ H : Heap, H = s.heap := ⟨_, rfl⟩
  obtain ⟨locs, hLe⟩ : ∃ L : List Loc, L = [] := ⟨_, rfl⟩
  have hP : va_P g.1 vwCl [(y, .inr (5, [.int (iI ln), .int (iI la), .ref yi])), (yi, aI (g.2.1 0) 40 it)] H := by rw [hHe]; exact hP
  have hS : va_S A s.heap H locs := by rw [hHe, hLe]; exact hS
  suffices hgo : W p l e ({ frames := 0, cells := 0, slots := 0, locals := 0 } : Room) s m [.ref y, .int (iI v_)].toArray below meth c H locs 0 0 (MQ below (CQ g (q_X5_cut g y yi ln la it v_) A) [.ref y, .int (iI v_)].toArray s ({ frames := 0, cells := 0, slots := 0, locals := 0 } : Room).cells ({ frames := 0, cells := 0, slots := 0, locals := 0 } : Room).slots A) (F0 m 0 ls []) by rw [hHe, hLe] at hgo; exact hgo
  clear hHe hLe
  refine lv_aload_n hx hb dX5_cut_0 rfl (lv_at hl 0 rfl) ?_
  refine va_get (D := g.1) (ci := 5) (v := .int (iI la)) hx hb hts kX5_cut_5 hown hG.1 hP 0 rfl rfl 1 (by decide) (hts _ (List.mem_of_getElem? (i := 1) rfl)) (fun _ h9 => h9) rfl dX5_cut_1 ?_
  rcases (show la = 0 ∨ la = 1 ∨ (¬ la = 0 ∧ ¬ la = 1) from by omega) with hc1 | hc1 | hc1
  · refine iv_as (0) hc1 ?_
    refine lv_lookup (off := 28) (tgt := 32) hx hb dX5_cut_4 (by decide) (by decide) (by decide) ?_
    refine lv_iload_n hx hb dX5_cut_32 rfl (lv_at hl 1 rfl) ?_
    refine lv_i2b (v := iI (byteI v_)) hx hb dX5_cut_33 (byteI_eq v_) ?_
    exact Ct.iret hx hb hr hlocks (hP.sub [0, 1] rfl) (hD.sub [0, 1] (by decide) rfl) hS ⟨by decide, by decide⟩ dX5_cut_34 ⟨(byteI v_), rfl, rfl, (by unfold cutS; rw [if_pos (by omega)])⟩
  · refine iv_as (1) hc1 ?_
    refine lv_lookup (off := 31) (tgt := 35) hx hb dX5_cut_4 (by decide) (by decide) (by decide) ?_
    refine lv_iload_n hx hb dX5_cut_35 rfl (lv_at hl 1 rfl) ?_
    refine lv_i2s (v := iI (shortI v_)) hx hb dX5_cut_36 (shortI_eq v_) ?_
    exact Ct.iret hx hb hr hlocks (hP.sub [0, 1] rfl) (hD.sub [0, 1] (by decide) rfl) hS ⟨by decide, by decide⟩ dX5_cut_37 ⟨(shortI v_), rfl, rfl, (by unfold cutS; rw [if_neg (by omega), if_pos (by omega)])⟩
  · refine lv_lookup (off := 34) (tgt := 38) hx hb dX5_cut_4 (by decide) (by rw [iI_toInt (by omega)]; show (if (0 : Int) = la then (28 : Int) else (if (1 : Int) = la then (31 : Int) else (34 : Int))) = 34; rw [if_neg (by omega), if_neg (by omega)]) (by decide) ?_
    refine lv_iload_n hx hb dX5_cut_38 rfl (lv_at hl 1 rfl) ?_
    exact Ct.iret hx hb hr hlocks (hP.sub [0, 1] rfl) (hD.sub [0, 1] (by decide) rfl) hS ⟨by decide, by decide⟩ dX5_cut_39 ⟨v_, rfl, rfl, (by unfold cutS; rw [if_neg (by omega), if_neg (by omega)])⟩
theorem kX5_write_5 : ∀ w ∈ u_ws RX5 TX5 3, w ∈ wsX5_write := fun _ h => List.mem_cons_of_mem _ (List.mem_append_right _ h)
abbrev q_X5_write (g : GT) (y : Nat) (yi : Nat) (ln : Int) (la : Int) (it : Nat → Int) (x : Int) (v_ : Int) : Option Value → va_W → Prop := fun v w => ∃ (it' : Nat → Int), v = none ∧ w = [(y, .inr (5, [.int (iI ln), .int (iI la), .ref yi])), (yi, aI (g.2.1 0) 40 it')] ∧ (it' = va_up it x.toNat (cutS la v_))
set_option maxHeartbeats 4000000 in
set_option maxRecDepth 100000 in
theorem c_X5_write (l : Launch) (g : GT) (y : Nat) (yi : Nat) (ln : Int) (la : Int) (it : Nat → Int) (x : Int) (v_ : Int) (h1 : -1 ≤ ln ∧ ln ≤ 40 ∧ 0 ≤ la ∧ la ≤ 2 ∧ 0 ≤ x ∧ x < ln) : Ct l g yX5_write wsX5_write ({ frames := 1, cells := 0, slots := 0, locals := 21 } : Room) [.ref y, .int (iI x), .int (iI v_)] [(y, .inr (5, [.int (iI ln), .int (iI la), .ref yi])), (yi, aI (g.2.1 0) 40 it)] (q_X5_write g y yi ln la it x v_) := by
  refine Ct.intro (maxL := 3) (ret := none) (by decide) rfl (Nat.le_of_ble_eq_true rfl) ?_
  intro p e s m below meth c A ls hx hb hr hml hown hts hlocks hnm hA hG hP hD hS hl
  have hown : s.vm.findClass RX5 = some m.cls := hown
  have hl : lv_has ls 3 [(0, .ref y), (1, .int (iI x)), (2, .int (iI v_))] := hl
  have hP : va_P g.1 vwCl [(y, .inr (5, [.int (iI ln), .int (iI la), .ref yi])), (yi, aI (g.2.1 0) 40 it)] s.heap := hP
  have hS : va_S A s.heap s.heap [] := hS
  obtain ⟨H, hHe⟩ : ∃ H : Heap, H = s.heap := ⟨_, rfl⟩
  obtain ⟨locs, hLe⟩ : ∃ L : List Loc, L = [] := ⟨_, rfl⟩
  have hP : va_P g.1 vwCl [(y, .inr (5, [.int (iI ln), .int (iI la), .ref yi])), (yi, aI (g.2.1 0) 40 it)] H := by rw [hHe]; exact hP
  have hS : va_S A s.heap H locs := by rw [hHe, hLe]; exact hS
  suffices hgo : W p l e ({ frames := 1, cells := 0, slots := 0, locals := 21 } : Room) s m [.ref y, .int (iI x), .int (iI v_)].toArray below meth c H locs 0 0 (MQ below (CQ g (q_X5_write g y yi ln la it x v_) A) [.ref y, .int (iI x), .int (iI v_)].toArray s ({ frames := 1, cells := 0, slots := 0, locals := 21 } : Room).cells ({ frames := 1, cells := 0, slots := 0, locals := 21 } : Room).slots A) (F0 m 0 ls []) by rw [hHe, hLe] at hgo; exact hgo
  clear hHe hLe
  refine lv_iload_n hx hb dX5_write_0 rfl (lv_at hl 1 rfl) ?_
  refine iv_if_lt (tgt := 23) hx hb dX5_write_1 (by decide) (by omega) (fun hc1 => absurd hc1 (by omega)) (fun hc1 => ?_)
  refine lv_iload_n hx hb dX5_write_4 rfl (lv_at hl 1 rfl) ?_
  refine lv_aload_n hx hb dX5_write_5 rfl (lv_at hl 0 rfl) ?_
  refine va_get (D := g.1) (ci := 5) (v := .int (iI ln)) hx hb hts kX5_write_5 hown hG.1 hP 0 rfl rfl 0 (by decide) (hts _ (List.mem_of_getElem? (i := 1) rfl)) (fun _ h9 => h9) rfl dX5_write_6 ?_
  refine iv_icmp_ge (tgt := 23) hx hb dX5_write_9 (by decide) (by omega) (fun hc2 => absurd hc2 (by omega)) (fun hc2 => ?_)
  refine lv_aload_n hx hb dX5_write_12 rfl (lv_at hl 0 rfl) ?_
  refine va_get (D := g.1) (ci := 5) (v := .ref yi) hx hb hts kX5_write_5 hown hG.1 hP 0 rfl rfl 2 (by decide) (hts _ (List.mem_of_getElem? (i := 2) rfl)) (fun _ h9 => h9) rfl dX5_write_13 ?_
  refine lv_iload_n hx hb dX5_write_16 rfl (lv_at hl 1 rfl) ?_
  refine lv_aload_n hx hb dX5_write_17 rfl (lv_at hl 0 rfl) ?_
  refine lv_iload_n hx hb dX5_write_18 rfl (lv_at hl 2 rfl) ?_
  refine Ct.callV (ci := 5) (q0 := 0) (qc := (RX5, TX5, 3)) (As := [.int (iI v_)]) (rest := [.int (iI x), .ref yi]) (wr := []) (c1 := 0) (s1 := 0) ⟨hx, hb, hml, hown, hts⟩ (c_X5_cut l g y yi ln la it v_ (by omega)) rfl rfl (cwV 1 hts gX5_write_X5_cut rfl rfl rfl (by decide +kernel) ⟨Nat.le_of_ble_eq_true rfl, Nat.le_of_ble_eq_true rfl⟩) hG hP hD hS hA [0, 1] [] rfl rfl (by decide) (by decide) (by decide) rfl hl.1 rfl (Nat.le_of_ble_eq_true rfl) dX5_write_19 ⟨Nat.le_of_ble_eq_true rfl, Nat.le_of_ble_eq_true rfl⟩ rfl rfl (fun v w H locs hv hP hD hS => ?_)
  obtain ⟨r3, rfl, rfl, hf4⟩ := hv
  show W p l e _ s m _ below meth c H locs 0 0 _ (F0 m 22 ls (.int (iI r3) :: [.int (iI x), .ref yi]))
  have hP : va_P g.1 vwCl [(y, .inr (5, [.int (iI ln), .int (iI la), .ref yi])), (yi, aI (g.2.1 0) 40 it)] H := hP
  have hD : va_D A [(y, .inr (5, [.int (iI ln), .int (iI la), .ref yi])), (yi, aI (g.2.1 0) 40 it)] := hD
  have hf4 : r3 = cutS la v_ := hf4
  refine iv_iast hx hb hG hP hD hS 1 rfl x.toNat (by omega) (by omega) (by decide) dX5_write_22 (fun H locs hP hD hS => ?_)
  have hP : va_P g.1 vwCl [(y, .inr (5, [.int (iI ln), .int (iI la), .ref yi])), (yi, aI (g.2.1 0) 40 (va_up it x.toNat r3))] H := hP
  have hD : va_D A [(y, .inr (5, [.int (iI ln), .int (iI la), .ref yi])), (yi, aI (g.2.1 0) 40 (va_up it x.toNat r3))] := hD
  exact Ct.vret hx hb hr hlocks (hP.sub [0, 1] rfl) (hD.sub [0, 1] (by decide) rfl) hS ⟨by decide, by decide⟩ dX5_write_23 ⟨(va_up it x.toNat r3), rfl, rfl, (by simp only [*])⟩
theorem kX8_sheetAt_8 : ∀ w ∈ u_ws RX8 TX8 13, w ∈ wsX8_sheetAt := fun _ h => List.mem_cons_of_mem _ (List.mem_append_right _ h)
abbrev q_X8_sheetAt (g : GT) (hd : Nat) (d : Nat → Nat) (i : Nat → Int) (fsh : Nat → Option Nat) (x : Int) (k : Nat) (y : Nat) : Option Value → va_W → Prop := fun v w => v = some (.ref y) ∧ w = [(hd, .inr (8, dF d i)), ((d 12), aQ (g.2.1 4) 4 fsh)]
set_option maxHeartbeats 4000000 in
set_option maxRecDepth 100000 in
theorem c_X8_sheetAt (l : Launch) (g : GT) (hd : Nat) (d : Nat → Nat) (i : Nat → Int) (fsh : Nat → Option Nat) (x : Int) (k : Nat) (y : Nat) (h1 : x = (k : Int) ∧ k < 4) (h2 : fsh k = some y) : Ct l g yX8_sheetAt wsX8_sheetAt ({ frames := 1, cells := 0, slots := 0, locals := 22 } : Room) [.ref hd, .int (iI x)] [(hd, .inr (8, dF d i)), ((d 12), aQ (g.2.1 4) 4 fsh)] (q_X8_sheetAt g hd d i fsh x k y) := by
  refine Ct.intro (maxL := 2) (ret := (some (.object "LessonDesk$Sheet"))) (by decide) rfl (Nat.le_of_ble_eq_true rfl) ?_
  intro p e s m below meth c A ls hx hb hr hml hown hts hlocks hnm hA hG hP hD hS hl
  have hown : s.vm.findClass RX8 = some m.cls := hown
  have hl : lv_has ls 2 [(0, .ref hd), (1, .int (iI x))] := hl
  have hP : va_P g.1 vwCl [(hd, .inr (8, dF d i)), ((d 12), aQ (g.2.1 4) 4 fsh)] s.heap := hP
  have hS : va_S A s.heap s.heap [] := hS
  obtain ⟨H, hHe⟩ : ∃ H : Heap, H = s.heap := ⟨_, rfl⟩
  obtain ⟨locs, hLe⟩ : ∃ L : List Loc, L = [] := ⟨_, rfl⟩
  have hP : va_P g.1 vwCl [(hd, .inr (8, dF d i)), ((d 12), aQ (g.2.1 4) 4 fsh)] H := by rw [hHe]; exact hP
  have hS : va_S A s.heap H locs := by rw [hHe, hLe]; exact hS
  suffices hgo : W p l e ({ frames := 1, cells := 0, slots := 0, locals := 22 } : Room) s m [.ref hd, .int (iI x)].toArray below meth c H locs 0 0 (MQ below (CQ g (q_X8_sheetAt g hd d i fsh x k y) A) [.ref hd, .int (iI x)].toArray s ({ frames := 1, cells := 0, slots := 0, locals := 22 } : Room).cells ({ frames := 1, cells := 0, slots := 0, locals := 22 } : Room).slots A) (F0 m 0 ls []) by rw [hHe, hLe] at hgo; exact hgo
  clear hHe hLe
  refine lv_iload_n hx hb dX8_sheetAt_0 rfl (lv_at hl 1 rfl) ?_
  refine lv_iconst (v := iI (0)) hx hb dX8_sheetAt_1 rfl ?_
  refine lv_iconst (v := iI (3)) hx hb dX8_sheetAt_2 rfl ?_
  refine Ct.callS (As := [.int (iI x), .int (iI 0), .int (iI 3)]) (rest := []) (wr := [(hd, .inr (8, dF d i)), ((d 12), aQ (g.2.1 4) 4 fsh)]) (c1 := 0) (s1 := 0) ⟨hx, hb, hml, hown, hts⟩ (c_X8_within l g x 0 3 (by omega)) (va_cwS 3 hts gX8_sheetAt_X8_within rfl rfl rfl (by decide +kernel) ⟨Nat.le_of_ble_eq_true rfl, Nat.le_of_ble_eq_true rfl⟩) hG hP hD hS hA [] [0, 1] rfl rfl (by decide) (by decide) (by decide) rfl hl.1 rfl (Nat.le_of_ble_eq_true rfl) dX8_sheetAt_3 ⟨Nat.le_of_ble_eq_true rfl, Nat.le_of_ble_eq_true rfl⟩ rfl rfl (fun v w H locs hv hP hD hS => ?_)
  obtain ⟨⟨rfl, hb1⟩ | ⟨rfl, hb1⟩, rfl⟩ := hv
  · show W p l e _ s m _ below meth c H locs 0 0 _ (F0 m 6 ls (.int (iI 1) :: []))
    have hb1 : 0 ≤ x ∧ x ≤ 3 := hb1
    have hP : va_P g.1 vwCl [(hd, .inr (8, dF d i)), ((d 12), aQ (g.2.1 4) 4 fsh)] H := hP
    have hD : va_D A [(hd, .inr (8, dF d i)), ((d 12), aQ (g.2.1 4) 4 fsh)] := hD
    refine iv_if_eq (tgt := 18) hx hb dX8_sheetAt_6 (by decide) (by decide) (fun h => absurd h (by decide)) (fun _ => ?_)
    refine lv_aload_n hx hb dX8_sheetAt_9 rfl (lv_at hl 0 rfl) ?_
    refine va_get (D := g.1) (ci := 8) (v := .ref (d 12)) hx hb hts kX8_sheetAt_8 hown hG.1 hP 0 rfl rfl 12 (by decide) (hts _ (List.mem_of_getElem? (i := 1) rfl)) (fun _ h9 => h9) rfl dX8_sheetAt_10 ?_
    refine lv_iload_n hx hb dX8_sheetAt_13 rfl (lv_at hl 1 rfl) ?_
    refine iv_aald hx hb hG hP 1 4 rfl rfl k (by omega) (by omega) (by decide) dX8_sheetAt_14 ?_
    rw [show fsh k = some y from h2]
    show W p l e _ s m _ below meth c _ _ _ _ _ (F0 m _ _ (.ref y :: _))
    refine lv_goto (tgt := 19) hx hb dX8_sheetAt_15 (by decide) ?_
    exact Ct.aret hx hb hr hlocks (hP.sub [0, 1] rfl) (hD.sub [0, 1] (by decide) rfl) hS ⟨by decide, by decide⟩ dX8_sheetAt_19 (Or.inr ⟨_, rfl⟩) ⟨rfl, rfl⟩
  · show W p l e _ s m _ below meth c H locs 0 0 _ (F0 m 6 ls (.int (iI 0) :: []))
    have hb1 : ¬ (0 ≤ x ∧ x ≤ 3) := hb1
    have hP : va_P g.1 vwCl [(hd, .inr (8, dF d i)), ((d 12), aQ (g.2.1 4) 4 fsh)] H := hP
    have hD : va_D A [(hd, .inr (8, dF d i)), ((d 12), aQ (g.2.1 4) 4 fsh)] := hD
    exact absurd hb1 (by omega)
abbrev q_X8_sheetAtB (g : GT) (hd : Nat) (d : Nat → Nat) (i : Nat → Int) (fsh : Nat → Option Nat) (x : Int) : Option Value → va_W → Prop := fun v w => v = some .null ∧ w = [(hd, .inr (8, dF d i)), ((d 12), aQ (g.2.1 4) 4 fsh)]
set_option maxHeartbeats 4000000 in
set_option maxRecDepth 100000 in
theorem c_X8_sheetAtB (l : Launch) (g : GT) (hd : Nat) (d : Nat → Nat) (i : Nat → Int) (fsh : Nat → Option Nat) (x : Int) (h1 : ¬ (0 ≤ x ∧ x ≤ 3) ∧ (-2147483648 ≤ x ∧ x < 2147483648)) : Ct l g yX8_sheetAt wsX8_sheetAt ({ frames := 1, cells := 0, slots := 0, locals := 22 } : Room) [.ref hd, .int (iI x)] [(hd, .inr (8, dF d i)), ((d 12), aQ (g.2.1 4) 4 fsh)] (q_X8_sheetAtB g hd d i fsh x) := by
  refine Ct.intro (maxL := 2) (ret := (some (.object "LessonDesk$Sheet"))) (by decide) rfl (Nat.le_of_ble_eq_true rfl) ?_
  intro p e s m below meth c A ls hx hb hr hml hown hts hlocks hnm hA hG hP hD hS hl
  have hown : s.vm.findClass RX8 = some m.cls := hown
  have hl : lv_has ls 2 [(0, .ref hd), (1, .int (iI x))] := hl
  have hP : va_P g.1 vwCl [(hd, .inr (8, dF d i)), ((d 12), aQ (g.2.1 4) 4 fsh)] s.heap := hP
  have hS : va_S A s.heap s.heap [] := hS
  obtain ⟨H, hHe⟩ : ∃ H : Heap, H = s.heap := ⟨_, rfl⟩
  obtain ⟨locs, hLe⟩ : ∃ L : List Loc, L = [] := ⟨_, rfl⟩
  have hP : va_P g.1 vwCl [(hd, .inr (8, dF d i)), ((d 12), aQ (g.2.1 4) 4 fsh)] H := by rw [hHe]; exact hP
  have hS : va_S A s.heap H locs := by rw [hHe, hLe]; exact hS
  suffices hgo : W p l e ({ frames := 1, cells := 0, slots := 0, locals := 22 } : Room) s m [.ref hd, .int (iI x)].toArray below meth c H locs 0 0 (MQ below (CQ g (q_X8_sheetAtB g hd d i fsh x) A) [.ref hd, .int (iI x)].toArray s ({ frames := 1, cells := 0, slots := 0, locals := 22 } : Room).cells ({ frames := 1, cells := 0, slots := 0, locals := 22 } : Room).slots A) (F0 m 0 ls []) by rw [hHe, hLe] at hgo; exact hgo
  clear hHe hLe
  refine lv_iload_n hx hb dX8_sheetAt_0 rfl (lv_at hl 1 rfl) ?_
  refine lv_iconst (v := iI (0)) hx hb dX8_sheetAt_1 rfl ?_
  refine lv_iconst (v := iI (3)) hx hb dX8_sheetAt_2 rfl ?_
  refine Ct.callS (As := [.int (iI x), .int (iI 0), .int (iI 3)]) (rest := []) (wr := [(hd, .inr (8, dF d i)), ((d 12), aQ (g.2.1 4) 4 fsh)]) (c1 := 0) (s1 := 0) ⟨hx, hb, hml, hown, hts⟩ (c_X8_within l g x 0 3 (by omega)) (va_cwS 3 hts gX8_sheetAt_X8_within rfl rfl rfl (by decide +kernel) ⟨Nat.le_of_ble_eq_true rfl, Nat.le_of_ble_eq_true rfl⟩) hG hP hD hS hA [] [0, 1] rfl rfl (by decide) (by decide) (by decide) rfl hl.1 rfl (Nat.le_of_ble_eq_true rfl) dX8_sheetAt_3 ⟨Nat.le_of_ble_eq_true rfl, Nat.le_of_ble_eq_true rfl⟩ rfl rfl (fun v w H locs hv hP hD hS => ?_)
  obtain ⟨⟨rfl, hb1⟩ | ⟨rfl, hb1⟩, rfl⟩ := hv
  · show W p l e _ s m _ below meth c H locs 0 0 _ (F0 m 6 ls (.int (iI 1) :: []))
    have hb1 : 0 ≤ x ∧ x ≤ 3 := hb1
    have hP : va_P g.1 vwCl [(hd, .inr (8, dF d i)), ((d 12), aQ (g.2.1 4) 4 fsh)] H := hP
    have hD : va_D A [(hd, .inr (8, dF d i)), ((d 12), aQ (g.2.1 4) 4 fsh)] := hD
    exact absurd hb1 (by omega)
  · show W p l e _ s m _ below meth c H locs 0 0 _ (F0 m 6 ls (.int (iI 0) :: []))
    have hb1 : ¬ (0 ≤ x ∧ x ≤ 3) := hb1
    have hP : va_P g.1 vwCl [(hd, .inr (8, dF d i)), ((d 12), aQ (g.2.1 4) 4 fsh)] H := hP
    have hD : va_D A [(hd, .inr (8, dF d i)), ((d 12), aQ (g.2.1 4) 4 fsh)] := hD
    refine iv_if_eq (tgt := 18) hx hb dX8_sheetAt_6 (by decide) (by decide) (fun _ => ?_) (fun h => absurd h (by decide))
    refine lv_null hx hb dX8_sheetAt_18 ?_
    exact Ct.aret hx hb hr hlocks (hP.sub [0, 1] rfl) (hD.sub [0, 1] (by decide) rfl) hS ⟨by decide, by decide⟩ dX8_sheetAt_19 (Or.inl rfl) ⟨rfl, rfl⟩
