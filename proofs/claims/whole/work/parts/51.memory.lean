theorem kX2_forget_2 : ∀ w ∈ u_ws RX2 TX2 3, w ∈ wsX2_forget := fun _ h => List.mem_cons_of_mem _ (List.mem_append_right _ h)
abbrev q_X2_forget (g : GT) (me : Nat) (al : Nat) (ak : Nat) (ah : Nat) (lt : Nat → Int) (kn : Nat → Int) (hf : Nat → Int) : Option Value → va_W → Prop := fun v w => ∃ (lt' : Nat → Int), ∃ (kn' : Nat → Int), ∃ (hf' : Nat → Int), v = none ∧ w = [(me, .inr (2, [.ref al, .ref ak, .ref ah])), (al, aI (g.2.1 0) 8 lt'), (ak, aI (g.2.1 1) 8 kn'), (ah, aI (g.2.1 0) 8 hf')] ∧ (∀ j, j < 8 → lt' j = -1 ∧ kn' j = 0 ∧ hf' j = 8)
set_option maxHeartbeats 4000000 in
set_option maxRecDepth 100000 in
theorem c_X2_forget (l : Launch) (g : GT) (me : Nat) (al : Nat) (ak : Nat) (ah : Nat) (lt : Nat → Int) (kn : Nat → Int) (hf : Nat → Int) : Ct l g yX2_forget wsX2_forget ({ frames := 0, cells := 0, slots := 0, locals := 0 } : Room) [.ref me] [(me, .inr (2, [.ref al, .ref ak, .ref ah])), (al, aI (g.2.1 0) 8 lt), (ak, aI (g.2.1 1) 8 kn), (ah, aI (g.2.1 0) 8 hf)] (q_X2_forget g me al ak ah lt kn hf) := by
  refine Ct.intro (maxL := 2) (ret := none) (by decide) rfl (Nat.le_of_ble_eq_true rfl) ?_
  intro p e s m below meth c A ls hx hb hr hml hown hts hlocks hnm hA hG hP hD hS hl
  have hown : s.vm.findClass RX2 = some m.cls := hown
  have hl : lv_has ls 2 [(0, .ref me)] := hl
  have hP : va_P g.1 vwCl [(me, .inr (2, [.ref al, .ref ak, .ref ah])), (al, aI (g.2.1 0) 8 lt), (ak, aI (g.2.1 1) 8 kn), (ah, aI (g.2.1 0) 8 hf)] s.heap := hP
  have hS : va_S A s.heap s.heap [] := hS
  obtain ⟨H, hHe⟩ : ∃ H : Heap, H = s.heap := ⟨_, rfl⟩
  obtain ⟨locs, hLe⟩ : ∃ L : List Loc, L = [] := ⟨_, rfl⟩
  have hP : va_P g.1 vwCl [(me, .inr (2, [.ref al, .ref ak, .ref ah])), (al, aI (g.2.1 0) 8 lt), (ak, aI (g.2.1 1) 8 kn), (ah, aI (g.2.1 0) 8 hf)] H := by rw [hHe]; exact hP
  have hS : va_S A s.heap H locs := by rw [hHe, hLe]; exact hS
  suffices hgo : W p l e ({ frames := 0, cells := 0, slots := 0, locals := 0 } : Room) s m [.ref me].toArray below meth c H locs 0 0 (MQ below (CQ g (q_X2_forget g me al ak ah lt kn hf) A) [.ref me].toArray s ({ frames := 0, cells := 0, slots := 0, locals := 0 } : Room).cells ({ frames := 0, cells := 0, slots := 0, locals := 0 } : Room).slots A) (F0 m 0 ls []) by rw [hHe, hLe] at hgo; exact hgo
  clear hHe hLe
  refine lv_iconst (v := iI (0)) hx hb dX2_forget_0 rfl ?_
  refine lv_istore_n (lv' := [(1, .int (iI 0)), (0, .ref me)]) hx hb dX2_forget_1 rfl hl (by decide) rfl (fun ls hl => ?_)
  have hloop2 : ∀ (fuel : Nat) (zj : Int) (f1 : Nat → Int) (f2 : Nat → Int) (f3 : Nat → Int) (j : Nat) (hc : zj = (j : Int) ∧ j ≤ 8) (he : ∀ k, k < j → f1 k = -1 ∧ f2 k = 0 ∧ f3 k = 8) (hmeas : 8 - j < fuel), ∀ (H : Heap) (locs : List Loc) (ls : Array Slot), va_P g.1 vwCl [(me, .inr (2, [.ref al, .ref ak, .ref ah])), (al, aI (g.2.1 0) 8 f1), (ak, aI (g.2.1 1) 8 f2), (ah, aI (g.2.1 0) 8 f3)] H → va_D A [(me, .inr (2, [.ref al, .ref ak, .ref ah])), (al, aI (g.2.1 0) 8 f1), (ak, aI (g.2.1 1) 8 f2), (ah, aI (g.2.1 0) 8 f3)] → va_S A s.heap H locs → lv_has ls 2 [(1, .int (iI zj)), (0, .ref me)] → W p l e ({ frames := 0, cells := 0, slots := 0, locals := 0 } : Room) s m [.ref me].toArray below meth c H locs 0 0 (MQ below (CQ g (q_X2_forget g me al ak ah lt kn hf) A) [.ref me].toArray s ({ frames := 0, cells := 0, slots := 0, locals := 0 } : Room).cells ({ frames := 0, cells := 0, slots := 0, locals := 0 } : Room).slots A) (F0 m 2 ls []) := by
    intro fuel
    induction fuel with
    | zero => intro zj f1 f2 f3 j hc he hmeas; exact absurd hmeas (Nat.not_lt_zero _)
    | succ fuel ih2 =>
      intro zj f1 f2 f3 j hc he hmeas H locs ls hP hD hS hl
      refine lv_iload_n hx hb dX2_forget_2 rfl (lv_at hl 0 rfl) ?_
      refine lv_bipush (v := iI (8)) hx hb dX2_forget_3 (by decide) ?_
      refine iv_icmp_ge (tgt := 36) hx hb dX2_forget_5 (by decide) (by omega) (fun hc1 => ?_) (fun hc1 => ?_)
      · exact Ct.vret hx hb hr hlocks (hP.sub [0, 1, 2, 3] rfl) (hD.sub [0, 1, 2, 3] (by decide) rfl) hS ⟨by decide, by decide⟩ dX2_forget_36 ⟨f1, f2, f3, rfl, rfl, (fun j hj => he j (by omega))⟩
      · refine lv_aload_n hx hb dX2_forget_8 rfl (lv_at hl 1 rfl) ?_
        refine va_get (D := g.1) (ci := 2) (v := .ref al) hx hb hts kX2_forget_2 hown hG.1 hP 0 rfl rfl 0 (by decide) (hts _ (List.mem_of_getElem? (i := 1) rfl)) (fun _ h9 => h9) rfl dX2_forget_9 ?_
        refine lv_iload_n hx hb dX2_forget_12 rfl (lv_at hl 0 rfl) ?_
        refine lv_iconst (v := iI (-1)) hx hb dX2_forget_13 rfl ?_
        refine iv_iast hx hb hG hP hD hS 1 rfl j (by omega) (by omega) (by decide) dX2_forget_14 (fun H locs hP hD hS => ?_)
        have hP : va_P g.1 vwCl [(me, .inr (2, [.ref al, .ref ak, .ref ah])), (al, aI (g.2.1 0) 8 (va_up f1 j (-1))), (ak, aI (g.2.1 1) 8 f2), (ah, aI (g.2.1 0) 8 f3)] H := hP
        have hD : va_D A [(me, .inr (2, [.ref al, .ref ak, .ref ah])), (al, aI (g.2.1 0) 8 (va_up f1 j (-1))), (ak, aI (g.2.1 1) 8 f2), (ah, aI (g.2.1 0) 8 f3)] := hD
        refine lv_aload_n hx hb dX2_forget_15 rfl (lv_at hl 1 rfl) ?_
        refine va_get (D := g.1) (ci := 2) (v := .ref ak) hx hb hts kX2_forget_2 hown hG.1 hP 0 rfl rfl 1 (by decide) (hts _ (List.mem_of_getElem? (i := 2) rfl)) (fun _ h9 => h9) rfl dX2_forget_16 ?_
        refine lv_iload_n hx hb dX2_forget_19 rfl (lv_at hl 0 rfl) ?_
        refine lv_iconst (v := iI (0)) hx hb dX2_forget_20 rfl ?_
        refine iv_zast hx hb hG hP hD hS 2 rfl j (by omega) (by omega) (by decide) (by omega) dX2_forget_21 (fun H locs hP hD hS => ?_)
        have hP : va_P g.1 vwCl [(me, .inr (2, [.ref al, .ref ak, .ref ah])), (al, aI (g.2.1 0) 8 (va_up f1 j (-1))), (ak, aI (g.2.1 1) 8 (va_up f2 j 0)), (ah, aI (g.2.1 0) 8 f3)] H := hP
        have hD : va_D A [(me, .inr (2, [.ref al, .ref ak, .ref ah])), (al, aI (g.2.1 0) 8 (va_up f1 j (-1))), (ak, aI (g.2.1 1) 8 (va_up f2 j 0)), (ah, aI (g.2.1 0) 8 f3)] := hD
        refine lv_aload_n hx hb dX2_forget_22 rfl (lv_at hl 1 rfl) ?_
        refine va_get (D := g.1) (ci := 2) (v := .ref ah) hx hb hts kX2_forget_2 hown hG.1 hP 0 rfl rfl 2 (by decide) (hts _ (List.mem_of_getElem? (i := 3) rfl)) (fun _ h9 => h9) rfl dX2_forget_23 ?_
        refine lv_iload_n hx hb dX2_forget_26 rfl (lv_at hl 0 rfl) ?_
        refine lv_bipush (v := iI (8)) hx hb dX2_forget_27 (by decide) ?_
        refine iv_iast hx hb hG hP hD hS 3 rfl j (by omega) (by omega) (by decide) dX2_forget_29 (fun H locs hP hD hS => ?_)
        have hP : va_P g.1 vwCl [(me, .inr (2, [.ref al, .ref ak, .ref ah])), (al, aI (g.2.1 0) 8 (va_up f1 j (-1))), (ak, aI (g.2.1 1) 8 (va_up f2 j 0)), (ah, aI (g.2.1 0) 8 (va_up f3 j 8))] H := hP
        have hD : va_D A [(me, .inr (2, [.ref al, .ref ak, .ref ah])), (al, aI (g.2.1 0) 8 (va_up f1 j (-1))), (ak, aI (g.2.1 1) 8 (va_up f2 j 0)), (ah, aI (g.2.1 0) 8 (va_up f3 j 8))] := hD
        refine iv_iinc (k := 0) (x := zj) (lv' := [(1, .int (iI (zj + 1))), (0, .ref me)]) hx hb dX2_forget_30 hl rfl (by decide) rfl (fun ls hl => ?_)
        refine lv_goto (tgt := 2) hx hb dX2_forget_33 (by decide) ?_
        exact ih2 (zj + 1) (va_up f1 j (-1)) (va_up f2 j 0) (va_up f3 j 8) (j + 1) (by omega) (fun k hk => if q : k = j then (by rw [q, up_s, up_s, up_s]; exact ⟨rfl, rfl, rfl⟩) else (by rw [up_n _ _ _ _ q, up_n _ _ _ _ q, up_n _ _ _ _ q]; exact he k (by omega))) (by omega) H locs ls (hP.sub [0, 1, 2, 3] rfl) (hD.sub [0, 1, 2, 3] (by decide) rfl) hS (lv_sub hl [0, 1] rfl)
  exact hloop2 _ 0 lt kn hf 0 (by omega) (fun j hj => absurd hj (Nat.not_lt_zero j)) (Nat.lt_succ_self _) H locs ls (hP.sub [0, 1, 2, 3] rfl) (hD.sub [0, 1, 2, 3] (by decide) rfl) hS (lv_sub hl [0, 1] rfl)
theorem kX2_practise_2 : ∀ w ∈ u_ws RX2 TX2 3, w ∈ wsX2_practise := fun _ h => List.mem_cons_of_mem _ (List.mem_append_right _ h)
abbrev q_X2_practise (g : GT) (me : Nat) (al : Nat) (ak : Nat) (ah : Nat) (lt : Nat → Int) (kn : Nat → Int) (hf : Nat → Int) (sk : Int) (day : Int) (rt : Int) (k : Nat) : Option Value → va_W → Prop := fun v w => ∃ (r : Int), ∃ (lt' : Nat → Int), ∃ (kn' : Nat → Int), ∃ (hf' : Nat → Int), v = some (.int (iI r)) ∧ w = [(me, .inr (2, [.ref al, .ref ak, .ref ah])), (al, aI (g.2.1 0) 8 lt'), (ak, aI (g.2.1 1) 8 kn'), (ah, aI (g.2.1 0) 8 hf')] ∧ (r = prS rt (hf k)) ∧ (lt' = va_up lt k day) ∧ (kn' = (if rt = 0 then kn else va_up kn k 1)) ∧ (hf' = va_up hf k (prS rt (hf k)))
set_option maxHeartbeats 4000000 in
set_option maxRecDepth 100000 in
theorem c_X2_practise (l : Launch) (g : GT) (me : Nat) (al : Nat) (ak : Nat) (ah : Nat) (lt : Nat → Int) (kn : Nat → Int) (hf : Nat → Int) (sk : Int) (day : Int) (rt : Int) (k : Nat) (h1 : sk = (k : Int) ∧ k < 8 ∧ (rt = 0 ∨ rt = 1)) (hM : ∀ j, j < 8 → -1 ≤ lt j ∧ lt j ≤ 9999 ∧ (kn j = 0 ∨ kn j = 1) ∧ 1 ≤ hf j ∧ hf j ≤ 512) : Ct l g yX2_practise wsX2_practise ({ frames := 1, cells := 0, slots := 0, locals := 19 } : Room) [.ref me, .int (iI sk), .int (iI day), .int (iI rt)] [(me, .inr (2, [.ref al, .ref ak, .ref ah])), (al, aI (g.2.1 0) 8 lt), (ak, aI (g.2.1 1) 8 kn), (ah, aI (g.2.1 0) 8 hf)] (q_X2_practise g me al ak ah lt kn hf sk day rt k) := by
  refine Ct.intro (maxL := 4) (ret := (some .int)) (by decide) rfl (Nat.le_of_ble_eq_true rfl) ?_
  intro p e s m below meth c A ls hx hb hr hml hown hts hlocks hnm hA hG hP hD hS hl
  have hown : s.vm.findClass RX2 = some m.cls := hown
  have hl : lv_has ls 4 [(0, .ref me), (1, .int (iI sk)), (2, .int (iI day)), (3, .int (iI rt))] := hl
  have hP : va_P g.1 vwCl [(me, .inr (2, [.ref al, .ref ak, .ref ah])), (al, aI (g.2.1 0) 8 lt), (ak, aI (g.2.1 1) 8 kn), (ah, aI (g.2.1 0) 8 hf)] s.heap := hP
  have hS : va_S A s.heap s.heap [] := hS
  have hq := hM k (by omega)
  obtain ⟨H, hHe⟩ : ∃ H : Heap, H = s.heap := ⟨_, rfl⟩
  obtain ⟨locs, hLe⟩ : ∃ L : List Loc, L = [] := ⟨_, rfl⟩
  have hP : va_P g.1 vwCl [(me, .inr (2, [.ref al, .ref ak, .ref ah])), (al, aI (g.2.1 0) 8 lt), (ak, aI (g.2.1 1) 8 kn), (ah, aI (g.2.1 0) 8 hf)] H := by rw [hHe]; exact hP
  have hS : va_S A s.heap H locs := by rw [hHe, hLe]; exact hS
  suffices hgo : W p l e ({ frames := 1, cells := 0, slots := 0, locals := 19 } : Room) s m [.ref me, .int (iI sk), .int (iI day), .int (iI rt)].toArray below meth c H locs 0 0 (MQ below (CQ g (q_X2_practise g me al ak ah lt kn hf sk day rt k) A) [.ref me, .int (iI sk), .int (iI day), .int (iI rt)].toArray s ({ frames := 1, cells := 0, slots := 0, locals := 19 } : Room).cells ({ frames := 1, cells := 0, slots := 0, locals := 19 } : Room).slots A) (F0 m 0 ls []) by rw [hHe, hLe] at hgo; exact hgo
  clear hHe hLe
  refine lv_aload_n hx hb dX2_practise_0 rfl (lv_at hl 0 rfl) ?_
  refine va_get (D := g.1) (ci := 2) (v := .ref al) hx hb hts kX2_practise_2 hown hG.1 hP 0 rfl rfl 0 (by decide) (hts _ (List.mem_of_getElem? (i := 1) rfl)) (fun _ h9 => h9) rfl dX2_practise_1 ?_
  refine lv_iload_n hx hb dX2_practise_4 rfl (lv_at hl 1 rfl) ?_
  refine lv_iload_n hx hb dX2_practise_5 rfl (lv_at hl 2 rfl) ?_
  refine iv_iast hx hb hG hP hD hS 1 rfl k (by omega) (by omega) (by decide) dX2_practise_6 (fun H locs hP hD hS => ?_)
  have hP : va_P g.1 vwCl [(me, .inr (2, [.ref al, .ref ak, .ref ah])), (al, aI (g.2.1 0) 8 (va_up lt k day)), (ak, aI (g.2.1 1) 8 kn), (ah, aI (g.2.1 0) 8 hf)] H := hP
  have hD : va_D A [(me, .inr (2, [.ref al, .ref ak, .ref ah])), (al, aI (g.2.1 0) 8 (va_up lt k day)), (ak, aI (g.2.1 1) 8 kn), (ah, aI (g.2.1 0) 8 hf)] := hD
  refine lv_iload_n hx hb dX2_practise_7 rfl (lv_at hl 3 rfl) ?_
  refine iv_if_eq (tgt := 41) hx hb dX2_practise_8 (by decide) (by omega) (fun hc1 => ?_) (fun hc1 => ?_)
  · refine lv_aload_n hx hb dX2_practise_41 rfl (lv_at hl 0 rfl) ?_
    refine va_get (D := g.1) (ci := 2) (v := .ref ah) hx hb hts kX2_practise_2 hown hG.1 hP 0 rfl rfl 2 (by decide) (hts _ (List.mem_of_getElem? (i := 3) rfl)) (fun _ h9 => h9) rfl dX2_practise_42 ?_
    refine lv_iload_n hx hb dX2_practise_45 rfl (lv_at hl 1 rfl) ?_
    refine lv_iconst (v := iI (1)) hx hb dX2_practise_46 rfl ?_
    refine lv_aload_n hx hb dX2_practise_47 rfl (lv_at hl 0 rfl) ?_
    refine va_get (D := g.1) (ci := 2) (v := .ref ah) hx hb hts kX2_practise_2 hown hG.1 hP 0 rfl rfl 2 (by decide) (hts _ (List.mem_of_getElem? (i := 3) rfl)) (fun _ h9 => h9) rfl dX2_practise_48 ?_
    refine lv_iload_n hx hb dX2_practise_51 rfl (lv_at hl 1 rfl) ?_
    refine iv_iald hx hb hG hP 3 rfl k (by omega) (by omega) (by decide) dX2_practise_52 ?_
    refine lv_iconst (v := iI (2)) hx hb dX2_practise_53 rfl ?_
    refine iv_idiv hx hb dX2_practise_54 (by omega) ?_
    refine iv_max hx hb (by rw [hml]; exact hl.1.symm) hown (hts _ (List.mem_of_getElem? (i := 8) rfl)) (hts _ (List.mem_of_getElem? (i := 9) rfl)) (hts _ (List.mem_of_getElem? (i := 6) rfl)) (hts _ (List.mem_of_getElem? (i := 10) rfl)) (Nat.le_of_ble_eq_true rfl) (Nat.le_of_ble_eq_true rfl) (Nat.le_of_ble_eq_true rfl) (Nat.le_of_ble_eq_true rfl) (by omega) dX2_practise_55 ?_
    refine iv_iast hx hb hG hP hD hS 3 rfl k (by omega) (by omega) (by decide) dX2_practise_58 (fun H locs hP hD hS => ?_)
    have hP : va_P g.1 vwCl [(me, .inr (2, [.ref al, .ref ak, .ref ah])), (al, aI (g.2.1 0) 8 (va_up lt k day)), (ak, aI (g.2.1 1) 8 kn), (ah, aI (g.2.1 0) 8 (va_up hf k (max 1 ((hf k) / 2))))] H := hP
    have hD : va_D A [(me, .inr (2, [.ref al, .ref ak, .ref ah])), (al, aI (g.2.1 0) 8 (va_up lt k day)), (ak, aI (g.2.1 1) 8 kn), (ah, aI (g.2.1 0) 8 (va_up hf k (max 1 ((hf k) / 2))))] := hD
    refine lv_aload_n hx hb dX2_practise_59 rfl (lv_at hl 0 rfl) ?_
    refine va_get (D := g.1) (ci := 2) (v := .ref ah) hx hb hts kX2_practise_2 hown hG.1 hP 0 rfl rfl 2 (by decide) (hts _ (List.mem_of_getElem? (i := 3) rfl)) (fun _ h9 => h9) rfl dX2_practise_60 ?_
    refine lv_iload_n hx hb dX2_practise_63 rfl (lv_at hl 1 rfl) ?_
    refine iv_iald hx hb hG hP 3 rfl k (by omega) (by omega) (by decide) dX2_practise_64 ?_
    refine iv_as (prS rt (hf k)) (by rw [up_s]; unfold prS; first | rw [if_pos (by omega)] | rw [if_neg (by omega)]) ?_
    exact Ct.iret hx hb hr hlocks (hP.sub [0, 1, 2, 3] rfl) (hD.sub [0, 1, 2, 3] (by decide) rfl) hS ⟨by decide, by decide⟩ dX2_practise_65 ⟨(prS rt (hf k)), (va_up lt k day), kn, (va_up hf k (max 1 ((hf k) / 2))), rfl, rfl, (rfl), (rfl), (by first | rw [if_pos (by omega)] | rw [if_neg (by omega)]), (by unfold prS; first | rw [if_pos (by omega)] | rw [if_neg (by omega)])⟩
  · refine lv_aload_n hx hb dX2_practise_11 rfl (lv_at hl 0 rfl) ?_
    refine va_get (D := g.1) (ci := 2) (v := .ref ak) hx hb hts kX2_practise_2 hown hG.1 hP 0 rfl rfl 1 (by decide) (hts _ (List.mem_of_getElem? (i := 2) rfl)) (fun _ h9 => h9) rfl dX2_practise_12 ?_
    refine lv_iload_n hx hb dX2_practise_15 rfl (lv_at hl 1 rfl) ?_
    refine lv_iconst (v := iI (1)) hx hb dX2_practise_16 rfl ?_
    refine iv_zast hx hb hG hP hD hS 2 rfl k (by omega) (by omega) (by decide) (by omega) dX2_practise_17 (fun H locs hP hD hS => ?_)
    have hP : va_P g.1 vwCl [(me, .inr (2, [.ref al, .ref ak, .ref ah])), (al, aI (g.2.1 0) 8 (va_up lt k day)), (ak, aI (g.2.1 1) 8 (va_up kn k 1)), (ah, aI (g.2.1 0) 8 hf)] H := hP
    have hD : va_D A [(me, .inr (2, [.ref al, .ref ak, .ref ah])), (al, aI (g.2.1 0) 8 (va_up lt k day)), (ak, aI (g.2.1 1) 8 (va_up kn k 1)), (ah, aI (g.2.1 0) 8 hf)] := hD
    refine lv_aload_n hx hb dX2_practise_18 rfl (lv_at hl 0 rfl) ?_
    refine va_get (D := g.1) (ci := 2) (v := .ref ah) hx hb hts kX2_practise_2 hown hG.1 hP 0 rfl rfl 2 (by decide) (hts _ (List.mem_of_getElem? (i := 3) rfl)) (fun _ h9 => h9) rfl dX2_practise_19 ?_
    refine lv_iload_n hx hb dX2_practise_22 rfl (lv_at hl 1 rfl) ?_
    refine lv_sipush (v := iI (512)) hx hb dX2_practise_23 (by decide) ?_
    refine lv_iconst (v := iI (2)) hx hb dX2_practise_26 rfl ?_
    refine lv_aload_n hx hb dX2_practise_27 rfl (lv_at hl 0 rfl) ?_
    refine va_get (D := g.1) (ci := 2) (v := .ref ah) hx hb hts kX2_practise_2 hown hG.1 hP 0 rfl rfl 2 (by decide) (hts _ (List.mem_of_getElem? (i := 3) rfl)) (fun _ h9 => h9) rfl dX2_practise_28 ?_
    refine lv_iload_n hx hb dX2_practise_31 rfl (lv_at hl 1 rfl) ?_
    refine iv_iald hx hb hG hP 3 rfl k (by omega) (by omega) (by decide) dX2_practise_32 ?_
    refine iv_imul hx hb dX2_practise_33 ?_
    refine iv_min hx hb (by rw [hml]; exact hl.1.symm) hown (hts _ (List.mem_of_getElem? (i := 4) rfl)) (hts _ (List.mem_of_getElem? (i := 5) rfl)) (hts _ (List.mem_of_getElem? (i := 6) rfl)) (hts _ (List.mem_of_getElem? (i := 7) rfl)) (Nat.le_of_ble_eq_true rfl) (Nat.le_of_ble_eq_true rfl) (Nat.le_of_ble_eq_true rfl) (Nat.le_of_ble_eq_true rfl) (by omega) dX2_practise_34 ?_
    refine iv_iast hx hb hG hP hD hS 3 rfl k (by omega) (by omega) (by decide) dX2_practise_37 (fun H locs hP hD hS => ?_)
    have hP : va_P g.1 vwCl [(me, .inr (2, [.ref al, .ref ak, .ref ah])), (al, aI (g.2.1 0) 8 (va_up lt k day)), (ak, aI (g.2.1 1) 8 (va_up kn k 1)), (ah, aI (g.2.1 0) 8 (va_up hf k (min 512 (2 * (hf k)))))] H := hP
    have hD : va_D A [(me, .inr (2, [.ref al, .ref ak, .ref ah])), (al, aI (g.2.1 0) 8 (va_up lt k day)), (ak, aI (g.2.1 1) 8 (va_up kn k 1)), (ah, aI (g.2.1 0) 8 (va_up hf k (min 512 (2 * (hf k)))))] := hD
    refine lv_goto (tgt := 59) hx hb dX2_practise_38 (by decide) ?_
    refine lv_aload_n hx hb dX2_practise_59 rfl (lv_at hl 0 rfl) ?_
    refine va_get (D := g.1) (ci := 2) (v := .ref ah) hx hb hts kX2_practise_2 hown hG.1 hP 0 rfl rfl 2 (by decide) (hts _ (List.mem_of_getElem? (i := 3) rfl)) (fun _ h9 => h9) rfl dX2_practise_60 ?_
    refine lv_iload_n hx hb dX2_practise_63 rfl (lv_at hl 1 rfl) ?_
    refine iv_iald hx hb hG hP 3 rfl k (by omega) (by omega) (by decide) dX2_practise_64 ?_
    refine iv_as (prS rt (hf k)) (by rw [up_s]; unfold prS; first | rw [if_pos (by omega)] | rw [if_neg (by omega)]) ?_
    exact Ct.iret hx hb hr hlocks (hP.sub [0, 1, 2, 3] rfl) (hD.sub [0, 1, 2, 3] (by decide) rfl) hS ⟨by decide, by decide⟩ dX2_practise_65 ⟨(prS rt (hf k)), (va_up lt k day), (va_up kn k 1), (va_up hf k (min 512 (2 * (hf k)))), rfl, rfl, (rfl), (rfl), (by first | rw [if_pos (by omega)] | rw [if_neg (by omega)]), (by unfold prS; first | rw [if_pos (by omega)] | rw [if_neg (by omega)])⟩
theorem kX2_oddsOn_2 : ∀ w ∈ u_ws RX2 TX2 3, w ∈ wsX2_oddsOn := fun _ h => List.mem_cons_of_mem _ (List.mem_append_right _ h)
abbrev q_X2_oddsOn (g : GT) (me : Nat) (al : Nat) (ak : Nat) (ah : Nat) (lt : Nat → Int) (kn : Nat → Int) (hf : Nat → Int) (sk : Int) (day : Int) (k : Nat) : Option Value → va_W → Prop := fun v w => ∃ (r : Int), v = some (.int (iI r)) ∧ w = [(me, .inr (2, [.ref al, .ref ak, .ref ah])), (al, aI (g.2.1 0) 8 lt), (ak, aI (g.2.1 1) 8 kn), (ah, aI (g.2.1 0) 8 hf)] ∧ (r = odF (kn k) (hf k) (lt k) day)
set_option maxHeartbeats 4000000 in
set_option maxRecDepth 100000 in
theorem c_X2_oddsOn (l : Launch) (g : GT) (me : Nat) (al : Nat) (ak : Nat) (ah : Nat) (lt : Nat → Int) (kn : Nat → Int) (hf : Nat → Int) (sk : Int) (day : Int) (k : Nat) (h1 : sk = (k : Int) ∧ k < 8 ∧ 0 ≤ day ∧ day ≤ 9999 ∧ lt k ≤ day) (hM : ∀ j, j < 8 → -1 ≤ lt j ∧ lt j ≤ 9999 ∧ (kn j = 0 ∨ kn j = 1) ∧ 1 ≤ hf j ∧ hf j ≤ 512) : Ct l g yX2_oddsOn wsX2_oddsOn ({ frames := 0, cells := 0, slots := 0, locals := 0 } : Room) [.ref me, .int (iI sk), .int (iI day)] [(me, .inr (2, [.ref al, .ref ak, .ref ah])), (al, aI (g.2.1 0) 8 lt), (ak, aI (g.2.1 1) 8 kn), (ah, aI (g.2.1 0) 8 hf)] (q_X2_oddsOn g me al ak ah lt kn hf sk day k) := by
  refine Ct.intro (maxL := 4) (ret := (some .int)) (by decide) rfl (Nat.le_of_ble_eq_true rfl) ?_
  intro p e s m below meth c A ls hx hb hr hml hown hts hlocks hnm hA hG hP hD hS hl
  have hown : s.vm.findClass RX2 = some m.cls := hown
  have hl : lv_has ls 4 [(0, .ref me), (1, .int (iI sk)), (2, .int (iI day))] := hl
  have hP : va_P g.1 vwCl [(me, .inr (2, [.ref al, .ref ak, .ref ah])), (al, aI (g.2.1 0) 8 lt), (ak, aI (g.2.1 1) 8 kn), (ah, aI (g.2.1 0) 8 hf)] s.heap := hP
  have hS : va_S A s.heap s.heap [] := hS
  have hq := hM k (by omega)
  obtain ⟨H, hHe⟩ : ∃ H : Heap, H = s.heap := ⟨_, rfl⟩
  obtain ⟨locs, hLe⟩ : ∃ L : List Loc, L = [] := ⟨_, rfl⟩
  have hP : va_P g.1 vwCl [(me, .inr (2, [.ref al, .ref ak, .ref ah])), (al, aI (g.2.1 0) 8 lt), (ak, aI (g.2.1 1) 8 kn), (ah, aI (g.2.1 0) 8 hf)] H := by rw [hHe]; exact hP
  have hS : va_S A s.heap H locs := by rw [hHe, hLe]; exact hS
  suffices hgo : W p l e ({ frames := 0, cells := 0, slots := 0, locals := 0 } : Room) s m [.ref me, .int (iI sk), .int (iI day)].toArray below meth c H locs 0 0 (MQ below (CQ g (q_X2_oddsOn g me al ak ah lt kn hf sk day k) A) [.ref me, .int (iI sk), .int (iI day)].toArray s ({ frames := 0, cells := 0, slots := 0, locals := 0 } : Room).cells ({ frames := 0, cells := 0, slots := 0, locals := 0 } : Room).slots A) (F0 m 0 ls []) by rw [hHe, hLe] at hgo; exact hgo
  clear hHe hLe
  refine lv_aload_n hx hb dX2_oddsOn_0 rfl (lv_at hl 0 rfl) ?_
  refine va_get (D := g.1) (ci := 2) (v := .ref ah) hx hb hts kX2_oddsOn_2 hown hG.1 hP 0 rfl rfl 2 (by decide) (hts _ (List.mem_of_getElem? (i := 1) rfl)) (fun _ h9 => h9) rfl dX2_oddsOn_1 ?_
  refine lv_iload_n hx hb dX2_oddsOn_4 rfl (lv_at hl 1 rfl) ?_
  refine iv_iald hx hb hG hP 3 rfl k (by omega) (by omega) (by decide) dX2_oddsOn_5 ?_
  refine lv_iload_n hx hb dX2_oddsOn_6 rfl (lv_at hl 2 rfl) ?_
  refine iv_iadd hx hb dX2_oddsOn_7 ?_
  refine lv_aload_n hx hb dX2_oddsOn_8 rfl (lv_at hl 0 rfl) ?_
  refine va_get (D := g.1) (ci := 2) (v := .ref al) hx hb hts kX2_oddsOn_2 hown hG.1 hP 0 rfl rfl 0 (by decide) (hts _ (List.mem_of_getElem? (i := 2) rfl)) (fun _ h9 => h9) rfl dX2_oddsOn_9 ?_
  refine lv_iload_n hx hb dX2_oddsOn_12 rfl (lv_at hl 1 rfl) ?_
  refine iv_iald hx hb hG hP 1 rfl k (by omega) (by omega) (by decide) dX2_oddsOn_13 ?_
  refine iv_isub hx hb dX2_oddsOn_14 ?_
  refine lv_istore_n (lv' := [(3, .int (iI (((hf k) + day) - (lt k)))), (0, .ref me), (1, .int (iI sk)), (2, .int (iI day))]) hx hb dX2_oddsOn_15 rfl hl (by decide) rfl (fun ls hl => ?_)
  refine lv_aload_n hx hb dX2_oddsOn_16 rfl (lv_at hl 1 rfl) ?_
  refine va_get (D := g.1) (ci := 2) (v := .ref ak) hx hb hts kX2_oddsOn_2 hown hG.1 hP 0 rfl rfl 1 (by decide) (hts _ (List.mem_of_getElem? (i := 3) rfl)) (fun _ h9 => h9) rfl dX2_oddsOn_17 ?_
  refine lv_iload_n hx hb dX2_oddsOn_20 rfl (lv_at hl 2 rfl) ?_
  refine iv_zald hx hb hG hP 2 rfl k (by omega) (by omega) (by decide) dX2_oddsOn_21 ?_
  refine iv_if_eq (tgt := 29) hx hb dX2_oddsOn_22 (by decide) (by omega) (fun hc1 => ?_) (fun hc1 => ?_)
  · refine lv_iconst (v := iI (0)) hx hb dX2_oddsOn_29 rfl ?_
    exact Ct.iret hx hb hr hlocks (hP.sub [0, 1, 2, 3] rfl) (hD.sub [0, 1, 2, 3] (by decide) rfl) hS ⟨by decide, by decide⟩ dX2_oddsOn_30 ⟨0, rfl, rfl, (by unfold odF; rw [if_pos (by omega)])⟩
  · refine lv_iload_n hx hb dX2_oddsOn_25 rfl (lv_at hl 0 rfl) ?_
    refine iv_if_gt (tgt := 31) hx hb dX2_oddsOn_26 (by decide) (by omega) (fun hc2 => ?_) (fun hc2 => absurd hc2 (by omega))
    refine lv_sipush (v := iI (1000)) hx hb dX2_oddsOn_31 (by decide) ?_
    refine lv_aload_n hx hb dX2_oddsOn_34 rfl (lv_at hl 1 rfl) ?_
    refine va_get (D := g.1) (ci := 2) (v := .ref ah) hx hb hts kX2_oddsOn_2 hown hG.1 hP 0 rfl rfl 2 (by decide) (hts _ (List.mem_of_getElem? (i := 1) rfl)) (fun _ h9 => h9) rfl dX2_oddsOn_35 ?_
    refine lv_iload_n hx hb dX2_oddsOn_38 rfl (lv_at hl 2 rfl) ?_
    refine iv_iald hx hb hG hP 3 rfl k (by omega) (by omega) (by decide) dX2_oddsOn_39 ?_
    refine iv_imul hx hb dX2_oddsOn_40 ?_
    refine lv_iload_n hx hb dX2_oddsOn_41 rfl (lv_at hl 0 rfl) ?_
    refine iv_idiv hx hb dX2_oddsOn_42 (by omega) ?_
    exact Ct.iret hx hb hr hlocks (hP.sub [0, 1, 2, 3] rfl) (hD.sub [0, 1, 2, 3] (by decide) rfl) hS ⟨by decide, by decide⟩ dX2_oddsOn_43 ⟨((1000 * (hf k)) / (((hf k) + day) - (lt k))), rfl, rfl, (by unfold odF; rw [if_neg (by omega)])⟩
theorem kX2_firstFaded_2 : ∀ w ∈ u_ws RX2 TX2 3, w ∈ wsX2_firstFaded := fun _ h => List.mem_cons_of_mem _ (List.mem_append_right _ h)
abbrev q_X2_firstFaded (g : GT) (me : Nat) (al : Nat) (ak : Nat) (ah : Nat) (lt : Nat → Int) (kn : Nat → Int) (hf : Nat → Int) (sk : Int) (v_ : Int) (k : Nat) : Option Value → va_W → Prop := fun v w => v = some (.int (iI (lt k + (1000 - v_) * hf k / v_ + 1))) ∧ w = [(me, .inr (2, [.ref al, .ref ak, .ref ah])), (al, aI (g.2.1 0) 8 lt), (ak, aI (g.2.1 1) 8 kn), (ah, aI (g.2.1 0) 8 hf)]
set_option maxHeartbeats 4000000 in
set_option maxRecDepth 100000 in
theorem c_X2_firstFaded (l : Launch) (g : GT) (me : Nat) (al : Nat) (ak : Nat) (ah : Nat) (lt : Nat → Int) (kn : Nat → Int) (hf : Nat → Int) (sk : Int) (v_ : Int) (k : Nat) (h1 : sk = (k : Int) ∧ k < 8 ∧ 1 ≤ v_ ∧ v_ ≤ 1000) (hM : ∀ j, j < 8 → -1 ≤ lt j ∧ lt j ≤ 9999 ∧ (kn j = 0 ∨ kn j = 1) ∧ 1 ≤ hf j ∧ hf j ≤ 512) : Ct l g yX2_firstFaded wsX2_firstFaded ({ frames := 0, cells := 0, slots := 0, locals := 0 } : Room) [.ref me, .int (iI sk), .int (iI v_)] [(me, .inr (2, [.ref al, .ref ak, .ref ah])), (al, aI (g.2.1 0) 8 lt), (ak, aI (g.2.1 1) 8 kn), (ah, aI (g.2.1 0) 8 hf)] (q_X2_firstFaded g me al ak ah lt kn hf sk v_ k) := by
  refine Ct.intro (maxL := 3) (ret := (some .int)) (by decide) rfl (Nat.le_of_ble_eq_true rfl) ?_
  intro p e s m below meth c A ls hx hb hr hml hown hts hlocks hnm hA hG hP hD hS hl
  have hown : s.vm.findClass RX2 = some m.cls := hown
  have hl : lv_has ls 3 [(0, .ref me), (1, .int (iI sk)), (2, .int (iI v_))] := hl
  have hP : va_P g.1 vwCl [(me, .inr (2, [.ref al, .ref ak, .ref ah])), (al, aI (g.2.1 0) 8 lt), (ak, aI (g.2.1 1) 8 kn), (ah, aI (g.2.1 0) 8 hf)] s.heap := hP
  have hS : va_S A s.heap s.heap [] := hS
  have hq := hM k (by omega)
  obtain ⟨H, hHe⟩ : ∃ H : Heap, H = s.heap := ⟨_, rfl⟩
  obtain ⟨locs, hLe⟩ : ∃ L : List Loc, L = [] := ⟨_, rfl⟩
  have hP : va_P g.1 vwCl [(me, .inr (2, [.ref al, .ref ak, .ref ah])), (al, aI (g.2.1 0) 8 lt), (ak, aI (g.2.1 1) 8 kn), (ah, aI (g.2.1 0) 8 hf)] H := by rw [hHe]; exact hP
  have hS : va_S A s.heap H locs := by rw [hHe, hLe]; exact hS
  suffices hgo : W p l e ({ frames := 0, cells := 0, slots := 0, locals := 0 } : Room) s m [.ref me, .int (iI sk), .int (iI v_)].toArray below meth c H locs 0 0 (MQ below (CQ g (q_X2_firstFaded g me al ak ah lt kn hf sk v_ k) A) [.ref me, .int (iI sk), .int (iI v_)].toArray s ({ frames := 0, cells := 0, slots := 0, locals := 0 } : Room).cells ({ frames := 0, cells := 0, slots := 0, locals := 0 } : Room).slots A) (F0 m 0 ls []) by rw [hHe, hLe] at hgo; exact hgo
  clear hHe hLe
  refine lv_iload_n hx hb dX2_firstFaded_0 rfl (lv_at hl 2 rfl) ?_
  refine iv_if_gt (tgt := 7) hx hb dX2_firstFaded_1 (by decide) (by omega) (fun hc1 => ?_) (fun hc1 => absurd hc1 (by omega))
  refine lv_aload_n hx hb dX2_firstFaded_7 rfl (lv_at hl 0 rfl) ?_
  refine va_get (D := g.1) (ci := 2) (v := .ref al) hx hb hts kX2_firstFaded_2 hown hG.1 hP 0 rfl rfl 0 (by decide) (hts _ (List.mem_of_getElem? (i := 1) rfl)) (fun _ h9 => h9) rfl dX2_firstFaded_8 ?_
  refine lv_iload_n hx hb dX2_firstFaded_11 rfl (lv_at hl 1 rfl) ?_
  refine iv_iald hx hb hG hP 1 rfl k (by omega) (by omega) (by decide) dX2_firstFaded_12 ?_
  refine lv_sipush (v := iI (1000)) hx hb dX2_firstFaded_13 (by decide) ?_
  refine lv_iload_n hx hb dX2_firstFaded_16 rfl (lv_at hl 2 rfl) ?_
  refine iv_isub hx hb dX2_firstFaded_17 ?_
  refine lv_aload_n hx hb dX2_firstFaded_18 rfl (lv_at hl 0 rfl) ?_
  refine va_get (D := g.1) (ci := 2) (v := .ref ah) hx hb hts kX2_firstFaded_2 hown hG.1 hP 0 rfl rfl 2 (by decide) (hts _ (List.mem_of_getElem? (i := 2) rfl)) (fun _ h9 => h9) rfl dX2_firstFaded_19 ?_
  refine lv_iload_n hx hb dX2_firstFaded_22 rfl (lv_at hl 1 rfl) ?_
  refine iv_iald hx hb hG hP 3 rfl k (by omega) (by omega) (by decide) dX2_firstFaded_23 ?_
  refine iv_imul hx hb dX2_firstFaded_24 ?_
  have hmc := mulC (a := 1000 - v_) (b := hf k) (by omega) (by omega)
  refine lv_iload_n hx hb dX2_firstFaded_25 rfl (lv_at hl 2 rfl) ?_
  refine iv_idiv hx hb dX2_firstFaded_26 (by omega) ?_
  refine iv_iadd hx hb dX2_firstFaded_27 ?_
  refine lv_iconst (v := iI (1)) hx hb dX2_firstFaded_28 rfl ?_
  refine iv_iadd hx hb dX2_firstFaded_29 ?_
  exact Ct.iret hx hb hr hlocks (hP.sub [0, 1, 2, 3] rfl) (hD.sub [0, 1, 2, 3] (by decide) rfl) hS ⟨by decide, by decide⟩ dX2_firstFaded_30 ⟨rfl, rfl⟩
theorem kX2_latestOfAll_2 : ∀ w ∈ u_ws RX2 TX2 3, w ∈ wsX2_latestOfAll := fun _ h => List.mem_cons_of_mem _ (List.mem_append_right _ h)
abbrev q_X2_latestOfAll (g : GT) (me : Nat) (al : Nat) (ak : Nat) (ah : Nat) (lt : Nat → Int) (kn : Nat → Int) (hf : Nat → Int) : Option Value → va_W → Prop := fun v w => v = some (.int (iI (mxL lt 8))) ∧ w = [(me, .inr (2, [.ref al, .ref ak, .ref ah])), (al, aI (g.2.1 0) 8 lt), (ak, aI (g.2.1 1) 8 kn), (ah, aI (g.2.1 0) 8 hf)]
set_option maxHeartbeats 4000000 in
set_option maxRecDepth 100000 in
theorem c_X2_latestOfAll (l : Launch) (g : GT) (me : Nat) (al : Nat) (ak : Nat) (ah : Nat) (lt : Nat → Int) (kn : Nat → Int) (hf : Nat → Int) (hM : ∀ j, j < 8 → -1 ≤ lt j ∧ lt j ≤ 9999 ∧ (kn j = 0 ∨ kn j = 1) ∧ 1 ≤ hf j ∧ hf j ≤ 512) : Ct l g yX2_latestOfAll wsX2_latestOfAll ({ frames := 1, cells := 0, slots := 0, locals := 19 } : Room) [.ref me] [(me, .inr (2, [.ref al, .ref ak, .ref ah])), (al, aI (g.2.1 0) 8 lt), (ak, aI (g.2.1 1) 8 kn), (ah, aI (g.2.1 0) 8 hf)] (q_X2_latestOfAll g me al ak ah lt kn hf) := by
  refine Ct.intro (maxL := 3) (ret := (some .int)) (by decide) rfl (Nat.le_of_ble_eq_true rfl) ?_
  intro p e s m below meth c A ls hx hb hr hml hown hts hlocks hnm hA hG hP hD hS hl
  have hown : s.vm.findClass RX2 = some m.cls := hown
  have hl : lv_has ls 3 [(0, .ref me)] := hl
  have hP : va_P g.1 vwCl [(me, .inr (2, [.ref al, .ref ak, .ref ah])), (al, aI (g.2.1 0) 8 lt), (ak, aI (g.2.1 1) 8 kn), (ah, aI (g.2.1 0) 8 hf)] s.heap := hP
  have hS : va_S A s.heap s.heap [] := hS
  obtain ⟨H, hHe⟩ : ∃ H : Heap, H = s.heap := ⟨_, rfl⟩
  obtain ⟨locs, hLe⟩ : ∃ L : List Loc, L = [] := ⟨_, rfl⟩
  have hP : va_P g.1 vwCl [(me, .inr (2, [.ref al, .ref ak, .ref ah])), (al, aI (g.2.1 0) 8 lt), (ak, aI (g.2.1 1) 8 kn), (ah, aI (g.2.1 0) 8 hf)] H := by rw [hHe]; exact hP
  have hS : va_S A s.heap H locs := by rw [hHe, hLe]; exact hS
  suffices hgo : W p l e ({ frames := 1, cells := 0, slots := 0, locals := 19 } : Room) s m [.ref me].toArray below meth c H locs 0 0 (MQ below (CQ g (q_X2_latestOfAll g me al ak ah lt kn hf) A) [.ref me].toArray s ({ frames := 1, cells := 0, slots := 0, locals := 19 } : Room).cells ({ frames := 1, cells := 0, slots := 0, locals := 19 } : Room).slots A) (F0 m 0 ls []) by rw [hHe, hLe] at hgo; exact hgo
  clear hHe hLe
  refine lv_iconst (v := iI (-1)) hx hb dX2_latestOfAll_0 rfl ?_
  refine lv_istore_n (lv' := [(1, .int (iI (-1))), (0, .ref me)]) hx hb dX2_latestOfAll_1 rfl hl (by decide) rfl (fun ls hl => ?_)
  refine lv_iconst (v := iI (0)) hx hb dX2_latestOfAll_2 rfl ?_
  refine lv_istore_n (lv' := [(2, .int (iI 0)), (1, .int (iI (-1))), (0, .ref me)]) hx hb dX2_latestOfAll_3 rfl hl (by decide) rfl (fun ls hl => ?_)
  have hloop4 : ∀ (fuel : Nat) (mx : Int) (zj : Int) (j : Nat) (hc : zj = (j : Int) ∧ j ≤ 8 ∧ -1 ≤ mx ∧ mx ≤ 9999) (he : mx = mxL lt j) (hmeas : 8 - j < fuel), ∀ (H : Heap) (locs : List Loc) (ls : Array Slot), va_P g.1 vwCl [(me, .inr (2, [.ref al, .ref ak, .ref ah])), (al, aI (g.2.1 0) 8 lt), (ak, aI (g.2.1 1) 8 kn), (ah, aI (g.2.1 0) 8 hf)] H → va_D A [(me, .inr (2, [.ref al, .ref ak, .ref ah])), (al, aI (g.2.1 0) 8 lt), (ak, aI (g.2.1 1) 8 kn), (ah, aI (g.2.1 0) 8 hf)] → va_S A s.heap H locs → lv_has ls 3 [(2, .int (iI zj)), (1, .int (iI mx)), (0, .ref me)] → W p l e ({ frames := 1, cells := 0, slots := 0, locals := 19 } : Room) s m [.ref me].toArray below meth c H locs 0 0 (MQ below (CQ g (q_X2_latestOfAll g me al ak ah lt kn hf) A) [.ref me].toArray s ({ frames := 1, cells := 0, slots := 0, locals := 19 } : Room).cells ({ frames := 1, cells := 0, slots := 0, locals := 19 } : Room).slots A) (F0 m 4 ls []) := by
    intro fuel
    induction fuel with
    | zero => intro mx zj j hc he hmeas; exact absurd hmeas (Nat.not_lt_zero _)
    | succ fuel ih4 =>
      intro mx zj j hc he hmeas H locs ls hP hD hS hl
      refine lv_iload_n hx hb dX2_latestOfAll_4 rfl (lv_at hl 0 rfl) ?_
      refine lv_bipush (v := iI (8)) hx hb dX2_latestOfAll_5 (by decide) ?_
      refine iv_icmp_ge (tgt := 27) hx hb dX2_latestOfAll_7 (by decide) (by omega) (fun hc1 => ?_) (fun hc1 => ?_)
      · refine lv_iload_n hx hb dX2_latestOfAll_27 rfl (lv_at hl 1 rfl) ?_
        exact Ct.iret hx hb hr hlocks (hP.sub [0, 1, 2, 3] rfl) (hD.sub [0, 1, 2, 3] (by decide) rfl) hS ⟨by decide, by decide⟩ dX2_latestOfAll_28 ⟨(by rw [he, show j = 8 from by omega]), rfl⟩
      · have hq := hM j (by omega)
        refine lv_iload_n hx hb dX2_latestOfAll_10 rfl (lv_at hl 1 rfl) ?_
        refine lv_aload_n hx hb dX2_latestOfAll_11 rfl (lv_at hl 2 rfl) ?_
        refine va_get (D := g.1) (ci := 2) (v := .ref al) hx hb hts kX2_latestOfAll_2 hown hG.1 hP 0 rfl rfl 0 (by decide) (hts _ (List.mem_of_getElem? (i := 1) rfl)) (fun _ h9 => h9) rfl dX2_latestOfAll_12 ?_
        refine lv_iload_n hx hb dX2_latestOfAll_15 rfl (lv_at hl 0 rfl) ?_
        refine iv_iald hx hb hG hP 1 rfl j (by omega) (by omega) (by decide) dX2_latestOfAll_16 ?_
        refine iv_max hx hb (by rw [hml]; exact hl.1.symm) hown (hts _ (List.mem_of_getElem? (i := 2) rfl)) (hts _ (List.mem_of_getElem? (i := 3) rfl)) (hts _ (List.mem_of_getElem? (i := 4) rfl)) (hts _ (List.mem_of_getElem? (i := 5) rfl)) (Nat.le_of_ble_eq_true rfl) (Nat.le_of_ble_eq_true rfl) (Nat.le_of_ble_eq_true rfl) (Nat.le_of_ble_eq_true rfl) (by omega) dX2_latestOfAll_17 ?_
        refine lv_istore_n (lv' := [(1, .int (iI (max mx (lt j)))), (2, .int (iI zj)), (0, .ref me)]) hx hb dX2_latestOfAll_20 rfl hl (by decide) rfl (fun ls hl => ?_)
        refine iv_iinc (k := 1) (x := zj) (lv' := [(2, .int (iI (zj + 1))), (1, .int (iI (max mx (lt j)))), (0, .ref me)]) hx hb dX2_latestOfAll_21 hl rfl (by decide) rfl (fun ls hl => ?_)
        refine lv_goto (tgt := 4) hx hb dX2_latestOfAll_24 (by decide) ?_
        exact ih4 (max mx (lt j)) (zj + 1) (j + 1) (by omega) (by rw [he]; rfl) (by omega) H locs ls (hP.sub [0, 1, 2, 3] rfl) (hD.sub [0, 1, 2, 3] (by decide) rfl) hS (lv_sub hl [0, 1, 2] rfl)
  exact hloop4 _ (-1) 0 0 (by omega) (rfl) (Nat.lt_succ_self _) H locs ls (hP.sub [0, 1, 2, 3] rfl) (hD.sub [0, 1, 2, 3] (by decide) rfl) hS (lv_sub hl [0, 1, 2] rfl)
abbrev q_X2_heldOn (g : GT) (me : Nat) (al : Nat) (ak : Nat) (ah : Nat) (lt : Nat → Int) (kn : Nat → Int) (hf : Nat → Int) (day : Int) : Option Value → va_W → Prop := fun v w => v = some (.int (iI ((hdN (fun s => odF (kn s) (hf s) (lt s) day) 8 : Nat) : Int))) ∧ w = [(me, .inr (2, [.ref al, .ref ak, .ref ah])), (al, aI (g.2.1 0) 8 lt), (ak, aI (g.2.1 1) 8 kn), (ah, aI (g.2.1 0) 8 hf)]
set_option maxHeartbeats 4000000 in
set_option maxRecDepth 100000 in
theorem c_X2_heldOn (l : Launch) (g : GT) (me : Nat) (al : Nat) (ak : Nat) (ah : Nat) (lt : Nat → Int) (kn : Nat → Int) (hf : Nat → Int) (day : Int) (h1 : 0 ≤ day ∧ day ≤ 9999) (h2 : ∀ j, j < 8 → lt j ≤ day) (hM : ∀ j, j < 8 → -1 ≤ lt j ∧ lt j ≤ 9999 ∧ (kn j = 0 ∨ kn j = 1) ∧ 1 ≤ hf j ∧ hf j ≤ 512) : Ct l g yX2_heldOn wsX2_heldOn ({ frames := 1, cells := 0, slots := 0, locals := 23 } : Room) [.ref me, .int (iI day)] [(me, .inr (2, [.ref al, .ref ak, .ref ah])), (al, aI (g.2.1 0) 8 lt), (ak, aI (g.2.1 1) 8 kn), (ah, aI (g.2.1 0) 8 hf)] (q_X2_heldOn g me al ak ah lt kn hf day) := by
  refine Ct.intro (maxL := 4) (ret := (some .int)) (by decide) rfl (Nat.le_of_ble_eq_true rfl) ?_
  intro p e s m below meth c A ls hx hb hr hml hown hts hlocks hnm hA hG hP hD hS hl
  have hown : s.vm.findClass RX2 = some m.cls := hown
  have hl : lv_has ls 4 [(0, .ref me), (1, .int (iI day))] := hl
  have hP : va_P g.1 vwCl [(me, .inr (2, [.ref al, .ref ak, .ref ah])), (al, aI (g.2.1 0) 8 lt), (ak, aI (g.2.1 1) 8 kn), (ah, aI (g.2.1 0) 8 hf)] s.heap := hP
  have hS : va_S A s.heap s.heap [] := hS
  obtain ⟨H, hHe⟩ : ∃ H : Heap, H = s.heap := ⟨_, rfl⟩
  obtain ⟨locs, hLe⟩ : ∃ L : List Loc, L = [] := ⟨_, rfl⟩
  have hP : va_P g.1 vwCl [(me, .inr (2, [.ref al, .ref ak, .ref ah])), (al, aI (g.2.1 0) 8 lt), (ak, aI (g.2.1 1) 8 kn), (ah, aI (g.2.1 0) 8 hf)] H := by rw [hHe]; exact hP
  have hS : va_S A s.heap H locs := by rw [hHe, hLe]; exact hS
  suffices hgo : W p l e ({ frames := 1, cells := 0, slots := 0, locals := 23 } : Room) s m [.ref me, .int (iI day)].toArray below meth c H locs 0 0 (MQ below (CQ g (q_X2_heldOn g me al ak ah lt kn hf day) A) [.ref me, .int (iI day)].toArray s ({ frames := 1, cells := 0, slots := 0, locals := 23 } : Room).cells ({ frames := 1, cells := 0, slots := 0, locals := 23 } : Room).slots A) (F0 m 0 ls []) by rw [hHe, hLe] at hgo; exact hgo
  clear hHe hLe
  refine lv_iconst (v := iI (0)) hx hb dX2_heldOn_0 rfl ?_
  refine lv_istore_n (lv' := [(2, .int (iI 0)), (0, .ref me), (1, .int (iI day))]) hx hb dX2_heldOn_1 rfl hl (by decide) rfl (fun ls hl => ?_)
  refine lv_iconst (v := iI (0)) hx hb dX2_heldOn_2 rfl ?_
  refine lv_istore_n (lv' := [(3, .int (iI 0)), (2, .int (iI 0)), (0, .ref me), (1, .int (iI day))]) hx hb dX2_heldOn_3 rfl hl (by decide) rfl (fun ls hl => ?_)
  have hloop4 : ∀ (fuel : Nat) (bt : Int) (zj : Int) (j : Nat) (hc : zj = (j : Int) ∧ j ≤ 8) (he : bt = ((hdN (fun s => odF (kn s) (hf s) (lt s) day) j : Nat) : Int)) (hmeas : 8 - j < fuel), ∀ (H : Heap) (locs : List Loc) (ls : Array Slot), va_P g.1 vwCl [(me, .inr (2, [.ref al, .ref ak, .ref ah])), (al, aI (g.2.1 0) 8 lt), (ak, aI (g.2.1 1) 8 kn), (ah, aI (g.2.1 0) 8 hf)] H → va_D A [(me, .inr (2, [.ref al, .ref ak, .ref ah])), (al, aI (g.2.1 0) 8 lt), (ak, aI (g.2.1 1) 8 kn), (ah, aI (g.2.1 0) 8 hf)] → va_S A s.heap H locs → lv_has ls 4 [(3, .int (iI zj)), (2, .int (iI bt)), (0, .ref me), (1, .int (iI day))] → W p l e ({ frames := 1, cells := 0, slots := 0, locals := 23 } : Room) s m [.ref me, .int (iI day)].toArray below meth c H locs 0 0 (MQ below (CQ g (q_X2_heldOn g me al ak ah lt kn hf day) A) [.ref me, .int (iI day)].toArray s ({ frames := 1, cells := 0, slots := 0, locals := 23 } : Room).cells ({ frames := 1, cells := 0, slots := 0, locals := 23 } : Room).slots A) (F0 m 4 ls []) := by
    intro fuel
    induction fuel with
    | zero => intro bt zj j hc he hmeas; exact absurd hmeas (Nat.not_lt_zero _)
    | succ fuel ih4 =>
      intro bt zj j hc he hmeas H locs ls hP hD hS hl
      refine lv_iload_n hx hb dX2_heldOn_4 rfl (lv_at hl 0 rfl) ?_
      refine lv_bipush (v := iI (8)) hx hb dX2_heldOn_5 (by decide) ?_
      refine iv_icmp_ge (tgt := 34) hx hb dX2_heldOn_7 (by decide) (by omega) (fun hc1 => ?_) (fun hc1 => ?_)
      · refine lv_iload_n hx hb dX2_heldOn_34 rfl (lv_at hl 1 rfl) ?_
        exact Ct.iret hx hb hr hlocks (hP.sub [0, 1, 2, 3] rfl) (hD.sub [0, 1, 2, 3] (by decide) rfl) hS ⟨by decide, by decide⟩ dX2_heldOn_35 ⟨(by rw [he, show j = 8 from by omega]), rfl⟩
      · have hq := hM j (by omega)
        have hq2 := h2 j (by omega)
        have hor := odF_rng (kn := kn j) (hf := hf j) (lt := lt j) (day := day) (by omega)
        refine lv_aload_n hx hb dX2_heldOn_10 rfl (lv_at hl 2 rfl) ?_
        refine lv_iload_n hx hb dX2_heldOn_11 rfl (lv_at hl 0 rfl) ?_
        refine lv_iload_n hx hb dX2_heldOn_12 rfl (lv_at hl 3 rfl) ?_
        refine Ct.callV (ci := 2) (q0 := 0) (qc := (RX2, TX2, 3)) (As := [.int (iI zj), .int (iI day)]) (rest := []) (wr := []) (c1 := 0) (s1 := 0) ⟨hx, hb, hml, hown, hts⟩ (c_X2_oddsOn l g me al ak ah lt kn hf zj day j (by omega) (hM)) rfl rfl (cwV 2 hts gX2_heldOn_X2_oddsOn rfl rfl rfl (by decide +kernel) ⟨Nat.le_of_ble_eq_true rfl, Nat.le_of_ble_eq_true rfl⟩) hG hP hD hS hA [0, 1, 2, 3] [] rfl rfl (by decide) (by decide) (by decide) rfl hl.1 rfl (Nat.le_of_ble_eq_true rfl) dX2_heldOn_13 ⟨Nat.le_of_ble_eq_true rfl, Nat.le_of_ble_eq_true rfl⟩ rfl rfl (fun v w H locs hv hP hD hS => ?_)
        obtain ⟨r2, rfl, rfl, hf3⟩ := hv
        show W p l e _ s m _ below meth c H locs 0 0 _ (F0 m 16 ls (.int (iI r2) :: []))
        have hP : va_P g.1 vwCl [(me, .inr (2, [.ref al, .ref ak, .ref ah])), (al, aI (g.2.1 0) 8 lt), (ak, aI (g.2.1 1) 8 kn), (ah, aI (g.2.1 0) 8 hf)] H := hP
        have hD : va_D A [(me, .inr (2, [.ref al, .ref ak, .ref ah])), (al, aI (g.2.1 0) 8 lt), (ak, aI (g.2.1 1) 8 kn), (ah, aI (g.2.1 0) 8 hf)] := hD
        have hf3 : r2 = odF (kn j) (hf j) (lt j) day := hf3
        refine lv_sipush (v := iI (500)) hx hb dX2_heldOn_16 (by decide) ?_
        refine iv_icmp_lt (tgt := 28) hx hb dX2_heldOn_19 (by decide) (by omega) (fun hc4 => ?_) (fun hc4 => ?_)
        · refine iv_iinc (k := 0) (x := zj) (lv' := [(3, .int (iI (zj + 1))), (2, .int (iI bt)), (0, .ref me), (1, .int (iI day))]) hx hb dX2_heldOn_28 hl rfl (by decide) rfl (fun ls hl => ?_)
          refine lv_goto (tgt := 4) hx hb dX2_heldOn_31 (by decide) ?_
          exact ih4 bt (zj + 1) (j + 1) (by omega) (by simp only [hdN]; first | rw [if_pos (show 500 ≤ odF (kn j) (hf j) (lt j) day by omega)] | (rw [if_neg (show ¬ 500 ≤ odF (kn j) (hf j) (lt j) day by omega)]; exact he)) (by omega) H locs ls (hP.sub [0, 1, 2, 3] rfl) (hD.sub [0, 1, 2, 3] (by decide) rfl) hS (lv_sub hl [0, 1, 2, 3] rfl)
        · refine lv_iload_n hx hb dX2_heldOn_22 rfl (lv_at hl 1 rfl) ?_
          refine lv_iconst (v := iI (1)) hx hb dX2_heldOn_23 rfl ?_
          refine lv_iload_n hx hb dX2_heldOn_24 rfl (lv_at hl 0 rfl) ?_
          refine iv_ishl1 hx hb j dX2_heldOn_25 (by omega) ?_
          refine iv_ior (z := ((hdN (fun s => odF (kn s) (hf s) (lt s) day) j ||| 2 ^ j : Nat) : Int)) hx hb dX2_heldOn_26 (by rw [he, show (2 : Int) ^ j = ((2 ^ j : Nat) : Int) from by simp]; exact iI_orN _ _) ?_
          refine lv_istore_n (lv' := [(2, .int (iI ((hdN (fun s => odF (kn s) (hf s) (lt s) day) j ||| 2 ^ j : Nat) : Int))), (3, .int (iI zj)), (0, .ref me), (1, .int (iI day))]) hx hb dX2_heldOn_27 rfl hl (by decide) rfl (fun ls hl => ?_)
          refine iv_iinc (k := 1) (x := zj) (lv' := [(3, .int (iI (zj + 1))), (2, .int (iI ((hdN (fun s => odF (kn s) (hf s) (lt s) day) j ||| 2 ^ j : Nat) : Int))), (0, .ref me), (1, .int (iI day))]) hx hb dX2_heldOn_28 hl rfl (by decide) rfl (fun ls hl => ?_)
          refine lv_goto (tgt := 4) hx hb dX2_heldOn_31 (by decide) ?_
          exact ih4 ((hdN (fun s => odF (kn s) (hf s) (lt s) day) j ||| 2 ^ j : Nat) : Int) (zj + 1) (j + 1) (by omega) (by simp only [hdN]; first | rw [if_pos (show 500 ≤ odF (kn j) (hf j) (lt j) day by omega)] | (rw [if_neg (show ¬ 500 ≤ odF (kn j) (hf j) (lt j) day by omega)]; exact he)) (by omega) H locs ls (hP.sub [0, 1, 2, 3] rfl) (hD.sub [0, 1, 2, 3] (by decide) rfl) hS (lv_sub hl [0, 1, 2, 3] rfl)
  exact hloop4 _ 0 0 0 (by omega) (rfl) (Nat.lt_succ_self _) H locs ls (hP.sub [0, 1, 2, 3] rfl) (hD.sub [0, 1, 2, 3] (by decide) rfl) hS (lv_sub hl [0, 1, 2, 3] rfl)
