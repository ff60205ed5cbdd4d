theorem kX3_clear_3 : ∀ w ∈ u_ws RX3 TX3 3, w ∈ wsX3_clear := fun _ h => List.mem_cons_of_mem _ (List.mem_append_right _ h)
abbrev q_X3_clear (g : GT) (od : Nat) (oc : Nat) (fu : Int) (fo : Nat → Int) (kz : Int) : Option Value → va_W → Prop := fun v w => v = none ∧ w = [(od, .inr (3, [.int (iI fu), .ref oc, .int (iI 0)])), (oc, aI (g.2.1 0) 480 fo)]
set_option maxHeartbeats 4000000 in
set_option maxRecDepth 100000 in
theorem c_X3_clear (l : Launch) (g : GT) (od : Nat) (oc : Nat) (fu : Int) (fo : Nat → Int) (kz : Int) : Ct l g yX3_clear wsX3_clear ({ frames := 0, cells := 0, slots := 0, locals := 0 } : Room) [.ref od] [(od, .inr (3, [.int (iI fu), .ref oc, .int (iI kz)])), (oc, aI (g.2.1 0) 480 fo)] (q_X3_clear g od oc fu fo kz) := by
  refine Ct.intro (maxL := 1) (ret := none) (by decide) rfl (Nat.le_of_ble_eq_true rfl) ?_
  intro p e s m below meth c A ls hx hb hr hml hown hts hlocks hnm hA hG hP hD hS hl
  have hown : s.vm.findClass RX3 = some m.cls := hown
  have hl : lv_has ls 1 [(0, .ref od)] := hl
  have hP : va_P g.1 vwCl [(od, .inr (3, [.int (iI fu), .ref oc, .int (iI kz)])), (oc, aI (g.2.1 0) 480 fo)] s.heap := hP
  have hS : va_S A s.heap s.heap [] := hS
  obtain ⟨H, hHe⟩ : ∃ H : Heap, H = s.heap := ⟨_, rfl⟩
  obtain ⟨locs, hLe⟩ : ∃ L : List Loc, L = [] := ⟨_, rfl⟩
  have hP : va_P g.1 vwCl [(od, .inr (3, [.int (iI fu), .ref oc, .int (iI kz)])), (oc, aI (g.2.1 0) 480 fo)] H := by rw [hHe]; exact hP
  have hS : va_S A s.heap H locs := by rw [hHe, hLe]; exact hS
  suffices hgo : W p l e ({ frames := 0, cells := 0, slots := 0, locals := 0 } : Room) s m [.ref od].toArray below meth c H locs 0 0 (MQ below (CQ g (q_X3_clear g od oc fu fo kz) A) [.ref od].toArray s ({ frames := 0, cells := 0, slots := 0, locals := 0 } : Room).cells ({ frames := 0, cells := 0, slots := 0, locals := 0 } : Room).slots A) (F0 m 0 ls []) by rw [hHe, hLe] at hgo; exact hgo
  clear hHe hLe
  refine lv_aload_n hx hb dX3_clear_0 rfl (lv_at hl 0 rfl) ?_
  refine lv_iconst (v := iI (0)) hx hb dX3_clear_1 rfl ?_
  refine va_put (D := g.1) (ci := 3) (v := .int (iI 0)) hx hb hts kX3_clear_3 tyX3 tyX3_ok nmX3 hown hG.1 hP hD hS 0 rfl rfl 2 (by decide) (hts _ (List.mem_of_getElem? (i := 1) rfl)) (fun _ h9 => h9) rfl (tyX3_ok 2 (by decide)) rfl rfl (Nat.le_of_ble_eq_true rfl) dX3_clear_2 (fun H locs hP hD hS => ?_)
  have hP : va_P g.1 vwCl [(od, .inr (3, [.int (iI fu), .ref oc, .int (iI 0)])), (oc, aI (g.2.1 0) 480 fo)] H := hP
  have hD : va_D A [(od, .inr (3, [.int (iI fu), .ref oc, .int (iI 0)])), (oc, aI (g.2.1 0) 480 fo)] := hD
  exact Ct.vret hx hb hr hlocks (hP.sub [0, 1] rfl) (hD.sub [0, 1] (by decide) rfl) hS ⟨by decide, by decide⟩ dX3_clear_5 ⟨rfl, rfl⟩
theorem kX3_add_3 : ∀ w ∈ u_ws RX3 TX3 3, w ∈ wsX3_add := fun _ h => List.mem_cons_of_mem _ (List.mem_append_right _ h)
abbrev q_X3_add (g : GT) (od : Nat) (oc : Nat) (fu : Int) (fo : Nat → Int) (kz : Int) (C : Int) (K : Nat) : Option Value → va_W → Prop := fun v w => v = none ∧ w = [(od, .inr (3, [.int (iI fu), .ref oc, .int (iI (kz + 1))])), (oc, aI (g.2.1 0) 480 (va_up fo K C))]
set_option maxHeartbeats 4000000 in
set_option maxRecDepth 100000 in
theorem c_X3_add (l : Launch) (g : GT) (od : Nat) (oc : Nat) (fu : Int) (fo : Nat → Int) (kz : Int) (C : Int) (K : Nat) (h1 : kz = (K : Int) ∧ K < 480) : Ct l g yX3_add wsX3_add ({ frames := 0, cells := 0, slots := 0, locals := 0 } : Room) [.ref od, .int (iI C)] [(od, .inr (3, [.int (iI fu), .ref oc, .int (iI kz)])), (oc, aI (g.2.1 0) 480 fo)] (q_X3_add g od oc fu fo kz C K) := by
  refine Ct.intro (maxL := 2) (ret := none) (by decide) rfl (Nat.le_of_ble_eq_true rfl) ?_
  intro p e s m below meth c A ls hx hb hr hml hown hts hlocks hnm hA hG hP hD hS hl
  have hown : s.vm.findClass RX3 = some m.cls := hown
  have hl : lv_has ls 2 [(0, .ref od), (1, .int (iI C))] := hl
  have hP : va_P g.1 vwCl [(od, .inr (3, [.int (iI fu), .ref oc, .int (iI kz)])), (oc, aI (g.2.1 0) 480 fo)] s.heap := hP
  have hS : va_S A s.heap s.heap [] := hS
  obtain ⟨H, hHe⟩ : ∃ H : Heap, H = s.heap := ⟨_, rfl⟩
  obtain ⟨locs, hLe⟩ : ∃ L : List Loc, L = [] := ⟨_, rfl⟩
  have hP : va_P g.1 vwCl [(od, .inr (3, [.int (iI fu), .ref oc, .int (iI kz)])), (oc, aI (g.2.1 0) 480 fo)] H := by rw [hHe]; exact hP
  have hS : va_S A s.heap H locs := by rw [hHe, hLe]; exact hS
  suffices hgo : W p l e ({ frames := 0, cells := 0, slots := 0, locals := 0 } : Room) s m [.ref od, .int (iI C)].toArray below meth c H locs 0 0 (MQ below (CQ g (q_X3_add g od oc fu fo kz C K) A) [.ref od, .int (iI C)].toArray s ({ frames := 0, cells := 0, slots := 0, locals := 0 } : Room).cells ({ frames := 0, cells := 0, slots := 0, locals := 0 } : Room).slots A) (F0 m 0 ls []) by rw [hHe, hLe] at hgo; exact hgo
  clear hHe hLe
  refine lv_aload_n hx hb dX3_add_0 rfl (lv_at hl 0 rfl) ?_
  refine va_get (D := g.1) (ci := 3) (v := .int (iI kz)) hx hb hts kX3_add_3 hown hG.1 hP 0 rfl rfl 2 (by decide) (hts _ (List.mem_of_getElem? (i := 1) rfl)) (fun _ h9 => h9) rfl dX3_add_1 ?_
  refine lv_aload_n hx hb dX3_add_4 rfl (lv_at hl 0 rfl) ?_
  refine va_get (D := g.1) (ci := 3) (v := .ref oc) hx hb hts kX3_add_3 hown hG.1 hP 0 rfl rfl 1 (by decide) (hts _ (List.mem_of_getElem? (i := 2) rfl)) (fun _ h9 => h9) rfl dX3_add_5 ?_
  refine iv_alen hx hb hG hP 1 0 rfl rfl dX3_add_8 ?_
  refine iv_as 480 rfl ?_
  refine iv_icmp_ge (tgt := 32) hx hb dX3_add_9 (by decide) (by omega) (fun hc1 => absurd hc1 (by omega)) (fun hc1 => ?_)
  refine lv_aload_n hx hb dX3_add_12 rfl (lv_at hl 0 rfl) ?_
  refine va_get (D := g.1) (ci := 3) (v := .ref oc) hx hb hts kX3_add_3 hown hG.1 hP 0 rfl rfl 1 (by decide) (hts _ (List.mem_of_getElem? (i := 2) rfl)) (fun _ h9 => h9) rfl dX3_add_13 ?_
  refine lv_aload_n hx hb dX3_add_16 rfl (lv_at hl 0 rfl) ?_
  refine va_get (D := g.1) (ci := 3) (v := .int (iI kz)) hx hb hts kX3_add_3 hown hG.1 hP 0 rfl rfl 2 (by decide) (hts _ (List.mem_of_getElem? (i := 1) rfl)) (fun _ h9 => h9) rfl dX3_add_17 ?_
  refine lv_iload_n hx hb dX3_add_20 rfl (lv_at hl 1 rfl) ?_
  refine iv_iast hx hb hG hP hD hS 1 rfl K (by omega) (by omega) (by decide) dX3_add_21 (fun H locs hP hD hS => ?_)
  have hP : va_P g.1 vwCl [(od, .inr (3, [.int (iI fu), .ref oc, .int (iI kz)])), (oc, aI (g.2.1 0) 480 (va_up fo K C))] H := hP
  have hD : va_D A [(od, .inr (3, [.int (iI fu), .ref oc, .int (iI kz)])), (oc, aI (g.2.1 0) 480 (va_up fo K C))] := hD
  refine lv_aload_n hx hb dX3_add_22 rfl (lv_at hl 0 rfl) ?_
  refine lv_dup hx hb dX3_add_23 rfl ?_
  refine va_get (D := g.1) (ci := 3) (v := .int (iI kz)) hx hb hts kX3_add_3 hown hG.1 hP 0 rfl rfl 2 (by decide) (hts _ (List.mem_of_getElem? (i := 1) rfl)) (fun _ h9 => h9) rfl dX3_add_24 ?_
  refine lv_iconst (v := iI (1)) hx hb dX3_add_27 rfl ?_
  refine iv_iadd hx hb dX3_add_28 ?_
  refine va_put (D := g.1) (ci := 3) (v := .int (iI (kz + 1))) hx hb hts kX3_add_3 tyX3 tyX3_ok nmX3 hown hG.1 hP hD hS 0 rfl rfl 2 (by decide) (hts _ (List.mem_of_getElem? (i := 1) rfl)) (fun _ h9 => h9) rfl (tyX3_ok 2 (by decide)) rfl rfl (Nat.le_of_ble_eq_true rfl) dX3_add_29 (fun H locs hP hD hS => ?_)
  have hP : va_P g.1 vwCl [(od, .inr (3, [.int (iI fu), .ref oc, .int (iI (kz + 1))])), (oc, aI (g.2.1 0) 480 (va_up fo K C))] H := hP
  have hD : va_D A [(od, .inr (3, [.int (iI fu), .ref oc, .int (iI (kz + 1))])), (oc, aI (g.2.1 0) 480 (va_up fo K C))] := hD
  exact Ct.vret hx hb hr hlocks (hP.sub [0, 1] rfl) (hD.sub [0, 1] (by decide) rfl) hS ⟨by decide, by decide⟩ dX3_add_32 ⟨rfl, rfl⟩
theorem kX3_mostGiven_3 : ∀ w ∈ u_ws RX3 TX3 3, w ∈ wsX3_mostGiven := fun _ h => List.mem_cons_of_mem _ (List.mem_append_right _ h)
abbrev q_X3_mostGiven (g : GT) (od : Nat) (oc : Nat) (fu : Int) (fo : Nat → Int) (kz : Int) (K : Nat) : Option Value → va_W → Prop := fun v w => ∃ (r : Int), ∃ (fu' : Int), v = some (.int (iI r)) ∧ w = [(od, .inr (3, [.int (iI fu'), .ref oc, .int (iI kz)])), (oc, aI (g.2.1 0) 480 fo)] ∧ (r = (mgF fo K K 0 (0, fu)).1) ∧ (fu' = (mgF fo K K 0 (0, fu)).2)
set_option maxHeartbeats 4000000 in
set_option maxRecDepth 100000 in
theorem c_X3_mostGiven (l : Launch) (g : GT) (od : Nat) (oc : Nat) (fu : Int) (fo : Nat → Int) (kz : Int) (K : Nat) (h1 : kz = (K : Int) ∧ K ≤ 480 ∧ 0 ≤ fu ∧ fu < 1000000000) (h2 : ∀ j, j < K → 0 ≤ fo j ∧ fo j < 1000000000) : Ct l g yX3_mostGiven wsX3_mostGiven ({ frames := 0, cells := 0, slots := 0, locals := 0 } : Room) [.ref od] [(od, .inr (3, [.int (iI fu), .ref oc, .int (iI kz)])), (oc, aI (g.2.1 0) 480 fo)] (q_X3_mostGiven g od oc fu fo kz K) := by
  refine Ct.intro (maxL := 5) (ret := (some .int)) (by decide) rfl (Nat.le_of_ble_eq_true rfl) ?_
  intro p e s m below meth c A ls hx hb hr hml hown hts hlocks hnm hA hG hP hD hS hl
  have hown : s.vm.findClass RX3 = some m.cls := hown
  have hl : lv_has ls 5 [(0, .ref od)] := hl
  have hP : va_P g.1 vwCl [(od, .inr (3, [.int (iI fu), .ref oc, .int (iI kz)])), (oc, aI (g.2.1 0) 480 fo)] s.heap := hP
  have hS : va_S A s.heap s.heap [] := hS
  obtain ⟨H, hHe⟩ : ∃ H : Heap, H = s.heap := ⟨_, rfl⟩
  obtain ⟨locs, hLe⟩ : ∃ L : List Loc, L = [] := ⟨_, rfl⟩
  have hP : va_P g.1 vwCl [(od, .inr (3, [.int (iI fu), .ref oc, .int (iI kz)])), (oc, aI (g.2.1 0) 480 fo)] H := by rw [hHe]; exact hP
  have hS : va_S A s.heap H locs := by rw [hHe, hLe]; exact hS
  suffices hgo : W p l e ({ frames := 0, cells := 0, slots := 0, locals := 0 } : Room) s m [.ref od].toArray below meth c H locs 0 0 (MQ below (CQ g (q_X3_mostGiven g od oc fu fo kz K) A) [.ref od].toArray s ({ frames := 0, cells := 0, slots := 0, locals := 0 } : Room).cells ({ frames := 0, cells := 0, slots := 0, locals := 0 } : Room).slots A) (F0 m 0 ls []) by rw [hHe, hLe] at hgo; exact hgo
  clear hHe hLe
  refine lv_iconst (v := iI (0)) hx hb dX3_mostGiven_0 rfl ?_
  refine lv_istore_n (lv' := [(1, .int (iI 0)), (0, .ref od)]) hx hb dX3_mostGiven_1 rfl hl (by decide) rfl (fun ls hl => ?_)
  refine lv_iconst (v := iI (0)) hx hb dX3_mostGiven_2 rfl ?_
  refine lv_istore_n (lv' := [(2, .int (iI 0)), (1, .int (iI 0)), (0, .ref od)]) hx hb dX3_mostGiven_3 rfl hl (by decide) rfl (fun ls hl => ?_)
  have hloop4 : ∀ (fuel : Nat) (ms : Int) (zk : Int) (fz : Int) (k9 : Nat) (hc : zk = (k9 : Int) ∧ k9 ≤ K ∧ 0 ≤ ms ∧ ms ≤ 480 ∧ 0 ≤ fz ∧ fz < 1000000000) (he : mgF fo K (K - k9) k9 (ms, fz) = mgF fo K K 0 (0, fu)) (hmeas : K - k9 < fuel), ∀ (H : Heap) (locs : List Loc) (ls : Array Slot), va_P g.1 vwCl [(od, .inr (3, [.int (iI fz), .ref oc, .int (iI kz)])), (oc, aI (g.2.1 0) 480 fo)] H → va_D A [(od, .inr (3, [.int (iI fz), .ref oc, .int (iI kz)])), (oc, aI (g.2.1 0) 480 fo)] → va_S A s.heap H locs → lv_has ls 5 [(2, .int (iI zk)), (1, .int (iI ms)), (0, .ref od)] → W p l e ({ frames := 0, cells := 0, slots := 0, locals := 0 } : Room) s m [.ref od].toArray below meth c H locs 0 0 (MQ below (CQ g (q_X3_mostGiven g od oc fu fo kz K) A) [.ref od].toArray s ({ frames := 0, cells := 0, slots := 0, locals := 0 } : Room).cells ({ frames := 0, cells := 0, slots := 0, locals := 0 } : Room).slots A) (F0 m 4 ls []) := by
    intro fuel
    induction fuel with
    | zero => intro ms zk fz k9 hc he hmeas; exact absurd hmeas (Nat.not_lt_zero _)
    | succ fuel ih4 =>
      intro ms zk fz k9 hc he hmeas H locs ls hP hD hS hl
      refine lv_iload_n hx hb dX3_mostGiven_4 rfl (lv_at hl 0 rfl) ?_
      refine lv_aload_n hx hb dX3_mostGiven_5 rfl (lv_at hl 2 rfl) ?_
      refine va_get (D := g.1) (ci := 3) (v := .int (iI kz)) hx hb hts kX3_mostGiven_3 hown hG.1 hP 0 rfl rfl 2 (by decide) (hts _ (List.mem_of_getElem? (i := 1) rfl)) (fun _ h9 => h9) rfl dX3_mostGiven_6 ?_
      refine iv_icmp_ge (tgt := 92) hx hb dX3_mostGiven_9 (by decide) (by omega) (fun hc1 => ?_) (fun hc1 => ?_)
      · refine lv_iload_n hx hb dX3_mostGiven_92 rfl (lv_at hl 1 rfl) ?_
        exact Ct.iret hx hb hr hlocks (hP.sub [0, 1] rfl) (hD.sub [0, 1] (by decide) rfl) hS ⟨by decide, by decide⟩ dX3_mostGiven_93 ⟨ms, fz, rfl, rfl, (by rw [← he, show K - k9 = 0 from by omega]; rfl), (by rw [← he, show K - k9 = 0 from by omega]; rfl)⟩
      · have hq := h2 k9 (by omega)
        refine lv_iconst (v := iI (0)) hx hb dX3_mostGiven_12 rfl ?_
        refine lv_istore_n (lv' := [(3, .int (iI 0)), (2, .int (iI zk)), (1, .int (iI ms)), (0, .ref od)]) hx hb dX3_mostGiven_13 rfl hl (by decide) rfl (fun ls hl => ?_)
        refine lv_iconst (v := iI (0)) hx hb dX3_mostGiven_14 rfl ?_
        refine lv_istore (lv' := [(4, .int (iI 0)), (3, .int (iI 0)), (2, .int (iI zk)), (1, .int (iI ms)), (0, .ref od)]) hx hb dX3_mostGiven_15 hl (by decide) rfl (fun ls hl => ?_)
        have hloop17 : ∀ (fuel : Nat) (al : Int) (zj : Int) (j : Nat) (hj : zj = (j : Int) ∧ j ≤ K) (ha : al = cqF fo (fo k9) j) (hmeas : K - j < fuel), ∀ (H : Heap) (locs : List Loc) (ls : Array Slot), va_P g.1 vwCl [(od, .inr (3, [.int (iI fz), .ref oc, .int (iI kz)])), (oc, aI (g.2.1 0) 480 fo)] H → va_D A [(od, .inr (3, [.int (iI fz), .ref oc, .int (iI kz)])), (oc, aI (g.2.1 0) 480 fo)] → va_S A s.heap H locs → lv_has ls 5 [(4, .int (iI zj)), (3, .int (iI al)), (2, .int (iI zk)), (1, .int (iI ms)), (0, .ref od)] → W p l e ({ frames := 0, cells := 0, slots := 0, locals := 0 } : Room) s m [.ref od].toArray below meth c H locs 0 0 (MQ below (CQ g (q_X3_mostGiven g od oc fu fo kz K) A) [.ref od].toArray s ({ frames := 0, cells := 0, slots := 0, locals := 0 } : Room).cells ({ frames := 0, cells := 0, slots := 0, locals := 0 } : Room).slots A) (F0 m 17 ls []) := by
          intro fuel
          induction fuel with
          | zero => intro al zj j hj ha hmeas; exact absurd hmeas (Nat.not_lt_zero _)
          | succ fuel ih17 =>
            intro al zj j hj ha hmeas H locs ls hP hD hS hl
            refine lv_iload hx hb dX3_mostGiven_17 (lv_at hl 0 rfl) ?_
            refine lv_aload_n hx hb dX3_mostGiven_19 rfl (lv_at hl 4 rfl) ?_
            refine va_get (D := g.1) (ci := 3) (v := .int (iI kz)) hx hb hts kX3_mostGiven_3 hown hG.1 hP 0 rfl rfl 2 (by decide) (hts _ (List.mem_of_getElem? (i := 1) rfl)) (fun _ h9 => h9) rfl dX3_mostGiven_20 ?_
            refine iv_icmp_ge (tgt := 51) hx hb dX3_mostGiven_23 (by decide) (by omega) (fun hc2 => ?_) (fun hc2 => ?_)
            · have hal : al = cqF fo (fo k9) K := by rw [ha, show j = K from by omega]
              have hcr := cqF_rng fo (fo k9) K
              refine lv_iload_n hx hb dX3_mostGiven_51 rfl (lv_at hl 1 rfl) ?_
              refine lv_iload_n hx hb dX3_mostGiven_52 rfl (lv_at hl 3 rfl) ?_
              refine iv_icmp_gt (tgt := 74) hx hb dX3_mostGiven_53 (by decide) (by omega) (fun hc3 => ?_) (fun hc3 => ?_)
              · refine lv_iload_n hx hb dX3_mostGiven_74 rfl (lv_at hl 1 rfl) ?_
                refine lv_istore_n (lv' := [(1, .int (iI al)), (4, .int (iI zj)), (3, .int (iI al)), (2, .int (iI zk)), (0, .ref od)]) hx hb dX3_mostGiven_75 rfl hl (by decide) rfl (fun ls hl => ?_)
                refine lv_aload_n hx hb dX3_mostGiven_76 rfl (lv_at hl 4 rfl) ?_
                refine lv_aload_n hx hb dX3_mostGiven_77 rfl (lv_at hl 4 rfl) ?_
                refine va_get (D := g.1) (ci := 3) (v := .ref oc) hx hb hts kX3_mostGiven_3 hown hG.1 hP 0 rfl rfl 1 (by decide) (hts _ (List.mem_of_getElem? (i := 2) rfl)) (fun _ h9 => h9) rfl dX3_mostGiven_78 ?_
                refine lv_iload_n hx hb dX3_mostGiven_81 rfl (lv_at hl 3 rfl) ?_
                refine iv_iald hx hb hG hP 1 rfl k9 (by omega) (by omega) (by decide) dX3_mostGiven_82 ?_
                refine va_put (D := g.1) (ci := 3) (v := .int (iI (fo k9))) hx hb hts kX3_mostGiven_3 tyX3 tyX3_ok nmX3 hown hG.1 hP hD hS 0 rfl rfl 0 (by decide) (hts _ (List.mem_of_getElem? (i := 3) rfl)) (fun _ h9 => h9) rfl (tyX3_ok 0 (by decide)) rfl rfl (Nat.le_of_ble_eq_true rfl) dX3_mostGiven_83 (fun H locs hP hD hS => ?_)
                have hP : va_P g.1 vwCl [(od, .inr (3, [.int (iI (fo k9)), .ref oc, .int (iI kz)])), (oc, aI (g.2.1 0) 480 fo)] H := hP
                have hD : va_D A [(od, .inr (3, [.int (iI (fo k9)), .ref oc, .int (iI kz)])), (oc, aI (g.2.1 0) 480 fo)] := hD
                refine iv_iinc (k := 3) (x := zk) (lv' := [(2, .int (iI (zk + 1))), (1, .int (iI al)), (4, .int (iI zj)), (3, .int (iI al)), (0, .ref od)]) hx hb dX3_mostGiven_86 hl rfl (by decide) rfl (fun ls hl => ?_)
                refine lv_goto (tgt := 4) hx hb dX3_mostGiven_89 (by decide) ?_
                exact ih4 al (zk + 1) (fo k9) (k9 + 1) (by omega) (by rw [← he, show K - k9 = (K - (k9 + 1)) + 1 from by omega]; simp only [mgF]; first | (rw [if_pos (by show bigP fo K (ms, fz) k9; unfold bigP; simp only []; omega), hal]) | (rw [if_neg (by show ¬ bigP fo K (ms, fz) k9; unfold bigP; simp only []; omega)])) (by omega) H locs ls (hP.sub [0, 1] rfl) (hD.sub [0, 1] (by decide) rfl) hS (lv_sub hl [0, 1, 4] rfl)
              · refine lv_iload_n hx hb dX3_mostGiven_56 rfl (lv_at hl 1 rfl) ?_
                refine lv_iload_n hx hb dX3_mostGiven_57 rfl (lv_at hl 3 rfl) ?_
                refine iv_icmp_ne (tgt := 86) hx hb dX3_mostGiven_58 (by decide) (by omega) (fun hc4 => ?_) (fun hc4 => ?_)
                · refine iv_iinc (k := 2) (x := zk) (lv' := [(2, .int (iI (zk + 1))), (4, .int (iI zj)), (3, .int (iI al)), (1, .int (iI ms)), (0, .ref od)]) hx hb dX3_mostGiven_86 hl rfl (by decide) rfl (fun ls hl => ?_)
                  refine lv_goto (tgt := 4) hx hb dX3_mostGiven_89 (by decide) ?_
                  exact ih4 ms (zk + 1) fz (k9 + 1) (by omega) (by rw [← he, show K - k9 = (K - (k9 + 1)) + 1 from by omega]; simp only [mgF]; first | (rw [if_pos (by show bigP fo K (ms, fz) k9; unfold bigP; simp only []; omega), hal]) | (rw [if_neg (by show ¬ bigP fo K (ms, fz) k9; unfold bigP; simp only []; omega)])) (by omega) H locs ls (hP.sub [0, 1] rfl) (hD.sub [0, 1] (by decide) rfl) hS (lv_sub hl [0, 3, 4] rfl)
                · refine lv_aload_n hx hb dX3_mostGiven_61 rfl (lv_at hl 4 rfl) ?_
                  refine va_get (D := g.1) (ci := 3) (v := .ref oc) hx hb hts kX3_mostGiven_3 hown hG.1 hP 0 rfl rfl 1 (by decide) (hts _ (List.mem_of_getElem? (i := 2) rfl)) (fun _ h9 => h9) rfl dX3_mostGiven_62 ?_
                  refine lv_iload_n hx hb dX3_mostGiven_65 rfl (lv_at hl 2 rfl) ?_
                  refine iv_iald hx hb hG hP 1 rfl k9 (by omega) (by omega) (by decide) dX3_mostGiven_66 ?_
                  refine lv_aload_n hx hb dX3_mostGiven_67 rfl (lv_at hl 4 rfl) ?_
                  refine va_get (D := g.1) (ci := 3) (v := .int (iI fz)) hx hb hts kX3_mostGiven_3 hown hG.1 hP 0 rfl rfl 0 (by decide) (hts _ (List.mem_of_getElem? (i := 3) rfl)) (fun _ h9 => h9) rfl dX3_mostGiven_68 ?_
                  refine iv_icmp_ge (tgt := 86) hx hb dX3_mostGiven_71 (by decide) (by omega) (fun hc5 => ?_) (fun hc5 => ?_)
                  · refine iv_iinc (k := 2) (x := zk) (lv' := [(2, .int (iI (zk + 1))), (4, .int (iI zj)), (3, .int (iI al)), (1, .int (iI ms)), (0, .ref od)]) hx hb dX3_mostGiven_86 hl rfl (by decide) rfl (fun ls hl => ?_)
                    refine lv_goto (tgt := 4) hx hb dX3_mostGiven_89 (by decide) ?_
                    exact ih4 ms (zk + 1) fz (k9 + 1) (by omega) (by rw [← he, show K - k9 = (K - (k9 + 1)) + 1 from by omega]; simp only [mgF]; first | (rw [if_pos (by show bigP fo K (ms, fz) k9; unfold bigP; simp only []; omega), hal]) | (rw [if_neg (by show ¬ bigP fo K (ms, fz) k9; unfold bigP; simp only []; omega)])) (by omega) H locs ls (hP.sub [0, 1] rfl) (hD.sub [0, 1] (by decide) rfl) hS (lv_sub hl [0, 3, 4] rfl)
                  · refine lv_iload_n hx hb dX3_mostGiven_74 rfl (lv_at hl 1 rfl) ?_
                    refine lv_istore_n (lv' := [(1, .int (iI al)), (4, .int (iI zj)), (3, .int (iI al)), (2, .int (iI zk)), (0, .ref od)]) hx hb dX3_mostGiven_75 rfl hl (by decide) rfl (fun ls hl => ?_)
                    refine lv_aload_n hx hb dX3_mostGiven_76 rfl (lv_at hl 4 rfl) ?_
                    refine lv_aload_n hx hb dX3_mostGiven_77 rfl (lv_at hl 4 rfl) ?_
                    refine va_get (D := g.1) (ci := 3) (v := .ref oc) hx hb hts kX3_mostGiven_3 hown hG.1 hP 0 rfl rfl 1 (by decide) (hts _ (List.mem_of_getElem? (i := 2) rfl)) (fun _ h9 => h9) rfl dX3_mostGiven_78 ?_
                    refine lv_iload_n hx hb dX3_mostGiven_81 rfl (lv_at hl 3 rfl) ?_
                    refine iv_iald hx hb hG hP 1 rfl k9 (by omega) (by omega) (by decide) dX3_mostGiven_82 ?_
                    refine va_put (D := g.1) (ci := 3) (v := .int (iI (fo k9))) hx hb hts kX3_mostGiven_3 tyX3 tyX3_ok nmX3 hown hG.1 hP hD hS 0 rfl rfl 0 (by decide) (hts _ (List.mem_of_getElem? (i := 3) rfl)) (fun _ h9 => h9) rfl (tyX3_ok 0 (by decide)) rfl rfl (Nat.le_of_ble_eq_true rfl) dX3_mostGiven_83 (fun H locs hP hD hS => ?_)
                    have hP : va_P g.1 vwCl [(od, .inr (3, [.int (iI (fo k9)), .ref oc, .int (iI kz)])), (oc, aI (g.2.1 0) 480 fo)] H := hP
                    have hD : va_D A [(od, .inr (3, [.int (iI (fo k9)), .ref oc, .int (iI kz)])), (oc, aI (g.2.1 0) 480 fo)] := hD
                    refine iv_iinc (k := 3) (x := zk) (lv' := [(2, .int (iI (zk + 1))), (1, .int (iI al)), (4, .int (iI zj)), (3, .int (iI al)), (0, .ref od)]) hx hb dX3_mostGiven_86 hl rfl (by decide) rfl (fun ls hl => ?_)
                    refine lv_goto (tgt := 4) hx hb dX3_mostGiven_89 (by decide) ?_
                    exact ih4 al (zk + 1) (fo k9) (k9 + 1) (by omega) (by rw [← he, show K - k9 = (K - (k9 + 1)) + 1 from by omega]; simp only [mgF]; first | (rw [if_pos (by show bigP fo K (ms, fz) k9; unfold bigP; simp only []; omega), hal]) | (rw [if_neg (by show ¬ bigP fo K (ms, fz) k9; unfold bigP; simp only []; omega)])) (by omega) H locs ls (hP.sub [0, 1] rfl) (hD.sub [0, 1] (by decide) rfl) hS (lv_sub hl [0, 1, 4] rfl)
            · have hqj := h2 j (by omega)
              refine lv_aload_n hx hb dX3_mostGiven_26 rfl (lv_at hl 4 rfl) ?_
              refine va_get (D := g.1) (ci := 3) (v := .ref oc) hx hb hts kX3_mostGiven_3 hown hG.1 hP 0 rfl rfl 1 (by decide) (hts _ (List.mem_of_getElem? (i := 2) rfl)) (fun _ h9 => h9) rfl dX3_mostGiven_27 ?_
              refine lv_iload hx hb dX3_mostGiven_30 (lv_at hl 0 rfl) ?_
              refine iv_iald hx hb hG hP 1 rfl j (by omega) (by omega) (by decide) dX3_mostGiven_32 ?_
              refine lv_aload_n hx hb dX3_mostGiven_33 rfl (lv_at hl 4 rfl) ?_
              refine va_get (D := g.1) (ci := 3) (v := .ref oc) hx hb hts kX3_mostGiven_3 hown hG.1 hP 0 rfl rfl 1 (by decide) (hts _ (List.mem_of_getElem? (i := 2) rfl)) (fun _ h9 => h9) rfl dX3_mostGiven_34 ?_
              refine lv_iload_n hx hb dX3_mostGiven_37 rfl (lv_at hl 2 rfl) ?_
              refine iv_iald hx hb hG hP 1 rfl k9 (by omega) (by omega) (by decide) dX3_mostGiven_38 ?_
              refine iv_icmp_ne (tgt := 45) hx hb dX3_mostGiven_39 (by decide) (by omega) (fun hc6 => ?_) (fun hc6 => ?_)
              · refine iv_iinc (k := 0) (x := zj) (lv' := [(4, .int (iI (zj + 1))), (3, .int (iI al)), (2, .int (iI zk)), (1, .int (iI ms)), (0, .ref od)]) hx hb dX3_mostGiven_45 hl rfl (by decide) rfl (fun ls hl => ?_)
                refine lv_goto (tgt := 17) hx hb dX3_mostGiven_48 (by decide) ?_
                exact ih17 al (zj + 1) (j + 1) (by omega) (by simp only [cqF]; split <;> omega) (by omega) H locs ls (hP.sub [0, 1] rfl) (hD.sub [0, 1] (by decide) rfl) hS (lv_sub hl [0, 1, 2, 3, 4] rfl)
              · refine iv_iinc (k := 1) (x := al) (lv' := [(3, .int (iI (al + 1))), (4, .int (iI zj)), (2, .int (iI zk)), (1, .int (iI ms)), (0, .ref od)]) hx hb dX3_mostGiven_42 hl rfl (by decide) rfl (fun ls hl => ?_)
                refine iv_iinc (k := 1) (x := zj) (lv' := [(4, .int (iI (zj + 1))), (3, .int (iI (al + 1))), (2, .int (iI zk)), (1, .int (iI ms)), (0, .ref od)]) hx hb dX3_mostGiven_45 hl rfl (by decide) rfl (fun ls hl => ?_)
                refine lv_goto (tgt := 17) hx hb dX3_mostGiven_48 (by decide) ?_
                exact ih17 (al + 1) (zj + 1) (j + 1) (by omega) (by simp only [cqF]; split <;> omega) (by omega) H locs ls (hP.sub [0, 1] rfl) (hD.sub [0, 1] (by decide) rfl) hS (lv_sub hl [0, 1, 2, 3, 4] rfl)
        exact hloop17 _ 0 0 0 (by omega) (rfl) (Nat.lt_succ_self _) H locs ls (hP.sub [0, 1] rfl) (hD.sub [0, 1] (by decide) rfl) hS (lv_sub hl [0, 1, 2, 3, 4] rfl)
  exact hloop4 _ 0 0 fu 0 (by omega) (rfl) (Nat.lt_succ_self _) H locs ls (hP.sub [0, 1] rfl) (hD.sub [0, 1] (by decide) rfl) hS (lv_sub hl [0, 1, 2] rfl)
theorem kX1_tellStrange_1 : ∀ w ∈ u_ws RX1 TX1 7, w ∈ wsX1_tellStrange := fun _ h => List.mem_cons_of_mem _ (List.mem_append_left _ (List.mem_append_right _ h))
abbrev q_X1_tellStrange (g : GT) (y : Nat) (mn : Int) (cn : Int) (me : Nat) (cs : Nat) (as_ : Nat) (sr : Nat) (hi : Nat) (fc : Nat → Int) (fas : Nat → Int) (fst : Nat → Int) (od : Nat) (oc : Nat) (fu : Int) (fo : Nat → Int) (kz : Int) (M : Nat) (K : Nat) : Option Value → va_W → Prop := fun v w => ∃ (fo' : Nat → Int), ∃ (kz' : Int), v = none ∧ w = [(y, .inr (1, [.int (iI mn), .int (iI cn), .ref me, .ref cs, .ref as_, .ref sr, .ref hi])), (cs, aI (g.2.1 0) 40 fc), (as_, aI (g.2.1 1) 40 fas), (sr, aI (g.2.1 1) 40 fst), (od, .inr (3, [.int (iI fu), .ref oc, .int (iI kz')])), (oc, aI (g.2.1 0) 480 fo')] ∧ (fo' = (tsF fc fst fas M (fo, K)).1) ∧ (kz' = (((tsF fc fst fas M (fo, K)).2 : Nat) : Int))
set_option maxHeartbeats 4000000 in
set_option maxRecDepth 100000 in
theorem c_X1_tellStrange (l : Launch) (g : GT) (y : Nat) (mn : Int) (cn : Int) (me : Nat) (cs : Nat) (as_ : Nat) (sr : Nat) (hi : Nat) (fc : Nat → Int) (fas : Nat → Int) (fst : Nat → Int) (od : Nat) (oc : Nat) (fu : Int) (fo : Nat → Int) (kz : Int) (M : Nat) (K : Nat) (h1 : mn = (M : Int) ∧ M ≤ 40 ∧ kz = (K : Int) ∧ K + M ≤ 480) (h2 : ∀ j, j < M → (fas j = 0 ∨ fas j = 1) ∧ (fst j = 0 ∨ fst j = 1)) : Ct l g yX1_tellStrange wsX1_tellStrange ({ frames := 1, cells := 0, slots := 0, locals := 21 } : Room) [.ref y, .ref od] [(y, .inr (1, [.int (iI mn), .int (iI cn), .ref me, .ref cs, .ref as_, .ref sr, .ref hi])), (cs, aI (g.2.1 0) 40 fc), (as_, aI (g.2.1 1) 40 fas), (sr, aI (g.2.1 1) 40 fst), (od, .inr (3, [.int (iI fu), .ref oc, .int (iI kz)])), (oc, aI (g.2.1 0) 480 fo)] (q_X1_tellStrange g y mn cn me cs as_ sr hi fc fas fst od oc fu fo kz M K) := by
  refine Ct.intro (maxL := 3) (ret := none) (by decide) rfl (Nat.le_of_ble_eq_true rfl) ?_
  intro p e s m below meth c A ls hx hb hr hml hown hts hlocks hnm hA hG hP hD hS hl
  have hown : s.vm.findClass RX1 = some m.cls := hown
  have hl : lv_has ls 3 [(0, .ref y), (1, .ref od)] := hl
  have hP : va_P g.1 vwCl [(y, .inr (1, [.int (iI mn), .int (iI cn), .ref me, .ref cs, .ref as_, .ref sr, .ref hi])), (cs, aI (g.2.1 0) 40 fc), (as_, aI (g.2.1 1) 40 fas), (sr, aI (g.2.1 1) 40 fst), (od, .inr (3, [.int (iI fu), .ref oc, .int (iI kz)])), (oc, aI (g.2.1 0) 480 fo)] s.heap := hP
  have hS : va_S A s.heap s.heap [] := hS
  obtain ⟨H, hHe⟩ : ∃ H : Heap, H = s.heap := ⟨_, rfl⟩
  obtain ⟨locs, hLe⟩ : ∃ L : List Loc, L = [] := ⟨_, rfl⟩
  have hP : va_P g.1 vwCl [(y, .inr (1, [.int (iI mn), .int (iI cn), .ref me, .ref cs, .ref as_, .ref sr, .ref hi])), (cs, aI (g.2.1 0) 40 fc), (as_, aI (g.2.1 1) 40 fas), (sr, aI (g.2.1 1) 40 fst), (od, .inr (3, [.int (iI fu), .ref oc, .int (iI kz)])), (oc, aI (g.2.1 0) 480 fo)] H := by rw [hHe]; exact hP
  have hS : va_S A s.heap H locs := by rw [hHe, hLe]; exact hS
  suffices hgo : W p l e ({ frames := 1, cells := 0, slots := 0, locals := 21 } : Room) s m [.ref y, .ref od].toArray below meth c H locs 0 0 (MQ below (CQ g (q_X1_tellStrange g y mn cn me cs as_ sr hi fc fas fst od oc fu fo kz M K) A) [.ref y, .ref od].toArray s ({ frames := 1, cells := 0, slots := 0, locals := 21 } : Room).cells ({ frames := 1, cells := 0, slots := 0, locals := 21 } : Room).slots A) (F0 m 0 ls []) by rw [hHe, hLe] at hgo; exact hgo
  clear hHe hLe
  refine lv_iconst (v := iI (0)) hx hb dX1_tellStrange_0 rfl ?_
  refine lv_istore_n (lv' := [(2, .int (iI 0)), (0, .ref y), (1, .ref od)]) hx hb dX1_tellStrange_1 rfl hl (by decide) rfl (fun ls hl => ?_)
  have hloop2 : ∀ (fuel : Nat) (zj : Int) (fx : Nat → Int) (kx : Int) (j : Nat) (hc : zj = (j : Int) ∧ j ≤ M) (he : fx = (tsF fc fst fas j (fo, K)).1) (he2 : kx = (((tsF fc fst fas j (fo, K)).2 : Nat) : Int)) (hmeas : M - j < fuel), ∀ (H : Heap) (locs : List Loc) (ls : Array Slot), va_P g.1 vwCl [(y, .inr (1, [.int (iI mn), .int (iI cn), .ref me, .ref cs, .ref as_, .ref sr, .ref hi])), (cs, aI (g.2.1 0) 40 fc), (as_, aI (g.2.1 1) 40 fas), (sr, aI (g.2.1 1) 40 fst), (od, .inr (3, [.int (iI fu), .ref oc, .int (iI kx)])), (oc, aI (g.2.1 0) 480 fx)] H → va_D A [(y, .inr (1, [.int (iI mn), .int (iI cn), .ref me, .ref cs, .ref as_, .ref sr, .ref hi])), (cs, aI (g.2.1 0) 40 fc), (as_, aI (g.2.1 1) 40 fas), (sr, aI (g.2.1 1) 40 fst), (od, .inr (3, [.int (iI fu), .ref oc, .int (iI kx)])), (oc, aI (g.2.1 0) 480 fx)] → va_S A s.heap H locs → lv_has ls 3 [(2, .int (iI zj)), (0, .ref y), (1, .ref od)] → W p l e ({ frames := 1, cells := 0, slots := 0, locals := 21 } : Room) s m [.ref y, .ref od].toArray below meth c H locs 0 0 (MQ below (CQ g (q_X1_tellStrange g y mn cn me cs as_ sr hi fc fas fst od oc fu fo kz M K) A) [.ref y, .ref od].toArray s ({ frames := 1, cells := 0, slots := 0, locals := 21 } : Room).cells ({ frames := 1, cells := 0, slots := 0, locals := 21 } : Room).slots A) (F0 m 2 ls []) := by
    intro fuel
    induction fuel with
    | zero => intro zj fx kx j hc he he2 hmeas; exact absurd hmeas (Nat.not_lt_zero _)
    | succ fuel ih2 =>
      intro zj fx kx j hc he he2 hmeas H locs ls hP hD hS hl
      refine lv_iload_n hx hb dX1_tellStrange_2 rfl (lv_at hl 0 rfl) ?_
      refine lv_aload_n hx hb dX1_tellStrange_3 rfl (lv_at hl 1 rfl) ?_
      refine va_get (D := g.1) (ci := 1) (v := .int (iI mn)) hx hb hts kX1_tellStrange_1 hown hG.1 hP 0 rfl rfl 0 (by decide) (hts _ (List.mem_of_getElem? (i := 1) rfl)) (fun _ h9 => h9) rfl dX1_tellStrange_4 ?_
      refine iv_icmp_ge (tgt := 44) hx hb dX1_tellStrange_7 (by decide) (by omega) (fun hc1 => ?_) (fun hc1 => ?_)
      · exact Ct.vret hx hb hr hlocks (hP.sub [0, 1, 2, 3, 4, 5] rfl) (hD.sub [0, 1, 2, 3, 4, 5] (by decide) rfl) hS ⟨by decide, by decide⟩ dX1_tellStrange_44 ⟨fx, kx, rfl, rfl, (by rw [he, show j = M from by omega]), (by rw [he2, show j = M from by omega])⟩
      · have hq := h2 j (by omega)
        have htl := tsF_le fc fst fas (fo, K) j
        simp only [] at htl
        refine lv_aload_n hx hb dX1_tellStrange_10 rfl (lv_at hl 1 rfl) ?_
        refine va_get (D := g.1) (ci := 1) (v := .ref sr) hx hb hts kX1_tellStrange_1 hown hG.1 hP 0 rfl rfl 5 (by decide) (hts _ (List.mem_of_getElem? (i := 2) rfl)) (fun _ h9 => h9) rfl dX1_tellStrange_11 ?_
        refine lv_iload_n hx hb dX1_tellStrange_14 rfl (lv_at hl 0 rfl) ?_
        refine iv_zald hx hb hG hP 3 rfl j (by omega) (by omega) (by decide) dX1_tellStrange_15 ?_
        refine iv_if_eq (tgt := 38) hx hb dX1_tellStrange_16 (by decide) (by omega) (fun hc2 => ?_) (fun hc2 => ?_)
        · refine iv_iinc (k := 0) (x := zj) (lv' := [(2, .int (iI (zj + 1))), (0, .ref y), (1, .ref od)]) hx hb dX1_tellStrange_38 hl rfl (by decide) rfl (fun ls hl => ?_)
          refine lv_goto (tgt := 2) hx hb dX1_tellStrange_41 (by decide) ?_
          exact ih2 (zj + 1) fx kx (j + 1) (by omega) (by simp only [tsF]; first | (rw [if_pos (by omega)]; show va_up fx _ _ = va_up (tsF fc fst fas j (fo, K)).1 _ _; rw [he]) | (rw [if_neg (by omega)]; exact he)) (by simp only [tsF]; first | (rw [if_pos (by omega)]; show kx + 1 = (((tsF fc fst fas j (fo, K)).2 + 1 : Nat) : Int); omega) | (rw [if_neg (by omega)]; exact he2)) (by omega) H locs ls (hP.sub [0, 1, 2, 3, 4, 5] rfl) (hD.sub [0, 1, 2, 3, 4, 5] (by decide) rfl) hS (lv_sub hl [0, 1, 2] rfl)
        · refine lv_aload_n hx hb dX1_tellStrange_19 rfl (lv_at hl 1 rfl) ?_
          refine va_get (D := g.1) (ci := 1) (v := .ref as_) hx hb hts kX1_tellStrange_1 hown hG.1 hP 0 rfl rfl 4 (by decide) (hts _ (List.mem_of_getElem? (i := 3) rfl)) (fun _ h9 => h9) rfl dX1_tellStrange_20 ?_
          refine lv_iload_n hx hb dX1_tellStrange_23 rfl (lv_at hl 0 rfl) ?_
          refine iv_zald hx hb hG hP 2 rfl j (by omega) (by omega) (by decide) dX1_tellStrange_24 ?_
          refine iv_if_ne (tgt := 38) hx hb dX1_tellStrange_25 (by decide) (by omega) (fun hc3 => ?_) (fun hc3 => ?_)
          · refine iv_iinc (k := 0) (x := zj) (lv' := [(2, .int (iI (zj + 1))), (0, .ref y), (1, .ref od)]) hx hb dX1_tellStrange_38 hl rfl (by decide) rfl (fun ls hl => ?_)
            refine lv_goto (tgt := 2) hx hb dX1_tellStrange_41 (by decide) ?_
            exact ih2 (zj + 1) fx kx (j + 1) (by omega) (by simp only [tsF]; first | (rw [if_pos (by omega)]; show va_up fx _ _ = va_up (tsF fc fst fas j (fo, K)).1 _ _; rw [he]) | (rw [if_neg (by omega)]; exact he)) (by simp only [tsF]; first | (rw [if_pos (by omega)]; show kx + 1 = (((tsF fc fst fas j (fo, K)).2 + 1 : Nat) : Int); omega) | (rw [if_neg (by omega)]; exact he2)) (by omega) H locs ls (hP.sub [0, 1, 2, 3, 4, 5] rfl) (hD.sub [0, 1, 2, 3, 4, 5] (by decide) rfl) hS (lv_sub hl [0, 1, 2] rfl)
          · refine lv_aload_n hx hb dX1_tellStrange_28 rfl (lv_at hl 2 rfl) ?_
            refine lv_aload_n hx hb dX1_tellStrange_29 rfl (lv_at hl 1 rfl) ?_
            refine va_get (D := g.1) (ci := 1) (v := .ref cs) hx hb hts kX1_tellStrange_1 hown hG.1 hP 0 rfl rfl 3 (by decide) (hts _ (List.mem_of_getElem? (i := 4) rfl)) (fun _ h9 => h9) rfl dX1_tellStrange_30 ?_
            refine lv_iload_n hx hb dX1_tellStrange_33 rfl (lv_at hl 0 rfl) ?_
            refine iv_iald hx hb hG hP 1 rfl j (by omega) (by omega) (by decide) dX1_tellStrange_34 ?_
            refine Ct.callV (ci := 3) (q0 := 4) (qc := (RX3, TX3, 3)) (As := [.int (iI (fc j))]) (rest := []) (wr := [(y, .inr (1, [.int (iI mn), .int (iI cn), .ref me, .ref cs, .ref as_, .ref sr, .ref hi])), (cs, aI (g.2.1 0) 40 fc), (as_, aI (g.2.1 1) 40 fas), (sr, aI (g.2.1 1) 40 fst)]) (c1 := 0) (s1 := 0) ⟨hx, hb, hml, hown, hts⟩ (c_X3_add l g od oc fu fx kx (fc j) ((tsF fc fst fas j (fo, K)).2) (by omega)) rfl rfl (cwV 1 hts gX1_tellStrange_X3_add rfl rfl rfl (by decide +kernel) ⟨Nat.le_of_ble_eq_true rfl, Nat.le_of_ble_eq_true rfl⟩) hG hP hD hS hA [4, 5] [0, 1, 2, 3] rfl rfl (by decide) (by decide) (by decide) rfl hl.1 rfl (Nat.le_of_ble_eq_true rfl) dX1_tellStrange_35 ⟨Nat.le_of_ble_eq_true rfl, Nat.le_of_ble_eq_true rfl⟩ rfl rfl (fun v w H locs hv hP hD hS => ?_)
            obtain ⟨rfl, rfl⟩ := hv
            show W p l e _ s m _ below meth c H locs 0 0 _ (F0 m 38 ls [])
            have hP : va_P g.1 vwCl [(y, .inr (1, [.int (iI mn), .int (iI cn), .ref me, .ref cs, .ref as_, .ref sr, .ref hi])), (cs, aI (g.2.1 0) 40 fc), (as_, aI (g.2.1 1) 40 fas), (sr, aI (g.2.1 1) 40 fst), (od, .inr (3, [.int (iI fu), .ref oc, .int (iI (kx + 1))])), (oc, aI (g.2.1 0) 480 (va_up fx ((tsF fc fst fas j (fo, K)).2) (fc j)))] H := hP
            have hD : va_D A [(y, .inr (1, [.int (iI mn), .int (iI cn), .ref me, .ref cs, .ref as_, .ref sr, .ref hi])), (cs, aI (g.2.1 0) 40 fc), (as_, aI (g.2.1 1) 40 fas), (sr, aI (g.2.1 1) 40 fst), (od, .inr (3, [.int (iI fu), .ref oc, .int (iI (kx + 1))])), (oc, aI (g.2.1 0) 480 (va_up fx ((tsF fc fst fas j (fo, K)).2) (fc j)))] := hD
            refine iv_iinc (k := 0) (x := zj) (lv' := [(2, .int (iI (zj + 1))), (0, .ref y), (1, .ref od)]) hx hb dX1_tellStrange_38 hl rfl (by decide) rfl (fun ls hl => ?_)
            refine lv_goto (tgt := 2) hx hb dX1_tellStrange_41 (by decide) ?_
            exact ih2 (zj + 1) (va_up fx ((tsF fc fst fas j (fo, K)).2) (fc j)) (kx + 1) (j + 1) (by omega) (by simp only [tsF]; first | (rw [if_pos (by omega)]; show va_up fx _ _ = va_up (tsF fc fst fas j (fo, K)).1 _ _; rw [he]) | (rw [if_neg (by omega)]; exact he)) (by simp only [tsF]; first | (rw [if_pos (by omega)]; show kx + 1 = (((tsF fc fst fas j (fo, K)).2 + 1 : Nat) : Int); omega) | (rw [if_neg (by omega)]; exact he2)) (by omega) H locs ls (hP.sub [0, 1, 2, 3, 4, 5] rfl) (hD.sub [0, 1, 2, 3, 4, 5] (by decide) rfl) hS (lv_sub hl [0, 1, 2] rfl)
  exact hloop2 _ 0 fo kz 0 (by omega) (rfl) (by simp only [tsF]; omega) (Nat.lt_succ_self _) H locs ls (hP.sub [0, 1, 2, 3, 4, 5] rfl) (hD.sub [0, 1, 2, 3, 4, 5] (by decide) rfl) hS (lv_sub hl [0, 1, 2] rfl)
