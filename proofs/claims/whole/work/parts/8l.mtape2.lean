theorem kX9_needs_9 : ∀ w ∈ u_ws RX9 TX9 37, w ∈ wsX9_needs := fun _ h => List.mem_cons_of_mem _ (List.mem_append_right _ h)
abbrev q_X9_needs (g : GT) (hm : Nat) (a : Nat → Nat) (i : Nat → Int) (ft : Nat → Int) (L : Nat) (q : Nat) (c_ : Int) : Option Value → va_W → Prop := fun v w => ∃ (i' : Nat → Int), v = none ∧ w = [(hm, .inr (9, mF a i')), ((a 15), aI (g.2.1 0) 100 ft)] ∧ (∀ k, ¬ k = 17 → ¬ k = 18 → i' k = i k) ∧ ((i 18 = 1 ∧ i' 17 = i 17 ∧ i' 18 = 1) ∨ (i 18 = 0 ∧ psP ft L c_ q ∧ i' 17 = (sk ft L q : Int) + 1 ∧ i' 18 = 0) ∨ (i 18 = 0 ∧ ¬ psP ft L c_ q ∧ i' 17 = (sk ft L q : Int) ∧ i' 18 = 1))
set_option maxHeartbeats 4000000 in
set_option maxRecDepth 100000 in
theorem c_X9_needs (l : Launch) (g : GT) (hm : Nat) (a : Nat → Nat) (i : Nat → Int) (ft : Nat → Int) (L : Nat) (q : Nat) (c_ : Int) (h1 : i 16 = (L : Int) ∧ L ≤ 100 ∧ i 17 = (q : Int) ∧ q ≤ L ∧ (i 18 = 0 ∨ i 18 = 1)) (hT : ∀ j, j < L → 32 ≤ ft j ∧ ft j ≤ 126) (h2 : 33 ≤ c_ ∧ c_ ≤ 126) : Ct l g yX9_needs wsX9_needs ({ frames := 1, cells := 0, slots := 0, locals := 20 } : Room) [.ref hm, .int (iI c_)] [(hm, .inr (9, mF a i)), ((a 15), aI (g.2.1 0) 100 ft)] (q_X9_needs g hm a i ft L q c_) := by
  refine Ct.intro (maxL := 2) (ret := none) (by decide) rfl (Nat.le_of_ble_eq_true rfl) ?_
  intro p e s m below meth c A ls hx hb hr hml hown hts hlocks hnm hA hG hP hD hS hl
  have hown : s.vm.findClass RX9 = some m.cls := hown
  have hl : lv_has ls 2 [(0, .ref hm), (1, .int (iI c_))] := hl
  have hP : va_P g.1 vwCl [(hm, .inr (9, mF a i)), ((a 15), aI (g.2.1 0) 100 ft)] s.heap := hP
  have hS : va_S A s.heap s.heap [] := hS
  obtain ⟨H, hHe⟩ : ∃ H : Heap, H = s.heap := ⟨_, rfl⟩
  obtain ⟨locs, hLe⟩ : ∃ L : List Loc, L = [] := ⟨_, rfl⟩
  have hP : va_P g.1 vwCl [(hm, .inr (9, mF a i)), ((a 15), aI (g.2.1 0) 100 ft)] H := by rw [hHe]; exact hP
  have hS : va_S A s.heap H locs := by rw [hHe, hLe]; exact hS
  suffices hgo : W p l e ({ frames := 1, cells := 0, slots := 0, locals := 20 } : Room) s m [.ref hm, .int (iI c_)].toArray below meth c H locs 0 0 (MQ below (CQ g (q_X9_needs g hm a i ft L q c_) A) [.ref hm, .int (iI c_)].toArray s ({ frames := 1, cells := 0, slots := 0, locals := 20 } : Room).cells ({ frames := 1, cells := 0, slots := 0, locals := 20 } : Room).slots A) (F0 m 0 ls []) by rw [hHe, hLe] at hgo; exact hgo
  clear hHe hLe
  refine lv_aload_n hx hb dX9_needs_0 rfl (lv_at hl 0 rfl) ?_
  refine lv_aload_n hx hb dX9_needs_1 rfl (lv_at hl 0 rfl) ?_
  refine va_get (D := g.1) (ci := 9) (v := .int (iI (i 18))) hx hb hts kX9_needs_9 hown hG.1 hP 0 rfl rfl 18 (by decide) (hts _ (List.mem_of_getElem? (i := 1) rfl)) (fun _ h9 => h9) rfl dX9_needs_2 ?_
  refine iv_if_ne (tgt := 16) hx hb dX9_needs_5 (by decide) (by omega) (fun hc1 => ?_) (fun hc1 => ?_)
  · refine lv_iconst (v := iI (1)) hx hb dX9_needs_16 rfl ?_
    refine lv_goto (tgt := 21) hx hb dX9_needs_17 (by decide) ?_
    refine va_put (D := g.1) (ci := 9) (v := .int (iI 1)) hx hb hts kX9_needs_9 tyX9 tyX9_ok nmX9 hown hG.1 hP hD hS 0 rfl rfl 18 (by decide) (hts _ (List.mem_of_getElem? (i := 1) rfl)) (fun _ h9 => h9) rfl (tyX9_ok 18 (by decide)) (by decide) (by decide) (Nat.le_of_ble_eq_true rfl) dX9_needs_21 (fun H locs hP hD hS => ?_)
    have hP : va_P g.1 vwCl [(hm, .inr (9, mF a (va_up i 18 1))), ((a 15), aI (g.2.1 0) 100 ft)] H := hP
    have hD : va_D A [(hm, .inr (9, mF a (va_up i 18 1))), ((a 15), aI (g.2.1 0) 100 ft)] := hD
    refine lv_aload_n hx hb dX9_needs_24 rfl (lv_at hl 0 rfl) ?_
    refine lv_dup hx hb dX9_needs_25 rfl ?_
    refine va_get (D := g.1) (ci := 9) (v := .int (iI (i 17))) hx hb hts kX9_needs_9 hown hG.1 hP 0 rfl rfl 17 (by decide) (hts _ (List.mem_of_getElem? (i := 2) rfl)) (fun _ h9 => h9) rfl dX9_needs_26 ?_
    refine lv_aload_n hx hb dX9_needs_29 rfl (lv_at hl 0 rfl) ?_
    refine va_get (D := g.1) (ci := 9) (v := .int (iI 1)) hx hb hts kX9_needs_9 hown hG.1 hP 0 rfl rfl 18 (by decide) (hts _ (List.mem_of_getElem? (i := 1) rfl)) (fun _ h9 => h9) rfl dX9_needs_30 ?_
    refine iv_if_eq (tgt := 40) hx hb dX9_needs_33 (by decide) (by decide) (fun h => absurd h (by decide)) (fun _ => ?_)
    refine lv_iconst (v := iI (0)) hx hb dX9_needs_36 rfl ?_
    refine lv_goto (tgt := 41) hx hb dX9_needs_37 (by decide) ?_
    refine iv_iadd hx hb dX9_needs_41 ?_
    refine va_put (D := g.1) (ci := 9) (v := .int (iI ((i 17) + 0))) hx hb hts kX9_needs_9 tyX9 tyX9_ok nmX9 hown hG.1 hP hD hS 0 rfl rfl 17 (by decide) (hts _ (List.mem_of_getElem? (i := 2) rfl)) (fun _ h9 => h9) rfl (tyX9_ok 17 (by decide)) rfl rfl (Nat.le_of_ble_eq_true rfl) dX9_needs_42 (fun H locs hP hD hS => ?_)
    have hP : va_P g.1 vwCl [(hm, .inr (9, mF a (va_up (va_up i 17 ((i 17) + 0)) 18 1))), ((a 15), aI (g.2.1 0) 100 ft)] H := hP
    have hD : va_D A [(hm, .inr (9, mF a (va_up (va_up i 17 ((i 17) + 0)) 18 1))), ((a 15), aI (g.2.1 0) 100 ft)] := hD
    exact Ct.vret hx hb hr hlocks (hP.sub [0, 1] rfl) (hD.sub [0, 1] (by decide) rfl) hS ⟨by decide, by decide⟩ dX9_needs_45 ⟨(va_up (va_up i 17 ((i 17) + 0)) 18 1), rfl, rfl, (fun k h17 h18 => by simp only [va_up, h17, h18, if_false] <;> first | rfl | exact hz0 k h17), (by first | (exfalso; omega) | exact Or.inl ⟨by omega, by show i 17 + 0 = i 17; omega, rfl⟩ | (refine Or.inr (Or.inl ⟨by omega, hb8 (by omega), ?_, rfl⟩); simp only [va_up, if_true]; omega) | (refine Or.inr (Or.inr ⟨by omega, hb7 (by omega), ?_, rfl⟩); simp only [va_up, if_true]; omega))⟩
  · refine lv_aload_n hx hb dX9_needs_8 rfl (lv_at hl 0 rfl) ?_
    refine Ct.callV (ci := 9) (q0 := 0) (qc := (RX9, TX9, 37)) (As := []) (rest := [.ref hm]) (wr := []) (c1 := 0) (s1 := 0) ⟨hx, hb, hml, hown, hts⟩ (c_X9_next l g hm a i ft L q (⟨by omega, by omega, by omega, by omega⟩) (hT)) rfl rfl (cwV 0 hts gX9_needs_X9_next rfl rfl rfl (by decide +kernel) ⟨Nat.le_of_ble_eq_true rfl, Nat.le_of_ble_eq_true rfl⟩) hG hP hD hS hA [0, 1] [] rfl rfl (by decide) (by decide) (by decide) rfl hl.1 rfl (Nat.le_of_ble_eq_true rfl) dX9_needs_9 ⟨Nat.le_of_ble_eq_true rfl, Nat.le_of_ble_eq_true rfl⟩ rfl rfl (fun v w H locs hv hP hD hS => ?_)
    obtain ⟨r3, i4, rfl, rfl, hf5, hf6, hf7⟩ := hv
    show W p l e _ s m _ below meth c H locs 0 0 _ (F0 m 12 ls (.int (iI r3) :: [.ref hm]))
    have hP : va_P g.1 vwCl [(hm, .inr (9, mF a i4)), ((a 15), aI (g.2.1 0) 100 ft)] H := hP
    have hD : va_D A [(hm, .inr (9, mF a i4)), ((a 15), aI (g.2.1 0) 100 ft)] := hD
    have hf6 : i4 17 = (sk ft L q : Int) := hf6
    have hf7 : r3 = (if sk ft L q < L then ft (sk ft L q) else 0) := hf7
    have hz0 := hf5
    have hz1 := hf6
    have hz2 := hf7
    have hsl := sk_le ft (L := L) (p := q) (by omega)
    have hz16 := hf5 16 (by decide)
    have hz18 := hf5 18 (by decide)
    have hbr : 0 ≤ r3 ∧ r3 ≤ 126 := (by rw [hz2]; split <;> first | omega | (have := hT (sk ft L q) (by omega); omega))
    have hb8 : (if sk ft L q < L then ft (sk ft L q) else 0) = c_ → psP ft L c_ q := fun z => (by by_cases w9 : sk ft L q < L; (rw [if_pos w9] at z; exact ⟨w9, z⟩); (rw [if_neg w9] at z; exfalso; omega))
    have hb7 : ¬ (if sk ft L q < L then ft (sk ft L q) else 0) = c_ → ¬ psP ft L c_ q := fun z w9 => z (by rw [if_pos w9.1]; exact w9.2)
    refine lv_iload_n hx hb dX9_needs_12 rfl (lv_at hl 1 rfl) ?_
    refine iv_icmp_eq (tgt := 20) hx hb dX9_needs_13 (by decide) (by omega) (fun hc8 => ?_) (fun hc8 => ?_)
    · refine lv_iconst (v := iI (0)) hx hb dX9_needs_20 rfl ?_
      refine va_put (D := g.1) (ci := 9) (v := .int (iI 0)) hx hb hts kX9_needs_9 tyX9 tyX9_ok nmX9 hown hG.1 hP hD hS 0 rfl rfl 18 (by decide) (hts _ (List.mem_of_getElem? (i := 1) rfl)) (fun _ h9 => h9) rfl (tyX9_ok 18 (by decide)) (by decide) (by decide) (Nat.le_of_ble_eq_true rfl) dX9_needs_21 (fun H locs hP hD hS => ?_)
      have hP : va_P g.1 vwCl [(hm, .inr (9, mF a (va_up i4 18 0))), ((a 15), aI (g.2.1 0) 100 ft)] H := hP
      have hD : va_D A [(hm, .inr (9, mF a (va_up i4 18 0))), ((a 15), aI (g.2.1 0) 100 ft)] := hD
      refine lv_aload_n hx hb dX9_needs_24 rfl (lv_at hl 0 rfl) ?_
      refine lv_dup hx hb dX9_needs_25 rfl ?_
      refine va_get (D := g.1) (ci := 9) (v := .int (iI (i4 17))) hx hb hts kX9_needs_9 hown hG.1 hP 0 rfl rfl 17 (by decide) (hts _ (List.mem_of_getElem? (i := 2) rfl)) (fun _ h9 => h9) rfl dX9_needs_26 ?_
      refine lv_aload_n hx hb dX9_needs_29 rfl (lv_at hl 0 rfl) ?_
      refine va_get (D := g.1) (ci := 9) (v := .int (iI 0)) hx hb hts kX9_needs_9 hown hG.1 hP 0 rfl rfl 18 (by decide) (hts _ (List.mem_of_getElem? (i := 1) rfl)) (fun _ h9 => h9) rfl dX9_needs_30 ?_
      refine iv_if_eq (tgt := 40) hx hb dX9_needs_33 (by decide) (by decide) (fun _ => ?_) (fun h => absurd h (by decide))
      refine lv_iconst (v := iI (1)) hx hb dX9_needs_40 rfl ?_
      refine iv_iadd hx hb dX9_needs_41 ?_
      refine va_put (D := g.1) (ci := 9) (v := .int (iI ((i4 17) + 1))) hx hb hts kX9_needs_9 tyX9 tyX9_ok nmX9 hown hG.1 hP hD hS 0 rfl rfl 17 (by decide) (hts _ (List.mem_of_getElem? (i := 2) rfl)) (fun _ h9 => h9) rfl (tyX9_ok 17 (by decide)) rfl rfl (Nat.le_of_ble_eq_true rfl) dX9_needs_42 (fun H locs hP hD hS => ?_)
      have hP : va_P g.1 vwCl [(hm, .inr (9, mF a (va_up (va_up i4 17 ((i4 17) + 1)) 18 0))), ((a 15), aI (g.2.1 0) 100 ft)] H := hP
      have hD : va_D A [(hm, .inr (9, mF a (va_up (va_up i4 17 ((i4 17) + 1)) 18 0))), ((a 15), aI (g.2.1 0) 100 ft)] := hD
      exact Ct.vret hx hb hr hlocks (hP.sub [0, 1] rfl) (hD.sub [0, 1] (by decide) rfl) hS ⟨by decide, by decide⟩ dX9_needs_45 ⟨(va_up (va_up i4 17 ((i4 17) + 1)) 18 0), rfl, rfl, (fun k h17 h18 => by simp only [va_up, h17, h18, if_false] <;> first | rfl | exact hz0 k h17), (by first | (exfalso; omega) | exact Or.inl ⟨by omega, by show i 17 + 0 = i 17; omega, rfl⟩ | (refine Or.inr (Or.inl ⟨by omega, hb8 (by omega), ?_, rfl⟩); simp only [va_up, if_true]; omega) | (refine Or.inr (Or.inr ⟨by omega, hb7 (by omega), ?_, rfl⟩); simp only [va_up, if_true]; omega))⟩
    · refine lv_iconst (v := iI (1)) hx hb dX9_needs_16 rfl ?_
      refine lv_goto (tgt := 21) hx hb dX9_needs_17 (by decide) ?_
      refine va_put (D := g.1) (ci := 9) (v := .int (iI 1)) hx hb hts kX9_needs_9 tyX9 tyX9_ok nmX9 hown hG.1 hP hD hS 0 rfl rfl 18 (by decide) (hts _ (List.mem_of_getElem? (i := 1) rfl)) (fun _ h9 => h9) rfl (tyX9_ok 18 (by decide)) (by decide) (by decide) (Nat.le_of_ble_eq_true rfl) dX9_needs_21 (fun H locs hP hD hS => ?_)
      have hP : va_P g.1 vwCl [(hm, .inr (9, mF a (va_up i4 18 1))), ((a 15), aI (g.2.1 0) 100 ft)] H := hP
      have hD : va_D A [(hm, .inr (9, mF a (va_up i4 18 1))), ((a 15), aI (g.2.1 0) 100 ft)] := hD
      refine lv_aload_n hx hb dX9_needs_24 rfl (lv_at hl 0 rfl) ?_
      refine lv_dup hx hb dX9_needs_25 rfl ?_
      refine va_get (D := g.1) (ci := 9) (v := .int (iI (i4 17))) hx hb hts kX9_needs_9 hown hG.1 hP 0 rfl rfl 17 (by decide) (hts _ (List.mem_of_getElem? (i := 2) rfl)) (fun _ h9 => h9) rfl dX9_needs_26 ?_
      refine lv_aload_n hx hb dX9_needs_29 rfl (lv_at hl 0 rfl) ?_
      refine va_get (D := g.1) (ci := 9) (v := .int (iI 1)) hx hb hts kX9_needs_9 hown hG.1 hP 0 rfl rfl 18 (by decide) (hts _ (List.mem_of_getElem? (i := 1) rfl)) (fun _ h9 => h9) rfl dX9_needs_30 ?_
      refine iv_if_eq (tgt := 40) hx hb dX9_needs_33 (by decide) (by decide) (fun h => absurd h (by decide)) (fun _ => ?_)
      refine lv_iconst (v := iI (0)) hx hb dX9_needs_36 rfl ?_
      refine lv_goto (tgt := 41) hx hb dX9_needs_37 (by decide) ?_
      refine iv_iadd hx hb dX9_needs_41 ?_
      refine va_put (D := g.1) (ci := 9) (v := .int (iI ((i4 17) + 0))) hx hb hts kX9_needs_9 tyX9 tyX9_ok nmX9 hown hG.1 hP hD hS 0 rfl rfl 17 (by decide) (hts _ (List.mem_of_getElem? (i := 2) rfl)) (fun _ h9 => h9) rfl (tyX9_ok 17 (by decide)) rfl rfl (Nat.le_of_ble_eq_true rfl) dX9_needs_42 (fun H locs hP hD hS => ?_)
      have hP : va_P g.1 vwCl [(hm, .inr (9, mF a (va_up (va_up i4 17 ((i4 17) + 0)) 18 1))), ((a 15), aI (g.2.1 0) 100 ft)] H := hP
      have hD : va_D A [(hm, .inr (9, mF a (va_up (va_up i4 17 ((i4 17) + 0)) 18 1))), ((a 15), aI (g.2.1 0) 100 ft)] := hD
      exact Ct.vret hx hb hr hlocks (hP.sub [0, 1] rfl) (hD.sub [0, 1] (by decide) rfl) hS ⟨by decide, by decide⟩ dX9_needs_45 ⟨(va_up (va_up i4 17 ((i4 17) + 0)) 18 1), rfl, rfl, (fun k h17 h18 => by simp only [va_up, h17, h18, if_false] <;> first | rfl | exact hz0 k h17), (by first | (exfalso; omega) | exact Or.inl ⟨by omega, by show i 17 + 0 = i 17; omega, rfl⟩ | (refine Or.inr (Or.inl ⟨by omega, hb8 (by omega), ?_, rfl⟩); simp only [va_up, if_true]; omega) | (refine Or.inr (Or.inr ⟨by omega, hb7 (by omega), ?_, rfl⟩); simp only [va_up, if_true]; omega))⟩
