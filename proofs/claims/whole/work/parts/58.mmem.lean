theorem kX9_isLearner_9 : ∀ w ∈ u_ws RX9 TX9 37, w ∈ wsX9_isLearner := fun _ h => List.mem_cons_of_mem _ (List.mem_append_right _ h)
abbrev q_X9_isLearner (g : GT) (hm : Nat) (a : Nat → Nat) (i : Nat → Int) (x : Int) : Option Value → va_W → Prop := fun v w => (v = some (.int (iI 1)) ∧ (0 ≤ x ∧ x < i 5) ∨ v = some (.int (iI 0)) ∧ ¬ (0 ≤ x ∧ x < i 5)) ∧ w = [(hm, .inr (9, mF a i))]
set_option maxHeartbeats 4000000 in
set_option maxRecDepth 100000 in
theorem c_X9_isLearner (l : Launch) (g : GT) (hm : Nat) (a : Nat → Nat) (i : Nat → Int) (x : Int) (h1 : 0 ≤ i 5 ∧ i 5 ≤ 12 ∧ (-2147483648 ≤ x ∧ x < 2147483648)) : Ct l g yX9_isLearner wsX9_isLearner ({ frames := 1, cells := 0, slots := 0, locals := 25 } : Room) [.ref hm, .int (iI x)] [(hm, .inr (9, mF a i))] (q_X9_isLearner g hm a i x) := by
  refine Ct.intro (maxL := 2) (ret := (some .boolean)) (by decide) rfl (Nat.le_of_ble_eq_true rfl) ?_
  intro p e s m below meth c A ls hx hb hr hml hown hts hlocks hnm hA hG hP hD hS hl
  have hown : s.vm.findClass RX9 = some m.cls := hown
  have hl : lv_has ls 2 [(0, .ref hm), (1, .int (iI x))] := hl
  have hP : va_P g.1 vwCl [(hm, .inr (9, mF a i))] s.heap := hP
  have hS : va_S A s.heap s.heap [] := hS
  obtain ⟨H, hHe⟩ : ∃ H : Heap, H = s.heap := ⟨_, rfl⟩
  obtain ⟨locs, hLe⟩ : ∃ L : List Loc, L = [] := ⟨_, rfl⟩
  have hP : va_P g.1 vwCl [(hm, .inr (9, mF a i))] H := by rw [hHe]; exact hP
  have hS : va_S A s.heap H locs := by rw [hHe, hLe]; exact hS
  suffices hgo : W p l e ({ frames := 1, cells := 0, slots := 0, locals := 25 } : Room) s m [.ref hm, .int (iI x)].toArray below meth c H locs 0 0 (MQ below (CQ g (q_X9_isLearner g hm a i x) A) [.ref hm, .int (iI x)].toArray s ({ frames := 1, cells := 0, slots := 0, locals := 25 } : Room).cells ({ frames := 1, cells := 0, slots := 0, locals := 25 } : Room).slots A) (F0 m 0 ls []) by rw [hHe, hLe] at hgo; exact hgo
  clear hHe hLe
  refine lv_iload_n hx hb dX9_isLearner_0 rfl (lv_at hl 1 rfl) ?_
  refine iv_i2l hx hb dX9_isLearner_1 (by omega) ?_
  refine lv_lconst (v := lI (0)) hx hb dX9_isLearner_2 (by decide) ?_
  refine lv_aload_n hx hb dX9_isLearner_3 rfl (lv_at hl 0 rfl) ?_
  refine va_get (D := g.1) (ci := 9) (v := .int (iI (i 5))) hx hb hts kX9_isLearner_9 hown hG.1 hP 0 rfl rfl 5 (by decide) (hts _ (List.mem_of_getElem? (i := 1) rfl)) (fun _ h9 => h9) rfl dX9_isLearner_4 ?_
  refine lv_iconst (v := iI (1)) hx hb dX9_isLearner_7 rfl ?_
  refine iv_isub hx hb dX9_isLearner_8 ?_
  refine iv_i2l hx hb dX9_isLearner_9 (by omega) ?_
  refine Ct.callS (As := [.long (lI x), .long (lI 0), .long (lI ((i 5) - 1))]) (rest := []) (wr := [(hm, .inr (9, mF a i))]) (c1 := 0) (s1 := 0) ⟨hx, hb, hml, hown, hts⟩ (c_X9_in l g x 0 ((i 5) - 1) (by omega)) (va_cwS 3 hts gX9_isLearner_X9_in rfl rfl rfl (by decide +kernel) ⟨Nat.le_of_ble_eq_true rfl, Nat.le_of_ble_eq_true rfl⟩) hG hP hD hS hA [] [0] rfl rfl (by decide) (by decide) (by decide) rfl hl.1 rfl (Nat.le_of_ble_eq_true rfl) dX9_isLearner_10 ⟨Nat.le_of_ble_eq_true rfl, Nat.le_of_ble_eq_true rfl⟩ rfl rfl (fun v w H locs hv hP hD hS => ?_)
  obtain ⟨⟨rfl, hb1⟩ | ⟨rfl, hb1⟩, rfl⟩ := hv
  · show W p l e _ s m _ below meth c H locs 0 0 _ (F0 m 13 ls (.int (iI 1) :: []))
    have hb1 : 0 ≤ x ∧ x ≤ ((i 5) - 1) := hb1
    have hP : va_P g.1 vwCl [(hm, .inr (9, mF a i))] H := hP
    have hD : va_D A [(hm, .inr (9, mF a i))] := hD
    exact Ct.zret hx hb hr hlocks (hP.sub [0] rfl) (hD.sub [0] (by decide) rfl) hS ⟨by decide, by decide⟩ dX9_isLearner_13 (by decide) ⟨Or.inl ⟨rfl, by omega⟩, rfl⟩
  · show W p l e _ s m _ below meth c H locs 0 0 _ (F0 m 13 ls (.int (iI 0) :: []))
    have hb1 : ¬ (0 ≤ x ∧ x ≤ ((i 5) - 1)) := hb1
    have hP : va_P g.1 vwCl [(hm, .inr (9, mF a i))] H := hP
    have hD : va_D A [(hm, .inr (9, mF a i))] := hD
    exact Ct.zret hx hb hr hlocks (hP.sub [0] rfl) (hD.sub [0] (by decide) rfl) hS ⟨by decide, by decide⟩ dX9_isLearner_13 (by decide) ⟨Or.inr ⟨rfl, by omega⟩, rfl⟩
theorem kX9_isSkill_9 : ∀ w ∈ u_ws RX9 TX9 37, w ∈ wsX9_isSkill := fun _ h => List.mem_cons_of_mem _ (List.mem_append_right _ h)
abbrev q_X9_isSkill (g : GT) (hm : Nat) (a : Nat → Nat) (i : Nat → Int) (sk : Int) : Option Value → va_W → Prop := fun v w => (v = some (.int (iI 1)) ∧ ((0 ≤ sk ∧ sk ≤ 7) ∧ i 19 / 2 ^ sk.toNat % 2 = 1) ∨ v = some (.int (iI 0)) ∧ ¬ ((0 ≤ sk ∧ sk ≤ 7) ∧ i 19 / 2 ^ sk.toNat % 2 = 1)) ∧ w = [(hm, .inr (9, mF a i))]
set_option maxHeartbeats 4000000 in
set_option maxRecDepth 100000 in
theorem c_X9_isSkill (l : Launch) (g : GT) (hm : Nat) (a : Nat → Nat) (i : Nat → Int) (sk : Int) (h1 : 0 ≤ i 19 ∧ i 19 < 256 ∧ (-2147483648 ≤ sk ∧ sk < 2147483648)) : Ct l g yX9_isSkill wsX9_isSkill ({ frames := 1, cells := 0, slots := 0, locals := 25 } : Room) [.ref hm, .int (iI sk)] [(hm, .inr (9, mF a i))] (q_X9_isSkill g hm a i sk) := by
  refine Ct.intro (maxL := 2) (ret := (some .boolean)) (by decide) rfl (Nat.le_of_ble_eq_true rfl) ?_
  intro p e s m below meth c A ls hx hb hr hml hown hts hlocks hnm hA hG hP hD hS hl
  have hown : s.vm.findClass RX9 = some m.cls := hown
  have hl : lv_has ls 2 [(0, .ref hm), (1, .int (iI sk))] := hl
  have hP : va_P g.1 vwCl [(hm, .inr (9, mF a i))] s.heap := hP
  have hS : va_S A s.heap s.heap [] := hS
  obtain ⟨H, hHe⟩ : ∃ H : Heap, H = s.heap := ⟨_, rfl⟩
  obtain ⟨locs, hLe⟩ : ∃ L : List Loc, L = [] := ⟨_, rfl⟩
  have hP : va_P g.1 vwCl [(hm, .inr (9, mF a i))] H := by rw [hHe]; exact hP
  have hS : va_S A s.heap H locs := by rw [hHe, hLe]; exact hS
  suffices hgo : W p l e ({ frames := 1, cells := 0, slots := 0, locals := 25 } : Room) s m [.ref hm, .int (iI sk)].toArray below meth c H locs 0 0 (MQ below (CQ g (q_X9_isSkill g hm a i sk) A) [.ref hm, .int (iI sk)].toArray s ({ frames := 1, cells := 0, slots := 0, locals := 25 } : Room).cells ({ frames := 1, cells := 0, slots := 0, locals := 25 } : Room).slots A) (F0 m 0 ls []) by rw [hHe, hLe] at hgo; exact hgo
  clear hHe hLe
  refine lv_iload_n hx hb dX9_isSkill_0 rfl (lv_at hl 1 rfl) ?_
  refine iv_i2l hx hb dX9_isSkill_1 (by omega) ?_
  refine lv_lconst (v := lI (0)) hx hb dX9_isSkill_2 (by decide) ?_
  refine iv_ldc2 (v := 7) (z := 7) hx hb hown (hts _ (List.mem_of_getElem? (i := 1) rfl)) dX9_isSkill_3 (by decide) ?_
  refine Ct.callS (As := [.long (lI sk), .long (lI 0), .long (lI 7)]) (rest := []) (wr := [(hm, .inr (9, mF a i))]) (c1 := 0) (s1 := 0) ⟨hx, hb, hml, hown, hts⟩ (c_X9_in l g sk 0 7 (by omega)) (va_cwS 3 hts gX9_isSkill_X9_in rfl rfl rfl (by decide +kernel) ⟨Nat.le_of_ble_eq_true rfl, Nat.le_of_ble_eq_true rfl⟩) hG hP hD hS hA [] [0] rfl rfl (by decide) (by decide) (by decide) rfl hl.1 rfl (Nat.le_of_ble_eq_true rfl) dX9_isSkill_6 ⟨Nat.le_of_ble_eq_true rfl, Nat.le_of_ble_eq_true rfl⟩ rfl rfl (fun v w H locs hv hP hD hS => ?_)
  obtain ⟨⟨rfl, hb1⟩ | ⟨rfl, hb1⟩, rfl⟩ := hv
  · show W p l e _ s m _ below meth c H locs 0 0 _ (F0 m 9 ls (.int (iI 1) :: []))
    have hb1 : 0 ≤ sk ∧ sk ≤ 7 := hb1
    have hP : va_P g.1 vwCl [(hm, .inr (9, mF a i))] H := hP
    have hD : va_D A [(hm, .inr (9, mF a i))] := hD
    refine iv_if_eq (tgt := 28) hx hb dX9_isSkill_9 (by decide) (by decide) (fun h => absurd h (by decide)) (fun _ => ?_)
    have hq := sh_rng sk.toNat (z := i 19) (by omega)
    refine lv_aload_n hx hb dX9_isSkill_12 rfl (lv_at hl 0 rfl) ?_
    refine va_get (D := g.1) (ci := 9) (v := .int (iI (i 19))) hx hb hts kX9_isSkill_9 hown hG.1 hP 0 rfl rfl 19 (by decide) (hts _ (List.mem_of_getElem? (i := 2) rfl)) (fun _ h9 => h9) rfl dX9_isSkill_13 ?_
    refine lv_iload_n hx hb dX9_isSkill_16 rfl (lv_at hl 1 rfl) ?_
    refine iv_ishr hx hb dX9_isSkill_17 (by omega) ?_
    refine lv_iconst (v := iI (1)) hx hb dX9_isSkill_18 rfl ?_
    refine iv_and1 hx hb dX9_isSkill_19 (by omega) ?_
    refine lv_iconst (v := iI (1)) hx hb dX9_isSkill_20 rfl ?_
    refine iv_icmp_ne (tgt := 28) hx hb dX9_isSkill_21 (by decide) (by omega) (fun hc3 => ?_) (fun hc3 => ?_)
    · refine lv_iconst (v := iI (0)) hx hb dX9_isSkill_28 rfl ?_
      exact Ct.zret hx hb hr hlocks (hP.sub [0] rfl) (hD.sub [0] (by decide) rfl) hS ⟨by decide, by decide⟩ dX9_isSkill_29 (by decide) ⟨Or.inr ⟨rfl, by omega⟩, rfl⟩
    · refine lv_iconst (v := iI (1)) hx hb dX9_isSkill_24 rfl ?_
      refine lv_goto (tgt := 29) hx hb dX9_isSkill_25 (by decide) ?_
      exact Ct.zret hx hb hr hlocks (hP.sub [0] rfl) (hD.sub [0] (by decide) rfl) hS ⟨by decide, by decide⟩ dX9_isSkill_29 (by decide) ⟨Or.inl ⟨rfl, by omega⟩, rfl⟩
  · show W p l e _ s m _ below meth c H locs 0 0 _ (F0 m 9 ls (.int (iI 0) :: []))
    have hb1 : ¬ (0 ≤ sk ∧ sk ≤ 7) := hb1
    have hP : va_P g.1 vwCl [(hm, .inr (9, mF a i))] H := hP
    have hD : va_D A [(hm, .inr (9, mF a i))] := hD
    refine iv_if_eq (tgt := 28) hx hb dX9_isSkill_9 (by decide) (by decide) (fun _ => ?_) (fun h => absurd h (by decide))
    refine lv_iconst (v := iI (0)) hx hb dX9_isSkill_28 rfl ?_
    exact Ct.zret hx hb hr hlocks (hP.sub [0] rfl) (hD.sub [0] (by decide) rfl) hS ⟨by decide, by decide⟩ dX9_isSkill_29 (by decide) ⟨Or.inr ⟨rfl, by omega⟩, rfl⟩
theorem kX9_skill_9 : ∀ w ∈ u_ws RX9 TX9 37, w ∈ wsX9_skill := fun _ h => List.mem_cons_of_mem _ (List.mem_append_right _ h)
abbrev q_X9_skill (g : GT) (hm : Nat) (a : Nat → Nat) (i : Nat → Int) (fh : Nat → Int) (fg : Nat → Int) (fl : Nat → Int) (sk : Int) (what : Int) : Option Value → va_W → Prop := fun v w => ∃ (r : Int), v = some (.int (iI r)) ∧ w = [(hm, .inr (9, mF a i)), ((a 20), aI (g.2.1 0) 8 fh), ((a 21), aI (g.2.1 0) 8 fg), ((a 22), aI (g.2.1 0) 8 fl)] ∧ (r = (if ¬ (((0 ≤ sk ∧ sk ≤ 7) ∧ i 19 / 2 ^ sk.toNat % 2 = 1) ∧ 0 ≤ what ∧ what ≤ 2) then -1 else if what = 0 then fh sk.toNat else if what = 1 then fg sk.toNat else fl sk.toNat))
set_option maxHeartbeats 4000000 in
set_option maxRecDepth 100000 in
theorem c_X9_skill (l : Launch) (g : GT) (hm : Nat) (a : Nat → Nat) (i : Nat → Int) (fh : Nat → Int) (fg : Nat → Int) (fl : Nat → Int) (sk : Int) (what : Int) (h1 : 0 ≤ i 19 ∧ i 19 < 256 ∧ (-2147483648 ≤ sk ∧ sk < 2147483648) ∧ (-2147483648 ≤ what ∧ what < 2147483648)) : Ct l g yX9_skill wsX9_skill ({ frames := 2, cells := 0, slots := 0, locals := 46 } : Room) [.ref hm, .int (iI sk), .int (iI what)] [(hm, .inr (9, mF a i)), ((a 20), aI (g.2.1 0) 8 fh), ((a 21), aI (g.2.1 0) 8 fg), ((a 22), aI (g.2.1 0) 8 fl)] (q_X9_skill g hm a i fh fg fl sk what) := by
  refine Ct.intro (maxL := 3) (ret := (some .int)) (by decide) rfl (Nat.le_of_ble_eq_true rfl) ?_
  intro p e s m below meth c A ls hx hb hr hml hown hts hlocks hnm hA hG hP hD hS hl
  have hown : s.vm.findClass RX9 = some m.cls := hown
  have hl : lv_has ls 3 [(0, .ref hm), (1, .int (iI sk)), (2, .int (iI what))] := hl
  have hP : va_P g.1 vwCl [(hm, .inr (9, mF a i)), ((a 20), aI (g.2.1 0) 8 fh), ((a 21), aI (g.2.1 0) 8 fg), ((a 22), aI (g.2.1 0) 8 fl)] s.heap := hP
  have hS : va_S A s.heap s.heap [] := hS
  obtain ⟨H, hHe⟩ : ∃ H : Heap, H = s.heap := ⟨_, rfl⟩
  obtain ⟨locs, hLe⟩ : ∃ L : List Loc, L = [] := ⟨_, rfl⟩
  have hP : va_P g.1 vwCl [(hm, .inr (9, mF a i)), ((a 20), aI (g.2.1 0) 8 fh), ((a 21), aI (g.2.1 0) 8 fg), ((a 22), aI (g.2.1 0) 8 fl)] H := by rw [hHe]; exact hP
  have hS : va_S A s.heap H locs := by rw [hHe, hLe]; exact hS
  suffices hgo : W p l e ({ frames := 2, cells := 0, slots := 0, locals := 46 } : Room) s m [.ref hm, .int (iI sk), .int (iI what)].toArray below meth c H locs 0 0 (MQ below (CQ g (q_X9_skill g hm a i fh fg fl sk what) A) [.ref hm, .int (iI sk), .int (iI what)].toArray s ({ frames := 2, cells := 0, slots := 0, locals := 46 } : Room).cells ({ frames := 2, cells := 0, slots := 0, locals := 46 } : Room).slots A) (F0 m 0 ls []) by rw [hHe, hLe] at hgo; exact hgo
  clear hHe hLe
  refine lv_aload_n hx hb dX9_skill_0 rfl (lv_at hl 0 rfl) ?_
  refine lv_iload_n hx hb dX9_skill_1 rfl (lv_at hl 1 rfl) ?_
  refine Ct.callV (ci := 9) (q0 := 0) (qc := (RX9, TX9, 37)) (As := [.int (iI sk)]) (rest := []) (wr := [((a 20), aI (g.2.1 0) 8 fh), ((a 21), aI (g.2.1 0) 8 fg), ((a 22), aI (g.2.1 0) 8 fl)]) (c1 := 0) (s1 := 0) ⟨hx, hb, hml, hown, hts⟩ (c_X9_isSkill l g hm a i sk (by omega)) rfl rfl (cwV 1 hts gX9_skill_X9_isSkill rfl rfl rfl (by decide +kernel) ⟨Nat.le_of_ble_eq_true rfl, Nat.le_of_ble_eq_true rfl⟩) hG hP hD hS hA [0] [1, 2, 3] rfl rfl (by decide) (by decide) (by decide) rfl hl.1 rfl (Nat.le_of_ble_eq_true rfl) dX9_skill_2 ⟨Nat.le_of_ble_eq_true rfl, Nat.le_of_ble_eq_true rfl⟩ rfl rfl (fun v w H locs hv hP hD hS => ?_)
  obtain ⟨⟨rfl, hb1⟩ | ⟨rfl, hb1⟩, rfl⟩ := hv
  · show W p l e _ s m _ below meth c H locs 0 0 _ (F0 m 5 ls (.int (iI 1) :: []))
    have hb1 : (0 ≤ sk ∧ sk ≤ 7) ∧ i 19 / 2 ^ sk.toNat % 2 = 1 := hb1
    have hP : va_P g.1 vwCl [((a 20), aI (g.2.1 0) 8 fh), ((a 21), aI (g.2.1 0) 8 fg), ((a 22), aI (g.2.1 0) 8 fl), (hm, .inr (9, mF a i))] H := hP
    have hD : va_D A [((a 20), aI (g.2.1 0) 8 fh), ((a 21), aI (g.2.1 0) 8 fg), ((a 22), aI (g.2.1 0) 8 fl), (hm, .inr (9, mF a i))] := hD
    refine iv_if_eq (tgt := 20) hx hb dX9_skill_5 (by decide) (by decide) (fun h => absurd h (by decide)) (fun _ => ?_)
    refine lv_iload_n hx hb dX9_skill_8 rfl (lv_at hl 2 rfl) ?_
    refine iv_i2l hx hb dX9_skill_9 (by omega) ?_
    refine lv_lconst (v := lI (0)) hx hb dX9_skill_10 (by decide) ?_
    refine iv_ldc2 (v := 2) (z := 2) hx hb hown (hts _ (List.mem_of_getElem? (i := 1) rfl)) dX9_skill_11 (by decide) ?_
    refine Ct.callS (As := [.long (lI what), .long (lI 0), .long (lI 2)]) (rest := []) (wr := [((a 20), aI (g.2.1 0) 8 fh), ((a 21), aI (g.2.1 0) 8 fg), ((a 22), aI (g.2.1 0) 8 fl), (hm, .inr (9, mF a i))]) (c1 := 0) (s1 := 0) ⟨hx, hb, hml, hown, hts⟩ (c_X9_in l g what 0 2 (by omega)) (va_cwS 3 hts gX9_skill_X9_in rfl rfl rfl (by decide +kernel) ⟨Nat.le_of_ble_eq_true rfl, Nat.le_of_ble_eq_true rfl⟩) hG hP hD hS hA [] [0, 1, 2, 3] rfl rfl (by decide) (by decide) (by decide) rfl hl.1 rfl (Nat.le_of_ble_eq_true rfl) dX9_skill_14 ⟨Nat.le_of_ble_eq_true rfl, Nat.le_of_ble_eq_true rfl⟩ rfl rfl (fun v w H locs hv hP hD hS => ?_)
    obtain ⟨⟨rfl, hb3⟩ | ⟨rfl, hb3⟩, rfl⟩ := hv
    · show W p l e _ s m _ below meth c H locs 0 0 _ (F0 m 17 ls (.int (iI 1) :: []))
      have hb3 : 0 ≤ what ∧ what ≤ 2 := hb3
      have hP : va_P g.1 vwCl [((a 20), aI (g.2.1 0) 8 fh), ((a 21), aI (g.2.1 0) 8 fg), ((a 22), aI (g.2.1 0) 8 fl), (hm, .inr (9, mF a i))] H := hP
      have hD : va_D A [((a 20), aI (g.2.1 0) 8 fh), ((a 21), aI (g.2.1 0) 8 fg), ((a 22), aI (g.2.1 0) 8 fl), (hm, .inr (9, mF a i))] := hD
      refine iv_if_ne (tgt := 22) hx hb dX9_skill_17 (by decide) (by decide) (fun _ => ?_) (fun h => absurd h (by decide))
      refine lv_iload_n hx hb dX9_skill_22 rfl (lv_at hl 2 rfl) ?_
      refine iv_if_ne (tgt := 35) hx hb dX9_skill_23 (by decide) (by omega) (fun hc5 => ?_) (fun hc5 => ?_)
      · refine lv_iload_n hx hb dX9_skill_35 rfl (lv_at hl 2 rfl) ?_
        refine lv_iconst (v := iI (1)) hx hb dX9_skill_36 rfl ?_
        refine iv_icmp_ne (tgt := 49) hx hb dX9_skill_37 (by decide) (by omega) (fun hc6 => ?_) (fun hc6 => ?_)
        · refine lv_aload_n hx hb dX9_skill_49 rfl (lv_at hl 0 rfl) ?_
          refine va_get (D := g.1) (ci := 9) (v := .ref (a 22)) hx hb hts kX9_skill_9 hown hG.1 hP 3 rfl rfl 22 (by decide) (hts _ (List.mem_of_getElem? (i := 4) rfl)) (fun _ h9 => h9) rfl dX9_skill_50 ?_
          refine lv_iload_n hx hb dX9_skill_53 rfl (lv_at hl 1 rfl) ?_
          refine iv_iald hx hb hG hP 2 rfl sk.toNat (by omega) (by omega) (by decide) dX9_skill_54 ?_
          exact Ct.iret hx hb hr hlocks (hP.sub [3, 0, 1, 2] rfl) (hD.sub [3, 0, 1, 2] (by decide) rfl) hS ⟨by decide, by decide⟩ dX9_skill_55 ⟨(fl sk.toNat), rfl, rfl, (by rw [if_neg (by omega)]; first | rw [if_pos (by omega)] | rw [if_neg (by omega), if_pos (by omega)] | rw [if_neg (by omega), if_neg (by omega)])⟩
        · refine lv_aload_n hx hb dX9_skill_40 rfl (lv_at hl 0 rfl) ?_
          refine va_get (D := g.1) (ci := 9) (v := .ref (a 21)) hx hb hts kX9_skill_9 hown hG.1 hP 3 rfl rfl 21 (by decide) (hts _ (List.mem_of_getElem? (i := 3) rfl)) (fun _ h9 => h9) rfl dX9_skill_41 ?_
          refine lv_iload_n hx hb dX9_skill_44 rfl (lv_at hl 1 rfl) ?_
          refine iv_iald hx hb hG hP 1 rfl sk.toNat (by omega) (by omega) (by decide) dX9_skill_45 ?_
          refine lv_goto (tgt := 55) hx hb dX9_skill_46 (by decide) ?_
          exact Ct.iret hx hb hr hlocks (hP.sub [3, 0, 1, 2] rfl) (hD.sub [3, 0, 1, 2] (by decide) rfl) hS ⟨by decide, by decide⟩ dX9_skill_55 ⟨(fg sk.toNat), rfl, rfl, (by rw [if_neg (by omega)]; first | rw [if_pos (by omega)] | rw [if_neg (by omega), if_pos (by omega)] | rw [if_neg (by omega), if_neg (by omega)])⟩
      · refine lv_aload_n hx hb dX9_skill_26 rfl (lv_at hl 0 rfl) ?_
        refine va_get (D := g.1) (ci := 9) (v := .ref (a 20)) hx hb hts kX9_skill_9 hown hG.1 hP 3 rfl rfl 20 (by decide) (hts _ (List.mem_of_getElem? (i := 2) rfl)) (fun _ h9 => h9) rfl dX9_skill_27 ?_
        refine lv_iload_n hx hb dX9_skill_30 rfl (lv_at hl 1 rfl) ?_
        refine iv_iald hx hb hG hP 0 rfl sk.toNat (by omega) (by omega) (by decide) dX9_skill_31 ?_
        refine lv_goto (tgt := 55) hx hb dX9_skill_32 (by decide) ?_
        exact Ct.iret hx hb hr hlocks (hP.sub [3, 0, 1, 2] rfl) (hD.sub [3, 0, 1, 2] (by decide) rfl) hS ⟨by decide, by decide⟩ dX9_skill_55 ⟨(fh sk.toNat), rfl, rfl, (by rw [if_neg (by omega)]; first | rw [if_pos (by omega)] | rw [if_neg (by omega), if_pos (by omega)] | rw [if_neg (by omega), if_neg (by omega)])⟩
    · show W p l e _ s m _ below meth c H locs 0 0 _ (F0 m 17 ls (.int (iI 0) :: []))
      have hb3 : ¬ (0 ≤ what ∧ what ≤ 2) := hb3
      have hP : va_P g.1 vwCl [((a 20), aI (g.2.1 0) 8 fh), ((a 21), aI (g.2.1 0) 8 fg), ((a 22), aI (g.2.1 0) 8 fl), (hm, .inr (9, mF a i))] H := hP
      have hD : va_D A [((a 20), aI (g.2.1 0) 8 fh), ((a 21), aI (g.2.1 0) 8 fg), ((a 22), aI (g.2.1 0) 8 fl), (hm, .inr (9, mF a i))] := hD
      refine iv_if_ne (tgt := 22) hx hb dX9_skill_17 (by decide) (by decide) (fun h => absurd h (by decide)) (fun _ => ?_)
      refine lv_iconst (v := iI (-1)) hx hb dX9_skill_20 rfl ?_
      exact Ct.iret hx hb hr hlocks (hP.sub [3, 0, 1, 2] rfl) (hD.sub [3, 0, 1, 2] (by decide) rfl) hS ⟨by decide, by decide⟩ dX9_skill_21 ⟨(-1), rfl, rfl, (by rw [if_pos (by omega)])⟩
  · show W p l e _ s m _ below meth c H locs 0 0 _ (F0 m 5 ls (.int (iI 0) :: []))
    have hb1 : ¬ ((0 ≤ sk ∧ sk ≤ 7) ∧ i 19 / 2 ^ sk.toNat % 2 = 1) := hb1
    have hP : va_P g.1 vwCl [((a 20), aI (g.2.1 0) 8 fh), ((a 21), aI (g.2.1 0) 8 fg), ((a 22), aI (g.2.1 0) 8 fl), (hm, .inr (9, mF a i))] H := hP
    have hD : va_D A [((a 20), aI (g.2.1 0) 8 fh), ((a 21), aI (g.2.1 0) 8 fg), ((a 22), aI (g.2.1 0) 8 fl), (hm, .inr (9, mF a i))] := hD
    refine iv_if_eq (tgt := 20) hx hb dX9_skill_5 (by decide) (by decide) (fun _ => ?_) (fun h => absurd h (by decide))
    refine lv_iconst (v := iI (-1)) hx hb dX9_skill_20 rfl ?_
    exact Ct.iret hx hb hr hlocks (hP.sub [3, 0, 1, 2] rfl) (hD.sub [3, 0, 1, 2] (by decide) rfl) hS ⟨by decide, by decide⟩ dX9_skill_21 ⟨(-1), rfl, rfl, (by rw [if_pos (by omega)])⟩
theorem kX9_oddsOf_9 : ∀ w ∈ u_ws RX9 TX9 37, w ∈ wsX9_oddsOf := fun _ h => List.mem_cons_of_mem _ (List.mem_append_right _ h)
abbrev q_X9_oddsOf (g : GT) (hm : Nat) (a : Nat → Nat) (i : Nat → Int) (nhf : Nat → Int) (nlt : Nat → Int) (nkn : Nat → Int) (kz : Int) (day : Int) (k : Nat) : Option Value → va_W → Prop := fun v w => ∃ (r : Int), v = some (.int (iI r)) ∧ w = [(hm, .inr (9, mF a i)), ((a 27), aI (g.2.1 0) 96 nhf), ((a 28), aI (g.2.1 0) 96 nlt), ((a 29), aI (g.2.1 1) 96 nkn)] ∧ (r = odF (nkn k) (nhf k) (nlt k) day)
set_option maxHeartbeats 4000000 in
set_option maxRecDepth 100000 in
theorem c_X9_oddsOf (l : Launch) (g : GT) (hm : Nat) (a : Nat → Nat) (i : Nat → Int) (nhf : Nat → Int) (nlt : Nat → Int) (nkn : Nat → Int) (kz : Int) (day : Int) (k : Nat) (h1 : kz = (k : Int) ∧ k < 96 ∧ 0 ≤ day ∧ day ≤ 9999 ∧ nlt k ≤ day) (hN : ∀ j, j < 96 → 0 ≤ nlt j ∧ nlt j ≤ 9999 ∧ (nkn j = 0 ∨ nkn j = 1) ∧ 0 ≤ nhf j ∧ nhf j ≤ 512 ∧ (nkn j = 1 → 1 ≤ nhf j)) : Ct l g yX9_oddsOf wsX9_oddsOf ({ frames := 0, cells := 0, slots := 0, locals := 0 } : Room) [.ref hm, .int (iI kz), .int (iI day)] [(hm, .inr (9, mF a i)), ((a 27), aI (g.2.1 0) 96 nhf), ((a 28), aI (g.2.1 0) 96 nlt), ((a 29), aI (g.2.1 1) 96 nkn)] (q_X9_oddsOf g hm a i nhf nlt nkn kz day k) := by
  refine Ct.intro (maxL := 3) (ret := (some .int)) (by decide) rfl (Nat.le_of_ble_eq_true rfl) ?_
  intro p e s m below meth c A ls hx hb hr hml hown hts hlocks hnm hA hG hP hD hS hl
  have hown : s.vm.findClass RX9 = some m.cls := hown
  have hl : lv_has ls 3 [(0, .ref hm), (1, .int (iI kz)), (2, .int (iI day))] := hl
  have hP : va_P g.1 vwCl [(hm, .inr (9, mF a i)), ((a 27), aI (g.2.1 0) 96 nhf), ((a 28), aI (g.2.1 0) 96 nlt), ((a 29), aI (g.2.1 1) 96 nkn)] s.heap := hP
  have hS : va_S A s.heap s.heap [] := hS
  have hq := hN k (by omega)
  obtain ⟨H, hHe⟩ : ∃ H : Heap, H = s.heap := ⟨_, rfl⟩
  obtain ⟨locs, hLe⟩ : ∃ L : List Loc, L = [] := ⟨_, rfl⟩
  have hP : va_P g.1 vwCl [(hm, .inr (9, mF a i)), ((a 27), aI (g.2.1 0) 96 nhf), ((a 28), aI (g.2.1 0) 96 nlt), ((a 29), aI (g.2.1 1) 96 nkn)] H := by rw [hHe]; exact hP
  have hS : va_S A s.heap H locs := by rw [hHe, hLe]; exact hS
  suffices hgo : W p l e ({ frames := 0, cells := 0, slots := 0, locals := 0 } : Room) s m [.ref hm, .int (iI kz), .int (iI day)].toArray below meth c H locs 0 0 (MQ below (CQ g (q_X9_oddsOf g hm a i nhf nlt nkn kz day k) A) [.ref hm, .int (iI kz), .int (iI day)].toArray s ({ frames := 0, cells := 0, slots := 0, locals := 0 } : Room).cells ({ frames := 0, cells := 0, slots := 0, locals := 0 } : Room).slots A) (F0 m 0 ls []) by rw [hHe, hLe] at hgo; exact hgo
  clear hHe hLe
  refine lv_aload_n hx hb dX9_oddsOf_0 rfl (lv_at hl 0 rfl) ?_
  refine va_get (D := g.1) (ci := 9) (v := .ref (a 29)) hx hb hts kX9_oddsOf_9 hown hG.1 hP 0 rfl rfl 29 (by decide) (hts _ (List.mem_of_getElem? (i := 1) rfl)) (fun _ h9 => h9) rfl dX9_oddsOf_1 ?_
  refine lv_iload_n hx hb dX9_oddsOf_4 rfl (lv_at hl 1 rfl) ?_
  refine iv_zald hx hb hG hP 3 rfl k (by omega) (by omega) (by decide) dX9_oddsOf_5 ?_
  refine iv_if_eq (tgt := 38) hx hb dX9_oddsOf_6 (by decide) (by omega) (fun hc1 => ?_) (fun hc1 => ?_)
  · refine lv_iconst (v := iI (0)) hx hb dX9_oddsOf_38 rfl ?_
    exact Ct.iret hx hb hr hlocks (hP.sub [0, 1, 2, 3] rfl) (hD.sub [0, 1, 2, 3] (by decide) rfl) hS ⟨by decide, by decide⟩ dX9_oddsOf_39 ⟨0, rfl, rfl, (by unfold odF; first | rw [if_pos (by omega)] | rw [if_neg (by omega)])⟩
  · refine lv_sipush (v := iI (1000)) hx hb dX9_oddsOf_9 (by decide) ?_
    refine lv_aload_n hx hb dX9_oddsOf_12 rfl (lv_at hl 0 rfl) ?_
    refine va_get (D := g.1) (ci := 9) (v := .ref (a 27)) hx hb hts kX9_oddsOf_9 hown hG.1 hP 0 rfl rfl 27 (by decide) (hts _ (List.mem_of_getElem? (i := 2) rfl)) (fun _ h9 => h9) rfl dX9_oddsOf_13 ?_
    refine lv_iload_n hx hb dX9_oddsOf_16 rfl (lv_at hl 1 rfl) ?_
    refine iv_iald hx hb hG hP 1 rfl k (by omega) (by omega) (by decide) dX9_oddsOf_17 ?_
    refine iv_imul hx hb dX9_oddsOf_18 ?_
    refine lv_aload_n hx hb dX9_oddsOf_19 rfl (lv_at hl 0 rfl) ?_
    refine va_get (D := g.1) (ci := 9) (v := .ref (a 27)) hx hb hts kX9_oddsOf_9 hown hG.1 hP 0 rfl rfl 27 (by decide) (hts _ (List.mem_of_getElem? (i := 2) rfl)) (fun _ h9 => h9) rfl dX9_oddsOf_20 ?_
    refine lv_iload_n hx hb dX9_oddsOf_23 rfl (lv_at hl 1 rfl) ?_
    refine iv_iald hx hb hG hP 1 rfl k (by omega) (by omega) (by decide) dX9_oddsOf_24 ?_
    refine lv_iload_n hx hb dX9_oddsOf_25 rfl (lv_at hl 2 rfl) ?_
    refine iv_iadd hx hb dX9_oddsOf_26 ?_
    refine lv_aload_n hx hb dX9_oddsOf_27 rfl (lv_at hl 0 rfl) ?_
    refine va_get (D := g.1) (ci := 9) (v := .ref (a 28)) hx hb hts kX9_oddsOf_9 hown hG.1 hP 0 rfl rfl 28 (by decide) (hts _ (List.mem_of_getElem? (i := 3) rfl)) (fun _ h9 => h9) rfl dX9_oddsOf_28 ?_
    refine lv_iload_n hx hb dX9_oddsOf_31 rfl (lv_at hl 1 rfl) ?_
    refine iv_iald hx hb hG hP 2 rfl k (by omega) (by omega) (by decide) dX9_oddsOf_32 ?_
    refine iv_isub hx hb dX9_oddsOf_33 ?_
    refine iv_idiv hx hb dX9_oddsOf_34 (by omega) ?_
    refine lv_goto (tgt := 39) hx hb dX9_oddsOf_35 (by decide) ?_
    exact Ct.iret hx hb hr hlocks (hP.sub [0, 1, 2, 3] rfl) (hD.sub [0, 1, 2, 3] (by decide) rfl) hS ⟨by decide, by decide⟩ dX9_oddsOf_39 ⟨((1000 * (nhf k)) / (((nhf k) + day) - (nlt k))), rfl, rfl, (by unfold odF; first | rw [if_pos (by omega)] | rw [if_neg (by omega)])⟩
theorem kX9_odds_9 : ∀ w ∈ u_ws RX9 TX9 37, w ∈ wsX9_odds := fun _ h => List.mem_cons_of_mem _ (List.mem_append_right _ h)
abbrev q_X9_odds (g : GT) (hm : Nat) (a : Nat → Nat) (i : Nat → Int) (nhf : Nat → Int) (nlt : Nat → Int) (nkn : Nat → Int) (x : Int) (sk : Int) (day : Int) : Option Value → va_W → Prop := fun v w => ∃ (r : Int), v = some (.int (iI r)) ∧ w = [(hm, .inr (9, mF a i)), ((a 27), aI (g.2.1 0) 96 nhf), ((a 28), aI (g.2.1 0) 96 nlt), ((a 29), aI (g.2.1 1) 96 nkn)] ∧ (r = (if ¬ ((0 ≤ x ∧ x < i 5) ∧ ((0 ≤ sk ∧ sk ≤ 7) ∧ i 19 / 2 ^ sk.toNat % 2 = 1) ∧ 0 ≤ day ∧ day ≤ 9999) then -1 else if day < nlt (8 * x.toNat + sk.toNat) then -2 else odF (nkn (8 * x.toNat + sk.toNat)) (nhf (8 * x.toNat + sk.toNat)) (nlt (8 * x.toNat + sk.toNat)) day))
set_option maxHeartbeats 4000000 in
set_option maxRecDepth 100000 in
theorem c_X9_odds (l : Launch) (g : GT) (hm : Nat) (a : Nat → Nat) (i : Nat → Int) (nhf : Nat → Int) (nlt : Nat → Int) (nkn : Nat → Int) (x : Int) (sk : Int) (day : Int) (h1 : 0 ≤ i 5 ∧ i 5 ≤ 12 ∧ 0 ≤ i 19 ∧ i 19 < 256) (h3 : (-2147483648 ≤ x ∧ x < 2147483648) ∧ (-2147483648 ≤ sk ∧ sk < 2147483648) ∧ (-2147483648 ≤ day ∧ day < 2147483648)) (hN : ∀ j, j < 96 → 0 ≤ nlt j ∧ nlt j ≤ 9999 ∧ (nkn j = 0 ∨ nkn j = 1) ∧ 0 ≤ nhf j ∧ nhf j ≤ 512 ∧ (nkn j = 1 → 1 ≤ nhf j)) : Ct l g yX9_odds wsX9_odds ({ frames := 2, cells := 0, slots := 0, locals := 46 } : Room) [.ref hm, .int (iI x), .int (iI sk), .int (iI day)] [(hm, .inr (9, mF a i)), ((a 27), aI (g.2.1 0) 96 nhf), ((a 28), aI (g.2.1 0) 96 nlt), ((a 29), aI (g.2.1 1) 96 nkn)] (q_X9_odds g hm a i nhf nlt nkn x sk day) := by
  refine Ct.intro (maxL := 5) (ret := (some .int)) (by decide) rfl (Nat.le_of_ble_eq_true rfl) ?_
  intro p e s m below meth c A ls hx hb hr hml hown hts hlocks hnm hA hG hP hD hS hl
  have hown : s.vm.findClass RX9 = some m.cls := hown
  have hl : lv_has ls 5 [(0, .ref hm), (1, .int (iI x)), (2, .int (iI sk)), (3, .int (iI day))] := hl
  have hP : va_P g.1 vwCl [(hm, .inr (9, mF a i)), ((a 27), aI (g.2.1 0) 96 nhf), ((a 28), aI (g.2.1 0) 96 nlt), ((a 29), aI (g.2.1 1) 96 nkn)] s.heap := hP
  have hS : va_S A s.heap s.heap [] := hS
  obtain ⟨H, hHe⟩ : ∃ H : Heap, H = s.heap := ⟨_, rfl⟩
  obtain ⟨locs, hLe⟩ : ∃ L : List Loc, L = [] := ⟨_, rfl⟩
  have hP : va_P g.1 vwCl [(hm, .inr (9, mF a i)), ((a 27), aI (g.2.1 0) 96 nhf), ((a 28), aI (g.2.1 0) 96 nlt), ((a 29), aI (g.2.1 1) 96 nkn)] H := by rw [hHe]; exact hP
  have hS : va_S A s.heap H locs := by rw [hHe, hLe]; exact hS
  suffices hgo : W p l e ({ frames := 2, cells := 0, slots := 0, locals := 46 } : Room) s m [.ref hm, .int (iI x), .int (iI sk), .int (iI day)].toArray below meth c H locs 0 0 (MQ below (CQ g (q_X9_odds g hm a i nhf nlt nkn x sk day) A) [.ref hm, .int (iI x), .int (iI sk), .int (iI day)].toArray s ({ frames := 2, cells := 0, slots := 0, locals := 46 } : Room).cells ({ frames := 2, cells := 0, slots := 0, locals := 46 } : Room).slots A) (F0 m 0 ls []) by rw [hHe, hLe] at hgo; exact hgo
  clear hHe hLe
  refine lv_aload_n hx hb dX9_odds_0 rfl (lv_at hl 0 rfl) ?_
  refine lv_iload_n hx hb dX9_odds_1 rfl (lv_at hl 1 rfl) ?_
  refine Ct.callV (ci := 9) (q0 := 0) (qc := (RX9, TX9, 37)) (As := [.int (iI x)]) (rest := []) (wr := [((a 27), aI (g.2.1 0) 96 nhf), ((a 28), aI (g.2.1 0) 96 nlt), ((a 29), aI (g.2.1 1) 96 nkn)]) (c1 := 0) (s1 := 0) ⟨hx, hb, hml, hown, hts⟩ (c_X9_isLearner l g hm a i x (by omega)) rfl rfl (cwV 1 hts gX9_odds_X9_isLearner rfl rfl rfl (by decide +kernel) ⟨Nat.le_of_ble_eq_true rfl, Nat.le_of_ble_eq_true rfl⟩) hG hP hD hS hA [0] [1, 2, 3] rfl rfl (by decide) (by decide) (by decide) rfl hl.1 rfl (Nat.le_of_ble_eq_true rfl) dX9_odds_2 ⟨Nat.le_of_ble_eq_true rfl, Nat.le_of_ble_eq_true rfl⟩ rfl rfl (fun v w H locs hv hP hD hS => ?_)
  obtain ⟨⟨rfl, hb1⟩ | ⟨rfl, hb1⟩, rfl⟩ := hv
  · show W p l e _ s m _ below meth c H locs 0 0 _ (F0 m 5 ls (.int (iI 1) :: []))
    have hb1 : 0 ≤ x ∧ x < i 5 := hb1
    have hP : va_P g.1 vwCl [((a 27), aI (g.2.1 0) 96 nhf), ((a 28), aI (g.2.1 0) 96 nlt), ((a 29), aI (g.2.1 1) 96 nkn), (hm, .inr (9, mF a i))] H := hP
    have hD : va_D A [((a 27), aI (g.2.1 0) 96 nhf), ((a 28), aI (g.2.1 0) 96 nlt), ((a 29), aI (g.2.1 1) 96 nkn), (hm, .inr (9, mF a i))] := hD
    refine iv_if_eq (tgt := 23) hx hb dX9_odds_5 (by decide) (by decide) (fun h => absurd h (by decide)) (fun _ => ?_)
    refine lv_aload_n hx hb dX9_odds_8 rfl (lv_at hl 0 rfl) ?_
    refine lv_iload_n hx hb dX9_odds_9 rfl (lv_at hl 2 rfl) ?_
    refine Ct.callV (ci := 9) (q0 := 3) (qc := (RX9, TX9, 37)) (As := [.int (iI sk)]) (rest := []) (wr := [((a 27), aI (g.2.1 0) 96 nhf), ((a 28), aI (g.2.1 0) 96 nlt), ((a 29), aI (g.2.1 1) 96 nkn)]) (c1 := 0) (s1 := 0) ⟨hx, hb, hml, hown, hts⟩ (c_X9_isSkill l g hm a i sk (by omega)) rfl rfl (cwV 1 hts gX9_odds_X9_isSkill rfl rfl rfl (by decide +kernel) ⟨Nat.le_of_ble_eq_true rfl, Nat.le_of_ble_eq_true rfl⟩) hG hP hD hS hA [3] [0, 1, 2] rfl rfl (by decide) (by decide) (by decide) rfl hl.1 rfl (Nat.le_of_ble_eq_true rfl) dX9_odds_10 ⟨Nat.le_of_ble_eq_true rfl, Nat.le_of_ble_eq_true rfl⟩ rfl rfl (fun v w H locs hv hP hD hS => ?_)
    obtain ⟨⟨rfl, hb3⟩ | ⟨rfl, hb3⟩, rfl⟩ := hv
    · show W p l e _ s m _ below meth c H locs 0 0 _ (F0 m 13 ls (.int (iI 1) :: []))
      have hb3 : (0 ≤ sk ∧ sk ≤ 7) ∧ i 19 / 2 ^ sk.toNat % 2 = 1 := hb3
      have hP : va_P g.1 vwCl [((a 27), aI (g.2.1 0) 96 nhf), ((a 28), aI (g.2.1 0) 96 nlt), ((a 29), aI (g.2.1 1) 96 nkn), (hm, .inr (9, mF a i))] H := hP
      have hD : va_D A [((a 27), aI (g.2.1 0) 96 nhf), ((a 28), aI (g.2.1 0) 96 nlt), ((a 29), aI (g.2.1 1) 96 nkn), (hm, .inr (9, mF a i))] := hD
      refine iv_if_eq (tgt := 23) hx hb dX9_odds_13 (by decide) (by decide) (fun h => absurd h (by decide)) (fun _ => ?_)
      refine lv_iload_n hx hb dX9_odds_16 rfl (lv_at hl 3 rfl) ?_
      refine Ct.callS (As := [.int (iI day)]) (rest := []) (wr := [((a 27), aI (g.2.1 0) 96 nhf), ((a 28), aI (g.2.1 0) 96 nlt), ((a 29), aI (g.2.1 1) 96 nkn), (hm, .inr (9, mF a i))]) (c1 := 0) (s1 := 0) ⟨hx, hb, hml, hown, hts⟩ (c_X9_isDay l g day (by omega)) (va_cwS 1 hts gX9_odds_X9_isDay rfl rfl rfl (by decide +kernel) ⟨Nat.le_of_ble_eq_true rfl, Nat.le_of_ble_eq_true rfl⟩) hG hP hD hS hA [] [0, 1, 2, 3] rfl rfl (by decide) (by decide) (by decide) rfl hl.1 rfl (Nat.le_of_ble_eq_true rfl) dX9_odds_17 ⟨Nat.le_of_ble_eq_true rfl, Nat.le_of_ble_eq_true rfl⟩ rfl rfl (fun v w H locs hv hP hD hS => ?_)
      obtain ⟨⟨rfl, hb5⟩ | ⟨rfl, hb5⟩, rfl⟩ := hv
      · show W p l e _ s m _ below meth c H locs 0 0 _ (F0 m 20 ls (.int (iI 1) :: []))
        have hb5 : 0 ≤ day ∧ day ≤ 9999 := hb5
        have hP : va_P g.1 vwCl [((a 27), aI (g.2.1 0) 96 nhf), ((a 28), aI (g.2.1 0) 96 nlt), ((a 29), aI (g.2.1 1) 96 nkn), (hm, .inr (9, mF a i))] H := hP
        have hD : va_D A [((a 27), aI (g.2.1 0) 96 nhf), ((a 28), aI (g.2.1 0) 96 nlt), ((a 29), aI (g.2.1 1) 96 nkn), (hm, .inr (9, mF a i))] := hD
        refine iv_if_ne (tgt := 25) hx hb dX9_odds_20 (by decide) (by decide) (fun _ => ?_) (fun h => absurd h (by decide))
        have hq := hN (8 * x.toNat + sk.toNat) (by omega)
        refine lv_bipush (v := iI (8)) hx hb dX9_odds_25 (by decide) ?_
        refine lv_iload_n hx hb dX9_odds_27 rfl (lv_at hl 1 rfl) ?_
        refine iv_imul hx hb dX9_odds_28 ?_
        refine lv_iload_n hx hb dX9_odds_29 rfl (lv_at hl 2 rfl) ?_
        refine iv_iadd hx hb dX9_odds_30 ?_
        refine lv_istore (lv' := [(4, .int (iI ((8 * x) + sk))), (0, .ref hm), (1, .int (iI x)), (2, .int (iI sk)), (3, .int (iI day))]) hx hb dX9_odds_31 hl (by decide) rfl (fun ls hl => ?_)
        refine lv_iload_n hx hb dX9_odds_33 rfl (lv_at hl 4 rfl) ?_
        refine lv_aload_n hx hb dX9_odds_34 rfl (lv_at hl 1 rfl) ?_
        refine va_get (D := g.1) (ci := 9) (v := .ref (a 28)) hx hb hts kX9_odds_9 hown hG.1 hP 3 rfl rfl 28 (by decide) (hts _ (List.mem_of_getElem? (i := 1) rfl)) (fun _ h9 => h9) rfl dX9_odds_35 ?_
        refine lv_iload hx hb dX9_odds_38 (lv_at hl 0 rfl) ?_
        refine iv_iald hx hb hG hP 1 rfl (8 * x.toNat + sk.toNat) (by omega) (by omega) (by decide) dX9_odds_40 ?_
        refine iv_icmp_ge (tgt := 49) hx hb dX9_odds_41 (by decide) (by omega) (fun hc7 => ?_) (fun hc7 => ?_)
        · refine lv_aload_n hx hb dX9_odds_49 rfl (lv_at hl 1 rfl) ?_
          refine lv_iload hx hb dX9_odds_50 (lv_at hl 0 rfl) ?_
          refine lv_iload_n hx hb dX9_odds_52 rfl (lv_at hl 4 rfl) ?_
          refine Ct.callV (ci := 9) (q0 := 3) (qc := (RX9, TX9, 37)) (As := [.int (iI ((8 * x) + sk)), .int (iI day)]) (rest := []) (wr := []) (c1 := 0) (s1 := 0) ⟨hx, hb, hml, hown, hts⟩ (c_X9_oddsOf l g hm a i nhf nlt nkn ((8 * x) + sk) day (8 * x.toNat + sk.toNat) (by omega) (hN)) rfl rfl (cwV 2 hts gX9_odds_X9_oddsOf rfl rfl rfl (by decide +kernel) ⟨Nat.le_of_ble_eq_true rfl, Nat.le_of_ble_eq_true rfl⟩) hG hP hD hS hA [3, 0, 1, 2] [] rfl rfl (by decide) (by decide) (by decide) rfl hl.1 rfl (Nat.le_of_ble_eq_true rfl) dX9_odds_53 ⟨Nat.le_of_ble_eq_true rfl, Nat.le_of_ble_eq_true rfl⟩ rfl rfl (fun v w H locs hv hP hD hS => ?_)
          obtain ⟨r8, rfl, rfl, hf9⟩ := hv
          show W p l e _ s m _ below meth c H locs 0 0 _ (F0 m 56 ls (.int (iI r8) :: []))
          have hP : va_P g.1 vwCl [(hm, .inr (9, mF a i)), ((a 27), aI (g.2.1 0) 96 nhf), ((a 28), aI (g.2.1 0) 96 nlt), ((a 29), aI (g.2.1 1) 96 nkn)] H := hP
          have hD : va_D A [(hm, .inr (9, mF a i)), ((a 27), aI (g.2.1 0) 96 nhf), ((a 28), aI (g.2.1 0) 96 nlt), ((a 29), aI (g.2.1 1) 96 nkn)] := hD
          have hf9 : r8 = odF (nkn (8 * x.toNat + sk.toNat)) (nhf (8 * x.toNat + sk.toNat)) (nlt (8 * x.toNat + sk.toNat)) day := hf9
          exact Ct.iret hx hb hr hlocks (hP.sub [0, 1, 2, 3] rfl) (hD.sub [0, 1, 2, 3] (by decide) rfl) hS ⟨by decide, by decide⟩ dX9_odds_56 ⟨r8, rfl, rfl, (by rw [if_neg (by omega)]; first | rw [if_pos (by omega)] | (rw [if_neg (by omega)]; assumption))⟩
        · refine lv_bipush (v := iI (-2)) hx hb dX9_odds_44 (by decide) ?_
          refine lv_goto (tgt := 56) hx hb dX9_odds_46 (by decide) ?_
          exact Ct.iret hx hb hr hlocks (hP.sub [3, 0, 1, 2] rfl) (hD.sub [3, 0, 1, 2] (by decide) rfl) hS ⟨by decide, by decide⟩ dX9_odds_56 ⟨(-2), rfl, rfl, (by rw [if_neg (by omega)]; first | rw [if_pos (by omega)] | (rw [if_neg (by omega)]; assumption))⟩
      · show W p l e _ s m _ below meth c H locs 0 0 _ (F0 m 20 ls (.int (iI 0) :: []))
        have hb5 : ¬ (0 ≤ day ∧ day ≤ 9999) := hb5
        have hP : va_P g.1 vwCl [((a 27), aI (g.2.1 0) 96 nhf), ((a 28), aI (g.2.1 0) 96 nlt), ((a 29), aI (g.2.1 1) 96 nkn), (hm, .inr (9, mF a i))] H := hP
        have hD : va_D A [((a 27), aI (g.2.1 0) 96 nhf), ((a 28), aI (g.2.1 0) 96 nlt), ((a 29), aI (g.2.1 1) 96 nkn), (hm, .inr (9, mF a i))] := hD
        refine iv_if_ne (tgt := 25) hx hb dX9_odds_20 (by decide) (by decide) (fun h => absurd h (by decide)) (fun _ => ?_)
        refine lv_iconst (v := iI (-1)) hx hb dX9_odds_23 rfl ?_
        exact Ct.iret hx hb hr hlocks (hP.sub [3, 0, 1, 2] rfl) (hD.sub [3, 0, 1, 2] (by decide) rfl) hS ⟨by decide, by decide⟩ dX9_odds_24 ⟨(-1), rfl, rfl, (by rw [if_pos (by omega)])⟩
    · show W p l e _ s m _ below meth c H locs 0 0 _ (F0 m 13 ls (.int (iI 0) :: []))
      have hb3 : ¬ ((0 ≤ sk ∧ sk ≤ 7) ∧ i 19 / 2 ^ sk.toNat % 2 = 1) := hb3
      have hP : va_P g.1 vwCl [((a 27), aI (g.2.1 0) 96 nhf), ((a 28), aI (g.2.1 0) 96 nlt), ((a 29), aI (g.2.1 1) 96 nkn), (hm, .inr (9, mF a i))] H := hP
      have hD : va_D A [((a 27), aI (g.2.1 0) 96 nhf), ((a 28), aI (g.2.1 0) 96 nlt), ((a 29), aI (g.2.1 1) 96 nkn), (hm, .inr (9, mF a i))] := hD
      refine iv_if_eq (tgt := 23) hx hb dX9_odds_13 (by decide) (by decide) (fun _ => ?_) (fun h => absurd h (by decide))
      refine lv_iconst (v := iI (-1)) hx hb dX9_odds_23 rfl ?_
      exact Ct.iret hx hb hr hlocks (hP.sub [3, 0, 1, 2] rfl) (hD.sub [3, 0, 1, 2] (by decide) rfl) hS ⟨by decide, by decide⟩ dX9_odds_24 ⟨(-1), rfl, rfl, (by rw [if_pos (by omega)])⟩
  · show W p l e _ s m _ below meth c H locs 0 0 _ (F0 m 5 ls (.int (iI 0) :: []))
    have hb1 : ¬ (0 ≤ x ∧ x < i 5) := hb1
    have hP : va_P g.1 vwCl [((a 27), aI (g.2.1 0) 96 nhf), ((a 28), aI (g.2.1 0) 96 nlt), ((a 29), aI (g.2.1 1) 96 nkn), (hm, .inr (9, mF a i))] H := hP
    have hD : va_D A [((a 27), aI (g.2.1 0) 96 nhf), ((a 28), aI (g.2.1 0) 96 nlt), ((a 29), aI (g.2.1 1) 96 nkn), (hm, .inr (9, mF a i))] := hD
    refine iv_if_eq (tgt := 23) hx hb dX9_odds_5 (by decide) (by decide) (fun _ => ?_) (fun h => absurd h (by decide))
    refine lv_iconst (v := iI (-1)) hx hb dX9_odds_23 rfl ?_
    exact Ct.iret hx hb hr hlocks (hP.sub [3, 0, 1, 2] rfl) (hD.sub [3, 0, 1, 2] (by decide) rfl) hS ⟨by decide, by decide⟩ dX9_odds_24 ⟨(-1), rfl, rfl, (by rw [if_pos (by omega)])⟩
theorem kX9_again_9 : ∀ w ∈ u_ws RX9 TX9 37, w ∈ wsX9_again := fun _ h => List.mem_cons_of_mem _ (List.mem_append_right _ h)
abbrev q_X9_again (g : GT) (hm : Nat) (a : Nat → Nat) (i : Nat → Int) (nhf : Nat → Int) (nlt : Nat → Int) (nkn : Nat → Int) (x : Int) (sk : Int) (v_ : Int) : Option Value → va_W → Prop := fun v w => ∃ (r : Int), v = some (.int (iI r)) ∧ w = [(hm, .inr (9, mF a i)), ((a 27), aI (g.2.1 0) 96 nhf), ((a 28), aI (g.2.1 0) 96 nlt), ((a 29), aI (g.2.1 1) 96 nkn)] ∧ (r = (if ¬ ((0 ≤ x ∧ x < i 5) ∧ ((0 ≤ sk ∧ sk ≤ 7) ∧ i 19 / 2 ^ sk.toNat % 2 = 1) ∧ 1 ≤ v_ ∧ v_ ≤ 1000) then -1 else if nkn (8 * x.toNat + sk.toNat) = 0 then -4 else nlt (8 * x.toNat + sk.toNat) + (1000 - v_) * nhf (8 * x.toNat + sk.toNat) / v_ + 1))
set_option maxHeartbeats 4000000 in
set_option maxRecDepth 100000 in
theorem c_X9_again (l : Launch) (g : GT) (hm : Nat) (a : Nat → Nat) (i : Nat → Int) (nhf : Nat → Int) (nlt : Nat → Int) (nkn : Nat → Int) (x : Int) (sk : Int) (v_ : Int) (h1 : 0 ≤ i 5 ∧ i 5 ≤ 12 ∧ 0 ≤ i 19 ∧ i 19 < 256) (h3 : (-2147483648 ≤ x ∧ x < 2147483648) ∧ (-2147483648 ≤ sk ∧ sk < 2147483648) ∧ (-2147483648 ≤ v_ ∧ v_ < 2147483648)) (hN : ∀ j, j < 96 → 0 ≤ nlt j ∧ nlt j ≤ 9999 ∧ (nkn j = 0 ∨ nkn j = 1) ∧ 0 ≤ nhf j ∧ nhf j ≤ 512 ∧ (nkn j = 1 → 1 ≤ nhf j)) : Ct l g yX9_again wsX9_again ({ frames := 2, cells := 0, slots := 0, locals := 46 } : Room) [.ref hm, .int (iI x), .int (iI sk), .int (iI v_)] [(hm, .inr (9, mF a i)), ((a 27), aI (g.2.1 0) 96 nhf), ((a 28), aI (g.2.1 0) 96 nlt), ((a 29), aI (g.2.1 1) 96 nkn)] (q_X9_again g hm a i nhf nlt nkn x sk v_) := by
  refine Ct.intro (maxL := 5) (ret := (some .int)) (by decide) rfl (Nat.le_of_ble_eq_true rfl) ?_
  intro p e s m below meth c A ls hx hb hr hml hown hts hlocks hnm hA hG hP hD hS hl
  have hown : s.vm.findClass RX9 = some m.cls := hown
  have hl : lv_has ls 5 [(0, .ref hm), (1, .int (iI x)), (2, .int (iI sk)), (3, .int (iI v_))] := hl
  have hP : va_P g.1 vwCl [(hm, .inr (9, mF a i)), ((a 27), aI (g.2.1 0) 96 nhf), ((a 28), aI (g.2.1 0) 96 nlt), ((a 29), aI (g.2.1 1) 96 nkn)] s.heap := hP
  have hS : va_S A s.heap s.heap [] := hS
  obtain ⟨H, hHe⟩ : ∃ H : Heap, H = s.heap := ⟨_, rfl⟩
  obtain ⟨locs, hLe⟩ : ∃ L : List Loc, L = [] := ⟨_, rfl⟩
  have hP : va_P g.1 vwCl [(hm, .inr (9, mF a i)), ((a 27), aI (g.2.1 0) 96 nhf), ((a 28), aI (g.2.1 0) 96 nlt), ((a 29), aI (g.2.1 1) 96 nkn)] H := by rw [hHe]; exact hP
  have hS : va_S A s.heap H locs := by rw [hHe, hLe]; exact hS
  suffices hgo : W p l e ({ frames := 2, cells := 0, slots := 0, locals := 46 } : Room) s m [.ref hm, .int (iI x), .int (iI sk), .int (iI v_)].toArray below meth c H locs 0 0 (MQ below (CQ g (q_X9_again g hm a i nhf nlt nkn x sk v_) A) [.ref hm, .int (iI x), .int (iI sk), .int (iI v_)].toArray s ({ frames := 2, cells := 0, slots := 0, locals := 46 } : Room).cells ({ frames := 2, cells := 0, slots := 0, locals := 46 } : Room).slots A) (F0 m 0 ls []) by rw [hHe, hLe] at hgo; exact hgo
  clear hHe hLe
  refine lv_aload_n hx hb dX9_again_0 rfl (lv_at hl 0 rfl) ?_
  refine lv_iload_n hx hb dX9_again_1 rfl (lv_at hl 1 rfl) ?_
  refine Ct.callV (ci := 9) (q0 := 0) (qc := (RX9, TX9, 37)) (As := [.int (iI x)]) (rest := []) (wr := [((a 27), aI (g.2.1 0) 96 nhf), ((a 28), aI (g.2.1 0) 96 nlt), ((a 29), aI (g.2.1 1) 96 nkn)]) (c1 := 0) (s1 := 0) ⟨hx, hb, hml, hown, hts⟩ (c_X9_isLearner l g hm a i x (by omega)) rfl rfl (cwV 1 hts gX9_again_X9_isLearner rfl rfl rfl (by decide +kernel) ⟨Nat.le_of_ble_eq_true rfl, Nat.le_of_ble_eq_true rfl⟩) hG hP hD hS hA [0] [1, 2, 3] rfl rfl (by decide) (by decide) (by decide) rfl hl.1 rfl (Nat.le_of_ble_eq_true rfl) dX9_again_2 ⟨Nat.le_of_ble_eq_true rfl, Nat.le_of_ble_eq_true rfl⟩ rfl rfl (fun v w H locs hv hP hD hS => ?_)
  obtain ⟨⟨rfl, hb1⟩ | ⟨rfl, hb1⟩, rfl⟩ := hv
  · show W p l e _ s m _ below meth c H locs 0 0 _ (F0 m 5 ls (.int (iI 1) :: []))
    have hb1 : 0 ≤ x ∧ x < i 5 := hb1
    have hP : va_P g.1 vwCl [((a 27), aI (g.2.1 0) 96 nhf), ((a 28), aI (g.2.1 0) 96 nlt), ((a 29), aI (g.2.1 1) 96 nkn), (hm, .inr (9, mF a i))] H := hP
    have hD : va_D A [((a 27), aI (g.2.1 0) 96 nhf), ((a 28), aI (g.2.1 0) 96 nlt), ((a 29), aI (g.2.1 1) 96 nkn), (hm, .inr (9, mF a i))] := hD
    refine iv_if_eq (tgt := 28) hx hb dX9_again_5 (by decide) (by decide) (fun h => absurd h (by decide)) (fun _ => ?_)
    refine lv_aload_n hx hb dX9_again_8 rfl (lv_at hl 0 rfl) ?_
    refine lv_iload_n hx hb dX9_again_9 rfl (lv_at hl 2 rfl) ?_
    refine Ct.callV (ci := 9) (q0 := 3) (qc := (RX9, TX9, 37)) (As := [.int (iI sk)]) (rest := []) (wr := [((a 27), aI (g.2.1 0) 96 nhf), ((a 28), aI (g.2.1 0) 96 nlt), ((a 29), aI (g.2.1 1) 96 nkn)]) (c1 := 0) (s1 := 0) ⟨hx, hb, hml, hown, hts⟩ (c_X9_isSkill l g hm a i sk (by omega)) rfl rfl (cwV 1 hts gX9_again_X9_isSkill rfl rfl rfl (by decide +kernel) ⟨Nat.le_of_ble_eq_true rfl, Nat.le_of_ble_eq_true rfl⟩) hG hP hD hS hA [3] [0, 1, 2] rfl rfl (by decide) (by decide) (by decide) rfl hl.1 rfl (Nat.le_of_ble_eq_true rfl) dX9_again_10 ⟨Nat.le_of_ble_eq_true rfl, Nat.le_of_ble_eq_true rfl⟩ rfl rfl (fun v w H locs hv hP hD hS => ?_)
    obtain ⟨⟨rfl, hb3⟩ | ⟨rfl, hb3⟩, rfl⟩ := hv
    · show W p l e _ s m _ below meth c H locs 0 0 _ (F0 m 13 ls (.int (iI 1) :: []))
      have hb3 : (0 ≤ sk ∧ sk ≤ 7) ∧ i 19 / 2 ^ sk.toNat % 2 = 1 := hb3
      have hP : va_P g.1 vwCl [((a 27), aI (g.2.1 0) 96 nhf), ((a 28), aI (g.2.1 0) 96 nlt), ((a 29), aI (g.2.1 1) 96 nkn), (hm, .inr (9, mF a i))] H := hP
      have hD : va_D A [((a 27), aI (g.2.1 0) 96 nhf), ((a 28), aI (g.2.1 0) 96 nlt), ((a 29), aI (g.2.1 1) 96 nkn), (hm, .inr (9, mF a i))] := hD
      refine iv_if_eq (tgt := 28) hx hb dX9_again_13 (by decide) (by decide) (fun h => absurd h (by decide)) (fun _ => ?_)
      refine lv_iload_n hx hb dX9_again_16 rfl (lv_at hl 3 rfl) ?_
      refine iv_i2l hx hb dX9_again_17 (by omega) ?_
      refine lv_lconst (v := lI (1)) hx hb dX9_again_18 (by decide) ?_
      refine iv_ldc2 (v := 1000) (z := 1000) hx hb hown (hts _ (List.mem_of_getElem? (i := 1) rfl)) dX9_again_19 (by decide) ?_
      refine Ct.callS (As := [.long (lI v_), .long (lI 1), .long (lI 1000)]) (rest := []) (wr := [((a 27), aI (g.2.1 0) 96 nhf), ((a 28), aI (g.2.1 0) 96 nlt), ((a 29), aI (g.2.1 1) 96 nkn), (hm, .inr (9, mF a i))]) (c1 := 0) (s1 := 0) ⟨hx, hb, hml, hown, hts⟩ (c_X9_in l g v_ 1 1000 (by omega)) (va_cwS 3 hts gX9_again_X9_in rfl rfl rfl (by decide +kernel) ⟨Nat.le_of_ble_eq_true rfl, Nat.le_of_ble_eq_true rfl⟩) hG hP hD hS hA [] [0, 1, 2, 3] rfl rfl (by decide) (by decide) (by decide) rfl hl.1 rfl (Nat.le_of_ble_eq_true rfl) dX9_again_22 ⟨Nat.le_of_ble_eq_true rfl, Nat.le_of_ble_eq_true rfl⟩ rfl rfl (fun v w H locs hv hP hD hS => ?_)
      obtain ⟨⟨rfl, hb5⟩ | ⟨rfl, hb5⟩, rfl⟩ := hv
      · show W p l e _ s m _ below meth c H locs 0 0 _ (F0 m 25 ls (.int (iI 1) :: []))
        have hb5 : 1 ≤ v_ ∧ v_ ≤ 1000 := hb5
        have hP : va_P g.1 vwCl [((a 27), aI (g.2.1 0) 96 nhf), ((a 28), aI (g.2.1 0) 96 nlt), ((a 29), aI (g.2.1 1) 96 nkn), (hm, .inr (9, mF a i))] H := hP
        have hD : va_D A [((a 27), aI (g.2.1 0) 96 nhf), ((a 28), aI (g.2.1 0) 96 nlt), ((a 29), aI (g.2.1 1) 96 nkn), (hm, .inr (9, mF a i))] := hD
        refine iv_if_ne (tgt := 30) hx hb dX9_again_25 (by decide) (by decide) (fun _ => ?_) (fun h => absurd h (by decide))
        have hq := hN (8 * x.toNat + sk.toNat) (by omega)
        refine lv_bipush (v := iI (8)) hx hb dX9_again_30 (by decide) ?_
        refine lv_iload_n hx hb dX9_again_32 rfl (lv_at hl 1 rfl) ?_
        refine iv_imul hx hb dX9_again_33 ?_
        refine lv_iload_n hx hb dX9_again_34 rfl (lv_at hl 2 rfl) ?_
        refine iv_iadd hx hb dX9_again_35 ?_
        refine lv_istore (lv' := [(4, .int (iI ((8 * x) + sk))), (0, .ref hm), (1, .int (iI x)), (2, .int (iI sk)), (3, .int (iI v_))]) hx hb dX9_again_36 hl (by decide) rfl (fun ls hl => ?_)
        refine lv_aload_n hx hb dX9_again_38 rfl (lv_at hl 1 rfl) ?_
        refine va_get (D := g.1) (ci := 9) (v := .ref (a 29)) hx hb hts kX9_again_9 hown hG.1 hP 3 rfl rfl 29 (by decide) (hts _ (List.mem_of_getElem? (i := 2) rfl)) (fun _ h9 => h9) rfl dX9_again_39 ?_
        refine lv_iload hx hb dX9_again_42 (lv_at hl 0 rfl) ?_
        refine iv_zald hx hb hG hP 2 rfl (8 * x.toNat + sk.toNat) (by omega) (by omega) (by decide) dX9_again_44 ?_
        refine iv_if_eq (tgt := 76) hx hb dX9_again_45 (by decide) (by omega) (fun hc7 => ?_) (fun hc7 => ?_)
        · refine lv_bipush (v := iI (-4)) hx hb dX9_again_76 (by decide) ?_
          exact Ct.iret hx hb hr hlocks (hP.sub [3, 0, 1, 2] rfl) (hD.sub [3, 0, 1, 2] (by decide) rfl) hS ⟨by decide, by decide⟩ dX9_again_78 ⟨(-4), rfl, rfl, (by rw [if_neg (by omega)]; first | rw [if_pos (by omega)] | rw [if_neg (by omega)])⟩
        · refine lv_aload_n hx hb dX9_again_48 rfl (lv_at hl 1 rfl) ?_
          refine va_get (D := g.1) (ci := 9) (v := .ref (a 28)) hx hb hts kX9_again_9 hown hG.1 hP 3 rfl rfl 28 (by decide) (hts _ (List.mem_of_getElem? (i := 3) rfl)) (fun _ h9 => h9) rfl dX9_again_49 ?_
          refine lv_iload hx hb dX9_again_52 (lv_at hl 0 rfl) ?_
          refine iv_iald hx hb hG hP 1 rfl (8 * x.toNat + sk.toNat) (by omega) (by omega) (by decide) dX9_again_54 ?_
          refine lv_sipush (v := iI (1000)) hx hb dX9_again_55 (by decide) ?_
          refine lv_iload_n hx hb dX9_again_58 rfl (lv_at hl 4 rfl) ?_
          refine iv_isub hx hb dX9_again_59 ?_
          refine lv_aload_n hx hb dX9_again_60 rfl (lv_at hl 1 rfl) ?_
          refine va_get (D := g.1) (ci := 9) (v := .ref (a 27)) hx hb hts kX9_again_9 hown hG.1 hP 3 rfl rfl 27 (by decide) (hts _ (List.mem_of_getElem? (i := 4) rfl)) (fun _ h9 => h9) rfl dX9_again_61 ?_
          refine lv_iload hx hb dX9_again_64 (lv_at hl 0 rfl) ?_
          refine iv_iald hx hb hG hP 0 rfl (8 * x.toNat + sk.toNat) (by omega) (by omega) (by decide) dX9_again_66 ?_
          refine iv_imul hx hb dX9_again_67 ?_
          have hmc := mulC (a := 1000 - v_) (b := nhf (8 * x.toNat + sk.toNat)) (by omega) (by omega)
          refine lv_iload_n hx hb dX9_again_68 rfl (lv_at hl 4 rfl) ?_
          refine iv_idiv hx hb dX9_again_69 (by omega) ?_
          refine iv_iadd hx hb dX9_again_70 ?_
          refine lv_iconst (v := iI (1)) hx hb dX9_again_71 rfl ?_
          refine iv_iadd hx hb dX9_again_72 ?_
          refine lv_goto (tgt := 78) hx hb dX9_again_73 (by decide) ?_
          exact Ct.iret hx hb hr hlocks (hP.sub [3, 0, 1, 2] rfl) (hD.sub [3, 0, 1, 2] (by decide) rfl) hS ⟨by decide, by decide⟩ dX9_again_78 ⟨(((nlt (8 * x.toNat + sk.toNat)) + (((1000 - v_) * (nhf (8 * x.toNat + sk.toNat))) / v_)) + 1), rfl, rfl, (by rw [if_neg (by omega)]; first | rw [if_pos (by omega)] | rw [if_neg (by omega)])⟩
      · show W p l e _ s m _ below meth c H locs 0 0 _ (F0 m 25 ls (.int (iI 0) :: []))
        have hb5 : ¬ (1 ≤ v_ ∧ v_ ≤ 1000) := hb5
        have hP : va_P g.1 vwCl [((a 27), aI (g.2.1 0) 96 nhf), ((a 28), aI (g.2.1 0) 96 nlt), ((a 29), aI (g.2.1 1) 96 nkn), (hm, .inr (9, mF a i))] H := hP
        have hD : va_D A [((a 27), aI (g.2.1 0) 96 nhf), ((a 28), aI (g.2.1 0) 96 nlt), ((a 29), aI (g.2.1 1) 96 nkn), (hm, .inr (9, mF a i))] := hD
        refine iv_if_ne (tgt := 30) hx hb dX9_again_25 (by decide) (by decide) (fun h => absurd h (by decide)) (fun _ => ?_)
        refine lv_iconst (v := iI (-1)) hx hb dX9_again_28 rfl ?_
        exact Ct.iret hx hb hr hlocks (hP.sub [3, 0, 1, 2] rfl) (hD.sub [3, 0, 1, 2] (by decide) rfl) hS ⟨by decide, by decide⟩ dX9_again_29 ⟨(-1), rfl, rfl, (by rw [if_pos (by omega)])⟩
    · show W p l e _ s m _ below meth c H locs 0 0 _ (F0 m 13 ls (.int (iI 0) :: []))
      have hb3 : ¬ ((0 ≤ sk ∧ sk ≤ 7) ∧ i 19 / 2 ^ sk.toNat % 2 = 1) := hb3
      have hP : va_P g.1 vwCl [((a 27), aI (g.2.1 0) 96 nhf), ((a 28), aI (g.2.1 0) 96 nlt), ((a 29), aI (g.2.1 1) 96 nkn), (hm, .inr (9, mF a i))] H := hP
      have hD : va_D A [((a 27), aI (g.2.1 0) 96 nhf), ((a 28), aI (g.2.1 0) 96 nlt), ((a 29), aI (g.2.1 1) 96 nkn), (hm, .inr (9, mF a i))] := hD
      refine iv_if_eq (tgt := 28) hx hb dX9_again_13 (by decide) (by decide) (fun _ => ?_) (fun h => absurd h (by decide))
      refine lv_iconst (v := iI (-1)) hx hb dX9_again_28 rfl ?_
      exact Ct.iret hx hb hr hlocks (hP.sub [3, 0, 1, 2] rfl) (hD.sub [3, 0, 1, 2] (by decide) rfl) hS ⟨by decide, by decide⟩ dX9_again_29 ⟨(-1), rfl, rfl, (by rw [if_pos (by omega)])⟩
  · show W p l e _ s m _ below meth c H locs 0 0 _ (F0 m 5 ls (.int (iI 0) :: []))
    have hb1 : ¬ (0 ≤ x ∧ x < i 5) := hb1
    have hP : va_P g.1 vwCl [((a 27), aI (g.2.1 0) 96 nhf), ((a 28), aI (g.2.1 0) 96 nlt), ((a 29), aI (g.2.1 1) 96 nkn), (hm, .inr (9, mF a i))] H := hP
    have hD : va_D A [((a 27), aI (g.2.1 0) 96 nhf), ((a 28), aI (g.2.1 0) 96 nlt), ((a 29), aI (g.2.1 1) 96 nkn), (hm, .inr (9, mF a i))] := hD
    refine iv_if_eq (tgt := 28) hx hb dX9_again_5 (by decide) (by decide) (fun _ => ?_) (fun h => absurd h (by decide))
    refine lv_iconst (v := iI (-1)) hx hb dX9_again_28 rfl ?_
    exact Ct.iret hx hb hr hlocks (hP.sub [3, 0, 1, 2] rfl) (hD.sub [3, 0, 1, 2] (by decide) rfl) hS ⟨by decide, by decide⟩ dX9_again_29 ⟨(-1), rfl, rfl, (by rw [if_pos (by omega)])⟩
abbrev q_X9_sumOf (g : GT) (ar : Nat) (f : Nat → Int) (x : Int) : Option Value → va_W → Prop := fun v w => v = some (.int (iI (sD f x 8))) ∧ w = [(ar, aI (g.2.1 0) 8 f)]
set_option maxHeartbeats 4000000 in
set_option maxRecDepth 100000 in
theorem c_X9_sumOf (l : Launch) (g : GT) (ar : Nat) (f : Nat → Int) (x : Int) (h1 : 0 ≤ x ∧ x < 256) : Ct l g yX9_sumOf wsX9_sumOf ({ frames := 0, cells := 0, slots := 0, locals := 0 } : Room) [.int (iI x), .ref ar] [(ar, aI (g.2.1 0) 8 f)] (q_X9_sumOf g ar f x) := by
  refine Ct.intro (maxL := 4) (ret := (some .int)) (by decide) rfl (Nat.le_of_ble_eq_true rfl) ?_
  intro p e s m below meth c A ls hx hb hr hml hown hts hlocks hnm hA hG hP hD hS hl
  have hown : s.vm.findClass RX9 = some m.cls := hown
  have hl : lv_has ls 4 [(0, .int (iI x)), (1, .ref ar)] := hl
  have hP : va_P g.1 vwCl [(ar, aI (g.2.1 0) 8 f)] s.heap := hP
  have hS : va_S A s.heap s.heap [] := hS
  obtain ⟨H, hHe⟩ : ∃ H : Heap, H = s.heap := ⟨_, rfl⟩
  obtain ⟨locs, hLe⟩ : ∃ L : List Loc, L = [] := ⟨_, rfl⟩
  have hP : va_P g.1 vwCl [(ar, aI (g.2.1 0) 8 f)] H := by rw [hHe]; exact hP
  have hS : va_S A s.heap H locs := by rw [hHe, hLe]; exact hS
  suffices hgo : W p l e ({ frames := 0, cells := 0, slots := 0, locals := 0 } : Room) s m [.int (iI x), .ref ar].toArray below meth c H locs 0 0 (MQ below (CQ g (q_X9_sumOf g ar f x) A) [.int (iI x), .ref ar].toArray s ({ frames := 0, cells := 0, slots := 0, locals := 0 } : Room).cells ({ frames := 0, cells := 0, slots := 0, locals := 0 } : Room).slots A) (F0 m 0 ls []) by rw [hHe, hLe] at hgo; exact hgo
  clear hHe hLe
  refine lv_iconst (v := iI (0)) hx hb dX9_sumOf_0 rfl ?_
  refine lv_istore_n (lv' := [(2, .int (iI 0)), (0, .int (iI x)), (1, .ref ar)]) hx hb dX9_sumOf_1 rfl hl (by decide) rfl (fun ls hl => ?_)
  refine lv_iconst (v := iI (0)) hx hb dX9_sumOf_2 rfl ?_
  refine lv_istore_n (lv' := [(3, .int (iI 0)), (2, .int (iI 0)), (0, .int (iI x)), (1, .ref ar)]) hx hb dX9_sumOf_3 rfl hl (by decide) rfl (fun ls hl => ?_)
  have hloop4 : ∀ (fuel : Nat) (sm : Int) (zj : Int) (j : Nat) (hc : zj = (j : Int) ∧ j ≤ 8) (he : sm = sD f x j) (hmeas : 8 - j < fuel), ∀ (H : Heap) (locs : List Loc) (ls : Array Slot), va_P g.1 vwCl [(ar, aI (g.2.1 0) 8 f)] H → va_D A [(ar, aI (g.2.1 0) 8 f)] → va_S A s.heap H locs → lv_has ls 4 [(3, .int (iI zj)), (2, .int (iI sm)), (0, .int (iI x)), (1, .ref ar)] → W p l e ({ frames := 0, cells := 0, slots := 0, locals := 0 } : Room) s m [.int (iI x), .ref ar].toArray below meth c H locs 0 0 (MQ below (CQ g (q_X9_sumOf g ar f x) A) [.int (iI x), .ref ar].toArray s ({ frames := 0, cells := 0, slots := 0, locals := 0 } : Room).cells ({ frames := 0, cells := 0, slots := 0, locals := 0 } : Room).slots A) (F0 m 4 ls []) := by
    intro fuel
    induction fuel with
    | zero => intro sm zj j hc he hmeas; exact absurd hmeas (Nat.not_lt_zero _)
    | succ fuel ih4 =>
      intro sm zj j hc he hmeas H locs ls hP hD hS hl
      refine lv_iload_n hx hb dX9_sumOf_4 rfl (lv_at hl 0 rfl) ?_
      refine lv_bipush (v := iI (8)) hx hb dX9_sumOf_5 (by decide) ?_
      refine iv_icmp_ge (tgt := 35) hx hb dX9_sumOf_7 (by decide) (by omega) (fun hc1 => ?_) (fun hc1 => ?_)
      · refine lv_iload_n hx hb dX9_sumOf_35 rfl (lv_at hl 1 rfl) ?_
        exact Ct.iret hx hb hr hlocks (hP.sub [0] rfl) (hD.sub [0] (by decide) rfl) hS ⟨by decide, by decide⟩ dX9_sumOf_36 ⟨(by rw [he, show j = 8 from by omega]), rfl⟩
      · have hq := sh_rng j (z := x) (by omega)
        refine lv_iload_n hx hb dX9_sumOf_10 rfl (lv_at hl 1 rfl) ?_
        refine lv_iload_n hx hb dX9_sumOf_11 rfl (lv_at hl 2 rfl) ?_
        refine lv_iload_n hx hb dX9_sumOf_12 rfl (lv_at hl 0 rfl) ?_
        refine iv_ishr hx hb dX9_sumOf_13 (by omega) ?_
        refine iv_as (x / 2 ^ j) (by rw [show zj.toNat = j from by omega]) ?_
        refine lv_iconst (v := iI (1)) hx hb dX9_sumOf_14 rfl ?_
        refine iv_and1 hx hb dX9_sumOf_15 (by omega) ?_
        refine lv_iconst (v := iI (1)) hx hb dX9_sumOf_16 rfl ?_
        refine iv_icmp_ne (tgt := 26) hx hb dX9_sumOf_17 (by decide) (by omega) (fun hc2 => ?_) (fun hc2 => ?_)
        · refine lv_iconst (v := iI (0)) hx hb dX9_sumOf_26 rfl ?_
          refine iv_iadd hx hb dX9_sumOf_27 ?_
          refine lv_istore_n (lv' := [(2, .int (iI (sm + 0))), (3, .int (iI zj)), (0, .int (iI x)), (1, .ref ar)]) hx hb dX9_sumOf_28 rfl hl (by decide) rfl (fun ls hl => ?_)
          refine iv_iinc (k := 1) (x := zj) (lv' := [(3, .int (iI (zj + 1))), (2, .int (iI (sm + 0))), (0, .int (iI x)), (1, .ref ar)]) hx hb dX9_sumOf_29 hl rfl (by decide) rfl (fun ls hl => ?_)
          refine lv_goto (tgt := 4) hx hb dX9_sumOf_32 (by decide) ?_
          exact ih4 (sm + 0) (zj + 1) (j + 1) (by omega) (by simp only [sD]; split <;> omega) (by omega) H locs ls (hP.sub [0] rfl) (hD.sub [0] (by decide) rfl) hS (lv_sub hl [0, 1, 2, 3] rfl)
        · refine lv_aload_n hx hb dX9_sumOf_20 rfl (lv_at hl 3 rfl) ?_
          refine lv_iload_n hx hb dX9_sumOf_21 rfl (lv_at hl 0 rfl) ?_
          refine iv_iald hx hb hG hP 0 rfl j (by omega) (by omega) (by decide) dX9_sumOf_22 ?_
          refine lv_goto (tgt := 27) hx hb dX9_sumOf_23 (by decide) ?_
          refine iv_iadd hx hb dX9_sumOf_27 ?_
          refine lv_istore_n (lv' := [(2, .int (iI (sm + (f j)))), (3, .int (iI zj)), (0, .int (iI x)), (1, .ref ar)]) hx hb dX9_sumOf_28 rfl hl (by decide) rfl (fun ls hl => ?_)
          refine iv_iinc (k := 1) (x := zj) (lv' := [(3, .int (iI (zj + 1))), (2, .int (iI (sm + (f j)))), (0, .int (iI x)), (1, .ref ar)]) hx hb dX9_sumOf_29 hl rfl (by decide) rfl (fun ls hl => ?_)
          refine lv_goto (tgt := 4) hx hb dX9_sumOf_32 (by decide) ?_
          exact ih4 (sm + (f j)) (zj + 1) (j + 1) (by omega) (by simp only [sD]; split <;> omega) (by omega) H locs ls (hP.sub [0] rfl) (hD.sub [0] (by decide) rfl) hS (lv_sub hl [0, 1, 2, 3] rfl)
  exact hloop4 _ 0 0 0 (by omega) (rfl) (Nat.lt_succ_self _) H locs ls (hP.sub [0] rfl) (hD.sub [0] (by decide) rfl) hS (lv_sub hl [0, 1, 2, 3] rfl)
