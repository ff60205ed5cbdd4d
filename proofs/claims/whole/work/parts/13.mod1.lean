abbrev q_X9_in (g : GT) (x : Int) (lo : Int) (hi : Int) : Option Value → va_W → Prop := fun v w => (v = some (.int (iI 1)) ∧ (lo ≤ x ∧ x ≤ hi) ∨ v = some (.int (iI 0)) ∧ ¬ (lo ≤ x ∧ x ≤ hi)) ∧ w = []
set_option maxHeartbeats 4000000 in
set_option maxRecDepth 100000 in
theorem c_X9_in (l : Launch) (g : GT) (x : Int) (lo : Int) (hi : Int) (h1 : (-9223372036854775808 ≤ x ∧ x < 9223372036854775808) ∧ (-9223372036854775808 ≤ lo ∧ lo < 9223372036854775808) ∧ (-9223372036854775808 ≤ hi ∧ hi < 9223372036854775808)) : Ct l g yX9_in wsX9_in ({ frames := 0, cells := 0, slots := 0, locals := 0 } : Room) [.long (lI x), .long (lI lo), .long (lI hi)] [] (q_X9_in g x lo hi) := by
  refine Ct.intro (maxL := 6) (ret := (some .boolean)) (by decide) rfl (Nat.le_of_ble_eq_true rfl) ?_
  intro p e s m below meth c A ls hx hb hr hml hown hts hlocks hnm hA hG hP hD hS hl
  have hown : s.vm.findClass RX9 = some m.cls := hown
  have hl : lv_has ls 6 [(0, .long (lI x)), (2, .long (lI lo)), (4, .long (lI hi))] := hl
  have hP : va_P g.1 vwCl [] s.heap := hP
  have hS : va_S A s.heap s.heap [] := hS
  obtain ⟨H, hHe⟩ : ∃ H : Heap, H = s.heap := ⟨_, rfl⟩
  obtain ⟨locs, hLe⟩ : ∃ L : List Loc, L = [] := ⟨_, rfl⟩
  have hP : va_P g.1 vwCl [] H := by rw [hHe]; exact hP
  have hS : va_S A s.heap H locs := by rw [hHe, hLe]; exact hS
  suffices hgo : W p l e ({ frames := 0, cells := 0, slots := 0, locals := 0 } : Room) s m [.long (lI x), .long (lI lo), .long (lI hi)].toArray below meth c H locs 0 0 (MQ below (CQ g (q_X9_in g x lo hi) A) [.long (lI x), .long (lI lo), .long (lI hi)].toArray s ({ frames := 0, cells := 0, slots := 0, locals := 0 } : Room).cells ({ frames := 0, cells := 0, slots := 0, locals := 0 } : Room).slots A) (F0 m 0 ls []) by rw [hHe, hLe] at hgo; exact hgo
  clear hHe hLe
  refine lv_lload_n hx hb dX9_in_0 rfl (lv_at hl 0 rfl) ?_
  refine lv_lload_n hx hb dX9_in_1 rfl (lv_at hl 1 rfl) ?_
  refine iv_lcmp hx hb dX9_in_2 (by omega) (fun hc1 => ?_) (fun hc1 => ?_) (fun hc1 => ?_)
  · refine iv_if_lt (tgt := 17) hx hb dX9_in_3 (by decide) (by decide) (fun _ => ?_) (fun h => absurd h (by decide))
    refine lv_iconst (v := iI (0)) hx hb dX9_in_17 rfl ?_
    exact Ct.zret hx hb hr hlocks (hP.sub [] rfl) (hD.sub [] (by decide) rfl) hS ⟨by decide, by decide⟩ dX9_in_18 (by decide) ⟨Or.inr ⟨rfl, by omega⟩, rfl⟩
  · refine iv_if_lt (tgt := 17) hx hb dX9_in_3 (by decide) (by decide) (fun h => absurd h (by decide)) (fun _ => ?_)
    refine lv_lload_n hx hb dX9_in_6 rfl (lv_at hl 0 rfl) ?_
    refine lv_lload hx hb dX9_in_7 (lv_at hl 2 rfl) ?_
    refine iv_lcmp hx hb dX9_in_9 (by omega) (fun hc4 => ?_) (fun hc4 => ?_) (fun hc4 => ?_)
    · refine iv_if_gt (tgt := 17) hx hb dX9_in_10 (by decide) (by decide) (fun h => absurd h (by decide)) (fun _ => ?_)
      refine lv_iconst (v := iI (1)) hx hb dX9_in_13 rfl ?_
      refine lv_goto (tgt := 18) hx hb dX9_in_14 (by decide) ?_
      exact Ct.zret hx hb hr hlocks (hP.sub [] rfl) (hD.sub [] (by decide) rfl) hS ⟨by decide, by decide⟩ dX9_in_18 (by decide) ⟨Or.inl ⟨rfl, by omega⟩, rfl⟩
    · refine iv_if_gt (tgt := 17) hx hb dX9_in_10 (by decide) (by decide) (fun h => absurd h (by decide)) (fun _ => ?_)
      refine lv_iconst (v := iI (1)) hx hb dX9_in_13 rfl ?_
      refine lv_goto (tgt := 18) hx hb dX9_in_14 (by decide) ?_
      exact Ct.zret hx hb hr hlocks (hP.sub [] rfl) (hD.sub [] (by decide) rfl) hS ⟨by decide, by decide⟩ dX9_in_18 (by decide) ⟨Or.inl ⟨rfl, by omega⟩, rfl⟩
    · refine iv_if_gt (tgt := 17) hx hb dX9_in_10 (by decide) (by decide) (fun _ => ?_) (fun h => absurd h (by decide))
      refine lv_iconst (v := iI (0)) hx hb dX9_in_17 rfl ?_
      exact Ct.zret hx hb hr hlocks (hP.sub [] rfl) (hD.sub [] (by decide) rfl) hS ⟨by decide, by decide⟩ dX9_in_18 (by decide) ⟨Or.inr ⟨rfl, by omega⟩, rfl⟩
  · refine iv_if_lt (tgt := 17) hx hb dX9_in_3 (by decide) (by decide) (fun h => absurd h (by decide)) (fun _ => ?_)
    refine lv_lload_n hx hb dX9_in_6 rfl (lv_at hl 0 rfl) ?_
    refine lv_lload hx hb dX9_in_7 (lv_at hl 2 rfl) ?_
    refine iv_lcmp hx hb dX9_in_9 (by omega) (fun hc9 => ?_) (fun hc9 => ?_) (fun hc9 => ?_)
    · refine iv_if_gt (tgt := 17) hx hb dX9_in_10 (by decide) (by decide) (fun h => absurd h (by decide)) (fun _ => ?_)
      refine lv_iconst (v := iI (1)) hx hb dX9_in_13 rfl ?_
      refine lv_goto (tgt := 18) hx hb dX9_in_14 (by decide) ?_
      exact Ct.zret hx hb hr hlocks (hP.sub [] rfl) (hD.sub [] (by decide) rfl) hS ⟨by decide, by decide⟩ dX9_in_18 (by decide) ⟨Or.inl ⟨rfl, by omega⟩, rfl⟩
    · refine iv_if_gt (tgt := 17) hx hb dX9_in_10 (by decide) (by decide) (fun h => absurd h (by decide)) (fun _ => ?_)
      refine lv_iconst (v := iI (1)) hx hb dX9_in_13 rfl ?_
      refine lv_goto (tgt := 18) hx hb dX9_in_14 (by decide) ?_
      exact Ct.zret hx hb hr hlocks (hP.sub [] rfl) (hD.sub [] (by decide) rfl) hS ⟨by decide, by decide⟩ dX9_in_18 (by decide) ⟨Or.inl ⟨rfl, by omega⟩, rfl⟩
    · refine iv_if_gt (tgt := 17) hx hb dX9_in_10 (by decide) (by decide) (fun _ => ?_) (fun h => absurd h (by decide))
      refine lv_iconst (v := iI (0)) hx hb dX9_in_17 rfl ?_
      exact Ct.zret hx hb hr hlocks (hP.sub [] rfl) (hD.sub [] (by decide) rfl) hS ⟨by decide, by decide⟩ dX9_in_18 (by decide) ⟨Or.inr ⟨rfl, by omega⟩, rfl⟩
abbrev q_X9_isSet (g : GT) (x : Int) : Option Value → va_W → Prop := fun v w => (v = some (.int (iI 1)) ∧ (0 ≤ x ∧ x ≤ 255) ∨ v = some (.int (iI 0)) ∧ ¬ (0 ≤ x ∧ x ≤ 255)) ∧ w = []
set_option maxHeartbeats 4000000 in
set_option maxRecDepth 100000 in
theorem c_X9_isSet (l : Launch) (g : GT) (x : Int) (h1 : (-2147483648 ≤ x ∧ x < 2147483648)) : Ct l g yX9_isSet wsX9_isSet ({ frames := 1, cells := 0, slots := 0, locals := 25 } : Room) [.int (iI x)] [] (q_X9_isSet g x) := by
  refine Ct.intro (maxL := 1) (ret := (some .boolean)) (by decide) rfl (Nat.le_of_ble_eq_true rfl) ?_
  intro p e s m below meth c A ls hx hb hr hml hown hts hlocks hnm hA hG hP hD hS hl
  have hown : s.vm.findClass RX9 = some m.cls := hown
  have hl : lv_has ls 1 [(0, .int (iI x))] := hl
  have hP : va_P g.1 vwCl [] s.heap := hP
  have hS : va_S A s.heap s.heap [] := hS
  obtain ⟨H, hHe⟩ : ∃ H : Heap, H = s.heap := ⟨_, rfl⟩
  obtain ⟨locs, hLe⟩ : ∃ L : List Loc, L = [] := ⟨_, rfl⟩
  have hP : va_P g.1 vwCl [] H := by rw [hHe]; exact hP
  have hS : va_S A s.heap H locs := by rw [hHe, hLe]; exact hS
  suffices hgo : W p l e ({ frames := 1, cells := 0, slots := 0, locals := 25 } : Room) s m [.int (iI x)].toArray below meth c H locs 0 0 (MQ below (CQ g (q_X9_isSet g x) A) [.int (iI x)].toArray s ({ frames := 1, cells := 0, slots := 0, locals := 25 } : Room).cells ({ frames := 1, cells := 0, slots := 0, locals := 25 } : Room).slots A) (F0 m 0 ls []) by rw [hHe, hLe] at hgo; exact hgo
  clear hHe hLe
  refine lv_iload_n hx hb dX9_isSet_0 rfl (lv_at hl 0 rfl) ?_
  refine iv_i2l hx hb dX9_isSet_1 (by omega) ?_
  refine lv_lconst (v := lI (0)) hx hb dX9_isSet_2 (by decide) ?_
  refine iv_ldc2 (v := 255) (z := 255) hx hb hown (hts _ (List.mem_of_getElem? (i := 1) rfl)) dX9_isSet_3 (by decide) ?_
  refine Ct.callS (As := [.long (lI x), .long (lI 0), .long (lI 255)]) (rest := []) (wr := []) (c1 := 0) (s1 := 0) ⟨hx, hb, hml, hown, hts⟩ (c_X9_in l g x 0 255 (by omega)) (va_cwS 3 hts gX9_isSet_X9_in rfl rfl rfl (by decide +kernel) ⟨Nat.le_of_ble_eq_true rfl, Nat.le_of_ble_eq_true rfl⟩) hG hP hD hS hA [] [] rfl rfl (by decide) (by decide) (by decide) rfl hl.1 rfl (Nat.le_of_ble_eq_true rfl) dX9_isSet_6 ⟨Nat.le_of_ble_eq_true rfl, Nat.le_of_ble_eq_true rfl⟩ rfl rfl (fun v w H locs hv hP hD hS => ?_)
  obtain ⟨⟨rfl, hb1⟩ | ⟨rfl, hb1⟩, rfl⟩ := hv
  · show W p l e _ s m _ below meth c H locs 0 0 _ (F0 m 9 ls (.int (iI 1) :: []))
    have hb1 : 0 ≤ x ∧ x ≤ 255 := hb1
    have hP : va_P g.1 vwCl [] H := hP
    have hD : va_D A [] := hD
    exact Ct.zret hx hb hr hlocks (hP.sub [] rfl) (hD.sub [] (by decide) rfl) hS ⟨by decide, by decide⟩ dX9_isSet_9 (by decide) ⟨Or.inl ⟨rfl, by omega⟩, rfl⟩
  · show W p l e _ s m _ below meth c H locs 0 0 _ (F0 m 9 ls (.int (iI 0) :: []))
    have hb1 : ¬ (0 ≤ x ∧ x ≤ 255) := hb1
    have hP : va_P g.1 vwCl [] H := hP
    have hD : va_D A [] := hD
    exact Ct.zret hx hb hr hlocks (hP.sub [] rfl) (hD.sub [] (by decide) rfl) hS ⟨by decide, by decide⟩ dX9_isSet_9 (by decide) ⟨Or.inr ⟨rfl, by omega⟩, rfl⟩
abbrev q_X9_isSheet (g : GT) (x : Int) : Option Value → va_W → Prop := fun v w => (v = some (.int (iI 1)) ∧ (0 ≤ x ∧ x ≤ 3) ∨ v = some (.int (iI 0)) ∧ ¬ (0 ≤ x ∧ x ≤ 3)) ∧ w = []
set_option maxHeartbeats 4000000 in
set_option maxRecDepth 100000 in
theorem c_X9_isSheet (l : Launch) (g : GT) (x : Int) (h1 : (-2147483648 ≤ x ∧ x < 2147483648)) : Ct l g yX9_isSheet wsX9_isSheet ({ frames := 1, cells := 0, slots := 0, locals := 25 } : Room) [.int (iI x)] [] (q_X9_isSheet g x) := by
  refine Ct.intro (maxL := 1) (ret := (some .boolean)) (by decide) rfl (Nat.le_of_ble_eq_true rfl) ?_
  intro p e s m below meth c A ls hx hb hr hml hown hts hlocks hnm hA hG hP hD hS hl
  have hown : s.vm.findClass RX9 = some m.cls := hown
  have hl : lv_has ls 1 [(0, .int (iI x))] := hl
  have hP : va_P g.1 vwCl [] s.heap := hP
  have hS : va_S A s.heap s.heap [] := hS
  obtain ⟨H, hHe⟩ : ∃ H : Heap, H = s.heap := ⟨_, rfl⟩
  obtain ⟨locs, hLe⟩ : ∃ L : List Loc, L = [] := ⟨_, rfl⟩
  have hP : va_P g.1 vwCl [] H := by rw [hHe]; exact hP
  have hS : va_S A s.heap H locs := by rw [hHe, hLe]; exact hS
  suffices hgo : W p l e ({ frames := 1, cells := 0, slots := 0, locals := 25 } : Room) s m [.int (iI x)].toArray below meth c H locs 0 0 (MQ below (CQ g (q_X9_isSheet g x) A) [.int (iI x)].toArray s ({ frames := 1, cells := 0, slots := 0, locals := 25 } : Room).cells ({ frames := 1, cells := 0, slots := 0, locals := 25 } : Room).slots A) (F0 m 0 ls []) by rw [hHe, hLe] at hgo; exact hgo
  clear hHe hLe
  refine lv_iload_n hx hb dX9_isSheet_0 rfl (lv_at hl 0 rfl) ?_
  refine iv_i2l hx hb dX9_isSheet_1 (by omega) ?_
  refine lv_lconst (v := lI (0)) hx hb dX9_isSheet_2 (by decide) ?_
  refine iv_ldc2 (v := 3) (z := 3) hx hb hown (hts _ (List.mem_of_getElem? (i := 1) rfl)) dX9_isSheet_3 (by decide) ?_
  refine Ct.callS (As := [.long (lI x), .long (lI 0), .long (lI 3)]) (rest := []) (wr := []) (c1 := 0) (s1 := 0) ⟨hx, hb, hml, hown, hts⟩ (c_X9_in l g x 0 3 (by omega)) (va_cwS 3 hts gX9_isSheet_X9_in rfl rfl rfl (by decide +kernel) ⟨Nat.le_of_ble_eq_true rfl, Nat.le_of_ble_eq_true rfl⟩) hG hP hD hS hA [] [] rfl rfl (by decide) (by decide) (by decide) rfl hl.1 rfl (Nat.le_of_ble_eq_true rfl) dX9_isSheet_6 ⟨Nat.le_of_ble_eq_true rfl, Nat.le_of_ble_eq_true rfl⟩ rfl rfl (fun v w H locs hv hP hD hS => ?_)
  obtain ⟨⟨rfl, hb1⟩ | ⟨rfl, hb1⟩, rfl⟩ := hv
  · show W p l e _ s m _ below meth c H locs 0 0 _ (F0 m 9 ls (.int (iI 1) :: []))
    have hb1 : 0 ≤ x ∧ x ≤ 3 := hb1
    have hP : va_P g.1 vwCl [] H := hP
    have hD : va_D A [] := hD
    exact Ct.zret hx hb hr hlocks (hP.sub [] rfl) (hD.sub [] (by decide) rfl) hS ⟨by decide, by decide⟩ dX9_isSheet_9 (by decide) ⟨Or.inl ⟨rfl, by omega⟩, rfl⟩
  · show W p l e _ s m _ below meth c H locs 0 0 _ (F0 m 9 ls (.int (iI 0) :: []))
    have hb1 : ¬ (0 ≤ x ∧ x ≤ 3) := hb1
    have hP : va_P g.1 vwCl [] H := hP
    have hD : va_D A [] := hD
    exact Ct.zret hx hb hr hlocks (hP.sub [] rfl) (hD.sub [] (by decide) rfl) hS ⟨by decide, by decide⟩ dX9_isSheet_9 (by decide) ⟨Or.inr ⟨rfl, by omega⟩, rfl⟩
abbrev q_X9_isLane (g : GT) (x : Int) : Option Value → va_W → Prop := fun v w => (v = some (.int (iI 1)) ∧ (0 ≤ x ∧ x ≤ 2) ∨ v = some (.int (iI 0)) ∧ ¬ (0 ≤ x ∧ x ≤ 2)) ∧ w = []
set_option maxHeartbeats 4000000 in
set_option maxRecDepth 100000 in
theorem c_X9_isLane (l : Launch) (g : GT) (x : Int) (h1 : (-2147483648 ≤ x ∧ x < 2147483648)) : Ct l g yX9_isLane wsX9_isLane ({ frames := 1, cells := 0, slots := 0, locals := 25 } : Room) [.int (iI x)] [] (q_X9_isLane g x) := by
  refine Ct.intro (maxL := 1) (ret := (some .boolean)) (by decide) rfl (Nat.le_of_ble_eq_true rfl) ?_
  intro p e s m below meth c A ls hx hb hr hml hown hts hlocks hnm hA hG hP hD hS hl
  have hown : s.vm.findClass RX9 = some m.cls := hown
  have hl : lv_has ls 1 [(0, .int (iI x))] := hl
  have hP : va_P g.1 vwCl [] s.heap := hP
  have hS : va_S A s.heap s.heap [] := hS
  obtain ⟨H, hHe⟩ : ∃ H : Heap, H = s.heap := ⟨_, rfl⟩
  obtain ⟨locs, hLe⟩ : ∃ L : List Loc, L = [] := ⟨_, rfl⟩
  have hP : va_P g.1 vwCl [] H := by rw [hHe]; exact hP
  have hS : va_S A s.heap H locs := by rw [hHe, hLe]; exact hS
  suffices hgo : W p l e ({ frames := 1, cells := 0, slots := 0, locals := 25 } : Room) s m [.int (iI x)].toArray below meth c H locs 0 0 (MQ below (CQ g (q_X9_isLane g x) A) [.int (iI x)].toArray s ({ frames := 1, cells := 0, slots := 0, locals := 25 } : Room).cells ({ frames := 1, cells := 0, slots := 0, locals := 25 } : Room).slots A) (F0 m 0 ls []) by rw [hHe, hLe] at hgo; exact hgo
  clear hHe hLe
  refine lv_iload_n hx hb dX9_isLane_0 rfl (lv_at hl 0 rfl) ?_
  refine iv_i2l hx hb dX9_isLane_1 (by omega) ?_
  refine lv_lconst (v := lI (0)) hx hb dX9_isLane_2 (by decide) ?_
  refine iv_ldc2 (v := 2) (z := 2) hx hb hown (hts _ (List.mem_of_getElem? (i := 1) rfl)) dX9_isLane_3 (by decide) ?_
  refine Ct.callS (As := [.long (lI x), .long (lI 0), .long (lI 2)]) (rest := []) (wr := []) (c1 := 0) (s1 := 0) ⟨hx, hb, hml, hown, hts⟩ (c_X9_in l g x 0 2 (by omega)) (va_cwS 3 hts gX9_isLane_X9_in rfl rfl rfl (by decide +kernel) ⟨Nat.le_of_ble_eq_true rfl, Nat.le_of_ble_eq_true rfl⟩) hG hP hD hS hA [] [] rfl rfl (by decide) (by decide) (by decide) rfl hl.1 rfl (Nat.le_of_ble_eq_true rfl) dX9_isLane_6 ⟨Nat.le_of_ble_eq_true rfl, Nat.le_of_ble_eq_true rfl⟩ rfl rfl (fun v w H locs hv hP hD hS => ?_)
  obtain ⟨⟨rfl, hb1⟩ | ⟨rfl, hb1⟩, rfl⟩ := hv
  · show W p l e _ s m _ below meth c H locs 0 0 _ (F0 m 9 ls (.int (iI 1) :: []))
    have hb1 : 0 ≤ x ∧ x ≤ 2 := hb1
    have hP : va_P g.1 vwCl [] H := hP
    have hD : va_D A [] := hD
    exact Ct.zret hx hb hr hlocks (hP.sub [] rfl) (hD.sub [] (by decide) rfl) hS ⟨by decide, by decide⟩ dX9_isLane_9 (by decide) ⟨Or.inl ⟨rfl, by omega⟩, rfl⟩
  · show W p l e _ s m _ below meth c H locs 0 0 _ (F0 m 9 ls (.int (iI 0) :: []))
    have hb1 : ¬ (0 ≤ x ∧ x ≤ 2) := hb1
    have hP : va_P g.1 vwCl [] H := hP
    have hD : va_D A [] := hD
    exact Ct.zret hx hb hr hlocks (hP.sub [] rfl) (hD.sub [] (by decide) rfl) hS ⟨by decide, by decide⟩ dX9_isLane_9 (by decide) ⟨Or.inr ⟨rfl, by omega⟩, rfl⟩
abbrev q_X9_isDay (g : GT) (x : Int) : Option Value → va_W → Prop := fun v w => (v = some (.int (iI 1)) ∧ (0 ≤ x ∧ x ≤ 9999) ∨ v = some (.int (iI 0)) ∧ ¬ (0 ≤ x ∧ x ≤ 9999)) ∧ w = []
set_option maxHeartbeats 4000000 in
set_option maxRecDepth 100000 in
theorem c_X9_isDay (l : Launch) (g : GT) (x : Int) (h1 : (-2147483648 ≤ x ∧ x < 2147483648)) : Ct l g yX9_isDay wsX9_isDay ({ frames := 1, cells := 0, slots := 0, locals := 25 } : Room) [.int (iI x)] [] (q_X9_isDay g x) := by
  refine Ct.intro (maxL := 1) (ret := (some .boolean)) (by decide) rfl (Nat.le_of_ble_eq_true rfl) ?_
  intro p e s m below meth c A ls hx hb hr hml hown hts hlocks hnm hA hG hP hD hS hl
  have hown : s.vm.findClass RX9 = some m.cls := hown
  have hl : lv_has ls 1 [(0, .int (iI x))] := hl
  have hP : va_P g.1 vwCl [] s.heap := hP
  have hS : va_S A s.heap s.heap [] := hS
  obtain ⟨H, hHe⟩ : ∃ H : Heap, H = s.heap := ⟨_, rfl⟩
  obtain ⟨locs, hLe⟩ : ∃ L : List Loc, L = [] := ⟨_, rfl⟩
  have hP : va_P g.1 vwCl [] H := by rw [hHe]; exact hP
  have hS : va_S A s.heap H locs := by rw [hHe, hLe]; exact hS
  suffices hgo : W p l e ({ frames := 1, cells := 0, slots := 0, locals := 25 } : Room) s m [.int (iI x)].toArray below meth c H locs 0 0 (MQ below (CQ g (q_X9_isDay g x) A) [.int (iI x)].toArray s ({ frames := 1, cells := 0, slots := 0, locals := 25 } : Room).cells ({ frames := 1, cells := 0, slots := 0, locals := 25 } : Room).slots A) (F0 m 0 ls []) by rw [hHe, hLe] at hgo; exact hgo
  clear hHe hLe
  refine lv_iload_n hx hb dX9_isDay_0 rfl (lv_at hl 0 rfl) ?_
  refine iv_i2l hx hb dX9_isDay_1 (by omega) ?_
  refine lv_lconst (v := lI (0)) hx hb dX9_isDay_2 (by decide) ?_
  refine iv_ldc2 (v := 9999) (z := 9999) hx hb hown (hts _ (List.mem_of_getElem? (i := 1) rfl)) dX9_isDay_3 (by decide) ?_
  refine Ct.callS (As := [.long (lI x), .long (lI 0), .long (lI 9999)]) (rest := []) (wr := []) (c1 := 0) (s1 := 0) ⟨hx, hb, hml, hown, hts⟩ (c_X9_in l g x 0 9999 (by omega)) (va_cwS 3 hts gX9_isDay_X9_in rfl rfl rfl (by decide +kernel) ⟨Nat.le_of_ble_eq_true rfl, Nat.le_of_ble_eq_true rfl⟩) hG hP hD hS hA [] [] rfl rfl (by decide) (by decide) (by decide) rfl hl.1 rfl (Nat.le_of_ble_eq_true rfl) dX9_isDay_6 ⟨Nat.le_of_ble_eq_true rfl, Nat.le_of_ble_eq_true rfl⟩ rfl rfl (fun v w H locs hv hP hD hS => ?_)
  obtain ⟨⟨rfl, hb1⟩ | ⟨rfl, hb1⟩, rfl⟩ := hv
  · show W p l e _ s m _ below meth c H locs 0 0 _ (F0 m 9 ls (.int (iI 1) :: []))
    have hb1 : 0 ≤ x ∧ x ≤ 9999 := hb1
    have hP : va_P g.1 vwCl [] H := hP
    have hD : va_D A [] := hD
    exact Ct.zret hx hb hr hlocks (hP.sub [] rfl) (hD.sub [] (by decide) rfl) hS ⟨by decide, by decide⟩ dX9_isDay_9 (by decide) ⟨Or.inl ⟨rfl, by omega⟩, rfl⟩
  · show W p l e _ s m _ below meth c H locs 0 0 _ (F0 m 9 ls (.int (iI 0) :: []))
    have hb1 : ¬ (0 ≤ x ∧ x ≤ 9999) := hb1
    have hP : va_P g.1 vwCl [] H := hP
    have hD : va_D A [] := hD
    exact Ct.zret hx hb hr hlocks (hP.sub [] rfl) (hD.sub [] (by decide) rfl) hS ⟨by decide, by decide⟩ dX9_isDay_9 (by decide) ⟨Or.inr ⟨rfl, by omega⟩, rfl⟩
abbrev q_X9_isTask (g : GT) (much : Int) (less : Int) : Option Value → va_W → Prop := fun v w => (v = some (.int (iI 1)) ∧ (0 ≤ less ∧ less ≤ much ∧ much ≤ 999) ∨ v = some (.int (iI 0)) ∧ ¬ (0 ≤ less ∧ less ≤ much ∧ much ≤ 999)) ∧ w = []
set_option maxHeartbeats 4000000 in
set_option maxRecDepth 100000 in
theorem c_X9_isTask (l : Launch) (g : GT) (much : Int) (less : Int) (h1 : (-2147483648 ≤ much ∧ much < 2147483648) ∧ (-2147483648 ≤ less ∧ less < 2147483648)) : Ct l g yX9_isTask wsX9_isTask ({ frames := 1, cells := 0, slots := 0, locals := 25 } : Room) [.int (iI much), .int (iI less)] [] (q_X9_isTask g much less) := by
  refine Ct.intro (maxL := 2) (ret := (some .boolean)) (by decide) rfl (Nat.le_of_ble_eq_true rfl) ?_
  intro p e s m below meth c A ls hx hb hr hml hown hts hlocks hnm hA hG hP hD hS hl
  have hown : s.vm.findClass RX9 = some m.cls := hown
  have hl : lv_has ls 2 [(0, .int (iI much)), (1, .int (iI less))] := hl
  have hP : va_P g.1 vwCl [] s.heap := hP
  have hS : va_S A s.heap s.heap [] := hS
  obtain ⟨H, hHe⟩ : ∃ H : Heap, H = s.heap := ⟨_, rfl⟩
  obtain ⟨locs, hLe⟩ : ∃ L : List Loc, L = [] := ⟨_, rfl⟩
  have hP : va_P g.1 vwCl [] H := by rw [hHe]; exact hP
  have hS : va_S A s.heap H locs := by rw [hHe, hLe]; exact hS
  suffices hgo : W p l e ({ frames := 1, cells := 0, slots := 0, locals := 25 } : Room) s m [.int (iI much), .int (iI less)].toArray below meth c H locs 0 0 (MQ below (CQ g (q_X9_isTask g much less) A) [.int (iI much), .int (iI less)].toArray s ({ frames := 1, cells := 0, slots := 0, locals := 25 } : Room).cells ({ frames := 1, cells := 0, slots := 0, locals := 25 } : Room).slots A) (F0 m 0 ls []) by rw [hHe, hLe] at hgo; exact hgo
  clear hHe hLe
  refine lv_iload_n hx hb dX9_isTask_0 rfl (lv_at hl 1 rfl) ?_
  refine iv_i2l hx hb dX9_isTask_1 (by omega) ?_
  refine lv_lconst (v := lI (0)) hx hb dX9_isTask_2 (by decide) ?_
  refine iv_ldc2 (v := 999) (z := 999) hx hb hown (hts _ (List.mem_of_getElem? (i := 1) rfl)) dX9_isTask_3 (by decide) ?_
  refine Ct.callS (As := [.long (lI less), .long (lI 0), .long (lI 999)]) (rest := []) (wr := []) (c1 := 0) (s1 := 0) ⟨hx, hb, hml, hown, hts⟩ (c_X9_in l g less 0 999 (by omega)) (va_cwS 3 hts gX9_isTask_X9_in rfl rfl rfl (by decide +kernel) ⟨Nat.le_of_ble_eq_true rfl, Nat.le_of_ble_eq_true rfl⟩) hG hP hD hS hA [] [] rfl rfl (by decide) (by decide) (by decide) rfl hl.1 rfl (Nat.le_of_ble_eq_true rfl) dX9_isTask_6 ⟨Nat.le_of_ble_eq_true rfl, Nat.le_of_ble_eq_true rfl⟩ rfl rfl (fun v w H locs hv hP hD hS => ?_)
  obtain ⟨⟨rfl, hb1⟩ | ⟨rfl, hb1⟩, rfl⟩ := hv
  · show W p l e _ s m _ below meth c H locs 0 0 _ (F0 m 9 ls (.int (iI 1) :: []))
    have hb1 : 0 ≤ less ∧ less ≤ 999 := hb1
    have hP : va_P g.1 vwCl [] H := hP
    have hD : va_D A [] := hD
    refine iv_if_eq (tgt := 29) hx hb dX9_isTask_9 (by decide) (by decide) (fun h => absurd h (by decide)) (fun _ => ?_)
    refine lv_iload_n hx hb dX9_isTask_12 rfl (lv_at hl 0 rfl) ?_
    refine iv_i2l hx hb dX9_isTask_13 (by omega) ?_
    refine lv_iload_n hx hb dX9_isTask_14 rfl (lv_at hl 1 rfl) ?_
    refine iv_i2l hx hb dX9_isTask_15 (by omega) ?_
    refine iv_ldc2 (v := 999) (z := 999) hx hb hown (hts _ (List.mem_of_getElem? (i := 1) rfl)) dX9_isTask_16 (by decide) ?_
    refine Ct.callS (As := [.long (lI much), .long (lI less), .long (lI 999)]) (rest := []) (wr := []) (c1 := 0) (s1 := 0) ⟨hx, hb, hml, hown, hts⟩ (c_X9_in l g much less 999 (by omega)) (va_cwS 3 hts gX9_isTask_X9_in rfl rfl rfl (by decide +kernel) ⟨Nat.le_of_ble_eq_true rfl, Nat.le_of_ble_eq_true rfl⟩) hG hP hD hS hA [] [] rfl rfl (by decide) (by decide) (by decide) rfl hl.1 rfl (Nat.le_of_ble_eq_true rfl) dX9_isTask_19 ⟨Nat.le_of_ble_eq_true rfl, Nat.le_of_ble_eq_true rfl⟩ rfl rfl (fun v w H locs hv hP hD hS => ?_)
    obtain ⟨⟨rfl, hb3⟩ | ⟨rfl, hb3⟩, rfl⟩ := hv
    · show W p l e _ s m _ below meth c H locs 0 0 _ (F0 m 22 ls (.int (iI 1) :: []))
      have hb3 : less ≤ much ∧ much ≤ 999 := hb3
      have hP : va_P g.1 vwCl [] H := hP
      have hD : va_D A [] := hD
      refine iv_if_eq (tgt := 29) hx hb dX9_isTask_22 (by decide) (by decide) (fun h => absurd h (by decide)) (fun _ => ?_)
      refine lv_iconst (v := iI (1)) hx hb dX9_isTask_25 rfl ?_
      refine lv_goto (tgt := 30) hx hb dX9_isTask_26 (by decide) ?_
      exact Ct.zret hx hb hr hlocks (hP.sub [] rfl) (hD.sub [] (by decide) rfl) hS ⟨by decide, by decide⟩ dX9_isTask_30 (by decide) ⟨Or.inl ⟨rfl, by omega⟩, rfl⟩
    · show W p l e _ s m _ below meth c H locs 0 0 _ (F0 m 22 ls (.int (iI 0) :: []))
      have hb3 : ¬ (less ≤ much ∧ much ≤ 999) := hb3
      have hP : va_P g.1 vwCl [] H := hP
      have hD : va_D A [] := hD
      refine iv_if_eq (tgt := 29) hx hb dX9_isTask_22 (by decide) (by decide) (fun _ => ?_) (fun h => absurd h (by decide))
      refine lv_iconst (v := iI (0)) hx hb dX9_isTask_29 rfl ?_
      exact Ct.zret hx hb hr hlocks (hP.sub [] rfl) (hD.sub [] (by decide) rfl) hS ⟨by decide, by decide⟩ dX9_isTask_30 (by decide) ⟨Or.inr ⟨rfl, by omega⟩, rfl⟩
  · show W p l e _ s m _ below meth c H locs 0 0 _ (F0 m 9 ls (.int (iI 0) :: []))
    have hb1 : ¬ (0 ≤ less ∧ less ≤ 999) := hb1
    have hP : va_P g.1 vwCl [] H := hP
    have hD : va_D A [] := hD
    refine iv_if_eq (tgt := 29) hx hb dX9_isTask_9 (by decide) (by decide) (fun _ => ?_) (fun h => absurd h (by decide))
    refine lv_iconst (v := iI (0)) hx hb dX9_isTask_29 rfl ?_
    exact Ct.zret hx hb hr hlocks (hP.sub [] rfl) (hD.sub [] (by decide) rfl) hS ⟨by decide, by decide⟩ dX9_isTask_30 (by decide) ⟨Or.inr ⟨rfl, by omega⟩, rfl⟩
abbrev q_X9_digitOf (g : GT) (x : Int) (c_ : Int) (n : Nat) : Option Value → va_W → Prop := fun v w => ∃ (r : Int), v = some (.int (iI r)) ∧ w = [] ∧ (r = dg x n)
set_option maxHeartbeats 4000000 in
set_option maxRecDepth 100000 in
theorem c_X9_digitOf (l : Launch) (g : GT) (x : Int) (c_ : Int) (n : Nat) (h1 : c_ = (n : Int) ∧ n < 3 ∧ 0 ≤ x ∧ x ≤ 999) : Ct l g yX9_digitOf wsX9_digitOf ({ frames := 0, cells := 0, slots := 0, locals := 0 } : Room) [.int (iI x), .int (iI c_)] [] (q_X9_digitOf g x c_ n) := by
  refine Ct.intro (maxL := 2) (ret := (some .int)) (by decide) rfl (Nat.le_of_ble_eq_true rfl) ?_
  intro p e s m below meth c A ls hx hb hr hml hown hts hlocks hnm hA hG hP hD hS hl
  have hown : s.vm.findClass RX9 = some m.cls := hown
  have hl : lv_has ls 2 [(0, .int (iI x)), (1, .int (iI c_))] := hl
  have hP : va_P g.1 vwCl [] s.heap := hP
  have hS : va_S A s.heap s.heap [] := hS
  have hd := dg_ex (v := x) (n := n) (by omega) (by omega)
  obtain ⟨H, hHe⟩ : ∃ H : Heap, H = s.heap := ⟨_, rfl⟩
  obtain ⟨locs, hLe⟩ : ∃ L : List Loc, L = [] := ⟨_, rfl⟩
  have hP : va_P g.1 vwCl [] H := by rw [hHe]; exact hP
  have hS : va_S A s.heap H locs := by rw [hHe, hLe]; exact hS
  suffices hgo : W p l e ({ frames := 0, cells := 0, slots := 0, locals := 0 } : Room) s m [.int (iI x), .int (iI c_)].toArray below meth c H locs 0 0 (MQ below (CQ g (q_X9_digitOf g x c_ n) A) [.int (iI x), .int (iI c_)].toArray s ({ frames := 0, cells := 0, slots := 0, locals := 0 } : Room).cells ({ frames := 0, cells := 0, slots := 0, locals := 0 } : Room).slots A) (F0 m 0 ls []) by rw [hHe, hLe] at hgo; exact hgo
  clear hHe hLe
  refine lv_iload_n hx hb dX9_digitOf_0 rfl (lv_at hl 1 rfl) ?_
  refine iv_if_ne (tgt := 11) hx hb dX9_digitOf_1 (by decide) (by omega) (fun hc1 => ?_) (fun hc1 => ?_)
  · refine lv_iload_n hx hb dX9_digitOf_11 rfl (lv_at hl 1 rfl) ?_
    refine lv_iconst (v := iI (1)) hx hb dX9_digitOf_12 rfl ?_
    refine iv_icmp_ne (tgt := 26) hx hb dX9_digitOf_13 (by decide) (by omega) (fun hc2 => ?_) (fun hc2 => ?_)
    · refine lv_iload_n hx hb dX9_digitOf_26 rfl (lv_at hl 0 rfl) ?_
      refine lv_bipush (v := iI (100)) hx hb dX9_digitOf_27 (by decide) ?_
      refine iv_idiv hx hb dX9_digitOf_29 (by omega) ?_
      exact Ct.iret hx hb hr hlocks (hP.sub [] rfl) (hD.sub [] (by decide) rfl) hS ⟨by decide, by decide⟩ dX9_digitOf_30 ⟨(x / 100), rfl, rfl, (by omega)⟩
    · refine lv_iload_n hx hb dX9_digitOf_16 rfl (lv_at hl 0 rfl) ?_
      refine lv_bipush (v := iI (10)) hx hb dX9_digitOf_17 (by decide) ?_
      refine iv_idiv hx hb dX9_digitOf_19 (by omega) ?_
      refine lv_bipush (v := iI (10)) hx hb dX9_digitOf_20 (by decide) ?_
      refine iv_irem hx hb dX9_digitOf_22 (by omega) ?_
      refine lv_goto (tgt := 30) hx hb dX9_digitOf_23 (by decide) ?_
      exact Ct.iret hx hb hr hlocks (hP.sub [] rfl) (hD.sub [] (by decide) rfl) hS ⟨by decide, by decide⟩ dX9_digitOf_30 ⟨((x / 10) % 10), rfl, rfl, (by omega)⟩
  · refine lv_iload_n hx hb dX9_digitOf_4 rfl (lv_at hl 0 rfl) ?_
    refine lv_bipush (v := iI (10)) hx hb dX9_digitOf_5 (by decide) ?_
    refine iv_irem hx hb dX9_digitOf_7 (by omega) ?_
    refine lv_goto (tgt := 30) hx hb dX9_digitOf_8 (by decide) ?_
    exact Ct.iret hx hb hr hlocks (hP.sub [] rfl) (hD.sub [] (by decide) rfl) hS ⟨by decide, by decide⟩ dX9_digitOf_30 ⟨(x % 10), rfl, rfl, (by omega)⟩
abbrev q_X9_sizeOf (g : GT) (x : Int) : Option Value → va_W → Prop := fun v w => v = some (.int (iI (szB x 12))) ∧ w = []
set_option maxHeartbeats 4000000 in
set_option maxRecDepth 100000 in
theorem c_X9_sizeOf (l : Launch) (g : GT) (x : Int) (h1 : 0 ≤ x ∧ x < 2147483648) : Ct l g yX9_sizeOf wsX9_sizeOf ({ frames := 0, cells := 0, slots := 0, locals := 0 } : Room) [.int (iI x)] [] (q_X9_sizeOf g x) := by
  refine Ct.intro (maxL := 3) (ret := (some .int)) (by decide) rfl (Nat.le_of_ble_eq_true rfl) ?_
  intro p e s m below meth c A ls hx hb hr hml hown hts hlocks hnm hA hG hP hD hS hl
  have hown : s.vm.findClass RX9 = some m.cls := hown
  have hl : lv_has ls 3 [(0, .int (iI x))] := hl
  have hP : va_P g.1 vwCl [] s.heap := hP
  have hS : va_S A s.heap s.heap [] := hS
  obtain ⟨H, hHe⟩ : ∃ H : Heap, H = s.heap := ⟨_, rfl⟩
  obtain ⟨locs, hLe⟩ : ∃ L : List Loc, L = [] := ⟨_, rfl⟩
  have hP : va_P g.1 vwCl [] H := by rw [hHe]; exact hP
  have hS : va_S A s.heap H locs := by rw [hHe, hLe]; exact hS
  suffices hgo : W p l e ({ frames := 0, cells := 0, slots := 0, locals := 0 } : Room) s m [.int (iI x)].toArray below meth c H locs 0 0 (MQ below (CQ g (q_X9_sizeOf g x) A) [.int (iI x)].toArray s ({ frames := 0, cells := 0, slots := 0, locals := 0 } : Room).cells ({ frames := 0, cells := 0, slots := 0, locals := 0 } : Room).slots A) (F0 m 0 ls []) by rw [hHe, hLe] at hgo; exact hgo
  clear hHe hLe
  refine lv_iconst (v := iI (0)) hx hb dX9_sizeOf_0 rfl ?_
  refine lv_istore_n (lv' := [(1, .int (iI 0)), (0, .int (iI x))]) hx hb dX9_sizeOf_1 rfl hl (by decide) rfl (fun ls hl => ?_)
  refine lv_iconst (v := iI (0)) hx hb dX9_sizeOf_2 rfl ?_
  refine lv_istore_n (lv' := [(2, .int (iI 0)), (1, .int (iI 0)), (0, .int (iI x))]) hx hb dX9_sizeOf_3 rfl hl (by decide) rfl (fun ls hl => ?_)
  have hloop4 : ∀ (fuel : Nat) (sm : Int) (k : Int) (n : Nat) (hc : k = (n : Int) ∧ n ≤ 12) (he : sm = szB x n) (hmeas : 12 - n < fuel), ∀ (H : Heap) (locs : List Loc) (ls : Array Slot), va_P g.1 vwCl [] H → va_D A [] → va_S A s.heap H locs → lv_has ls 3 [(2, .int (iI k)), (1, .int (iI sm)), (0, .int (iI x))] → W p l e ({ frames := 0, cells := 0, slots := 0, locals := 0 } : Room) s m [.int (iI x)].toArray below meth c H locs 0 0 (MQ below (CQ g (q_X9_sizeOf g x) A) [.int (iI x)].toArray s ({ frames := 0, cells := 0, slots := 0, locals := 0 } : Room).cells ({ frames := 0, cells := 0, slots := 0, locals := 0 } : Room).slots A) (F0 m 4 ls []) := by
    intro fuel
    induction fuel with
    | zero => intro sm k n hc he hmeas; exact absurd hmeas (Nat.not_lt_zero _)
    | succ fuel ih4 =>
      intro sm k n hc he hmeas H locs ls hP hD hS hl
      refine lv_iload_n hx hb dX9_sizeOf_4 rfl (lv_at hl 0 rfl) ?_
      refine lv_bipush (v := iI (12)) hx hb dX9_sizeOf_5 (by decide) ?_
      refine iv_icmp_ge (tgt := 24) hx hb dX9_sizeOf_7 (by decide) (by omega) (fun hc1 => ?_) (fun hc1 => ?_)
      · refine lv_iload_n hx hb dX9_sizeOf_24 rfl (lv_at hl 1 rfl) ?_
        exact Ct.iret hx hb hr hlocks (hP.sub [] rfl) (hD.sub [] (by decide) rfl) hS ⟨by decide, by decide⟩ dX9_sizeOf_25 ⟨(by rw [he, show n = 12 from by omega]), rfl⟩
      · have hq := sh_rng n (z := x) (by omega)
        refine lv_iload_n hx hb dX9_sizeOf_10 rfl (lv_at hl 1 rfl) ?_
        refine lv_iload_n hx hb dX9_sizeOf_11 rfl (lv_at hl 2 rfl) ?_
        refine lv_iload_n hx hb dX9_sizeOf_12 rfl (lv_at hl 0 rfl) ?_
        refine iv_ishr hx hb dX9_sizeOf_13 (by omega) ?_
        refine iv_as (x / 2 ^ n) (by rw [show k.toNat = n from by omega]) ?_
        refine lv_iconst (v := iI (1)) hx hb dX9_sizeOf_14 rfl ?_
        refine iv_and1 hx hb dX9_sizeOf_15 (by omega) ?_
        refine iv_iadd hx hb dX9_sizeOf_16 ?_
        refine lv_istore_n (lv' := [(1, .int (iI (sm + ((x / 2 ^ n) % 2)))), (2, .int (iI k)), (0, .int (iI x))]) hx hb dX9_sizeOf_17 rfl hl (by decide) rfl (fun ls hl => ?_)
        refine iv_iinc (k := 1) (x := k) (lv' := [(2, .int (iI (k + 1))), (1, .int (iI (sm + ((x / 2 ^ n) % 2)))), (0, .int (iI x))]) hx hb dX9_sizeOf_18 hl rfl (by decide) rfl (fun ls hl => ?_)
        refine lv_goto (tgt := 4) hx hb dX9_sizeOf_21 (by decide) ?_
        exact ih4 (sm + ((x / 2 ^ n) % 2)) (k + 1) (n + 1) (by omega) (by rw [he]; rfl) (by omega) H locs ls (hP.sub [] rfl) (hD.sub [] (by decide) rfl) hS (lv_sub hl [0, 1, 2] rfl)
  exact hloop4 _ 0 0 0 (by omega) (rfl) (Nat.lt_succ_self _) H locs ls (hP.sub [] rfl) (hD.sub [] (by decide) rfl) hS (lv_sub hl [0, 1, 2] rfl)
