abbrev q_X8_within (g : GT) (x : Int) (lo : Int) (hi : Int) : Option Value → va_W → Prop := fun v w => (v = some (.int (iI 1)) ∧ (lo ≤ x ∧ x ≤ hi) ∨ v = some (.int (iI 0)) ∧ ¬ (lo ≤ x ∧ x ≤ hi)) ∧ w = []
set_option maxHeartbeats 4000000 in
set_option maxRecDepth 100000 in
theorem c_X8_within (l : Launch) (g : GT) (x : Int) (lo : Int) (hi : Int) (h1 : (-2147483648 ≤ x ∧ x < 2147483648) ∧ (-2147483648 ≤ lo ∧ lo < 2147483648) ∧ (-2147483648 ≤ hi ∧ hi < 2147483648)) : Ct l g yX8_within wsX8_within ({ frames := 0, cells := 0, slots := 0, locals := 0 } : Room) [.int (iI x), .int (iI lo), .int (iI hi)] [] (q_X8_within g x lo hi) := by
  refine Ct.intro (maxL := 3) (ret := (some .boolean)) (by decide) rfl (Nat.le_of_ble_eq_true rfl) ?_
  intro p e s m below meth c A ls hx hb hr hml hown hts hlocks hnm hA hG hP hD hS hl
  have hown : s.vm.findClass RX8 = some m.cls := hown
  have hl : lv_has ls 3 [(0, .int (iI x)), (1, .int (iI lo)), (2, .int (iI hi))] := hl
  have hP : va_P g.1 vwCl [] s.heap := hP
  have hS : va_S A s.heap s.heap [] := hS
  obtain ⟨H, hHe⟩ : ∃ H : Heap, H = s.heap := ⟨_, rfl⟩
  obtain ⟨locs, hLe⟩ : ∃ L : List Loc, L = [] := ⟨_, rfl⟩
  have hP : va_P g.1 vwCl [] H := by rw [hHe]; exact hP
  have hS : va_S A s.heap H locs := by rw [hHe, hLe]; exact hS
  suffices hgo : W p l e ({ frames := 0, cells := 0, slots := 0, locals := 0 } : Room) s m [.int (iI x), .int (iI lo), .int (iI hi)].toArray below meth c H locs 0 0 (MQ below (CQ g (q_X8_within g x lo hi) A) [.int (iI x), .int (iI lo), .int (iI hi)].toArray s ({ frames := 0, cells := 0, slots := 0, locals := 0 } : Room).cells ({ frames := 0, cells := 0, slots := 0, locals := 0 } : Room).slots A) (F0 m 0 ls []) by rw [hHe, hLe] at hgo; exact hgo
  clear hHe hLe
  refine lv_iload_n hx hb dX8_within_0 rfl (lv_at hl 0 rfl) ?_
  refine lv_iload_n hx hb dX8_within_1 rfl (lv_at hl 1 rfl) ?_
  refine iv_icmp_lt (tgt := 14) hx hb dX8_within_2 (by decide) (by omega) (fun hc1 => ?_) (fun hc1 => ?_)
  · refine lv_iconst (v := iI (0)) hx hb dX8_within_14 rfl ?_
    exact Ct.zret hx hb hr hlocks (hP.sub [] rfl) (hD.sub [] (by decide) rfl) hS ⟨by decide, by decide⟩ dX8_within_15 (by decide) ⟨Or.inr ⟨rfl, by omega⟩, rfl⟩
  · refine lv_iload_n hx hb dX8_within_5 rfl (lv_at hl 0 rfl) ?_
    refine lv_iload_n hx hb dX8_within_6 rfl (lv_at hl 2 rfl) ?_
    refine iv_icmp_gt (tgt := 14) hx hb dX8_within_7 (by decide) (by omega) (fun hc2 => ?_) (fun hc2 => ?_)
    · refine lv_iconst (v := iI (0)) hx hb dX8_within_14 rfl ?_
      exact Ct.zret hx hb hr hlocks (hP.sub [] rfl) (hD.sub [] (by decide) rfl) hS ⟨by decide, by decide⟩ dX8_within_15 (by decide) ⟨Or.inr ⟨rfl, by omega⟩, rfl⟩
    · refine lv_iconst (v := iI (1)) hx hb dX8_within_10 rfl ?_
      refine lv_goto (tgt := 15) hx hb dX8_within_11 (by decide) ?_
      exact Ct.zret hx hb hr hlocks (hP.sub [] rfl) (hD.sub [] (by decide) rfl) hS ⟨by decide, by decide⟩ dX8_within_15 (by decide) ⟨Or.inl ⟨rfl, by omega⟩, rfl⟩
abbrev q_X8_isNumber (g : GT) (x : Int) : Option Value → va_W → Prop := fun v w => (v = some (.int (iI 1)) ∧ (0 ≤ x ∧ x ≤ 999) ∨ v = some (.int (iI 0)) ∧ ¬ (0 ≤ x ∧ x ≤ 999)) ∧ w = []
set_option maxHeartbeats 4000000 in
set_option maxRecDepth 100000 in
theorem c_X8_isNumber (l : Launch) (g : GT) (x : Int) (h1 : (-2147483648 ≤ x ∧ x < 2147483648)) : Ct l g yX8_isNumber wsX8_isNumber ({ frames := 1, cells := 0, slots := 0, locals := 22 } : Room) [.int (iI x)] [] (q_X8_isNumber g x) := by
  refine Ct.intro (maxL := 1) (ret := (some .boolean)) (by decide) rfl (Nat.le_of_ble_eq_true rfl) ?_
  intro p e s m below meth c A ls hx hb hr hml hown hts hlocks hnm hA hG hP hD hS hl
  have hown : s.vm.findClass RX8 = some m.cls := hown
  have hl : lv_has ls 1 [(0, .int (iI x))] := hl
  have hP : va_P g.1 vwCl [] s.heap := hP
  have hS : va_S A s.heap s.heap [] := hS
  obtain ⟨H, hHe⟩ : ∃ H : Heap, H = s.heap := ⟨_, rfl⟩
  obtain ⟨locs, hLe⟩ : ∃ L : List Loc, L = [] := ⟨_, rfl⟩
  have hP : va_P g.1 vwCl [] H := by rw [hHe]; exact hP
  have hS : va_S A s.heap H locs := by rw [hHe, hLe]; exact hS
  suffices hgo : W p l e ({ frames := 1, cells := 0, slots := 0, locals := 22 } : Room) s m [.int (iI x)].toArray below meth c H locs 0 0 (MQ below (CQ g (q_X8_isNumber g x) A) [.int (iI x)].toArray s ({ frames := 1, cells := 0, slots := 0, locals := 22 } : Room).cells ({ frames := 1, cells := 0, slots := 0, locals := 22 } : Room).slots A) (F0 m 0 ls []) by rw [hHe, hLe] at hgo; exact hgo
  clear hHe hLe
  refine lv_iload_n hx hb dX8_isNumber_0 rfl (lv_at hl 0 rfl) ?_
  refine lv_iconst (v := iI (0)) hx hb dX8_isNumber_1 rfl ?_
  refine lv_sipush (v := iI (999)) hx hb dX8_isNumber_2 (by decide) ?_
  refine Ct.callS (As := [.int (iI x), .int (iI 0), .int (iI 999)]) (rest := []) (wr := []) (c1 := 0) (s1 := 0) ⟨hx, hb, hml, hown, hts⟩ (c_X8_within l g x 0 999 (by omega)) (va_cwS 3 hts gX8_isNumber_X8_within rfl rfl rfl (by decide +kernel) ⟨Nat.le_of_ble_eq_true rfl, Nat.le_of_ble_eq_true rfl⟩) hG hP hD hS hA [] [] rfl rfl (by decide) (by decide) (by decide) rfl hl.1 rfl (Nat.le_of_ble_eq_true rfl) dX8_isNumber_5 ⟨Nat.le_of_ble_eq_true rfl, Nat.le_of_ble_eq_true rfl⟩ rfl rfl (fun v w H locs hv hP hD hS => ?_)
  obtain ⟨⟨rfl, hb1⟩ | ⟨rfl, hb1⟩, rfl⟩ := hv
  · show W p l e _ s m _ below meth c H locs 0 0 _ (F0 m 8 ls (.int (iI 1) :: []))
    have hb1 : 0 ≤ x ∧ x ≤ 999 := hb1
    have hP : va_P g.1 vwCl [] H := hP
    have hD : va_D A [] := hD
    exact Ct.zret hx hb hr hlocks (hP.sub [] rfl) (hD.sub [] (by decide) rfl) hS ⟨by decide, by decide⟩ dX8_isNumber_8 (by decide) ⟨Or.inl ⟨rfl, by omega⟩, rfl⟩
  · show W p l e _ s m _ below meth c H locs 0 0 _ (F0 m 8 ls (.int (iI 0) :: []))
    have hb1 : ¬ (0 ≤ x ∧ x ≤ 999) := hb1
    have hP : va_P g.1 vwCl [] H := hP
    have hD : va_D A [] := hD
    exact Ct.zret hx hb hr hlocks (hP.sub [] rfl) (hD.sub [] (by decide) rfl) hS ⟨by decide, by decide⟩ dX8_isNumber_8 (by decide) ⟨Or.inr ⟨rfl, by omega⟩, rfl⟩
abbrev q_X8_isSet (g : GT) (x : Int) : Option Value → va_W → Prop := fun v w => (v = some (.int (iI 1)) ∧ (0 ≤ x ∧ x ≤ 255) ∨ v = some (.int (iI 0)) ∧ ¬ (0 ≤ x ∧ x ≤ 255)) ∧ w = []
set_option maxHeartbeats 4000000 in
set_option maxRecDepth 100000 in
theorem c_X8_isSet (l : Launch) (g : GT) (x : Int) (h1 : (-2147483648 ≤ x ∧ x < 2147483648)) : Ct l g yX8_isSet wsX8_isSet ({ frames := 1, cells := 0, slots := 0, locals := 22 } : Room) [.int (iI x)] [] (q_X8_isSet g x) := by
  refine Ct.intro (maxL := 1) (ret := (some .boolean)) (by decide) rfl (Nat.le_of_ble_eq_true rfl) ?_
  intro p e s m below meth c A ls hx hb hr hml hown hts hlocks hnm hA hG hP hD hS hl
  have hown : s.vm.findClass RX8 = some m.cls := hown
  have hl : lv_has ls 1 [(0, .int (iI x))] := hl
  have hP : va_P g.1 vwCl [] s.heap := hP
  have hS : va_S A s.heap s.heap [] := hS
  obtain ⟨H, hHe⟩ : ∃ H : Heap, H = s.heap := ⟨_, rfl⟩
  obtain ⟨locs, hLe⟩ : ∃ L : List Loc, L = [] := ⟨_, rfl⟩
  have hP : va_P g.1 vwCl [] H := by rw [hHe]; exact hP
  have hS : va_S A s.heap H locs := by rw [hHe, hLe]; exact hS
  suffices hgo : W p l e ({ frames := 1, cells := 0, slots := 0, locals := 22 } : Room) s m [.int (iI x)].toArray below meth c H locs 0 0 (MQ below (CQ g (q_X8_isSet g x) A) [.int (iI x)].toArray s ({ frames := 1, cells := 0, slots := 0, locals := 22 } : Room).cells ({ frames := 1, cells := 0, slots := 0, locals := 22 } : Room).slots A) (F0 m 0 ls []) by rw [hHe, hLe] at hgo; exact hgo
  clear hHe hLe
  refine lv_iload_n hx hb dX8_isSet_0 rfl (lv_at hl 0 rfl) ?_
  refine lv_iconst (v := iI (0)) hx hb dX8_isSet_1 rfl ?_
  refine lv_sipush (v := iI (255)) hx hb dX8_isSet_2 (by decide) ?_
  refine Ct.callS (As := [.int (iI x), .int (iI 0), .int (iI 255)]) (rest := []) (wr := []) (c1 := 0) (s1 := 0) ⟨hx, hb, hml, hown, hts⟩ (c_X8_within l g x 0 255 (by omega)) (va_cwS 3 hts gX8_isSet_X8_within rfl rfl rfl (by decide +kernel) ⟨Nat.le_of_ble_eq_true rfl, Nat.le_of_ble_eq_true rfl⟩) hG hP hD hS hA [] [] rfl rfl (by decide) (by decide) (by decide) rfl hl.1 rfl (Nat.le_of_ble_eq_true rfl) dX8_isSet_5 ⟨Nat.le_of_ble_eq_true rfl, Nat.le_of_ble_eq_true rfl⟩ rfl rfl (fun v w H locs hv hP hD hS => ?_)
  obtain ⟨⟨rfl, hb1⟩ | ⟨rfl, hb1⟩, rfl⟩ := hv
  · show W p l e _ s m _ below meth c H locs 0 0 _ (F0 m 8 ls (.int (iI 1) :: []))
    have hb1 : 0 ≤ x ∧ x ≤ 255 := hb1
    have hP : va_P g.1 vwCl [] H := hP
    have hD : va_D A [] := hD
    exact Ct.zret hx hb hr hlocks (hP.sub [] rfl) (hD.sub [] (by decide) rfl) hS ⟨by decide, by decide⟩ dX8_isSet_8 (by decide) ⟨Or.inl ⟨rfl, by omega⟩, rfl⟩
  · show W p l e _ s m _ below meth c H locs 0 0 _ (F0 m 8 ls (.int (iI 0) :: []))
    have hb1 : ¬ (0 ≤ x ∧ x ≤ 255) := hb1
    have hP : va_P g.1 vwCl [] H := hP
    have hD : va_D A [] := hD
    exact Ct.zret hx hb hr hlocks (hP.sub [] rfl) (hD.sub [] (by decide) rfl) hS ⟨by decide, by decide⟩ dX8_isSet_8 (by decide) ⟨Or.inr ⟨rfl, by omega⟩, rfl⟩
abbrev q_X8_isLane (g : GT) (x : Int) : Option Value → va_W → Prop := fun v w => (v = some (.int (iI 1)) ∧ (0 ≤ x ∧ x ≤ 2) ∨ v = some (.int (iI 0)) ∧ ¬ (0 ≤ x ∧ x ≤ 2)) ∧ w = []
set_option maxHeartbeats 4000000 in
set_option maxRecDepth 100000 in
theorem c_X8_isLane (l : Launch) (g : GT) (x : Int) (h1 : (-2147483648 ≤ x ∧ x < 2147483648)) : Ct l g yX8_isLane wsX8_isLane ({ frames := 1, cells := 0, slots := 0, locals := 22 } : Room) [.int (iI x)] [] (q_X8_isLane g x) := by
  refine Ct.intro (maxL := 1) (ret := (some .boolean)) (by decide) rfl (Nat.le_of_ble_eq_true rfl) ?_
  intro p e s m below meth c A ls hx hb hr hml hown hts hlocks hnm hA hG hP hD hS hl
  have hown : s.vm.findClass RX8 = some m.cls := hown
  have hl : lv_has ls 1 [(0, .int (iI x))] := hl
  have hP : va_P g.1 vwCl [] s.heap := hP
  have hS : va_S A s.heap s.heap [] := hS
  obtain ⟨H, hHe⟩ : ∃ H : Heap, H = s.heap := ⟨_, rfl⟩
  obtain ⟨locs, hLe⟩ : ∃ L : List Loc, L = [] := ⟨_, rfl⟩
  have hP : va_P g.1 vwCl [] H := by rw [hHe]; exact hP
  have hS : va_S A s.heap H locs := by rw [hHe, hLe]; exact hS
  suffices hgo : W p l e ({ frames := 1, cells := 0, slots := 0, locals := 22 } : Room) s m [.int (iI x)].toArray below meth c H locs 0 0 (MQ below (CQ g (q_X8_isLane g x) A) [.int (iI x)].toArray s ({ frames := 1, cells := 0, slots := 0, locals := 22 } : Room).cells ({ frames := 1, cells := 0, slots := 0, locals := 22 } : Room).slots A) (F0 m 0 ls []) by rw [hHe, hLe] at hgo; exact hgo
  clear hHe hLe
  refine lv_iload_n hx hb dX8_isLane_0 rfl (lv_at hl 0 rfl) ?_
  refine lv_iconst (v := iI (0)) hx hb dX8_isLane_1 rfl ?_
  refine lv_iconst (v := iI (2)) hx hb dX8_isLane_2 rfl ?_
  refine Ct.callS (As := [.int (iI x), .int (iI 0), .int (iI 2)]) (rest := []) (wr := []) (c1 := 0) (s1 := 0) ⟨hx, hb, hml, hown, hts⟩ (c_X8_within l g x 0 2 (by omega)) (va_cwS 3 hts gX8_isLane_X8_within rfl rfl rfl (by decide +kernel) ⟨Nat.le_of_ble_eq_true rfl, Nat.le_of_ble_eq_true rfl⟩) hG hP hD hS hA [] [] rfl rfl (by decide) (by decide) (by decide) rfl hl.1 rfl (Nat.le_of_ble_eq_true rfl) dX8_isLane_3 ⟨Nat.le_of_ble_eq_true rfl, Nat.le_of_ble_eq_true rfl⟩ rfl rfl (fun v w H locs hv hP hD hS => ?_)
  obtain ⟨⟨rfl, hb1⟩ | ⟨rfl, hb1⟩, rfl⟩ := hv
  · show W p l e _ s m _ below meth c H locs 0 0 _ (F0 m 6 ls (.int (iI 1) :: []))
    have hb1 : 0 ≤ x ∧ x ≤ 2 := hb1
    have hP : va_P g.1 vwCl [] H := hP
    have hD : va_D A [] := hD
    exact Ct.zret hx hb hr hlocks (hP.sub [] rfl) (hD.sub [] (by decide) rfl) hS ⟨by decide, by decide⟩ dX8_isLane_6 (by decide) ⟨Or.inl ⟨rfl, by omega⟩, rfl⟩
  · show W p l e _ s m _ below meth c H locs 0 0 _ (F0 m 6 ls (.int (iI 0) :: []))
    have hb1 : ¬ (0 ≤ x ∧ x ≤ 2) := hb1
    have hP : va_P g.1 vwCl [] H := hP
    have hD : va_D A [] := hD
    exact Ct.zret hx hb hr hlocks (hP.sub [] rfl) (hD.sub [] (by decide) rfl) hS ⟨by decide, by decide⟩ dX8_isLane_6 (by decide) ⟨Or.inr ⟨rfl, by omega⟩, rfl⟩
abbrev q_X8_isDay (g : GT) (x : Int) : Option Value → va_W → Prop := fun v w => (v = some (.int (iI 1)) ∧ (0 ≤ x ∧ x ≤ 9999) ∨ v = some (.int (iI 0)) ∧ ¬ (0 ≤ x ∧ x ≤ 9999)) ∧ w = []
set_option maxHeartbeats 4000000 in
set_option maxRecDepth 100000 in
theorem c_X8_isDay (l : Launch) (g : GT) (x : Int) (h1 : (-2147483648 ≤ x ∧ x < 2147483648)) : Ct l g yX8_isDay wsX8_isDay ({ frames := 1, cells := 0, slots := 0, locals := 22 } : Room) [.int (iI x)] [] (q_X8_isDay g x) := by
  refine Ct.intro (maxL := 1) (ret := (some .boolean)) (by decide) rfl (Nat.le_of_ble_eq_true rfl) ?_
  intro p e s m below meth c A ls hx hb hr hml hown hts hlocks hnm hA hG hP hD hS hl
  have hown : s.vm.findClass RX8 = some m.cls := hown
  have hl : lv_has ls 1 [(0, .int (iI x))] := hl
  have hP : va_P g.1 vwCl [] s.heap := hP
  have hS : va_S A s.heap s.heap [] := hS
  obtain ⟨H, hHe⟩ : ∃ H : Heap, H = s.heap := ⟨_, rfl⟩
  obtain ⟨locs, hLe⟩ : ∃ L : List Loc, L = [] := ⟨_, rfl⟩
  have hP : va_P g.1 vwCl [] H := by rw [hHe]; exact hP
  have hS : va_S A s.heap H locs := by rw [hHe, hLe]; exact hS
  suffices hgo : W p l e ({ frames := 1, cells := 0, slots := 0, locals := 22 } : Room) s m [.int (iI x)].toArray below meth c H locs 0 0 (MQ below (CQ g (q_X8_isDay g x) A) [.int (iI x)].toArray s ({ frames := 1, cells := 0, slots := 0, locals := 22 } : Room).cells ({ frames := 1, cells := 0, slots := 0, locals := 22 } : Room).slots A) (F0 m 0 ls []) by rw [hHe, hLe] at hgo; exact hgo
  clear hHe hLe
  refine lv_iload_n hx hb dX8_isDay_0 rfl (lv_at hl 0 rfl) ?_
  refine lv_iconst (v := iI (0)) hx hb dX8_isDay_1 rfl ?_
  refine lv_sipush (v := iI (9999)) hx hb dX8_isDay_2 (by decide) ?_
  refine Ct.callS (As := [.int (iI x), .int (iI 0), .int (iI 9999)]) (rest := []) (wr := []) (c1 := 0) (s1 := 0) ⟨hx, hb, hml, hown, hts⟩ (c_X8_within l g x 0 9999 (by omega)) (va_cwS 3 hts gX8_isDay_X8_within rfl rfl rfl (by decide +kernel) ⟨Nat.le_of_ble_eq_true rfl, Nat.le_of_ble_eq_true rfl⟩) hG hP hD hS hA [] [] rfl rfl (by decide) (by decide) (by decide) rfl hl.1 rfl (Nat.le_of_ble_eq_true rfl) dX8_isDay_5 ⟨Nat.le_of_ble_eq_true rfl, Nat.le_of_ble_eq_true rfl⟩ rfl rfl (fun v w H locs hv hP hD hS => ?_)
  obtain ⟨⟨rfl, hb1⟩ | ⟨rfl, hb1⟩, rfl⟩ := hv
  · show W p l e _ s m _ below meth c H locs 0 0 _ (F0 m 8 ls (.int (iI 1) :: []))
    have hb1 : 0 ≤ x ∧ x ≤ 9999 := hb1
    have hP : va_P g.1 vwCl [] H := hP
    have hD : va_D A [] := hD
    exact Ct.zret hx hb hr hlocks (hP.sub [] rfl) (hD.sub [] (by decide) rfl) hS ⟨by decide, by decide⟩ dX8_isDay_8 (by decide) ⟨Or.inl ⟨rfl, by omega⟩, rfl⟩
  · show W p l e _ s m _ below meth c H locs 0 0 _ (F0 m 8 ls (.int (iI 0) :: []))
    have hb1 : ¬ (0 ≤ x ∧ x ≤ 9999) := hb1
    have hP : va_P g.1 vwCl [] H := hP
    have hD : va_D A [] := hD
    exact Ct.zret hx hb hr hlocks (hP.sub [] rfl) (hD.sub [] (by decide) rfl) hS ⟨by decide, by decide⟩ dX8_isDay_8 (by decide) ⟨Or.inr ⟨rfl, by omega⟩, rfl⟩
abbrev q_X8_isTask (g : GT) (much : Int) (less : Int) : Option Value → va_W → Prop := fun v w => (v = some (.int (iI 1)) ∧ (0 ≤ less ∧ less ≤ much ∧ much ≤ 999) ∨ v = some (.int (iI 0)) ∧ ¬ (0 ≤ less ∧ less ≤ much ∧ much ≤ 999)) ∧ w = []
set_option maxHeartbeats 4000000 in
set_option maxRecDepth 100000 in
theorem c_X8_isTask (l : Launch) (g : GT) (much : Int) (less : Int) (h1 : (-2147483648 ≤ much ∧ much < 2147483648) ∧ (-2147483648 ≤ less ∧ less < 2147483648)) : Ct l g yX8_isTask wsX8_isTask ({ frames := 2, cells := 0, slots := 0, locals := 42 } : Room) [.int (iI much), .int (iI less)] [] (q_X8_isTask g much less) := by
  refine Ct.intro (maxL := 2) (ret := (some .boolean)) (by decide) rfl (Nat.le_of_ble_eq_true rfl) ?_
  intro p e s m below meth c A ls hx hb hr hml hown hts hlocks hnm hA hG hP hD hS hl
  have hown : s.vm.findClass RX8 = some m.cls := hown
  have hl : lv_has ls 2 [(0, .int (iI much)), (1, .int (iI less))] := hl
  have hP : va_P g.1 vwCl [] s.heap := hP
  have hS : va_S A s.heap s.heap [] := hS
  obtain ⟨H, hHe⟩ : ∃ H : Heap, H = s.heap := ⟨_, rfl⟩
  obtain ⟨locs, hLe⟩ : ∃ L : List Loc, L = [] := ⟨_, rfl⟩
  have hP : va_P g.1 vwCl [] H := by rw [hHe]; exact hP
  have hS : va_S A s.heap H locs := by rw [hHe, hLe]; exact hS
  suffices hgo : W p l e ({ frames := 2, cells := 0, slots := 0, locals := 42 } : Room) s m [.int (iI much), .int (iI less)].toArray below meth c H locs 0 0 (MQ below (CQ g (q_X8_isTask g much less) A) [.int (iI much), .int (iI less)].toArray s ({ frames := 2, cells := 0, slots := 0, locals := 42 } : Room).cells ({ frames := 2, cells := 0, slots := 0, locals := 42 } : Room).slots A) (F0 m 0 ls []) by rw [hHe, hLe] at hgo; exact hgo
  clear hHe hLe
  refine lv_iload_n hx hb dX8_isTask_0 rfl (lv_at hl 1 rfl) ?_
  refine Ct.callS (As := [.int (iI less)]) (rest := []) (wr := []) (c1 := 0) (s1 := 0) ⟨hx, hb, hml, hown, hts⟩ (c_X8_isNumber l g less (by omega)) (va_cwS 1 hts gX8_isTask_X8_isNumber rfl rfl rfl (by decide +kernel) ⟨Nat.le_of_ble_eq_true rfl, Nat.le_of_ble_eq_true rfl⟩) hG hP hD hS hA [] [] rfl rfl (by decide) (by decide) (by decide) rfl hl.1 rfl (Nat.le_of_ble_eq_true rfl) dX8_isTask_1 ⟨Nat.le_of_ble_eq_true rfl, Nat.le_of_ble_eq_true rfl⟩ rfl rfl (fun v w H locs hv hP hD hS => ?_)
  obtain ⟨⟨rfl, hb1⟩ | ⟨rfl, hb1⟩, rfl⟩ := hv
  · show W p l e _ s m _ below meth c H locs 0 0 _ (F0 m 4 ls (.int (iI 1) :: []))
    have hb1 : 0 ≤ less ∧ less ≤ 999 := hb1
    have hP : va_P g.1 vwCl [] H := hP
    have hD : va_D A [] := hD
    refine iv_if_eq (tgt := 22) hx hb dX8_isTask_4 (by decide) (by decide) (fun h => absurd h (by decide)) (fun _ => ?_)
    refine lv_iload_n hx hb dX8_isTask_7 rfl (lv_at hl 0 rfl) ?_
    refine lv_iload_n hx hb dX8_isTask_8 rfl (lv_at hl 1 rfl) ?_
    refine lv_sipush (v := iI (999)) hx hb dX8_isTask_9 (by decide) ?_
    refine Ct.callS (As := [.int (iI much), .int (iI less), .int (iI 999)]) (rest := []) (wr := []) (c1 := 0) (s1 := 0) ⟨hx, hb, hml, hown, hts⟩ (c_X8_within l g much less 999 (by omega)) (va_cwS 3 hts gX8_isTask_X8_within rfl rfl rfl (by decide +kernel) ⟨Nat.le_of_ble_eq_true rfl, Nat.le_of_ble_eq_true rfl⟩) hG hP hD hS hA [] [] rfl rfl (by decide) (by decide) (by decide) rfl hl.1 rfl (Nat.le_of_ble_eq_true rfl) dX8_isTask_12 ⟨Nat.le_of_ble_eq_true rfl, Nat.le_of_ble_eq_true rfl⟩ rfl rfl (fun v w H locs hv hP hD hS => ?_)
    obtain ⟨⟨rfl, hb3⟩ | ⟨rfl, hb3⟩, rfl⟩ := hv
    · show W p l e _ s m _ below meth c H locs 0 0 _ (F0 m 15 ls (.int (iI 1) :: []))
      have hb3 : less ≤ much ∧ much ≤ 999 := hb3
      have hP : va_P g.1 vwCl [] H := hP
      have hD : va_D A [] := hD
      refine iv_if_eq (tgt := 22) hx hb dX8_isTask_15 (by decide) (by decide) (fun h => absurd h (by decide)) (fun _ => ?_)
      refine lv_iconst (v := iI (1)) hx hb dX8_isTask_18 rfl ?_
      refine lv_goto (tgt := 23) hx hb dX8_isTask_19 (by decide) ?_
      exact Ct.zret hx hb hr hlocks (hP.sub [] rfl) (hD.sub [] (by decide) rfl) hS ⟨by decide, by decide⟩ dX8_isTask_23 (by decide) ⟨Or.inl ⟨rfl, by omega⟩, rfl⟩
    · show W p l e _ s m _ below meth c H locs 0 0 _ (F0 m 15 ls (.int (iI 0) :: []))
      have hb3 : ¬ (less ≤ much ∧ much ≤ 999) := hb3
      have hP : va_P g.1 vwCl [] H := hP
      have hD : va_D A [] := hD
      refine iv_if_eq (tgt := 22) hx hb dX8_isTask_15 (by decide) (by decide) (fun _ => ?_) (fun h => absurd h (by decide))
      refine lv_iconst (v := iI (0)) hx hb dX8_isTask_22 rfl ?_
      exact Ct.zret hx hb hr hlocks (hP.sub [] rfl) (hD.sub [] (by decide) rfl) hS ⟨by decide, by decide⟩ dX8_isTask_23 (by decide) ⟨Or.inr ⟨rfl, by omega⟩, rfl⟩
  · show W p l e _ s m _ below meth c H locs 0 0 _ (F0 m 4 ls (.int (iI 0) :: []))
    have hb1 : ¬ (0 ≤ less ∧ less ≤ 999) := hb1
    have hP : va_P g.1 vwCl [] H := hP
    have hD : va_D A [] := hD
    refine iv_if_eq (tgt := 22) hx hb dX8_isTask_4 (by decide) (by decide) (fun _ => ?_) (fun h => absurd h (by decide))
    refine lv_iconst (v := iI (0)) hx hb dX8_isTask_22 rfl ?_
    exact Ct.zret hx hb hr hlocks (hP.sub [] rfl) (hD.sub [] (by decide) rfl) hS ⟨by decide, by decide⟩ dX8_isTask_23 (by decide) ⟨Or.inr ⟨rfl, by omega⟩, rfl⟩
abbrev q_X4_has (g : GT) (st : Int) (k : Int) : Option Value → va_W → Prop := fun v w => (v = some (.int (iI 1)) ∧ (fs st k) ∨ v = some (.int (iI 0)) ∧ ¬ (fs st k)) ∧ w = []
set_option maxHeartbeats 4000000 in
set_option maxRecDepth 100000 in
theorem c_X4_has (l : Launch) (g : GT) (st : Int) (k : Int) (h1 : 0 ≤ st ∧ st < 2147483648 ∧ 0 ≤ k ∧ k < 32) : Ct l g yX4_has wsX4_has ({ frames := 0, cells := 0, slots := 0, locals := 0 } : Room) [.int (iI st), .int (iI k)] [] (q_X4_has g st k) := by
  refine Ct.intro (maxL := 2) (ret := (some .boolean)) (by decide) rfl (Nat.le_of_ble_eq_true rfl) ?_
  intro p e s m below meth c A ls hx hb hr hml hown hts hlocks hnm hA hG hP hD hS hl
  have hown : s.vm.findClass RX4 = some m.cls := hown
  have hl : lv_has ls 2 [(0, .int (iI st)), (1, .int (iI k))] := hl
  have hP : va_P g.1 vwCl [] s.heap := hP
  have hS : va_S A s.heap s.heap [] := hS
  obtain ⟨H, hHe⟩ : ∃ H : Heap, H = s.heap := ⟨_, rfl⟩
  obtain ⟨locs, hLe⟩ : ∃ L : List Loc, L = [] := ⟨_, rfl⟩
  have hP : va_P g.1 vwCl [] H := by rw [hHe]; exact hP
  have hS : va_S A s.heap H locs := by rw [hHe, hLe]; exact hS
  suffices hgo : W p l e ({ frames := 0, cells := 0, slots := 0, locals := 0 } : Room) s m [.int (iI st), .int (iI k)].toArray below meth c H locs 0 0 (MQ below (CQ g (q_X4_has g st k) A) [.int (iI st), .int (iI k)].toArray s ({ frames := 0, cells := 0, slots := 0, locals := 0 } : Room).cells ({ frames := 0, cells := 0, slots := 0, locals := 0 } : Room).slots A) (F0 m 0 ls []) by rw [hHe, hLe] at hgo; exact hgo
  clear hHe hLe
  refine lv_iload_n hx hb dX4_has_0 rfl (lv_at hl 0 rfl) ?_
  refine lv_iload_n hx hb dX4_has_1 rfl (lv_at hl 1 rfl) ?_
  refine iv_ishr hx hb dX4_has_2 (by omega) ?_
  refine lv_iconst (v := iI (1)) hx hb dX4_has_3 rfl ?_
  have hq := Int.ediv_nonneg (a := st) (b := 2 ^ k.toNat) (by omega) (Int.pow_nonneg (by omega))
  have hq2 := Int.ediv_le_self (a := st) (2 ^ k.toNat) (by omega)
  refine iv_and1 hx hb dX4_has_4 (by omega) ?_
  refine lv_iconst (v := iI (1)) hx hb dX4_has_5 rfl ?_
  refine iv_icmp_ne (tgt := 13) hx hb dX4_has_6 (by decide) (by omega) (fun hc1 => ?_) (fun hc1 => ?_)
  · refine lv_iconst (v := iI (0)) hx hb dX4_has_13 rfl ?_
    exact Ct.zret hx hb hr hlocks (hP.sub [] rfl) (hD.sub [] (by decide) rfl) hS ⟨by decide, by decide⟩ dX4_has_14 (by decide) ⟨Or.inr ⟨rfl, by omega⟩, rfl⟩
  · refine lv_iconst (v := iI (1)) hx hb dX4_has_9 rfl ?_
    refine lv_goto (tgt := 14) hx hb dX4_has_10 (by decide) ?_
    exact Ct.zret hx hb hr hlocks (hP.sub [] rfl) (hD.sub [] (by decide) rfl) hS ⟨by decide, by decide⟩ dX4_has_14 (by decide) ⟨Or.inl ⟨rfl, by omega⟩, rfl⟩
