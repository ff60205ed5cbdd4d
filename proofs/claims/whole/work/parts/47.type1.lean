abbrev q_X8_byteOf (g : GT) (wl : Int64) (jj : Int) (j : Nat) : Option Value → va_W → Prop := fun v w => v = some (.int (iI (bteI wl j))) ∧ w = []
set_option maxHeartbeats 4000000 in
set_option maxRecDepth 100000 in
theorem c_X8_byteOf (l : Launch) (g : GT) (wl : Int64) (jj : Int) (j : Nat) (h1 : jj = (j : Int) ∧ j < 8) : Ct l g yX8_byteOf wsX8_byteOf ({ frames := 0, cells := 0, slots := 0, locals := 0 } : Room) [.long wl, .int (iI jj)] [] (q_X8_byteOf g wl jj j) := by
  refine Ct.intro (maxL := 3) (ret := (some .int)) (by decide) rfl (Nat.le_of_ble_eq_true rfl) ?_
  intro p e s m below meth c A ls hx hb hr hml hown hts hlocks hnm hA hG hP hD hS hl
  have hown : s.vm.findClass RX8 = some m.cls := hown
  have hl : lv_has ls 3 [(0, .long wl), (2, .int (iI jj))] := hl
  have hP : va_P g.1 vwCl [] s.heap := hP
  have hS : va_S A s.heap s.heap [] := hS
  obtain ⟨H, hHe⟩ : ∃ H : Heap, H = s.heap := ⟨_, rfl⟩
  obtain ⟨locs, hLe⟩ : ∃ L : List Loc, L = [] := ⟨_, rfl⟩
  have hP : va_P g.1 vwCl [] H := by rw [hHe]; exact hP
  have hS : va_S A s.heap H locs := by rw [hHe, hLe]; exact hS
  suffices hgo : W p l e ({ frames := 0, cells := 0, slots := 0, locals := 0 } : Room) s m [.long wl, .int (iI jj)].toArray below meth c H locs 0 0 (MQ below (CQ g (q_X8_byteOf g wl jj j) A) [.long wl, .int (iI jj)].toArray s ({ frames := 0, cells := 0, slots := 0, locals := 0 } : Room).cells ({ frames := 0, cells := 0, slots := 0, locals := 0 } : Room).slots A) (F0 m 0 ls []) by rw [hHe, hLe] at hgo; exact hgo
  clear hHe hLe
  refine lv_lload_n hx hb dX8_byteOf_0 rfl (lv_at hl 0 rfl) ?_
  refine lv_bipush (v := iI (8)) hx hb dX8_byteOf_1 (by decide) ?_
  refine lv_iload_n hx hb dX8_byteOf_3 rfl (lv_at hl 1 rfl) ?_
  refine iv_imul hx hb dX8_byteOf_4 ?_
  refine iv_as (8 * (j : Int)) (by omega) ?_
  refine lv_lushr hx hb dX8_byteOf_5 rfl ?_
  refine lv_l2i hx hb dX8_byteOf_6 rfl ?_
  refine lv_sipush (v := iI (255)) hx hb dX8_byteOf_7 (by decide) ?_
  refine lv_iand hx hb dX8_byteOf_10 ?_
  rw [bteA wl j h1.2]
  exact Ct.iret hx hb hr hlocks (hP.sub [] rfl) (hD.sub [] (by decide) rfl) hS ⟨by decide, by decide⟩ dX8_byteOf_11 ⟨rfl, rfl⟩
theorem kX6_append_6 : ∀ w ∈ u_ws RX6 TX6 3, w ∈ wsX6_append := fun _ h => List.mem_cons_of_mem _ (List.mem_append_right _ h)
abbrev q_X6_append (g : GT) (ht : Nat) (tb : Nat) (tl : Int) (tp : Int) (ft : Nat → Int) (L : Nat) (b : Int) : Option Value → va_W → Prop := fun v w => v = none ∧ w = [(ht, .inr (6, [.int (iI (tl + 1)), .ref tb, .int (iI tp)])), (tb, aI (g.2.1 2) 100 (va_up ft L b))]
set_option maxHeartbeats 4000000 in
set_option maxRecDepth 100000 in
theorem c_X6_append (l : Launch) (g : GT) (ht : Nat) (tb : Nat) (tl : Int) (tp : Int) (ft : Nat → Int) (L : Nat) (b : Int) (h1 : tl = (L : Int) ∧ L < 100 ∧ 0 ≤ b ∧ b ≤ 127) : Ct l g yX6_append wsX6_append ({ frames := 0, cells := 0, slots := 0, locals := 0 } : Room) [.ref ht, .int (iI b)] [(ht, .inr (6, [.int (iI tl), .ref tb, .int (iI tp)])), (tb, aI (g.2.1 2) 100 ft)] (q_X6_append g ht tb tl tp ft L b) := by
  refine Ct.intro (maxL := 2) (ret := none) (by decide) rfl (Nat.le_of_ble_eq_true rfl) ?_
  intro p e s m below meth c A ls hx hb hr hml hown hts hlocks hnm hA hG hP hD hS hl
  have hown : s.vm.findClass RX6 = some m.cls := hown
  have hl : lv_has ls 2 [(0, .ref ht), (1, .int (iI b))] := hl
  have hP : va_P g.1 vwCl [(ht, .inr (6, [.int (iI tl), .ref tb, .int (iI tp)])), (tb, aI (g.2.1 2) 100 ft)] s.heap := hP
  have hS : va_S A s.heap s.heap [] := hS
  obtain ⟨H, hHe⟩ : ∃ H : Heap, H = s.heap := ⟨_, rfl⟩
  obtain ⟨locs, hLe⟩ : ∃ L : List Loc, L = [] := ⟨_, rfl⟩
  have hP : va_P g.1 vwCl [(ht, .inr (6, [.int (iI tl), .ref tb, .int (iI tp)])), (tb, aI (g.2.1 2) 100 ft)] H := by rw [hHe]; exact hP
  have hS : va_S A s.heap H locs := by rw [hHe, hLe]; exact hS
  suffices hgo : W p l e ({ frames := 0, cells := 0, slots := 0, locals := 0 } : Room) s m [.ref ht, .int (iI b)].toArray below meth c H locs 0 0 (MQ below (CQ g (q_X6_append g ht tb tl tp ft L b) A) [.ref ht, .int (iI b)].toArray s ({ frames := 0, cells := 0, slots := 0, locals := 0 } : Room).cells ({ frames := 0, cells := 0, slots := 0, locals := 0 } : Room).slots A) (F0 m 0 ls []) by rw [hHe, hLe] at hgo; exact hgo
  clear hHe hLe
  refine lv_aload_n hx hb dX6_append_0 rfl (lv_at hl 0 rfl) ?_
  refine va_get (D := g.1) (ci := 6) (v := .int (iI tl)) hx hb hts kX6_append_6 hown hG.1 hP 0 rfl rfl 0 (by decide) (hts _ (List.mem_of_getElem? (i := 1) rfl)) (fun _ h9 => h9) rfl dX6_append_1 ?_
  refine lv_bipush (v := iI (100)) hx hb dX6_append_4 (by decide) ?_
  refine iv_icmp_ge (tgt := 30) hx hb dX6_append_6 (by decide) (by omega) (fun hc1 => absurd hc1 (by omega)) (fun hc1 => ?_)
  refine lv_aload_n hx hb dX6_append_9 rfl (lv_at hl 0 rfl) ?_
  refine va_get (D := g.1) (ci := 6) (v := .ref tb) hx hb hts kX6_append_6 hown hG.1 hP 0 rfl rfl 1 (by decide) (hts _ (List.mem_of_getElem? (i := 2) rfl)) (fun _ h9 => h9) rfl dX6_append_10 ?_
  refine lv_aload_n hx hb dX6_append_13 rfl (lv_at hl 0 rfl) ?_
  refine va_get (D := g.1) (ci := 6) (v := .int (iI tl)) hx hb hts kX6_append_6 hown hG.1 hP 0 rfl rfl 0 (by decide) (hts _ (List.mem_of_getElem? (i := 1) rfl)) (fun _ h9 => h9) rfl dX6_append_14 ?_
  refine lv_iload_n hx hb dX6_append_17 rfl (lv_at hl 1 rfl) ?_
  refine lv_i2b (v := iI b) hx hb dX6_append_18 (byte_id (by omega)) ?_
  refine iv_bast hx hb hG hP hD hS 1 rfl L (by omega) (by omega) (by decide) (byte_nar (by omega)) dX6_append_19 (fun H locs hP hD hS => ?_)
  have hP : va_P g.1 vwCl [(ht, .inr (6, [.int (iI tl), .ref tb, .int (iI tp)])), (tb, aI (g.2.1 2) 100 (va_up ft L b))] H := hP
  have hD : va_D A [(ht, .inr (6, [.int (iI tl), .ref tb, .int (iI tp)])), (tb, aI (g.2.1 2) 100 (va_up ft L b))] := hD
  refine lv_aload_n hx hb dX6_append_20 rfl (lv_at hl 0 rfl) ?_
  refine lv_dup hx hb dX6_append_21 rfl ?_
  refine va_get (D := g.1) (ci := 6) (v := .int (iI tl)) hx hb hts kX6_append_6 hown hG.1 hP 0 rfl rfl 0 (by decide) (hts _ (List.mem_of_getElem? (i := 1) rfl)) (fun _ h9 => h9) rfl dX6_append_22 ?_
  refine lv_iconst (v := iI (1)) hx hb dX6_append_25 rfl ?_
  refine iv_iadd hx hb dX6_append_26 ?_
  refine va_put (D := g.1) (ci := 6) (v := .int (iI (tl + 1))) hx hb hts kX6_append_6 tyX6 tyX6_ok nmX6 hown hG.1 hP hD hS 0 rfl rfl 0 (by decide) (hts _ (List.mem_of_getElem? (i := 1) rfl)) (fun _ h9 => h9) rfl (tyX6_ok 0 (by decide)) rfl rfl (Nat.le_of_ble_eq_true rfl) dX6_append_27 (fun H locs hP hD hS => ?_)
  have hP : va_P g.1 vwCl [(ht, .inr (6, [.int (iI (tl + 1)), .ref tb, .int (iI tp)])), (tb, aI (g.2.1 2) 100 (va_up ft L b))] H := hP
  have hD : va_D A [(ht, .inr (6, [.int (iI (tl + 1)), .ref tb, .int (iI tp)])), (tb, aI (g.2.1 2) 100 (va_up ft L b))] := hD
  exact Ct.vret hx hb hr hlocks (hP.sub [0, 1] rfl) (hD.sub [0, 1] (by decide) rfl) hS ⟨by decide, by decide⟩ dX6_append_30 ⟨rfl, rfl⟩
