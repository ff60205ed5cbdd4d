abbrev q_X8_commonDivisor (g : GT) (x : Int) (y : Int) : Option Value → va_W → Prop := fun v w => ∃ (r : Int), v = some (.int (iI r)) ∧ w = [] ∧ (r = ((Nat.gcd x.toNat y.toNat : Nat) : Int))
set_option maxHeartbeats 4000000 in
set_option maxRecDepth 100000 in
theorem c_X8_commonDivisor (l : Launch) (g : GT) (x : Int) (y : Int) (h1 : 0 ≤ x ∧ x < 2147483648 ∧ 0 < y ∧ y ≤ 36) : Ct l g yX8_commonDivisor wsX8_commonDivisor ({ frames := 0, cells := 0, slots := 0, locals := 0 } : Room) [.int (iI x), .int (iI y)] [] (q_X8_commonDivisor g x y) := by
  refine Ct.intro (maxL := 6) (ret := (some .int)) (by decide) rfl (Nat.le_of_ble_eq_true rfl) ?_
  intro p e s m below meth c A ls hx hb hr hml hown hts hlocks hnm hA hG hP hD hS hl
  have hown : s.vm.findClass RX8 = some m.cls := hown
  have hl : lv_has ls 6 [(0, .int (iI x)), (1, .int (iI y))] := hl
  have hP : va_P g.1 vwCl [] s.heap := hP
  have hS : va_S A s.heap s.heap [] := hS
  obtain ⟨H, hHe⟩ : ∃ H : Heap, H = s.heap := ⟨_, rfl⟩
  obtain ⟨locs, hLe⟩ : ∃ L : List Loc, L = [] := ⟨_, rfl⟩
  have hP : va_P g.1 vwCl [] H := by rw [hHe]; exact hP
  have hS : va_S A s.heap H locs := by rw [hHe, hLe]; exact hS
  suffices hgo : W p l e ({ frames := 0, cells := 0, slots := 0, locals := 0 } : Room) s m [.int (iI x), .int (iI y)].toArray below meth c H locs 0 0 (MQ below (CQ g (q_X8_commonDivisor g x y) A) [.int (iI x), .int (iI y)].toArray s ({ frames := 0, cells := 0, slots := 0, locals := 0 } : Room).cells ({ frames := 0, cells := 0, slots := 0, locals := 0 } : Room).slots A) (F0 m 0 ls []) by rw [hHe, hLe] at hgo; exact hgo
  clear hHe hLe
  refine lv_iload_n hx hb dX8_commonDivisor_0 rfl (lv_at hl 0 rfl) ?_
  refine lv_istore_n (lv' := [(2, .int (iI x)), (0, .int (iI x)), (1, .int (iI y))]) hx hb dX8_commonDivisor_1 rfl hl (by decide) rfl (fun ls hl => ?_)
  refine lv_iload_n hx hb dX8_commonDivisor_2 rfl (lv_at hl 2 rfl) ?_
  refine lv_istore_n (lv' := [(3, .int (iI y)), (2, .int (iI x)), (0, .int (iI x)), (1, .int (iI y))]) hx hb dX8_commonDivisor_3 rfl hl (by decide) rfl (fun ls hl => ?_)
  refine lv_iconst (v := iI (0)) hx hb dX8_commonDivisor_4 rfl ?_
  refine lv_istore (lv' := [(4, .int (iI 0)), (3, .int (iI y)), (2, .int (iI x)), (0, .int (iI x)), (1, .int (iI y))]) hx hb dX8_commonDivisor_5 hl (by decide) rfl (fun ls hl => ?_)
  have hloop7 : ∀ (fuel : Nat) (gr : Int) (rs : Int) (stp : Int) (hc : 0 ≤ stp ∧ 0 ≤ gr ∧ gr < 2147483648 ∧ 0 ≤ rs ∧ rs + stp ≤ 36) (hg : Nat.gcd gr.toNat rs.toNat = Nat.gcd x.toNat y.toNat) (hmeas : rs.toNat < fuel), ∀ (H : Heap) (locs : List Loc) (ls : Array Slot), va_P g.1 vwCl [] H → va_D A [] → va_S A s.heap H locs → lv_has ls 6 [(4, .int (iI stp)), (3, .int (iI rs)), (2, .int (iI gr)), (0, .int (iI x)), (1, .int (iI y))] → W p l e ({ frames := 0, cells := 0, slots := 0, locals := 0 } : Room) s m [.int (iI x), .int (iI y)].toArray below meth c H locs 0 0 (MQ below (CQ g (q_X8_commonDivisor g x y) A) [.int (iI x), .int (iI y)].toArray s ({ frames := 0, cells := 0, slots := 0, locals := 0 } : Room).cells ({ frames := 0, cells := 0, slots := 0, locals := 0 } : Room).slots A) (F0 m 7 ls []) := by
    intro fuel
    induction fuel with
    | zero => intro gr rs stp hc hg hmeas; exact absurd hmeas (Nat.not_lt_zero _)
    | succ fuel ih7 =>
      intro gr rs stp hc hg hmeas H locs ls hP hD hS hl
      refine lv_iload hx hb dX8_commonDivisor_7 (lv_at hl 0 rfl) ?_
      refine lv_bipush (v := iI (100)) hx hb dX8_commonDivisor_9 (by decide) ?_
      refine iv_icmp_ge (tgt := 34) hx hb dX8_commonDivisor_11 (by decide) (by omega) (fun hc1 => absurd hc1 (by omega)) (fun hc1 => ?_)
      refine lv_iload_n hx hb dX8_commonDivisor_14 rfl (lv_at hl 1 rfl) ?_
      refine iv_if_eq (tgt := 34) hx hb dX8_commonDivisor_15 (by decide) (by omega) (fun hc2 => ?_) (fun hc2 => ?_)
      · refine lv_iload_n hx hb dX8_commonDivisor_34 rfl (lv_at hl 2 rfl) ?_
        exact Ct.iret hx hb hr hlocks (hP.sub [] rfl) (hD.sub [] (by decide) rfl) hS ⟨by decide, by decide⟩ dX8_commonDivisor_35 ⟨gr, rfl, rfl, (by rw [← hg, show rs.toNat = 0 from by omega, Nat.gcd_zero_right]; omega)⟩
      · refine lv_iload_n hx hb dX8_commonDivisor_18 rfl (lv_at hl 2 rfl) ?_
        refine lv_iload_n hx hb dX8_commonDivisor_19 rfl (lv_at hl 1 rfl) ?_
        refine iv_irem hx hb dX8_commonDivisor_20 (by omega) ?_
        have hm := Int.emod_nonneg gr (b := rs) (by omega)
        have hm2 := Int.emod_lt_of_pos gr (b := rs) (by omega)
        refine lv_istore (lv' := [(5, .int (iI (gr % rs))), (4, .int (iI stp)), (3, .int (iI rs)), (2, .int (iI gr)), (0, .int (iI x)), (1, .int (iI y))]) hx hb dX8_commonDivisor_21 hl (by decide) rfl (fun ls hl => ?_)
        refine lv_iload_n hx hb dX8_commonDivisor_23 rfl (lv_at hl 2 rfl) ?_
        refine lv_istore_n (lv' := [(2, .int (iI rs)), (5, .int (iI (gr % rs))), (4, .int (iI stp)), (3, .int (iI rs)), (0, .int (iI x)), (1, .int (iI y))]) hx hb dX8_commonDivisor_24 rfl hl (by decide) rfl (fun ls hl => ?_)
        refine lv_iload hx hb dX8_commonDivisor_25 (lv_at hl 1 rfl) ?_
        refine lv_istore_n (lv' := [(3, .int (iI (gr % rs))), (2, .int (iI rs)), (5, .int (iI (gr % rs))), (4, .int (iI stp)), (0, .int (iI x)), (1, .int (iI y))]) hx hb dX8_commonDivisor_27 rfl hl (by decide) rfl (fun ls hl => ?_)
        refine iv_iinc (k := 3) (x := stp) (lv' := [(4, .int (iI (stp + 1))), (3, .int (iI (gr % rs))), (2, .int (iI rs)), (5, .int (iI (gr % rs))), (0, .int (iI x)), (1, .int (iI y))]) hx hb dX8_commonDivisor_28 hl rfl (by decide) rfl (fun ls hl => ?_)
        refine lv_goto (tgt := 7) hx hb dX8_commonDivisor_31 (by decide) ?_
        exact ih7 rs (gr % rs) (stp + 1) (by omega) (by rw [← hg]; exact gcd_step (by omega) (by omega)) (by omega) H locs ls (hP.sub [] rfl) (hD.sub [] (by decide) rfl) hS (lv_sub hl [0, 1, 2, 4, 5] rfl)
  exact hloop7 _ x y 0 (by omega) (rfl) (Nat.lt_succ_self _) H locs ls (hP.sub [] rfl) (hD.sub [] (by decide) rfl) hS (lv_sub hl [0, 1, 2, 3, 4] rfl)
abbrev q_X9_common (g : GT) (x : Int) (y : Int) : Option Value → va_W → Prop := fun v w => ∃ (r : Int), v = some (.int (iI r)) ∧ w = [] ∧ (r = ((Nat.gcd x.natAbs y.toNat : Nat) : Int))
set_option maxHeartbeats 4000000 in
set_option maxRecDepth 100000 in
theorem c_X9_common (l : Launch) (g : GT) (x : Int) (y : Int) (h1 : -2147483648 < x ∧ x < 2147483648 ∧ 0 < y ∧ y ≤ 36) : Ct l g yX9_common wsX9_common ({ frames := 0, cells := 0, slots := 0, locals := 0 } : Room) [.int (iI x), .int (iI y)] [] (q_X9_common g x y) := by
  refine Ct.intro (maxL := 5) (ret := (some .int)) (by decide) rfl (Nat.le_of_ble_eq_true rfl) ?_
  intro p e s m below meth c A ls hx hb hr hml hown hts hlocks hnm hA hG hP hD hS hl
  have hown : s.vm.findClass RX9 = some m.cls := hown
  have hl : lv_has ls 5 [(0, .int (iI x)), (1, .int (iI y))] := hl
  have hP : va_P g.1 vwCl [] s.heap := hP
  have hS : va_S A s.heap s.heap [] := hS
  obtain ⟨H, hHe⟩ : ∃ H : Heap, H = s.heap := ⟨_, rfl⟩
  obtain ⟨locs, hLe⟩ : ∃ L : List Loc, L = [] := ⟨_, rfl⟩
  have hP : va_P g.1 vwCl [] H := by rw [hHe]; exact hP
  have hS : va_S A s.heap H locs := by rw [hHe, hLe]; exact hS
  suffices hgo : W p l e ({ frames := 0, cells := 0, slots := 0, locals := 0 } : Room) s m [.int (iI x), .int (iI y)].toArray below meth c H locs 0 0 (MQ below (CQ g (q_X9_common g x y) A) [.int (iI x), .int (iI y)].toArray s ({ frames := 0, cells := 0, slots := 0, locals := 0 } : Room).cells ({ frames := 0, cells := 0, slots := 0, locals := 0 } : Room).slots A) (F0 m 0 ls []) by rw [hHe, hLe] at hgo; exact hgo
  clear hHe hLe
  have hjoin10 : ∀ (ab : Int) (hab : ab = (x.natAbs : Int) ∧ 0 ≤ ab ∧ ab < 2147483648), ∀ (H : Heap) (locs : List Loc) (ls : Array Slot), va_P g.1 vwCl [] H → va_D A [] → va_S A s.heap H locs → lv_has ls 5 [(0, .int (iI x)), (1, .int (iI y))] → W p l e ({ frames := 0, cells := 0, slots := 0, locals := 0 } : Room) s m [.int (iI x), .int (iI y)].toArray below meth c H locs 0 0 (MQ below (CQ g (q_X9_common g x y) A) [.int (iI x), .int (iI y)].toArray s ({ frames := 0, cells := 0, slots := 0, locals := 0 } : Room).cells ({ frames := 0, cells := 0, slots := 0, locals := 0 } : Room).slots A) (F0 m 10 ls [.int (iI ab)]) := by
    intro ab hab H locs ls hP hD hS hl
    refine lv_istore_n (lv' := [(2, .int (iI ab)), (0, .int (iI x)), (1, .int (iI y))]) hx hb dX9_common_10 rfl hl (by decide) rfl (fun ls hl => ?_)
    refine lv_iload_n hx hb dX9_common_11 rfl (lv_at hl 2 rfl) ?_
    refine lv_istore_n (lv' := [(3, .int (iI y)), (2, .int (iI ab)), (0, .int (iI x)), (1, .int (iI y))]) hx hb dX9_common_12 rfl hl (by decide) rfl (fun ls hl => ?_)
    have hloop13 : ∀ (fuel : Nat) (gr : Int) (rs : Int) (hc : 0 ≤ gr ∧ gr < 2147483648 ∧ 0 ≤ rs ∧ rs ≤ 36) (hg : Nat.gcd gr.toNat rs.toNat = Nat.gcd x.natAbs y.toNat) (hmeas : rs.toNat < fuel), ∀ (H : Heap) (locs : List Loc) (ls : Array Slot), va_P g.1 vwCl [] H → va_D A [] → va_S A s.heap H locs → lv_has ls 5 [(3, .int (iI rs)), (2, .int (iI gr)), (0, .int (iI x)), (1, .int (iI y))] → W p l e ({ frames := 0, cells := 0, slots := 0, locals := 0 } : Room) s m [.int (iI x), .int (iI y)].toArray below meth c H locs 0 0 (MQ below (CQ g (q_X9_common g x y) A) [.int (iI x), .int (iI y)].toArray s ({ frames := 0, cells := 0, slots := 0, locals := 0 } : Room).cells ({ frames := 0, cells := 0, slots := 0, locals := 0 } : Room).slots A) (F0 m 13 ls []) := by
      intro fuel
      induction fuel with
      | zero => intro gr rs hc hg hmeas; exact absurd hmeas (Nat.not_lt_zero _)
      | succ fuel ih13 =>
        intro gr rs hc hg hmeas H locs ls hP hD hS hl
        refine lv_iload_n hx hb dX9_common_13 rfl (lv_at hl 0 rfl) ?_
        refine iv_if_eq (tgt := 30) hx hb dX9_common_14 (by decide) (by omega) (fun hc1 => ?_) (fun hc1 => ?_)
        · refine lv_iload_n hx hb dX9_common_30 rfl (lv_at hl 1 rfl) ?_
          exact Ct.iret hx hb hr hlocks (hP.sub [] rfl) (hD.sub [] (by decide) rfl) hS ⟨by decide, by decide⟩ dX9_common_31 ⟨gr, rfl, rfl, (by rw [← hg, show rs.toNat = 0 from by omega, Nat.gcd_zero_right]; omega)⟩
        · refine lv_iload_n hx hb dX9_common_17 rfl (lv_at hl 1 rfl) ?_
          refine lv_iload_n hx hb dX9_common_18 rfl (lv_at hl 0 rfl) ?_
          refine iv_irem hx hb dX9_common_19 (by omega) ?_
          have hm := Int.emod_nonneg gr (b := rs) (by omega)
          have hm2 := Int.emod_lt_of_pos gr (b := rs) (by omega)
          refine lv_istore (lv' := [(4, .int (iI (gr % rs))), (3, .int (iI rs)), (2, .int (iI gr)), (0, .int (iI x)), (1, .int (iI y))]) hx hb dX9_common_20 hl (by decide) rfl (fun ls hl => ?_)
          refine lv_iload_n hx hb dX9_common_22 rfl (lv_at hl 1 rfl) ?_
          refine lv_istore_n (lv' := [(2, .int (iI rs)), (4, .int (iI (gr % rs))), (3, .int (iI rs)), (0, .int (iI x)), (1, .int (iI y))]) hx hb dX9_common_23 rfl hl (by decide) rfl (fun ls hl => ?_)
          refine lv_iload hx hb dX9_common_24 (lv_at hl 1 rfl) ?_
          refine lv_istore_n (lv' := [(3, .int (iI (gr % rs))), (2, .int (iI rs)), (4, .int (iI (gr % rs))), (0, .int (iI x)), (1, .int (iI y))]) hx hb dX9_common_26 rfl hl (by decide) rfl (fun ls hl => ?_)
          refine lv_goto (tgt := 13) hx hb dX9_common_27 (by decide) ?_
          exact ih13 rs (gr % rs) (by omega) (by rw [← hg]; exact gcd_step (by omega) (by omega)) (by omega) H locs ls (hP.sub [] rfl) (hD.sub [] (by decide) rfl) hS (lv_sub hl [0, 1, 3, 4] rfl)
    exact hloop13 _ ab y (by omega) (by rw [show ab.toNat = x.natAbs from by omega]) (Nat.lt_succ_self _) H locs ls (hP.sub [] rfl) (hD.sub [] (by decide) rfl) hS (lv_sub hl [0, 1, 2, 3] rfl)
  refine lv_iload_n hx hb dX9_common_0 rfl (lv_at hl 0 rfl) ?_
  refine iv_if_ge (tgt := 9) hx hb dX9_common_1 (by decide) (by omega) (fun hc2 => ?_) (fun hc2 => ?_)
  · refine lv_iload_n hx hb dX9_common_9 rfl (lv_at hl 0 rfl) ?_
    exact hjoin10 x (by omega) H locs ls (hP.sub [] rfl) (hD.sub [] (by decide) rfl) hS (lv_sub hl [0, 1] rfl)
  · refine lv_iload_n hx hb dX9_common_4 rfl (lv_at hl 0 rfl) ?_
    refine iv_ineg hx hb dX9_common_5 ?_
    refine lv_goto (tgt := 10) hx hb dX9_common_6 (by decide) ?_
    exact hjoin10 (-x) (by omega) H locs ls (hP.sub [] rfl) (hD.sub [] (by decide) rfl) hS (lv_sub hl [0, 1] rfl)
