theorem kX9_exercise_9 : ∀ w ∈ u_ws RX9 TX9 37, w ∈ wsX9_exercise := fun _ h => List.mem_cons_of_mem _ (List.mem_append_right _ h)
abbrev q_X9_exercise (g : GT) (hm : Nat) (a : Nat → Nat) (i : Nat → Int) (nhf : Nat → Int) (nlt : Nat → Int) (nkn : Nat → Int) (x : Int) (sk : Int) (day : Int) (rt : Int) : Option Value → va_W → Prop := fun v w => ∃ (r : Int), ∃ (nhf' : Nat → Int), ∃ (nlt' : Nat → Int), ∃ (nkn' : Nat → Int), v = some (.int (iI r)) ∧ w = [(hm, .inr (9, mF a i)), ((a 27), aI (g.2.1 0) 96 nhf'), ((a 28), aI (g.2.1 0) 96 nlt'), ((a 29), aI (g.2.1 1) 96 nkn')] ∧ (r = (if ¬ ((0 ≤ x ∧ x < i 5) ∧ ((0 ≤ sk ∧ sk ≤ 7) ∧ i 19 / 2 ^ sk.toNat % 2 = 1) ∧ 0 ≤ day ∧ day ≤ 9999) then -1 else if day < nlt (8 * x.toNat + sk.toNat) then -2 else prS rt (if nhf (8 * x.toNat + sk.toNat) = 0 then 8 else nhf (8 * x.toNat + sk.toNat)))) ∧ (r < 0 → nhf' = nhf ∧ nlt' = nlt ∧ nkn' = nkn) ∧ (0 ≤ r → 0 ≤ sk ∧ sk ≤ 7 ∧ 0 ≤ x ∧ x < i 5 ∧ nhf' = va_up nhf (8 * x.toNat + sk.toNat) (prS rt (if nhf (8 * x.toNat + sk.toNat) = 0 then 8 else nhf (8 * x.toNat + sk.toNat))) ∧ nlt' = va_up nlt (8 * x.toNat + sk.toNat) day ∧ nkn' = va_up nkn (8 * x.toNat + sk.toNat) (if rt = 0 then nkn (8 * x.toNat + sk.toNat) else 1))
set_option maxHeartbeats 4000000 in
set_option maxRecDepth 100000 in
theorem c_X9_exercise (l : Launch) (g : GT) (hm : Nat) (a : Nat → Nat) (i : Nat → Int) (nhf : Nat → Int) (nlt : Nat → Int) (nkn : Nat → Int) (x : Int) (sk : Int) (day : Int) (rt : Int) (h1 : 0 ≤ i 5 ∧ i 5 ≤ 12 ∧ 0 ≤ i 19 ∧ i 19 < 256) (h3 : (-2147483648 ≤ x ∧ x < 2147483648) ∧ (-2147483648 ≤ sk ∧ sk < 2147483648) ∧ (-2147483648 ≤ day ∧ day < 2147483648) ∧ (rt = 0 ∨ rt = 1)) (hN : ∀ j, j < 96 → 0 ≤ nlt j ∧ nlt j ≤ 9999 ∧ (nkn j = 0 ∨ nkn j = 1) ∧ 0 ≤ nhf j ∧ nhf j ≤ 512 ∧ (nkn j = 1 → 1 ≤ nhf j)) : Ct l g yX9_exercise wsX9_exercise ({ frames := 2, cells := 0, slots := 0, locals := 46 } : Room) [.ref hm, .int (iI x), .int (iI sk), .int (iI day), .int (iI rt)] [(hm, .inr (9, mF a i)), ((a 27), aI (g.2.1 0) 96 nhf), ((a 28), aI (g.2.1 0) 96 nlt), ((a 29), aI (g.2.1 1) 96 nkn)] (q_X9_exercise g hm a i nhf nlt nkn x sk day rt) := by
  refine Ct.intro (maxL := 7) (ret := (some .int)) (by decide) rfl (Nat.le_of_ble_eq_true rfl) ?_
  intro p e s m below meth c A ls hx hb hr hml hown hts hlocks hnm hA hG hP hD hS hl
  have hown : s.vm.findClass RX9 = some m.cls := hown
  have hl : lv_has ls 7 [(0, .ref hm), (1, .int (iI x)), (2, .int (iI sk)), (3, .int (iI day)), (4, .int (iI rt))] := hl
  have hP : va_P g.1 vwCl [(hm, .inr (9, mF a i)), ((a 27), aI (g.2.1 0) 96 nhf), ((a 28), aI (g.2.1 0) 96 nlt), ((a 29), aI (g.2.1 1) 96 nkn)] s.heap := hP
  have hS : va_S A s.heap s.heap [] := hS
  obtain ⟨H, hHe⟩ : ∃ H : Heap, H = s.heap := ⟨_, rfl⟩
  obtain ⟨locs, hLe⟩ : ∃ L : List Loc, L = [] := ⟨_, rfl⟩
  have hP : va_P g.1 vwCl [(hm, .inr (9, mF a i)), ((a 27), aI (g.2.1 0) 96 nhf), ((a 28), aI (g.2.1 0) 96 nlt), ((a 29), aI (g.2.1 1) 96 nkn)] H := by rw [hHe]; exact hP
  have hS : va_S A s.heap H locs := by rw [hHe, hLe]; exact hS
  suffices hgo : W p l e ({ frames := 2, cells := 0, slots := 0, locals := 46 } : Room) s m [.ref hm, .int (iI x), .int (iI sk), .int (iI day), .int (iI rt)].toArray below meth c H locs 0 0 (MQ below (CQ g (q_X9_exercise g hm a i nhf nlt nkn x sk day rt) A) [.ref hm, .int (iI x), .int (iI sk), .int (iI day), .int (iI rt)].toArray s ({ frames := 2, cells := 0, slots := 0, locals := 46 } : Room).cells ({ frames := 2, cells := 0, slots := 0, locals := 46 } : Room).slots A) (F0 m 0 ls []) by rw [hHe, hLe] at hgo; exact hgo
  clear hHe hLe
  refine lv_aload_n hx hb dX9_exercise_0 rfl (lv_at hl 0 rfl) ?_
  refine lv_iload_n hx hb dX9_exercise_1 rfl (lv_at hl 1 rfl) ?_
  refine Ct.callV (ci := 9) (q0 := 0) (qc := (RX9, TX9, 37)) (As := [.int (iI x)]) (rest := []) (wr := [((a 27), aI (g.2.1 0) 96 nhf), ((a 28), aI (g.2.1 0) 96 nlt), ((a 29), aI (g.2.1 1) 96 nkn)]) (c1 := 0) (s1 := 0) ⟨hx, hb, hml, hown, hts⟩ (c_X9_isLearner l g hm a i x (by omega)) rfl rfl (cwV 1 hts gX9_exercise_X9_isLearner rfl rfl rfl (by decide +kernel) ⟨Nat.le_of_ble_eq_true rfl, Nat.le_of_ble_eq_true rfl⟩) hG hP hD hS hA [0] [1, 2, 3] rfl rfl (by decide) (by decide) (by decide) rfl hl.1 rfl (Nat.le_of_ble_eq_true rfl) dX9_exercise_2 ⟨Nat.le_of_ble_eq_true rfl, Nat.le_of_ble_eq_true rfl⟩ rfl rfl (fun v w H locs hv hP hD hS => ?_)
  obtain ⟨⟨rfl, hb1⟩ | ⟨rfl, hb1⟩, rfl⟩ := hv
  · show W p l e _ s m _ below meth c H locs 0 0 _ (F0 m 5 ls (.int (iI 1) :: []))
    have hb1 : 0 ≤ x ∧ x < i 5 := hb1
    have hP : va_P g.1 vwCl [((a 27), aI (g.2.1 0) 96 nhf), ((a 28), aI (g.2.1 0) 96 nlt), ((a 29), aI (g.2.1 1) 96 nkn), (hm, .inr (9, mF a i))] H := hP
    have hD : va_D A [((a 27), aI (g.2.1 0) 96 nhf), ((a 28), aI (g.2.1 0) 96 nlt), ((a 29), aI (g.2.1 1) 96 nkn), (hm, .inr (9, mF a i))] := hD
    refine iv_if_eq (tgt := 23) hx hb dX9_exercise_5 (by decide) (by decide) (fun h => absurd h (by decide)) (fun _ => ?_)
    refine lv_aload_n hx hb dX9_exercise_8 rfl (lv_at hl 0 rfl) ?_
    refine lv_iload_n hx hb dX9_exercise_9 rfl (lv_at hl 2 rfl) ?_
    refine Ct.callV (ci := 9) (q0 := 3) (qc := (RX9, TX9, 37)) (As := [.int (iI sk)]) (rest := []) (wr := [((a 27), aI (g.2.1 0) 96 nhf), ((a 28), aI (g.2.1 0) 96 nlt), ((a 29), aI (g.2.1 1) 96 nkn)]) (c1 := 0) (s1 := 0) ⟨hx, hb, hml, hown, hts⟩ (c_X9_isSkill l g hm a i sk (by omega)) rfl rfl (cwV 1 hts gX9_exercise_X9_isSkill rfl rfl rfl (by decide +kernel) ⟨Nat.le_of_ble_eq_true rfl, Nat.le_of_ble_eq_true rfl⟩) hG hP hD hS hA [3] [0, 1, 2] rfl rfl (by decide) (by decide) (by decide) rfl hl.1 rfl (Nat.le_of_ble_eq_true rfl) dX9_exercise_10 ⟨Nat.le_of_ble_eq_true rfl, Nat.le_of_ble_eq_true rfl⟩ rfl rfl (fun v w H locs hv hP hD hS => ?_)
    obtain ⟨⟨rfl, hb3⟩ | ⟨rfl, hb3⟩, rfl⟩ := hv
    · show W p l e _ s m _ below meth c H locs 0 0 _ (F0 m 13 ls (.int (iI 1) :: []))
      have hb3 : (0 ≤ sk ∧ sk ≤ 7) ∧ i 19 / 2 ^ sk.toNat % 2 = 1 := hb3
      have hP : va_P g.1 vwCl [((a 27), aI (g.2.1 0) 96 nhf), ((a 28), aI (g.2.1 0) 96 nlt), ((a 29), aI (g.2.1 1) 96 nkn), (hm, .inr (9, mF a i))] H := hP
      have hD : va_D A [((a 27), aI (g.2.1 0) 96 nhf), ((a 28), aI (g.2.1 0) 96 nlt), ((a 29), aI (g.2.1 1) 96 nkn), (hm, .inr (9, mF a i))] := hD
      refine iv_if_eq (tgt := 23) hx hb dX9_exercise_13 (by decide) (by decide) (fun h => absurd h (by decide)) (fun _ => ?_)
      refine lv_iload_n hx hb dX9_exercise_16 rfl (lv_at hl 3 rfl) ?_
      refine Ct.callS (As := [.int (iI day)]) (rest := []) (wr := [((a 27), aI (g.2.1 0) 96 nhf), ((a 28), aI (g.2.1 0) 96 nlt), ((a 29), aI (g.2.1 1) 96 nkn), (hm, .inr (9, mF a i))]) (c1 := 0) (s1 := 0) ⟨hx, hb, hml, hown, hts⟩ (c_X9_isDay l g day (by omega)) (va_cwS 1 hts gX9_exercise_X9_isDay rfl rfl rfl (by decide +kernel) ⟨Nat.le_of_ble_eq_true rfl, Nat.le_of_ble_eq_true rfl⟩) hG hP hD hS hA [] [0, 1, 2, 3] rfl rfl (by decide) (by decide) (by decide) rfl hl.1 rfl (Nat.le_of_ble_eq_true rfl) dX9_exercise_17 ⟨Nat.le_of_ble_eq_true rfl, Nat.le_of_ble_eq_true rfl⟩ rfl rfl (fun v w H locs hv hP hD hS => ?_)
      obtain ⟨⟨rfl, hb5⟩ | ⟨rfl, hb5⟩, rfl⟩ := hv
      · show W p l e _ s m _ below meth c H locs 0 0 _ (F0 m 20 ls (.int (iI 1) :: []))
        have hb5 : 0 ≤ day ∧ day ≤ 9999 := hb5
        have hP : va_P g.1 vwCl [((a 27), aI (g.2.1 0) 96 nhf), ((a 28), aI (g.2.1 0) 96 nlt), ((a 29), aI (g.2.1 1) 96 nkn), (hm, .inr (9, mF a i))] H := hP
        have hD : va_D A [((a 27), aI (g.2.1 0) 96 nhf), ((a 28), aI (g.2.1 0) 96 nlt), ((a 29), aI (g.2.1 1) 96 nkn), (hm, .inr (9, mF a i))] := hD
        refine iv_if_ne (tgt := 25) hx hb dX9_exercise_20 (by decide) (by decide) (fun _ => ?_) (fun h => absurd h (by decide))
        have hq := hN (8 * x.toNat + sk.toNat) (by omega)
        refine lv_bipush (v := iI (8)) hx hb dX9_exercise_25 (by decide) ?_
        refine lv_iload_n hx hb dX9_exercise_27 rfl (lv_at hl 1 rfl) ?_
        refine iv_imul hx hb dX9_exercise_28 ?_
        refine lv_iload_n hx hb dX9_exercise_29 rfl (lv_at hl 2 rfl) ?_
        refine iv_iadd hx hb dX9_exercise_30 ?_
        refine lv_istore (lv' := [(5, .int (iI ((8 * x) + sk))), (0, .ref hm), (1, .int (iI x)), (2, .int (iI sk)), (3, .int (iI day)), (4, .int (iI rt))]) hx hb dX9_exercise_31 hl (by decide) rfl (fun ls hl => ?_)
        refine lv_iload_n hx hb dX9_exercise_33 rfl (lv_at hl 4 rfl) ?_
        refine lv_aload_n hx hb dX9_exercise_34 rfl (lv_at hl 1 rfl) ?_
        refine va_get (D := g.1) (ci := 9) (v := .ref (a 28)) hx hb hts kX9_exercise_9 hown hG.1 hP 3 rfl rfl 28 (by decide) (hts _ (List.mem_of_getElem? (i := 1) rfl)) (fun _ h9 => h9) rfl dX9_exercise_35 ?_
        refine lv_iload hx hb dX9_exercise_38 (lv_at hl 0 rfl) ?_
        refine iv_iald hx hb hG hP 1 rfl (8 * x.toNat + sk.toNat) (by omega) (by omega) (by decide) dX9_exercise_40 ?_
        refine iv_icmp_ge (tgt := 47) hx hb dX9_exercise_41 (by decide) (by omega) (fun hc7 => ?_) (fun hc7 => ?_)
        · have hjoin69 : ∀ (hv : Int) (hhv : hv = (if nhf (8 * x.toNat + sk.toNat) = 0 then 8 else nhf (8 * x.toNat + sk.toNat)) ∧ 1 ≤ hv ∧ hv ≤ 512), ∀ (H : Heap) (locs : List Loc) (ls : Array Slot), va_P g.1 vwCl [((a 27), aI (g.2.1 0) 96 nhf), ((a 28), aI (g.2.1 0) 96 nlt), ((a 29), aI (g.2.1 1) 96 nkn), (hm, .inr (9, mF a i))] H → va_D A [((a 27), aI (g.2.1 0) 96 nhf), ((a 28), aI (g.2.1 0) 96 nlt), ((a 29), aI (g.2.1 1) 96 nkn), (hm, .inr (9, mF a i))] → va_S A s.heap H locs → lv_has ls 7 [(5, .int (iI ((8 * x) + sk))), (0, .ref hm), (1, .int (iI x)), (2, .int (iI sk)), (3, .int (iI day)), (4, .int (iI rt))] → W p l e ({ frames := 2, cells := 0, slots := 0, locals := 46 } : Room) s m [.ref hm, .int (iI x), .int (iI sk), .int (iI day), .int (iI rt)].toArray below meth c H locs 0 0 (MQ below (CQ g (q_X9_exercise g hm a i nhf nlt nkn x sk day rt) A) [.ref hm, .int (iI x), .int (iI sk), .int (iI day), .int (iI rt)].toArray s ({ frames := 2, cells := 0, slots := 0, locals := 46 } : Room).cells ({ frames := 2, cells := 0, slots := 0, locals := 46 } : Room).slots A) (F0 m 69 ls [.int (iI hv)]) := by
            intro hv hhv H locs ls hP hD hS hl
            refine lv_istore (lv' := [(6, .int (iI hv)), (5, .int (iI ((8 * x) + sk))), (0, .ref hm), (1, .int (iI x)), (2, .int (iI sk)), (3, .int (iI day)), (4, .int (iI rt))]) hx hb dX9_exercise_69 hl (by decide) rfl (fun ls hl => ?_)
            have hjoin111 : ∀ (hw : Int) (hhw : hw = prS rt hv ∧ 1 ≤ hw ∧ hw ≤ 512), ∀ (H : Heap) (locs : List Loc) (ls : Array Slot), va_P g.1 vwCl [((a 27), aI (g.2.1 0) 96 nhf), ((a 28), aI (g.2.1 0) 96 nlt), ((a 29), aI (g.2.1 1) 96 nkn), (hm, .inr (9, mF a i))] H → va_D A [((a 27), aI (g.2.1 0) 96 nhf), ((a 28), aI (g.2.1 0) 96 nlt), ((a 29), aI (g.2.1 1) 96 nkn), (hm, .inr (9, mF a i))] → va_S A s.heap H locs → lv_has ls 7 [(6, .int (iI hv)), (5, .int (iI ((8 * x) + sk))), (0, .ref hm), (1, .int (iI x)), (2, .int (iI sk)), (3, .int (iI day)), (4, .int (iI rt))] → W p l e ({ frames := 2, cells := 0, slots := 0, locals := 46 } : Room) s m [.ref hm, .int (iI x), .int (iI sk), .int (iI day), .int (iI rt)].toArray below meth c H locs 0 0 (MQ below (CQ g (q_X9_exercise g hm a i nhf nlt nkn x sk day rt) A) [.ref hm, .int (iI x), .int (iI sk), .int (iI day), .int (iI rt)].toArray s ({ frames := 2, cells := 0, slots := 0, locals := 46 } : Room).cells ({ frames := 2, cells := 0, slots := 0, locals := 46 } : Room).slots A) (F0 m 111 ls [.int (iI hw)]) := by
              intro hw hhw H locs ls hP hD hS hl
              refine lv_istore (lv' := [(6, .int (iI hw)), (5, .int (iI ((8 * x) + sk))), (0, .ref hm), (1, .int (iI x)), (2, .int (iI sk)), (3, .int (iI day)), (4, .int (iI rt))]) hx hb dX9_exercise_111 hl (by decide) rfl (fun ls hl => ?_)
              refine lv_aload_n hx hb dX9_exercise_113 rfl (lv_at hl 2 rfl) ?_
              refine va_get (D := g.1) (ci := 9) (v := .ref (a 27)) hx hb hts kX9_exercise_9 hown hG.1 hP 3 rfl rfl 27 (by decide) (hts _ (List.mem_of_getElem? (i := 2) rfl)) (fun _ h9 => h9) rfl dX9_exercise_114 ?_
              refine lv_iload hx hb dX9_exercise_117 (lv_at hl 1 rfl) ?_
              refine lv_iload hx hb dX9_exercise_119 (lv_at hl 0 rfl) ?_
              refine iv_iast hx hb hG hP hD hS 0 rfl (8 * x.toNat + sk.toNat) (by omega) (by omega) (by decide) dX9_exercise_121 (fun H locs hP hD hS => ?_)
              have hP : va_P g.1 vwCl [((a 27), aI (g.2.1 0) 96 (va_up nhf (8 * x.toNat + sk.toNat) hw)), ((a 28), aI (g.2.1 0) 96 nlt), ((a 29), aI (g.2.1 1) 96 nkn), (hm, .inr (9, mF a i))] H := hP
              have hD : va_D A [((a 27), aI (g.2.1 0) 96 (va_up nhf (8 * x.toNat + sk.toNat) hw)), ((a 28), aI (g.2.1 0) 96 nlt), ((a 29), aI (g.2.1 1) 96 nkn), (hm, .inr (9, mF a i))] := hD
              refine lv_aload_n hx hb dX9_exercise_122 rfl (lv_at hl 2 rfl) ?_
              refine va_get (D := g.1) (ci := 9) (v := .ref (a 28)) hx hb hts kX9_exercise_9 hown hG.1 hP 3 rfl rfl 28 (by decide) (hts _ (List.mem_of_getElem? (i := 1) rfl)) (fun _ h9 => h9) rfl dX9_exercise_123 ?_
              refine lv_iload hx hb dX9_exercise_126 (lv_at hl 1 rfl) ?_
              refine lv_iload_n hx hb dX9_exercise_128 rfl (lv_at hl 5 rfl) ?_
              refine iv_iast hx hb hG hP hD hS 1 rfl (8 * x.toNat + sk.toNat) (by omega) (by omega) (by decide) dX9_exercise_129 (fun H locs hP hD hS => ?_)
              have hP : va_P g.1 vwCl [((a 27), aI (g.2.1 0) 96 (va_up nhf (8 * x.toNat + sk.toNat) hw)), ((a 28), aI (g.2.1 0) 96 (va_up nlt (8 * x.toNat + sk.toNat) day)), ((a 29), aI (g.2.1 1) 96 nkn), (hm, .inr (9, mF a i))] H := hP
              have hD : va_D A [((a 27), aI (g.2.1 0) 96 (va_up nhf (8 * x.toNat + sk.toNat) hw)), ((a 28), aI (g.2.1 0) 96 (va_up nlt (8 * x.toNat + sk.toNat) day)), ((a 29), aI (g.2.1 1) 96 nkn), (hm, .inr (9, mF a i))] := hD
              refine lv_aload_n hx hb dX9_exercise_130 rfl (lv_at hl 2 rfl) ?_
              refine va_get (D := g.1) (ci := 9) (v := .ref (a 29)) hx hb hts kX9_exercise_9 hown hG.1 hP 3 rfl rfl 29 (by decide) (hts _ (List.mem_of_getElem? (i := 3) rfl)) (fun _ h9 => h9) rfl dX9_exercise_131 ?_
              refine lv_iload hx hb dX9_exercise_134 (lv_at hl 1 rfl) ?_
              refine lv_aload_n hx hb dX9_exercise_136 rfl (lv_at hl 2 rfl) ?_
              have hjoin156 : ∀ (zk : Int) (hzk : zk = (if rt = 0 then nkn (8 * x.toNat + sk.toNat) else 1) ∧ (zk = 0 ∨ zk = 1)), ∀ (H : Heap) (locs : List Loc) (ls : Array Slot), va_P g.1 vwCl [((a 27), aI (g.2.1 0) 96 (va_up nhf (8 * x.toNat + sk.toNat) hw)), ((a 28), aI (g.2.1 0) 96 (va_up nlt (8 * x.toNat + sk.toNat) day)), ((a 29), aI (g.2.1 1) 96 nkn), (hm, .inr (9, mF a i))] H → va_D A [((a 27), aI (g.2.1 0) 96 (va_up nhf (8 * x.toNat + sk.toNat) hw)), ((a 28), aI (g.2.1 0) 96 (va_up nlt (8 * x.toNat + sk.toNat) day)), ((a 29), aI (g.2.1 1) 96 nkn), (hm, .inr (9, mF a i))] → va_S A s.heap H locs → lv_has ls 7 [(6, .int (iI hw)), (5, .int (iI ((8 * x) + sk))), (0, .ref hm), (1, .int (iI x)), (2, .int (iI sk)), (3, .int (iI day)), (4, .int (iI rt))] → W p l e ({ frames := 2, cells := 0, slots := 0, locals := 46 } : Room) s m [.ref hm, .int (iI x), .int (iI sk), .int (iI day), .int (iI rt)].toArray below meth c H locs 0 0 (MQ below (CQ g (q_X9_exercise g hm a i nhf nlt nkn x sk day rt) A) [.ref hm, .int (iI x), .int (iI sk), .int (iI day), .int (iI rt)].toArray s ({ frames := 2, cells := 0, slots := 0, locals := 46 } : Room).cells ({ frames := 2, cells := 0, slots := 0, locals := 46 } : Room).slots A) (F0 m 156 ls [.int (iI zk), .int (iI ((8 * x) + sk)), .ref (a 29)]) := by
                intro zk hzk H locs ls hP hD hS hl
                refine iv_zast hx hb hG hP hD hS 2 rfl (8 * x.toNat + sk.toNat) (by omega) (by omega) (by decide) (by omega) dX9_exercise_156 (fun H locs hP hD hS => ?_)
                have hP : va_P g.1 vwCl [((a 27), aI (g.2.1 0) 96 (va_up nhf (8 * x.toNat + sk.toNat) hw)), ((a 28), aI (g.2.1 0) 96 (va_up nlt (8 * x.toNat + sk.toNat) day)), ((a 29), aI (g.2.1 1) 96 (va_up nkn (8 * x.toNat + sk.toNat) zk)), (hm, .inr (9, mF a i))] H := hP
                have hD : va_D A [((a 27), aI (g.2.1 0) 96 (va_up nhf (8 * x.toNat + sk.toNat) hw)), ((a 28), aI (g.2.1 0) 96 (va_up nlt (8 * x.toNat + sk.toNat) day)), ((a 29), aI (g.2.1 1) 96 (va_up nkn (8 * x.toNat + sk.toNat) zk)), (hm, .inr (9, mF a i))] := hD
                refine lv_iload hx hb dX9_exercise_157 (lv_at hl 0 rfl) ?_
                exact Ct.iret hx hb hr hlocks (hP.sub [3, 0, 1, 2] rfl) (hD.sub [3, 0, 1, 2] (by decide) rfl) hS ⟨by decide, by decide⟩ dX9_exercise_159 ⟨hw, (va_up nhf (8 * x.toNat + sk.toNat) hw), (va_up nlt (8 * x.toNat + sk.toNat) day), (va_up nkn (8 * x.toNat + sk.toNat) zk), rfl, rfl, (by rw [if_neg (by omega), if_neg (by omega), ← hhv.1]; exact hhw.1), (fun h => absurd h (by omega)), (fun _ => ⟨by omega, by omega, by omega, by omega, by rw [← hhv.1, ← hhw.1], rfl, by rw [← hzk.1]⟩)⟩
              refine va_get (D := g.1) (ci := 9) (v := .ref (a 29)) hx hb hts kX9_exercise_9 hown hG.1 hP 3 rfl rfl 29 (by decide) (hts _ (List.mem_of_getElem? (i := 3) rfl)) (fun _ h9 => h9) rfl dX9_exercise_137 ?_
              refine lv_iload hx hb dX9_exercise_140 (lv_at hl 1 rfl) ?_
              refine iv_zald hx hb hG hP 2 rfl (8 * x.toNat + sk.toNat) (by omega) (by omega) (by decide) dX9_exercise_142 ?_
              refine iv_if_ne (tgt := 151) hx hb dX9_exercise_143 (by decide) (by omega) (fun hc8 => ?_) (fun hc8 => ?_)
              · refine lv_iconst (v := iI (1)) hx hb dX9_exercise_151 rfl ?_
                refine lv_goto (tgt := 156) hx hb dX9_exercise_152 (by decide) ?_
                exact hjoin156 1 (by split <;> omega) H locs ls (hP.sub [0, 1, 2, 3] rfl) (hD.sub [0, 1, 2, 3] (by decide) rfl) hS (lv_sub hl [0, 1, 2, 3, 4, 5, 6] rfl)
              · refine lv_iload hx hb dX9_exercise_146 (lv_at hl 6 rfl) ?_
                refine iv_if_eq (tgt := 155) hx hb dX9_exercise_148 (by decide) (by omega) (fun hc9 => ?_) (fun hc9 => ?_)
                · refine lv_iconst (v := iI (0)) hx hb dX9_exercise_155 rfl ?_
                  exact hjoin156 0 (by split <;> omega) H locs ls (hP.sub [0, 1, 2, 3] rfl) (hD.sub [0, 1, 2, 3] (by decide) rfl) hS (lv_sub hl [0, 1, 2, 3, 4, 5, 6] rfl)
                · refine lv_iconst (v := iI (1)) hx hb dX9_exercise_151 rfl ?_
                  refine lv_goto (tgt := 156) hx hb dX9_exercise_152 (by decide) ?_
                  exact hjoin156 1 (by split <;> omega) H locs ls (hP.sub [0, 1, 2, 3] rfl) (hD.sub [0, 1, 2, 3] (by decide) rfl) hS (lv_sub hl [0, 1, 2, 3, 4, 5, 6] rfl)
            refine lv_iload hx hb dX9_exercise_71 (lv_at hl 6 rfl) ?_
            refine iv_if_eq (tgt := 97) hx hb dX9_exercise_73 (by decide) (by omega) (fun hc10 => ?_) (fun hc10 => ?_)
            · refine lv_iload hx hb dX9_exercise_97 (lv_at hl 0 rfl) ?_
              refine lv_iconst (v := iI (1)) hx hb dX9_exercise_99 rfl ?_
              refine iv_icmp_le (tgt := 110) hx hb dX9_exercise_100 (by decide) (by omega) (fun hc11 => ?_) (fun hc11 => ?_)
              · refine lv_iconst (v := iI (1)) hx hb dX9_exercise_110 rfl ?_
                exact hjoin111 1 (by unfold prS; split <;> omega) H locs ls (hP.sub [0, 1, 2, 3] rfl) (hD.sub [0, 1, 2, 3] (by decide) rfl) hS (lv_sub hl [0, 1, 2, 3, 4, 5, 6] rfl)
              · refine lv_iload hx hb dX9_exercise_103 (lv_at hl 0 rfl) ?_
                refine lv_iconst (v := iI (2)) hx hb dX9_exercise_105 rfl ?_
                refine iv_idiv hx hb dX9_exercise_106 (by omega) ?_
                refine lv_goto (tgt := 111) hx hb dX9_exercise_107 (by decide) ?_
                exact hjoin111 (hv / 2) (by unfold prS; split <;> omega) H locs ls (hP.sub [0, 1, 2, 3] rfl) (hD.sub [0, 1, 2, 3] (by decide) rfl) hS (lv_sub hl [0, 1, 2, 3, 4, 5, 6] rfl)
            · refine lv_iload hx hb dX9_exercise_76 (lv_at hl 0 rfl) ?_
              refine lv_sipush (v := iI (256)) hx hb dX9_exercise_78 (by decide) ?_
              refine iv_icmp_ge (tgt := 91) hx hb dX9_exercise_81 (by decide) (by omega) (fun hc12 => ?_) (fun hc12 => ?_)
              · refine lv_sipush (v := iI (512)) hx hb dX9_exercise_91 (by decide) ?_
                refine lv_goto (tgt := 111) hx hb dX9_exercise_94 (by decide) ?_
                exact hjoin111 512 (by unfold prS; split <;> omega) H locs ls (hP.sub [0, 1, 2, 3] rfl) (hD.sub [0, 1, 2, 3] (by decide) rfl) hS (lv_sub hl [0, 1, 2, 3, 4, 5, 6] rfl)
              · refine lv_iconst (v := iI (2)) hx hb dX9_exercise_84 rfl ?_
                refine lv_iload hx hb dX9_exercise_85 (lv_at hl 0 rfl) ?_
                refine iv_imul hx hb dX9_exercise_87 ?_
                refine lv_goto (tgt := 111) hx hb dX9_exercise_88 (by decide) ?_
                exact hjoin111 (2 * hv) (by unfold prS; split <;> omega) H locs ls (hP.sub [0, 1, 2, 3] rfl) (hD.sub [0, 1, 2, 3] (by decide) rfl) hS (lv_sub hl [0, 1, 2, 3, 4, 5, 6] rfl)
          refine lv_aload_n hx hb dX9_exercise_47 rfl (lv_at hl 1 rfl) ?_
          refine va_get (D := g.1) (ci := 9) (v := .ref (a 27)) hx hb hts kX9_exercise_9 hown hG.1 hP 3 rfl rfl 27 (by decide) (hts _ (List.mem_of_getElem? (i := 2) rfl)) (fun _ h9 => h9) rfl dX9_exercise_48 ?_
          refine lv_iload hx hb dX9_exercise_51 (lv_at hl 0 rfl) ?_
          refine iv_iald hx hb hG hP 0 rfl (8 * x.toNat + sk.toNat) (by omega) (by omega) (by decide) dX9_exercise_53 ?_
          refine iv_if_ne (tgt := 62) hx hb dX9_exercise_54 (by decide) (by omega) (fun hc13 => ?_) (fun hc13 => ?_)
          · refine lv_aload_n hx hb dX9_exercise_62 rfl (lv_at hl 1 rfl) ?_
            refine va_get (D := g.1) (ci := 9) (v := .ref (a 27)) hx hb hts kX9_exercise_9 hown hG.1 hP 3 rfl rfl 27 (by decide) (hts _ (List.mem_of_getElem? (i := 2) rfl)) (fun _ h9 => h9) rfl dX9_exercise_63 ?_
            refine lv_iload hx hb dX9_exercise_66 (lv_at hl 0 rfl) ?_
            refine iv_iald hx hb hG hP 0 rfl (8 * x.toNat + sk.toNat) (by omega) (by omega) (by decide) dX9_exercise_68 ?_
            exact hjoin69 (nhf (8 * x.toNat + sk.toNat)) (by split <;> omega) H locs ls (hP.sub [0, 1, 2, 3] rfl) (hD.sub [0, 1, 2, 3] (by decide) rfl) hS (lv_sub hl [0, 1, 2, 3, 4, 5] rfl)
          · refine lv_bipush (v := iI (8)) hx hb dX9_exercise_57 (by decide) ?_
            refine lv_goto (tgt := 69) hx hb dX9_exercise_59 (by decide) ?_
            exact hjoin69 8 (by split <;> omega) H locs ls (hP.sub [0, 1, 2, 3] rfl) (hD.sub [0, 1, 2, 3] (by decide) rfl) hS (lv_sub hl [0, 1, 2, 3, 4, 5] rfl)
        · refine lv_bipush (v := iI (-2)) hx hb dX9_exercise_44 (by decide) ?_
          exact Ct.iret hx hb hr hlocks (hP.sub [3, 0, 1, 2] rfl) (hD.sub [3, 0, 1, 2] (by decide) rfl) hS ⟨by decide, by decide⟩ dX9_exercise_46 ⟨(-2), nhf, nlt, nkn, rfl, rfl, (by rw [if_neg (by omega), if_pos (by omega)]), (fun _ => ⟨rfl, rfl, rfl⟩), (fun h => absurd h (by omega))⟩
      · show W p l e _ s m _ below meth c H locs 0 0 _ (F0 m 20 ls (.int (iI 0) :: []))
        have hb5 : ¬ (0 ≤ day ∧ day ≤ 9999) := hb5
        have hP : va_P g.1 vwCl [((a 27), aI (g.2.1 0) 96 nhf), ((a 28), aI (g.2.1 0) 96 nlt), ((a 29), aI (g.2.1 1) 96 nkn), (hm, .inr (9, mF a i))] H := hP
        have hD : va_D A [((a 27), aI (g.2.1 0) 96 nhf), ((a 28), aI (g.2.1 0) 96 nlt), ((a 29), aI (g.2.1 1) 96 nkn), (hm, .inr (9, mF a i))] := hD
        refine iv_if_ne (tgt := 25) hx hb dX9_exercise_20 (by decide) (by decide) (fun h => absurd h (by decide)) (fun _ => ?_)
        refine lv_iconst (v := iI (-1)) hx hb dX9_exercise_23 rfl ?_
        exact Ct.iret hx hb hr hlocks (hP.sub [3, 0, 1, 2] rfl) (hD.sub [3, 0, 1, 2] (by decide) rfl) hS ⟨by decide, by decide⟩ dX9_exercise_24 ⟨(-1), nhf, nlt, nkn, rfl, rfl, (by rw [if_pos (by omega)]), (fun _ => ⟨rfl, rfl, rfl⟩), (fun h => absurd h (by omega))⟩
    · show W p l e _ s m _ below meth c H locs 0 0 _ (F0 m 13 ls (.int (iI 0) :: []))
      have hb3 : ¬ ((0 ≤ sk ∧ sk ≤ 7) ∧ i 19 / 2 ^ sk.toNat % 2 = 1) := hb3
      have hP : va_P g.1 vwCl [((a 27), aI (g.2.1 0) 96 nhf), ((a 28), aI (g.2.1 0) 96 nlt), ((a 29), aI (g.2.1 1) 96 nkn), (hm, .inr (9, mF a i))] H := hP
      have hD : va_D A [((a 27), aI (g.2.1 0) 96 nhf), ((a 28), aI (g.2.1 0) 96 nlt), ((a 29), aI (g.2.1 1) 96 nkn), (hm, .inr (9, mF a i))] := hD
      refine iv_if_eq (tgt := 23) hx hb dX9_exercise_13 (by decide) (by decide) (fun _ => ?_) (fun h => absurd h (by decide))
      refine lv_iconst (v := iI (-1)) hx hb dX9_exercise_23 rfl ?_
      exact Ct.iret hx hb hr hlocks (hP.sub [3, 0, 1, 2] rfl) (hD.sub [3, 0, 1, 2] (by decide) rfl) hS ⟨by decide, by decide⟩ dX9_exercise_24 ⟨(-1), nhf, nlt, nkn, rfl, rfl, (by rw [if_pos (by omega)]), (fun _ => ⟨rfl, rfl, rfl⟩), (fun h => absurd h (by omega))⟩
  · show W p l e _ s m _ below meth c H locs 0 0 _ (F0 m 5 ls (.int (iI 0) :: []))
    have hb1 : ¬ (0 ≤ x ∧ x < i 5) := hb1
    have hP : va_P g.1 vwCl [((a 27), aI (g.2.1 0) 96 nhf), ((a 28), aI (g.2.1 0) 96 nlt), ((a 29), aI (g.2.1 1) 96 nkn), (hm, .inr (9, mF a i))] H := hP
    have hD : va_D A [((a 27), aI (g.2.1 0) 96 nhf), ((a 28), aI (g.2.1 0) 96 nlt), ((a 29), aI (g.2.1 1) 96 nkn), (hm, .inr (9, mF a i))] := hD
    refine iv_if_eq (tgt := 23) hx hb dX9_exercise_5 (by decide) (by decide) (fun _ => ?_) (fun h => absurd h (by decide))
    refine lv_iconst (v := iI (-1)) hx hb dX9_exercise_23 rfl ?_
    exact Ct.iret hx hb hr hlocks (hP.sub [3, 0, 1, 2] rfl) (hD.sub [3, 0, 1, 2] (by decide) rfl) hS ⟨by decide, by decide⟩ dX9_exercise_24 ⟨(-1), nhf, nlt, nkn, rfl, rfl, (by rw [if_pos (by omega)]), (fun _ => ⟨rfl, rfl, rfl⟩), (fun h => absurd h (by omega))⟩
