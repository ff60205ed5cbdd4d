theorem kX9_pointsOf_9 : ∀ w ∈ u_ws RX9 TX9 37, w ∈ wsX9_pointsOf := fun _ h => List.mem_cons_of_mem _ (List.mem_append_right _ h)
abbrev q_X9_pointsOf (g : GT) (hm : Nat) (a : Nat → Nat) (i : Nat → Int) (qm : Nat → Int) (qu : Nat → Int) (ql : Nat → Int) (qg : Nat → Int) (qa : Nat → Int) (fa : Nat → Int) (fd : Nat → Int) (fn : Nat → Int) (qt : Nat → Int) (x : Int) (st : Int) (k : Nat) (M : Nat) : Option Value → va_W → Prop := fun v w => ∃ (r : Int), ∃ (fa' : Nat → Int), ∃ (fd' : Nat → Int), ∃ (fn' : Nat → Int), v = some (.int (iI r)) ∧ w = [(hm, .inr (9, mF a i)), ((a 6), aI (g.2.1 0) 12 qm), ((a 7), aI (g.2.1 0) 480 qu), ((a 8), aI (g.2.1 0) 480 ql), ((a 9), aI (g.2.1 0) 480 qg), ((a 10), aI (g.2.1 1) 480 qa), ((a 1), aI (g.2.1 0) 3 fa'), ((a 2), aI (g.2.1 0) 3 fd'), ((a 3), aI (g.2.1 0) 3 fn'), ((a 11), aI (g.2.1 0) 5 qt)] ∧ (r = mpR qu ql qg qa (40 * k) qt M st)
set_option maxHeartbeats 4000000 in
set_option maxRecDepth 100000 in
theorem c_X9_pointsOf (l : Launch) (g : GT) (hm : Nat) (a : Nat → Nat) (i : Nat → Int) (qm : Nat → Int) (qu : Nat → Int) (ql : Nat → Int) (qg : Nat → Int) (qa : Nat → Int) (fa : Nat → Int) (fd : Nat → Int) (fn : Nat → Int) (qt : Nat → Int) (x : Int) (st : Int) (k : Nat) (M : Nat) (h1 : x = (k : Int) ∧ (k : Int) < i 5 ∧ i 5 ≤ 12 ∧ qm k = (M : Int) ∧ M ≤ 40 ∧ 0 ≤ st ∧ st ≤ 255) (ha_ : ∀ k, k < 480 → vdP qm (i 5) k → AnOK qu ql qg qa k) (ht_ : ∀ j, j < 3 → 0 ≤ qt j ∧ qt j ≤ 99) : Ct l g yX9_pointsOf wsX9_pointsOf ({ frames := 2, cells := 0, slots := 0, locals := 51 } : Room) [.ref hm, .int (iI x), .int (iI st)] [(hm, .inr (9, mF a i)), ((a 6), aI (g.2.1 0) 12 qm), ((a 7), aI (g.2.1 0) 480 qu), ((a 8), aI (g.2.1 0) 480 ql), ((a 9), aI (g.2.1 0) 480 qg), ((a 10), aI (g.2.1 1) 480 qa), ((a 1), aI (g.2.1 0) 3 fa), ((a 2), aI (g.2.1 0) 3 fd), ((a 3), aI (g.2.1 0) 3 fn), ((a 11), aI (g.2.1 0) 5 qt)] (q_X9_pointsOf g hm a i qm qu ql qg qa fa fd fn qt x st k M) := by
  refine Ct.intro (maxL := 6) (ret := (some .int)) (by decide) rfl (Nat.le_of_ble_eq_true rfl) ?_
  intro p e s m below meth c A ls hx hb hr hml hown hts hlocks hnm hA hG hP hD hS hl
  have hown : s.vm.findClass RX9 = some m.cls := hown
  have hl : lv_has ls 6 [(0, .ref hm), (1, .int (iI x)), (2, .int (iI st))] := hl
  have hP : va_P g.1 vwCl [(hm, .inr (9, mF a i)), ((a 6), aI (g.2.1 0) 12 qm), ((a 7), aI (g.2.1 0) 480 qu), ((a 8), aI (g.2.1 0) 480 ql), ((a 9), aI (g.2.1 0) 480 qg), ((a 10), aI (g.2.1 1) 480 qa), ((a 1), aI (g.2.1 0) 3 fa), ((a 2), aI (g.2.1 0) 3 fd), ((a 3), aI (g.2.1 0) 3 fn), ((a 11), aI (g.2.1 0) 5 qt)] s.heap := hP
  have hS : va_S A s.heap s.heap [] := hS
  obtain ⟨H, hHe⟩ : ∃ H : Heap, H = s.heap := ⟨_, rfl⟩
  obtain ⟨locs, hLe⟩ : ∃ L : List Loc, L = [] := ⟨_, rfl⟩
  have hP : va_P g.1 vwCl [(hm, .inr (9, mF a i)), ((a 6), aI (g.2.1 0) 12 qm), ((a 7), aI (g.2.1 0) 480 qu), ((a 8), aI (g.2.1 0) 480 ql), ((a 9), aI (g.2.1 0) 480 qg), ((a 10), aI (g.2.1 1) 480 qa), ((a 1), aI (g.2.1 0) 3 fa), ((a 2), aI (g.2.1 0) 3 fd), ((a 3), aI (g.2.1 0) 3 fn), ((a 11), aI (g.2.1 0) 5 qt)] H := by rw [hHe]; exact hP
  have hS : va_S A s.heap H locs := by rw [hHe, hLe]; exact hS
  suffices hgo : W p l e ({ frames := 2, cells := 0, slots := 0, locals := 51 } : Room) s m [.ref hm, .int (iI x), .int (iI st)].toArray below meth c H locs 0 0 (MQ below (CQ g (q_X9_pointsOf g hm a i qm qu ql qg qa fa fd fn qt x st k M) A) [.ref hm, .int (iI x), .int (iI st)].toArray s ({ frames := 2, cells := 0, slots := 0, locals := 51 } : Room).cells ({ frames := 2, cells := 0, slots := 0, locals := 51 } : Room).slots A) (F0 m 0 ls []) by rw [hHe, hLe] at hgo; exact hgo
  clear hHe hLe
  refine lv_aload_n hx hb dX9_pointsOf_0 rfl (lv_at hl 0 rfl) ?_
  refine va_get (D := g.1) (ci := 9) (v := .ref (a 11)) hx hb hts kX9_pointsOf_9 hown hG.1 hP 0 rfl rfl 11 (by decide) (hts _ (List.mem_of_getElem? (i := 1) rfl)) (fun _ h9 => h9) rfl dX9_pointsOf_1 ?_
  refine lv_iconst (v := iI (2)) hx hb dX9_pointsOf_4 rfl ?_
  refine iv_iald hx hb hG hP 9 rfl 2 (rfl) (by decide) (by decide) dX9_pointsOf_5 ?_
  refine iv_ineg hx hb dX9_pointsOf_6 ?_
  refine lv_iload_n hx hb dX9_pointsOf_7 rfl (lv_at hl 2 rfl) ?_
  refine Ct.callS (As := [.int (iI st)]) (rest := [.int (iI (-(qt 2)))]) (wr := [(hm, .inr (9, mF a i)), ((a 6), aI (g.2.1 0) 12 qm), ((a 7), aI (g.2.1 0) 480 qu), ((a 8), aI (g.2.1 0) 480 ql), ((a 9), aI (g.2.1 0) 480 qg), ((a 10), aI (g.2.1 1) 480 qa), ((a 1), aI (g.2.1 0) 3 fa), ((a 2), aI (g.2.1 0) 3 fd), ((a 3), aI (g.2.1 0) 3 fn), ((a 11), aI (g.2.1 0) 5 qt)]) (c1 := 0) (s1 := 0) ⟨hx, hb, hml, hown, hts⟩ (c_X9_sizeOf l g st (by omega)) (va_cwS 1 hts gX9_pointsOf_X9_sizeOf rfl rfl rfl (by decide +kernel) ⟨Nat.le_of_ble_eq_true rfl, Nat.le_of_ble_eq_true rfl⟩) hG hP hD hS hA [] [0, 1, 2, 3, 4, 5, 6, 7, 8, 9] rfl rfl (by decide) (by decide) (by decide) rfl hl.1 rfl (Nat.le_of_ble_eq_true rfl) dX9_pointsOf_8 ⟨Nat.le_of_ble_eq_true rfl, Nat.le_of_ble_eq_true rfl⟩ rfl rfl (fun v w H locs hv hP hD hS => ?_)
  obtain ⟨rfl, rfl⟩ := hv
  show W p l e _ s m _ below meth c H locs 0 0 _ (F0 m 11 ls (.int (iI (szB st 12)) :: [.int (iI (-(qt 2)))]))
  have hP : va_P g.1 vwCl [(hm, .inr (9, mF a i)), ((a 6), aI (g.2.1 0) 12 qm), ((a 7), aI (g.2.1 0) 480 qu), ((a 8), aI (g.2.1 0) 480 ql), ((a 9), aI (g.2.1 0) 480 qg), ((a 10), aI (g.2.1 1) 480 qa), ((a 1), aI (g.2.1 0) 3 fa), ((a 2), aI (g.2.1 0) 3 fd), ((a 3), aI (g.2.1 0) 3 fn), ((a 11), aI (g.2.1 0) 5 qt)] H := hP
  have hD : va_D A [(hm, .inr (9, mF a i)), ((a 6), aI (g.2.1 0) 12 qm), ((a 7), aI (g.2.1 0) 480 qu), ((a 8), aI (g.2.1 0) 480 ql), ((a 9), aI (g.2.1 0) 480 qg), ((a 10), aI (g.2.1 1) 480 qa), ((a 1), aI (g.2.1 0) 3 fa), ((a 2), aI (g.2.1 0) 3 fd), ((a 3), aI (g.2.1 0) 3 fn), ((a 11), aI (g.2.1 0) 5 qt)] := hD
  refine iv_imul hx hb dX9_pointsOf_11 ?_
  refine lv_istore_n (lv' := [(3, .int (iI ((-(qt 2)) * (szB st 12)))), (0, .ref hm), (1, .int (iI x)), (2, .int (iI st))]) hx hb dX9_pointsOf_12 rfl hl (by decide) rfl (fun ls hl => ?_)
  refine lv_bipush (v := iI (40)) hx hb dX9_pointsOf_13 (by decide) ?_
  refine lv_iload_n hx hb dX9_pointsOf_15 rfl (lv_at hl 2 rfl) ?_
  refine iv_imul hx hb dX9_pointsOf_16 ?_
  refine lv_istore (lv' := [(4, .int (iI (40 * x))), (3, .int (iI ((-(qt 2)) * (szB st 12)))), (0, .ref hm), (1, .int (iI x)), (2, .int (iI st))]) hx hb dX9_pointsOf_17 hl (by decide) rfl (fun ls hl => ?_)
  have hloop19 : ∀ (fuel : Nat) (sm : Int) (zj : Int) (g1 : Nat → Int) (g2 : Nat → Int) (g3 : Nat → Int) (j : Nat) (hc : zj = 40 * x + (j : Int) ∧ j ≤ M) (he : sm = -(qt 2) * szB st 12 + mpF qu ql qg qa (40 * k) (qt 0) (qt 1) st j) (hmeas : M - j < fuel), ∀ (H : Heap) (locs : List Loc) (ls : Array Slot), va_P g.1 vwCl [(hm, .inr (9, mF a i)), ((a 6), aI (g.2.1 0) 12 qm), ((a 7), aI (g.2.1 0) 480 qu), ((a 8), aI (g.2.1 0) 480 ql), ((a 9), aI (g.2.1 0) 480 qg), ((a 10), aI (g.2.1 1) 480 qa), ((a 1), aI (g.2.1 0) 3 g1), ((a 2), aI (g.2.1 0) 3 g2), ((a 3), aI (g.2.1 0) 3 g3), ((a 11), aI (g.2.1 0) 5 qt)] H → va_D A [(hm, .inr (9, mF a i)), ((a 6), aI (g.2.1 0) 12 qm), ((a 7), aI (g.2.1 0) 480 qu), ((a 8), aI (g.2.1 0) 480 ql), ((a 9), aI (g.2.1 0) 480 qg), ((a 10), aI (g.2.1 1) 480 qa), ((a 1), aI (g.2.1 0) 3 g1), ((a 2), aI (g.2.1 0) 3 g2), ((a 3), aI (g.2.1 0) 3 g3), ((a 11), aI (g.2.1 0) 5 qt)] → va_S A s.heap H locs → lv_has ls 6 [(4, .int (iI zj)), (3, .int (iI sm)), (0, .ref hm), (1, .int (iI x)), (2, .int (iI st))] → W p l e ({ frames := 2, cells := 0, slots := 0, locals := 51 } : Room) s m [.ref hm, .int (iI x), .int (iI st)].toArray below meth c H locs 0 0 (MQ below (CQ g (q_X9_pointsOf g hm a i qm qu ql qg qa fa fd fn qt x st k M) A) [.ref hm, .int (iI x), .int (iI st)].toArray s ({ frames := 2, cells := 0, slots := 0, locals := 51 } : Room).cells ({ frames := 2, cells := 0, slots := 0, locals := 51 } : Room).slots A) (F0 m 19 ls []) := by
    intro fuel
    induction fuel with
    | zero => intro sm zj g1 g2 g3 j hc he hmeas; exact absurd hmeas (Nat.not_lt_zero _)
    | succ fuel ih19 =>
      intro sm zj g1 g2 g3 j hc he hmeas H locs ls hP hD hS hl
      refine lv_iload hx hb dX9_pointsOf_19 (lv_at hl 0 rfl) ?_
      refine lv_bipush (v := iI (40)) hx hb dX9_pointsOf_21 (by decide) ?_
      refine lv_iload_n hx hb dX9_pointsOf_23 rfl (lv_at hl 3 rfl) ?_
      refine iv_imul hx hb dX9_pointsOf_24 ?_
      refine lv_aload_n hx hb dX9_pointsOf_25 rfl (lv_at hl 2 rfl) ?_
      refine va_get (D := g.1) (ci := 9) (v := .ref (a 6)) hx hb hts kX9_pointsOf_9 hown hG.1 hP 0 rfl rfl 6 (by decide) (hts _ (List.mem_of_getElem? (i := 2) rfl)) (fun _ h9 => h9) rfl dX9_pointsOf_26 ?_
      refine lv_iload_n hx hb dX9_pointsOf_29 rfl (lv_at hl 3 rfl) ?_
      refine iv_iald hx hb hG hP 1 rfl k (by omega) (by omega) (by decide) dX9_pointsOf_30 ?_
      refine iv_iadd hx hb dX9_pointsOf_31 ?_
      refine iv_icmp_ge (tgt := 115) hx hb dX9_pointsOf_32 (by decide) (by omega) (fun hc1 => ?_) (fun hc1 => ?_)
      · refine lv_iload_n hx hb dX9_pointsOf_115 rfl (lv_at hl 1 rfl) ?_
        exact Ct.iret hx hb hr hlocks (hP.sub [0, 1, 2, 3, 4, 5, 6, 7, 8, 9] rfl) (hD.sub [0, 1, 2, 3, 4, 5, 6, 7, 8, 9] (by decide) rfl) hS ⟨by decide, by decide⟩ dX9_pointsOf_116 ⟨sm, g1, g2, g3, rfl, rfl, (by rw [he, show j = M from by omega]; rfl)⟩
      · have hq := ha_ (40 * k + j) (by omega) (vd_at (by omega) (by omega) (by omega))
        refine lv_aload_n hx hb dX9_pointsOf_35 rfl (lv_at hl 2 rfl) ?_
        refine lv_aload_n hx hb dX9_pointsOf_36 rfl (lv_at hl 2 rfl) ?_
        refine va_get (D := g.1) (ci := 9) (v := .ref (a 7)) hx hb hts kX9_pointsOf_9 hown hG.1 hP 0 rfl rfl 7 (by decide) (hts _ (List.mem_of_getElem? (i := 3) rfl)) (fun _ h9 => h9) rfl dX9_pointsOf_37 ?_
        refine lv_iload hx hb dX9_pointsOf_40 (lv_at hl 0 rfl) ?_
        refine iv_iald hx hb hG hP 2 rfl (40 * k + j) (by omega) (by omega) (by decide) dX9_pointsOf_42 ?_
        refine lv_aload_n hx hb dX9_pointsOf_43 rfl (lv_at hl 2 rfl) ?_
        refine va_get (D := g.1) (ci := 9) (v := .ref (a 8)) hx hb hts kX9_pointsOf_9 hown hG.1 hP 0 rfl rfl 8 (by decide) (hts _ (List.mem_of_getElem? (i := 4) rfl)) (fun _ h9 => h9) rfl dX9_pointsOf_44 ?_
        refine lv_iload hx hb dX9_pointsOf_47 (lv_at hl 0 rfl) ?_
        refine iv_iald hx hb hG hP 3 rfl (40 * k + j) (by omega) (by omega) (by decide) dX9_pointsOf_49 ?_
        refine lv_iload_n hx hb dX9_pointsOf_50 rfl (lv_at hl 4 rfl) ?_
        refine Ct.callV (ci := 9) (q0 := 0) (qc := (RX9, TX9, 37)) (As := [.int (iI (qu (40 * k + j))), .int (iI (ql (40 * k + j))), .int (iI st)]) (rest := []) (wr := [((a 6), aI (g.2.1 0) 12 qm), ((a 7), aI (g.2.1 0) 480 qu), ((a 8), aI (g.2.1 0) 480 ql), ((a 9), aI (g.2.1 0) 480 qg), ((a 10), aI (g.2.1 1) 480 qa), ((a 11), aI (g.2.1 0) 5 qt)]) (c1 := 0) (s1 := 0) ⟨hx, hb, hml, hown, hts⟩ (c_X9_workOf l g hm a i g1 g2 g3 (qu (40 * k + j)) (ql (40 * k + j)) st (by omega)) rfl rfl (cwV 3 hts gX9_pointsOf_X9_workOf rfl rfl rfl (by decide +kernel) ⟨Nat.le_of_ble_eq_true rfl, Nat.le_of_ble_eq_true rfl⟩) hG hP hD hS hA [0, 6, 7, 8] [1, 2, 3, 4, 5, 9] rfl rfl (by decide) (by decide) (by decide) rfl hl.1 rfl (Nat.le_of_ble_eq_true rfl) dX9_pointsOf_51 ⟨Nat.le_of_ble_eq_true rfl, Nat.le_of_ble_eq_true rfl⟩ rfl rfl (fun v w H locs hv hP hD hS => ?_)
        obtain ⟨fa2, fd3, fn4, rfl, rfl, hf5, hf6⟩ := hv
        show W p l e _ s m _ below meth c H locs 0 0 _ (F0 m 54 ls (.int (iI (wk (qu (40 * k + j)) (ql (40 * k + j)) st)) :: []))
        have hP : va_P g.1 vwCl [((a 6), aI (g.2.1 0) 12 qm), ((a 7), aI (g.2.1 0) 480 qu), ((a 8), aI (g.2.1 0) 480 ql), ((a 9), aI (g.2.1 0) 480 qg), ((a 10), aI (g.2.1 1) 480 qa), ((a 11), aI (g.2.1 0) 5 qt), (hm, .inr (9, mF a i)), ((a 1), aI (g.2.1 0) 3 fa2), ((a 2), aI (g.2.1 0) 3 fd3), ((a 3), aI (g.2.1 0) 3 fn4)] H := hP
        have hD : va_D A [((a 6), aI (g.2.1 0) 12 qm), ((a 7), aI (g.2.1 0) 480 qu), ((a 8), aI (g.2.1 0) 480 ql), ((a 9), aI (g.2.1 0) 480 qg), ((a 10), aI (g.2.1 1) 480 qa), ((a 11), aI (g.2.1 0) 5 qt), (hm, .inr (9, mF a i)), ((a 1), aI (g.2.1 0) 3 fa2), ((a 2), aI (g.2.1 0) 3 fd3), ((a 3), aI (g.2.1 0) 3 fn4)] := hD
        have hwr := wk_rng (qu (40 * k + j)) (ql (40 * k + j)) st
        refine lv_aload_n hx hb dX9_pointsOf_54 rfl (lv_at hl 2 rfl) ?_
        refine va_get (D := g.1) (ci := 9) (v := .ref (a 9)) hx hb hts kX9_pointsOf_9 hown hG.1 hP 6 rfl rfl 9 (by decide) (hts _ (List.mem_of_getElem? (i := 5) rfl)) (fun _ h9 => h9) rfl dX9_pointsOf_55 ?_
        refine lv_iload hx hb dX9_pointsOf_58 (lv_at hl 0 rfl) ?_
        refine iv_iald hx hb hG hP 3 rfl (40 * k + j) (by omega) (by omega) (by decide) dX9_pointsOf_60 ?_
        refine iv_icmp_ne (tgt := 68) hx hb dX9_pointsOf_61 (by decide) (by omega) (fun hc7 => ?_) (fun hc7 => ?_)
        · refine lv_iconst (v := iI (0)) hx hb dX9_pointsOf_68 rfl ?_
          refine lv_istore (lv' := [(5, .int (iI 0)), (4, .int (iI zj)), (3, .int (iI sm)), (0, .ref hm), (1, .int (iI x)), (2, .int (iI st))]) hx hb dX9_pointsOf_69 hl (by decide) rfl (fun ls hl => ?_)
          refine lv_iload_n hx hb dX9_pointsOf_71 rfl (lv_at hl 2 rfl) ?_
          refine lv_aload_n hx hb dX9_pointsOf_72 rfl (lv_at hl 3 rfl) ?_
          refine va_get (D := g.1) (ci := 9) (v := .ref (a 10)) hx hb hts kX9_pointsOf_9 hown hG.1 hP 6 rfl rfl 10 (by decide) (hts _ (List.mem_of_getElem? (i := 6) rfl)) (fun _ h9 => h9) rfl dX9_pointsOf_73 ?_
          refine lv_iload hx hb dX9_pointsOf_76 (lv_at hl 1 rfl) ?_
          refine iv_zald hx hb hG hP 4 rfl (40 * k + j) (by omega) (by omega) (by decide) dX9_pointsOf_78 ?_
          refine iv_if_eq (tgt := 86) hx hb dX9_pointsOf_79 (by decide) (by omega) (fun hc8 => ?_) (fun hc8 => ?_)
          · refine lv_iload hx hb dX9_pointsOf_86 (lv_at hl 0 rfl) ?_
            refine iv_if_eq (tgt := 100) hx hb dX9_pointsOf_88 (by decide) (by decide) (fun _ => ?_) (fun h => absurd h (by decide))
            refine lv_aload_n hx hb dX9_pointsOf_100 rfl (lv_at hl 3 rfl) ?_
            refine va_get (D := g.1) (ci := 9) (v := .ref (a 11)) hx hb hts kX9_pointsOf_9 hown hG.1 hP 6 rfl rfl 11 (by decide) (hts _ (List.mem_of_getElem? (i := 1) rfl)) (fun _ h9 => h9) rfl dX9_pointsOf_101 ?_
            refine lv_iconst (v := iI (1)) hx hb dX9_pointsOf_104 rfl ?_
            refine iv_iald hx hb hG hP 5 rfl 1 (rfl) (by decide) (by decide) dX9_pointsOf_105 ?_
            refine iv_ineg hx hb dX9_pointsOf_106 ?_
            refine iv_iadd hx hb dX9_pointsOf_107 ?_
            refine lv_istore_n (lv' := [(3, .int (iI (sm + (-(qt 1))))), (5, .int (iI 0)), (4, .int (iI zj)), (0, .ref hm), (1, .int (iI x)), (2, .int (iI st))]) hx hb dX9_pointsOf_108 rfl hl (by decide) rfl (fun ls hl => ?_)
            refine iv_iinc (k := 2) (x := zj) (lv' := [(4, .int (iI (zj + 1))), (3, .int (iI (sm + (-(qt 1))))), (5, .int (iI 0)), (0, .ref hm), (1, .int (iI x)), (2, .int (iI st))]) hx hb dX9_pointsOf_109 hl rfl (by decide) rfl (fun ls hl => ?_)
            refine lv_goto (tgt := 19) hx hb dX9_pointsOf_112 (by decide) ?_
            exact ih19 (sm + (-(qt 1))) (zj + 1) fa2 fd3 fn4 (j + 1) (by omega) (by rw [he]; simp only [mpF]; first | (rw [if_pos (by omega)]; omega) | (rw [if_neg (by omega), if_pos (by omega)]; omega) | (rw [if_neg (by omega), if_neg (by omega)]; omega)) (by omega) H locs ls (hP.sub [6, 0, 1, 2, 3, 4, 7, 8, 9, 5] rfl) (hD.sub [6, 0, 1, 2, 3, 4, 7, 8, 9, 5] (by decide) rfl) hS (lv_sub hl [0, 1, 3, 4, 5] rfl)
          · refine lv_iconst (v := iI (0)) hx hb dX9_pointsOf_82 rfl ?_
            refine lv_goto (tgt := 107) hx hb dX9_pointsOf_83 (by decide) ?_
            refine iv_iadd hx hb dX9_pointsOf_107 ?_
            refine lv_istore_n (lv' := [(3, .int (iI (sm + 0))), (5, .int (iI 0)), (4, .int (iI zj)), (0, .ref hm), (1, .int (iI x)), (2, .int (iI st))]) hx hb dX9_pointsOf_108 rfl hl (by decide) rfl (fun ls hl => ?_)
            refine iv_iinc (k := 2) (x := zj) (lv' := [(4, .int (iI (zj + 1))), (3, .int (iI (sm + 0))), (5, .int (iI 0)), (0, .ref hm), (1, .int (iI x)), (2, .int (iI st))]) hx hb dX9_pointsOf_109 hl rfl (by decide) rfl (fun ls hl => ?_)
            refine lv_goto (tgt := 19) hx hb dX9_pointsOf_112 (by decide) ?_
            exact ih19 (sm + 0) (zj + 1) fa2 fd3 fn4 (j + 1) (by omega) (by rw [he]; simp only [mpF]; first | (rw [if_pos (by omega)]; omega) | (rw [if_neg (by omega), if_pos (by omega)]; omega) | (rw [if_neg (by omega), if_neg (by omega)]; omega)) (by omega) H locs ls (hP.sub [6, 0, 1, 2, 3, 4, 7, 8, 9, 5] rfl) (hD.sub [6, 0, 1, 2, 3, 4, 7, 8, 9, 5] (by decide) rfl) hS (lv_sub hl [0, 1, 3, 4, 5] rfl)
        · refine lv_iconst (v := iI (1)) hx hb dX9_pointsOf_64 rfl ?_
          refine lv_goto (tgt := 69) hx hb dX9_pointsOf_65 (by decide) ?_
          refine lv_istore (lv' := [(5, .int (iI 1)), (4, .int (iI zj)), (3, .int (iI sm)), (0, .ref hm), (1, .int (iI x)), (2, .int (iI st))]) hx hb dX9_pointsOf_69 hl (by decide) rfl (fun ls hl => ?_)
          refine lv_iload_n hx hb dX9_pointsOf_71 rfl (lv_at hl 2 rfl) ?_
          refine lv_aload_n hx hb dX9_pointsOf_72 rfl (lv_at hl 3 rfl) ?_
          refine va_get (D := g.1) (ci := 9) (v := .ref (a 10)) hx hb hts kX9_pointsOf_9 hown hG.1 hP 6 rfl rfl 10 (by decide) (hts _ (List.mem_of_getElem? (i := 6) rfl)) (fun _ h9 => h9) rfl dX9_pointsOf_73 ?_
          refine lv_iload hx hb dX9_pointsOf_76 (lv_at hl 1 rfl) ?_
          refine iv_zald hx hb hG hP 4 rfl (40 * k + j) (by omega) (by omega) (by decide) dX9_pointsOf_78 ?_
          refine iv_if_eq (tgt := 86) hx hb dX9_pointsOf_79 (by decide) (by omega) (fun hc10 => ?_) (fun hc10 => ?_)
          · refine lv_iload hx hb dX9_pointsOf_86 (lv_at hl 0 rfl) ?_
            refine iv_if_eq (tgt := 100) hx hb dX9_pointsOf_88 (by decide) (by decide) (fun h => absurd h (by decide)) (fun _ => ?_)
            refine lv_aload_n hx hb dX9_pointsOf_91 rfl (lv_at hl 3 rfl) ?_
            refine va_get (D := g.1) (ci := 9) (v := .ref (a 11)) hx hb hts kX9_pointsOf_9 hown hG.1 hP 6 rfl rfl 11 (by decide) (hts _ (List.mem_of_getElem? (i := 1) rfl)) (fun _ h9 => h9) rfl dX9_pointsOf_92 ?_
            refine lv_iconst (v := iI (0)) hx hb dX9_pointsOf_95 rfl ?_
            refine iv_iald hx hb hG hP 5 rfl 0 (rfl) (by decide) (by decide) dX9_pointsOf_96 ?_
            refine lv_goto (tgt := 107) hx hb dX9_pointsOf_97 (by decide) ?_
            refine iv_iadd hx hb dX9_pointsOf_107 ?_
            refine lv_istore_n (lv' := [(3, .int (iI (sm + (qt 0)))), (5, .int (iI 1)), (4, .int (iI zj)), (0, .ref hm), (1, .int (iI x)), (2, .int (iI st))]) hx hb dX9_pointsOf_108 rfl hl (by decide) rfl (fun ls hl => ?_)
            refine iv_iinc (k := 2) (x := zj) (lv' := [(4, .int (iI (zj + 1))), (3, .int (iI (sm + (qt 0)))), (5, .int (iI 1)), (0, .ref hm), (1, .int (iI x)), (2, .int (iI st))]) hx hb dX9_pointsOf_109 hl rfl (by decide) rfl (fun ls hl => ?_)
            refine lv_goto (tgt := 19) hx hb dX9_pointsOf_112 (by decide) ?_
            exact ih19 (sm + (qt 0)) (zj + 1) fa2 fd3 fn4 (j + 1) (by omega) (by rw [he]; simp only [mpF]; first | (rw [if_pos (by omega)]; omega) | (rw [if_neg (by omega), if_pos (by omega)]; omega) | (rw [if_neg (by omega), if_neg (by omega)]; omega)) (by omega) H locs ls (hP.sub [6, 0, 1, 2, 3, 4, 7, 8, 9, 5] rfl) (hD.sub [6, 0, 1, 2, 3, 4, 7, 8, 9, 5] (by decide) rfl) hS (lv_sub hl [0, 1, 3, 4, 5] rfl)
          · refine lv_iconst (v := iI (0)) hx hb dX9_pointsOf_82 rfl ?_
            refine lv_goto (tgt := 107) hx hb dX9_pointsOf_83 (by decide) ?_
            refine iv_iadd hx hb dX9_pointsOf_107 ?_
            refine lv_istore_n (lv' := [(3, .int (iI (sm + 0))), (5, .int (iI 1)), (4, .int (iI zj)), (0, .ref hm), (1, .int (iI x)), (2, .int (iI st))]) hx hb dX9_pointsOf_108 rfl hl (by decide) rfl (fun ls hl => ?_)
            refine iv_iinc (k := 2) (x := zj) (lv' := [(4, .int (iI (zj + 1))), (3, .int (iI (sm + 0))), (5, .int (iI 1)), (0, .ref hm), (1, .int (iI x)), (2, .int (iI st))]) hx hb dX9_pointsOf_109 hl rfl (by decide) rfl (fun ls hl => ?_)
            refine lv_goto (tgt := 19) hx hb dX9_pointsOf_112 (by decide) ?_
            exact ih19 (sm + 0) (zj + 1) fa2 fd3 fn4 (j + 1) (by omega) (by rw [he]; simp only [mpF]; first | (rw [if_pos (by omega)]; omega) | (rw [if_neg (by omega), if_pos (by omega)]; omega) | (rw [if_neg (by omega), if_neg (by omega)]; omega)) (by omega) H locs ls (hP.sub [6, 0, 1, 2, 3, 4, 7, 8, 9, 5] rfl) (hD.sub [6, 0, 1, 2, 3, 4, 7, 8, 9, 5] (by decide) rfl) hS (lv_sub hl [0, 1, 3, 4, 5] rfl)
  exact hloop19 _ ((-(qt 2)) * (szB st 12)) (40 * x) fa fd fn 0 (by omega) (by simp [mpF]) (Nat.lt_succ_self _) H locs ls (hP.sub [0, 1, 2, 3, 4, 5, 6, 7, 8, 9] rfl) (hD.sub [0, 1, 2, 3, 4, 5, 6, 7, 8, 9] (by decide) rfl) hS (lv_sub hl [0, 1, 2, 3, 4] rfl)
abbrev q_X9_points (g : GT) (hm : Nat) (a : Nat → Nat) (i : Nat → Int) (qm : Nat → Int) (qu : Nat → Int) (ql : Nat → Int) (qg : Nat → Int) (qa : Nat → Int) (fa : Nat → Int) (fd : Nat → Int) (fn : Nat → Int) (qt : Nat → Int) (x : Int) (st : Int) : Option Value → va_W → Prop := fun v w => ∃ (r : Int), ∃ (fa' : Nat → Int), ∃ (fd' : Nat → Int), ∃ (fn' : Nat → Int), v = some (.int (iI r)) ∧ w = [(hm, .inr (9, mF a i)), ((a 6), aI (g.2.1 0) 12 qm), ((a 7), aI (g.2.1 0) 480 qu), ((a 8), aI (g.2.1 0) 480 ql), ((a 9), aI (g.2.1 0) 480 qg), ((a 10), aI (g.2.1 1) 480 qa), ((a 1), aI (g.2.1 0) 3 fa'), ((a 2), aI (g.2.1 0) 3 fd'), ((a 3), aI (g.2.1 0) 3 fn'), ((a 11), aI (g.2.1 0) 5 qt)] ∧ (r = (if (0 ≤ x ∧ x < i 5) ∧ (0 ≤ st ∧ st ≤ 255) ∧ szB st 12 ≤ 3 then mpR qu ql qg qa (40 * x.toNat) qt (qm x.toNat).toNat st else -100001))
set_option maxHeartbeats 4000000 in
set_option maxRecDepth 100000 in
theorem c_X9_points (l : Launch) (g : GT) (hm : Nat) (a : Nat → Nat) (i : Nat → Int) (qm : Nat → Int) (qu : Nat → Int) (ql : Nat → Int) (qg : Nat → Int) (qa : Nat → Int) (fa : Nat → Int) (fd : Nat → Int) (fn : Nat → Int) (qt : Nat → Int) (x : Int) (st : Int) (h1 : (-2147483648 ≤ x ∧ x < 2147483648) ∧ (-2147483648 ≤ st ∧ st < 2147483648)) (h5 : 0 ≤ i 5 ∧ i 5 ≤ 12) (hm_ : ∀ j, j < 12 → 0 ≤ qm j ∧ qm j ≤ 40) (ha_ : ∀ k, k < 480 → vdP qm (i 5) k → AnOK qu ql qg qa k) (ht_ : ∀ j, j < 3 → 0 ≤ qt j ∧ qt j ≤ 99) : Ct l g yX9_points wsX9_points ({ frames := 3, cells := 0, slots := 0, locals := 76 } : Room) [.ref hm, .int (iI x), .int (iI st)] [(hm, .inr (9, mF a i)), ((a 6), aI (g.2.1 0) 12 qm), ((a 7), aI (g.2.1 0) 480 qu), ((a 8), aI (g.2.1 0) 480 ql), ((a 9), aI (g.2.1 0) 480 qg), ((a 10), aI (g.2.1 1) 480 qa), ((a 1), aI (g.2.1 0) 3 fa), ((a 2), aI (g.2.1 0) 3 fd), ((a 3), aI (g.2.1 0) 3 fn), ((a 11), aI (g.2.1 0) 5 qt)] (q_X9_points g hm a i qm qu ql qg qa fa fd fn qt x st) := by
  refine Ct.intro (maxL := 3) (ret := (some .int)) (by decide) rfl (Nat.le_of_ble_eq_true rfl) ?_
  intro p e s m below meth c A ls hx hb hr hml hown hts hlocks hnm hA hG hP hD hS hl
  have hown : s.vm.findClass RX9 = some m.cls := hown
  have hl : lv_has ls 3 [(0, .ref hm), (1, .int (iI x)), (2, .int (iI st))] := hl
  have hP : va_P g.1 vwCl [(hm, .inr (9, mF a i)), ((a 6), aI (g.2.1 0) 12 qm), ((a 7), aI (g.2.1 0) 480 qu), ((a 8), aI (g.2.1 0) 480 ql), ((a 9), aI (g.2.1 0) 480 qg), ((a 10), aI (g.2.1 1) 480 qa), ((a 1), aI (g.2.1 0) 3 fa), ((a 2), aI (g.2.1 0) 3 fd), ((a 3), aI (g.2.1 0) 3 fn), ((a 11), aI (g.2.1 0) 5 qt)] s.heap := hP
  have hS : va_S A s.heap s.heap [] := hS
  obtain ⟨H, hHe⟩ : ∃ H : Heap, H = s.heap := ⟨_, rfl⟩
  obtain ⟨locs, hLe⟩ : ∃ L : List Loc, L = [] := ⟨_, rfl⟩
  have hP : va_P g.1 vwCl [(hm, .inr (9, mF a i)), ((a 6), aI (g.2.1 0) 12 qm), ((a 7), aI (g.2.1 0) 480 qu), ((a 8), aI (g.2.1 0) 480 ql), ((a 9), aI (g.2.1 0) 480 qg), ((a 10), aI (g.2.1 1) 480 qa), ((a 1), aI (g.2.1 0) 3 fa), ((a 2), aI (g.2.1 0) 3 fd), ((a 3), aI (g.2.1 0) 3 fn), ((a 11), aI (g.2.1 0) 5 qt)] H := by rw [hHe]; exact hP
  have hS : va_S A s.heap H locs := by rw [hHe, hLe]; exact hS
  suffices hgo : W p l e ({ frames := 3, cells := 0, slots := 0, locals := 76 } : Room) s m [.ref hm, .int (iI x), .int (iI st)].toArray below meth c H locs 0 0 (MQ below (CQ g (q_X9_points g hm a i qm qu ql qg qa fa fd fn qt x st) A) [.ref hm, .int (iI x), .int (iI st)].toArray s ({ frames := 3, cells := 0, slots := 0, locals := 76 } : Room).cells ({ frames := 3, cells := 0, slots := 0, locals := 76 } : Room).slots A) (F0 m 0 ls []) by rw [hHe, hLe] at hgo; exact hgo
  clear hHe hLe
  refine lv_aload_n hx hb dX9_points_0 rfl (lv_at hl 0 rfl) ?_
  refine lv_iload_n hx hb dX9_points_1 rfl (lv_at hl 1 rfl) ?_
  refine Ct.callV (ci := 9) (q0 := 0) (qc := (RX9, TX9, 37)) (As := [.int (iI x)]) (rest := []) (wr := [((a 6), aI (g.2.1 0) 12 qm), ((a 7), aI (g.2.1 0) 480 qu), ((a 8), aI (g.2.1 0) 480 ql), ((a 9), aI (g.2.1 0) 480 qg), ((a 10), aI (g.2.1 1) 480 qa), ((a 1), aI (g.2.1 0) 3 fa), ((a 2), aI (g.2.1 0) 3 fd), ((a 3), aI (g.2.1 0) 3 fn), ((a 11), aI (g.2.1 0) 5 qt)]) (c1 := 0) (s1 := 0) ⟨hx, hb, hml, hown, hts⟩ (c_X9_isLearner l g hm a i x (by omega)) rfl rfl (cwV 1 hts gX9_points_X9_isLearner rfl rfl rfl (by decide +kernel) ⟨Nat.le_of_ble_eq_true rfl, Nat.le_of_ble_eq_true rfl⟩) hG hP hD hS hA [0] [1, 2, 3, 4, 5, 6, 7, 8, 9] rfl rfl (by decide) (by decide) (by decide) rfl hl.1 rfl (Nat.le_of_ble_eq_true rfl) dX9_points_2 ⟨Nat.le_of_ble_eq_true rfl, Nat.le_of_ble_eq_true rfl⟩ rfl rfl (fun v w H locs hv hP hD hS => ?_)
  obtain ⟨⟨rfl, hb1⟩ | ⟨rfl, hb1⟩, rfl⟩ := hv
  · show W p l e _ s m _ below meth c H locs 0 0 _ (F0 m 5 ls (.int (iI 1) :: []))
    have hb1 : 0 ≤ x ∧ x < i 5 := hb1
    have hP : va_P g.1 vwCl [((a 6), aI (g.2.1 0) 12 qm), ((a 7), aI (g.2.1 0) 480 qu), ((a 8), aI (g.2.1 0) 480 ql), ((a 9), aI (g.2.1 0) 480 qg), ((a 10), aI (g.2.1 1) 480 qa), ((a 1), aI (g.2.1 0) 3 fa), ((a 2), aI (g.2.1 0) 3 fd), ((a 3), aI (g.2.1 0) 3 fn), ((a 11), aI (g.2.1 0) 5 qt), (hm, .inr (9, mF a i))] H := hP
    have hD : va_D A [((a 6), aI (g.2.1 0) 12 qm), ((a 7), aI (g.2.1 0) 480 qu), ((a 8), aI (g.2.1 0) 480 ql), ((a 9), aI (g.2.1 0) 480 qg), ((a 10), aI (g.2.1 1) 480 qa), ((a 1), aI (g.2.1 0) 3 fa), ((a 2), aI (g.2.1 0) 3 fd), ((a 3), aI (g.2.1 0) 3 fn), ((a 11), aI (g.2.1 0) 5 qt), (hm, .inr (9, mF a i))] := hD
    refine iv_if_eq (tgt := 32) hx hb dX9_points_5 (by decide) (by decide) (fun h => absurd h (by decide)) (fun _ => ?_)
    refine lv_iload_n hx hb dX9_points_8 rfl (lv_at hl 2 rfl) ?_
    refine Ct.callS (As := [.int (iI st)]) (rest := []) (wr := [((a 6), aI (g.2.1 0) 12 qm), ((a 7), aI (g.2.1 0) 480 qu), ((a 8), aI (g.2.1 0) 480 ql), ((a 9), aI (g.2.1 0) 480 qg), ((a 10), aI (g.2.1 1) 480 qa), ((a 1), aI (g.2.1 0) 3 fa), ((a 2), aI (g.2.1 0) 3 fd), ((a 3), aI (g.2.1 0) 3 fn), ((a 11), aI (g.2.1 0) 5 qt), (hm, .inr (9, mF a i))]) (c1 := 0) (s1 := 0) ⟨hx, hb, hml, hown, hts⟩ (c_X9_isSet l g st (by omega)) (va_cwS 1 hts gX9_points_X9_isSet rfl rfl rfl (by decide +kernel) ⟨Nat.le_of_ble_eq_true rfl, Nat.le_of_ble_eq_true rfl⟩) hG hP hD hS hA [] [0, 1, 2, 3, 4, 5, 6, 7, 8, 9] rfl rfl (by decide) (by decide) (by decide) rfl hl.1 rfl (Nat.le_of_ble_eq_true rfl) dX9_points_9 ⟨Nat.le_of_ble_eq_true rfl, Nat.le_of_ble_eq_true rfl⟩ rfl rfl (fun v w H locs hv hP hD hS => ?_)
    obtain ⟨⟨rfl, hb3⟩ | ⟨rfl, hb3⟩, rfl⟩ := hv
    · show W p l e _ s m _ below meth c H locs 0 0 _ (F0 m 12 ls (.int (iI 1) :: []))
      have hb3 : 0 ≤ st ∧ st ≤ 255 := hb3
      have hP : va_P g.1 vwCl [((a 6), aI (g.2.1 0) 12 qm), ((a 7), aI (g.2.1 0) 480 qu), ((a 8), aI (g.2.1 0) 480 ql), ((a 9), aI (g.2.1 0) 480 qg), ((a 10), aI (g.2.1 1) 480 qa), ((a 1), aI (g.2.1 0) 3 fa), ((a 2), aI (g.2.1 0) 3 fd), ((a 3), aI (g.2.1 0) 3 fn), ((a 11), aI (g.2.1 0) 5 qt), (hm, .inr (9, mF a i))] H := hP
      have hD : va_D A [((a 6), aI (g.2.1 0) 12 qm), ((a 7), aI (g.2.1 0) 480 qu), ((a 8), aI (g.2.1 0) 480 ql), ((a 9), aI (g.2.1 0) 480 qg), ((a 10), aI (g.2.1 1) 480 qa), ((a 1), aI (g.2.1 0) 3 fa), ((a 2), aI (g.2.1 0) 3 fd), ((a 3), aI (g.2.1 0) 3 fn), ((a 11), aI (g.2.1 0) 5 qt), (hm, .inr (9, mF a i))] := hD
      refine iv_if_eq (tgt := 32) hx hb dX9_points_12 (by decide) (by decide) (fun h => absurd h (by decide)) (fun _ => ?_)
      refine lv_iload_n hx hb dX9_points_15 rfl (lv_at hl 2 rfl) ?_
      refine Ct.callS (As := [.int (iI st)]) (rest := []) (wr := [((a 6), aI (g.2.1 0) 12 qm), ((a 7), aI (g.2.1 0) 480 qu), ((a 8), aI (g.2.1 0) 480 ql), ((a 9), aI (g.2.1 0) 480 qg), ((a 10), aI (g.2.1 1) 480 qa), ((a 1), aI (g.2.1 0) 3 fa), ((a 2), aI (g.2.1 0) 3 fd), ((a 3), aI (g.2.1 0) 3 fn), ((a 11), aI (g.2.1 0) 5 qt), (hm, .inr (9, mF a i))]) (c1 := 0) (s1 := 0) ⟨hx, hb, hml, hown, hts⟩ (c_X9_sizeOf l g st (by omega)) (va_cwS 1 hts gX9_points_X9_sizeOf rfl rfl rfl (by decide +kernel) ⟨Nat.le_of_ble_eq_true rfl, Nat.le_of_ble_eq_true rfl⟩) hG hP hD hS hA [] [0, 1, 2, 3, 4, 5, 6, 7, 8, 9] rfl rfl (by decide) (by decide) (by decide) rfl hl.1 rfl (Nat.le_of_ble_eq_true rfl) dX9_points_16 ⟨Nat.le_of_ble_eq_true rfl, Nat.le_of_ble_eq_true rfl⟩ rfl rfl (fun v w H locs hv hP hD hS => ?_)
      obtain ⟨rfl, rfl⟩ := hv
      show W p l e _ s m _ below meth c H locs 0 0 _ (F0 m 19 ls (.int (iI (szB st 12)) :: []))
      have hP : va_P g.1 vwCl [((a 6), aI (g.2.1 0) 12 qm), ((a 7), aI (g.2.1 0) 480 qu), ((a 8), aI (g.2.1 0) 480 ql), ((a 9), aI (g.2.1 0) 480 qg), ((a 10), aI (g.2.1 1) 480 qa), ((a 1), aI (g.2.1 0) 3 fa), ((a 2), aI (g.2.1 0) 3 fd), ((a 3), aI (g.2.1 0) 3 fn), ((a 11), aI (g.2.1 0) 5 qt), (hm, .inr (9, mF a i))] H := hP
      have hD : va_D A [((a 6), aI (g.2.1 0) 12 qm), ((a 7), aI (g.2.1 0) 480 qu), ((a 8), aI (g.2.1 0) 480 ql), ((a 9), aI (g.2.1 0) 480 qg), ((a 10), aI (g.2.1 1) 480 qa), ((a 1), aI (g.2.1 0) 3 fa), ((a 2), aI (g.2.1 0) 3 fd), ((a 3), aI (g.2.1 0) 3 fn), ((a 11), aI (g.2.1 0) 5 qt), (hm, .inr (9, mF a i))] := hD
      have hsz := szB_rng st 12
      refine lv_iconst (v := iI (3)) hx hb dX9_points_19 rfl ?_
      refine iv_icmp_gt (tgt := 32) hx hb dX9_points_20 (by decide) (by omega) (fun hc5 => ?_) (fun hc5 => ?_)
      · refine iv_ldc (v := -100001) (z := -100001) hx hb hown (hts _ (List.mem_of_getElem? (i := 1) rfl)) dX9_points_32 (by decide) ?_
        exact Ct.iret hx hb hr hlocks (hP.sub [9, 0, 1, 2, 3, 4, 5, 6, 7, 8] rfl) (hD.sub [9, 0, 1, 2, 3, 4, 5, 6, 7, 8] (by decide) rfl) hS ⟨by decide, by decide⟩ dX9_points_34 ⟨(-100001), fa, fd, fn, rfl, rfl, (by first | (exfalso; omega) | (rw [if_pos (by omega)]; assumption) | rw [if_neg (by omega)])⟩
      · have hq := hm_ x.toNat (by omega)
        refine lv_aload_n hx hb dX9_points_23 rfl (lv_at hl 0 rfl) ?_
        refine lv_iload_n hx hb dX9_points_24 rfl (lv_at hl 1 rfl) ?_
        refine lv_iload_n hx hb dX9_points_25 rfl (lv_at hl 2 rfl) ?_
        refine Ct.callV (ci := 9) (q0 := 9) (qc := (RX9, TX9, 37)) (As := [.int (iI x), .int (iI st)]) (rest := []) (wr := []) (c1 := 0) (s1 := 0) ⟨hx, hb, hml, hown, hts⟩ (c_X9_pointsOf l g hm a i qm qu ql qg qa fa fd fn qt x st x.toNat ((qm x.toNat).toNat) (by omega) (ha_) (ht_)) rfl rfl (cwV 2 hts gX9_points_X9_pointsOf rfl rfl rfl (by decide +kernel) ⟨Nat.le_of_ble_eq_true rfl, Nat.le_of_ble_eq_true rfl⟩) hG hP hD hS hA [9, 0, 1, 2, 3, 4, 5, 6, 7, 8] [] rfl rfl (by decide) (by decide) (by decide) rfl hl.1 rfl (Nat.le_of_ble_eq_true rfl) dX9_points_26 ⟨Nat.le_of_ble_eq_true rfl, Nat.le_of_ble_eq_true rfl⟩ rfl rfl (fun v w H locs hv hP hD hS => ?_)
        obtain ⟨r6, fa7, fd8, fn9, rfl, rfl, hf10⟩ := hv
        show W p l e _ s m _ below meth c H locs 0 0 _ (F0 m 29 ls (.int (iI r6) :: []))
        have hP : va_P g.1 vwCl [(hm, .inr (9, mF a i)), ((a 6), aI (g.2.1 0) 12 qm), ((a 7), aI (g.2.1 0) 480 qu), ((a 8), aI (g.2.1 0) 480 ql), ((a 9), aI (g.2.1 0) 480 qg), ((a 10), aI (g.2.1 1) 480 qa), ((a 1), aI (g.2.1 0) 3 fa7), ((a 2), aI (g.2.1 0) 3 fd8), ((a 3), aI (g.2.1 0) 3 fn9), ((a 11), aI (g.2.1 0) 5 qt)] H := hP
        have hD : va_D A [(hm, .inr (9, mF a i)), ((a 6), aI (g.2.1 0) 12 qm), ((a 7), aI (g.2.1 0) 480 qu), ((a 8), aI (g.2.1 0) 480 ql), ((a 9), aI (g.2.1 0) 480 qg), ((a 10), aI (g.2.1 1) 480 qa), ((a 1), aI (g.2.1 0) 3 fa7), ((a 2), aI (g.2.1 0) 3 fd8), ((a 3), aI (g.2.1 0) 3 fn9), ((a 11), aI (g.2.1 0) 5 qt)] := hD
        have hf10 : r6 = mpR qu ql qg qa (40 * x.toNat) qt ((qm x.toNat).toNat) st := hf10
        refine lv_goto (tgt := 34) hx hb dX9_points_29 (by decide) ?_
        exact Ct.iret hx hb hr hlocks (hP.sub [0, 1, 2, 3, 4, 5, 6, 7, 8, 9] rfl) (hD.sub [0, 1, 2, 3, 4, 5, 6, 7, 8, 9] (by decide) rfl) hS ⟨by decide, by decide⟩ dX9_points_34 ⟨r6, fa7, fd8, fn9, rfl, rfl, (by first | (exfalso; omega) | (rw [if_pos (by omega)]; assumption) | rw [if_neg (by omega)])⟩
    · show W p l e _ s m _ below meth c H locs 0 0 _ (F0 m 12 ls (.int (iI 0) :: []))
      have hb3 : ¬ (0 ≤ st ∧ st ≤ 255) := hb3
      have hP : va_P g.1 vwCl [((a 6), aI (g.2.1 0) 12 qm), ((a 7), aI (g.2.1 0) 480 qu), ((a 8), aI (g.2.1 0) 480 ql), ((a 9), aI (g.2.1 0) 480 qg), ((a 10), aI (g.2.1 1) 480 qa), ((a 1), aI (g.2.1 0) 3 fa), ((a 2), aI (g.2.1 0) 3 fd), ((a 3), aI (g.2.1 0) 3 fn), ((a 11), aI (g.2.1 0) 5 qt), (hm, .inr (9, mF a i))] H := hP
      have hD : va_D A [((a 6), aI (g.2.1 0) 12 qm), ((a 7), aI (g.2.1 0) 480 qu), ((a 8), aI (g.2.1 0) 480 ql), ((a 9), aI (g.2.1 0) 480 qg), ((a 10), aI (g.2.1 1) 480 qa), ((a 1), aI (g.2.1 0) 3 fa), ((a 2), aI (g.2.1 0) 3 fd), ((a 3), aI (g.2.1 0) 3 fn), ((a 11), aI (g.2.1 0) 5 qt), (hm, .inr (9, mF a i))] := hD
      refine iv_if_eq (tgt := 32) hx hb dX9_points_12 (by decide) (by decide) (fun _ => ?_) (fun h => absurd h (by decide))
      refine iv_ldc (v := -100001) (z := -100001) hx hb hown (hts _ (List.mem_of_getElem? (i := 1) rfl)) dX9_points_32 (by decide) ?_
      exact Ct.iret hx hb hr hlocks (hP.sub [9, 0, 1, 2, 3, 4, 5, 6, 7, 8] rfl) (hD.sub [9, 0, 1, 2, 3, 4, 5, 6, 7, 8] (by decide) rfl) hS ⟨by decide, by decide⟩ dX9_points_34 ⟨(-100001), fa, fd, fn, rfl, rfl, (by first | (exfalso; omega) | (rw [if_pos (by omega)]; assumption) | rw [if_neg (by omega)])⟩
  · show W p l e _ s m _ below meth c H locs 0 0 _ (F0 m 5 ls (.int (iI 0) :: []))
    have hb1 : ¬ (0 ≤ x ∧ x < i 5) := hb1
    have hP : va_P g.1 vwCl [((a 6), aI (g.2.1 0) 12 qm), ((a 7), aI (g.2.1 0) 480 qu), ((a 8), aI (g.2.1 0) 480 ql), ((a 9), aI (g.2.1 0) 480 qg), ((a 10), aI (g.2.1 1) 480 qa), ((a 1), aI (g.2.1 0) 3 fa), ((a 2), aI (g.2.1 0) 3 fd), ((a 3), aI (g.2.1 0) 3 fn), ((a 11), aI (g.2.1 0) 5 qt), (hm, .inr (9, mF a i))] H := hP
    have hD : va_D A [((a 6), aI (g.2.1 0) 12 qm), ((a 7), aI (g.2.1 0) 480 qu), ((a 8), aI (g.2.1 0) 480 ql), ((a 9), aI (g.2.1 0) 480 qg), ((a 10), aI (g.2.1 1) 480 qa), ((a 1), aI (g.2.1 0) 3 fa), ((a 2), aI (g.2.1 0) 3 fd), ((a 3), aI (g.2.1 0) 3 fn), ((a 11), aI (g.2.1 0) 5 qt), (hm, .inr (9, mF a i))] := hD
    refine iv_if_eq (tgt := 32) hx hb dX9_points_5 (by decide) (by decide) (fun _ => ?_) (fun h => absurd h (by decide))
    refine iv_ldc (v := -100001) (z := -100001) hx hb hown (hts _ (List.mem_of_getElem? (i := 1) rfl)) dX9_points_32 (by decide) ?_
    exact Ct.iret hx hb hr hlocks (hP.sub [9, 0, 1, 2, 3, 4, 5, 6, 7, 8] rfl) (hD.sub [9, 0, 1, 2, 3, 4, 5, 6, 7, 8] (by decide) rfl) hS ⟨by decide, by decide⟩ dX9_points_34 ⟨(-100001), fa, fd, fn, rfl, rfl, (by first | (exfalso; omega) | (rw [if_pos (by omega)]; assumption) | rw [if_neg (by omega)])⟩
