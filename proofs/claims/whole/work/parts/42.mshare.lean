theorem kX9_shareOf_9 : ∀ w ∈ u_ws RX9 TX9 37, w ∈ wsX9_shareOf := fun _ h => List.mem_cons_of_mem _ (List.mem_append_right _ h)
abbrev q_X9_shareOf (g : GT) (hm : Nat) (a : Nat → Nat) (i : Nat → Int) (fw : Nat → Int) (fo : Nat → Int) (M : Nat) : Option Value → va_W → Prop := fun v w => ∃ (r : Int), v = some (.int (iI r)) ∧ w = [(hm, .inr (9, mF a i)), ((a 31), aI (g.2.1 0) 12 fw), ((a 32), aI (g.2.1 0) 12 fo)] ∧ (r = shareR fw fo M)
set_option maxHeartbeats 4000000 in
set_option maxRecDepth 100000 in
theorem c_X9_shareOf (l : Launch) (g : GT) (hm : Nat) (a : Nat → Nat) (i : Nat → Int) (fw : Nat → Int) (fo : Nat → Int) (M : Nat) (h1 : i 30 = (M : Int) ∧ M ≤ 12) (h2 : ∀ j, j < M → (fw j = 0 ∨ fw j = 1) ∧ -999 ≤ fo j ∧ fo j ≤ 999) : Ct l g yX9_shareOf wsX9_shareOf ({ frames := 1, cells := 0, slots := 0, locals := 23 } : Room) [.ref hm] [(hm, .inr (9, mF a i)), ((a 31), aI (g.2.1 0) 12 fw), ((a 32), aI (g.2.1 0) 12 fo)] (q_X9_shareOf g hm a i fw fo M) := by
  refine Ct.intro (maxL := 7) (ret := (some .int)) (by decide) rfl (Nat.le_of_ble_eq_true rfl) ?_
  intro p e s m below meth c A ls hx hb hr hml hown hts hlocks hnm hA hG hP hD hS hl
  have hown : s.vm.findClass RX9 = some m.cls := hown
  have hl : lv_has ls 7 [(0, .ref hm)] := hl
  have hP : va_P g.1 vwCl [(hm, .inr (9, mF a i)), ((a 31), aI (g.2.1 0) 12 fw), ((a 32), aI (g.2.1 0) 12 fo)] s.heap := hP
  have hS : va_S A s.heap s.heap [] := hS
  have hpw := pw_rng (M := M) (by omega)
  have hpn : ((2 ^ M : Nat) : Int) = (2 : Int) ^ M := by simp
  have hr1 := mW_rng fw 1 M
  have hr2 := sW_rng fw fo 1 M (fun j hj => (h2 j hj).2)
  have hsp := shR_pos fw fo (M := M) (by omega)
  obtain ⟨H, hHe⟩ : ∃ H : Heap, H = s.heap := ⟨_, rfl⟩
  obtain ⟨locs, hLe⟩ : ∃ L : List Loc, L = [] := ⟨_, rfl⟩
  have hP : va_P g.1 vwCl [(hm, .inr (9, mF a i)), ((a 31), aI (g.2.1 0) 12 fw), ((a 32), aI (g.2.1 0) 12 fo)] H := by rw [hHe]; exact hP
  have hS : va_S A s.heap H locs := by rw [hHe, hLe]; exact hS
  suffices hgo : W p l e ({ frames := 1, cells := 0, slots := 0, locals := 23 } : Room) s m [.ref hm].toArray below meth c H locs 0 0 (MQ below (CQ g (q_X9_shareOf g hm a i fw fo M) A) [.ref hm].toArray s ({ frames := 1, cells := 0, slots := 0, locals := 23 } : Room).cells ({ frames := 1, cells := 0, slots := 0, locals := 23 } : Room).slots A) (F0 m 0 ls []) by rw [hHe, hLe] at hgo; exact hgo
  clear hHe hLe
  refine lv_iconst (v := iI (0)) hx hb dX9_shareOf_0 rfl ?_
  refine lv_istore_n (lv' := [(1, .int (iI 0)), (0, .ref hm)]) hx hb dX9_shareOf_1 rfl hl (by decide) rfl (fun ls hl => ?_)
  refine lv_iconst (v := iI (0)) hx hb dX9_shareOf_2 rfl ?_
  refine lv_istore_n (lv' := [(2, .int (iI 0)), (1, .int (iI 0)), (0, .ref hm)]) hx hb dX9_shareOf_3 rfl hl (by decide) rfl (fun ls hl => ?_)
  refine lv_aload_n hx hb dX9_shareOf_4 rfl (lv_at hl 2 rfl) ?_
  refine lv_iconst (v := iI (1)) hx hb dX9_shareOf_5 rfl ?_
  refine Ct.callV (ci := 9) (q0 := 0) (qc := (RX9, TX9, 37)) (As := [.int (iI 1)]) (rest := []) (wr := []) (c1 := 0) (s1 := 0) ⟨hx, hb, hml, hown, hts⟩ (c_X9_sumBy l g hm a i fw fo M 1 (by omega) (h2)) rfl rfl (cwV 1 hts gX9_shareOf_X9_sumBy rfl rfl rfl (by decide +kernel) ⟨Nat.le_of_ble_eq_true rfl, Nat.le_of_ble_eq_true rfl⟩) hG hP hD hS hA [0, 1, 2] [] rfl rfl (by decide) (by decide) (by decide) rfl hl.1 rfl (Nat.le_of_ble_eq_true rfl) dX9_shareOf_6 ⟨Nat.le_of_ble_eq_true rfl, Nat.le_of_ble_eq_true rfl⟩ rfl rfl (fun v w H locs hv hP hD hS => ?_)
  obtain ⟨r1, rfl, rfl, hf2⟩ := hv
  show W p l e _ s m _ below meth c H locs 0 0 _ (F0 m 9 ls (.int (iI r1) :: []))
  have hP : va_P g.1 vwCl [(hm, .inr (9, mF a i)), ((a 31), aI (g.2.1 0) 12 fw), ((a 32), aI (g.2.1 0) 12 fo)] H := hP
  have hD : va_D A [(hm, .inr (9, mF a i)), ((a 31), aI (g.2.1 0) 12 fw), ((a 32), aI (g.2.1 0) 12 fo)] := hD
  have hf2 : r1 = sW fw fo 1 M := hf2
  refine lv_istore_n (lv' := [(3, .int (iI r1)), (2, .int (iI 0)), (1, .int (iI 0)), (0, .ref hm)]) hx hb dX9_shareOf_9 rfl hl (by decide) rfl (fun ls hl => ?_)
  refine lv_iconst (v := iI (0)) hx hb dX9_shareOf_10 rfl ?_
  refine lv_istore (lv' := [(4, .int (iI 0)), (3, .int (iI r1)), (2, .int (iI 0)), (1, .int (iI 0)), (0, .ref hm)]) hx hb dX9_shareOf_11 hl (by decide) rfl (fun ls hl => ?_)
  have hloop13 : ∀ (fuel : Nat) (al : Int) (go : Int) (zx : Int) (xx : Nat) (hxx : zx = (xx : Int) ∧ xx ≤ 2 ^ M ∧ 0 ≤ go ∧ go ≤ al ∧ al ≤ zx) (hS1 : shF fo (mW fw 1 M) (sW fw fo 1 M) M (2 ^ M - xx) xx (al, go) = shR fw fo M) (hmeas : 2 ^ M - xx < fuel), ∀ (H : Heap) (locs : List Loc) (ls : Array Slot), va_P g.1 vwCl [(hm, .inr (9, mF a i)), ((a 31), aI (g.2.1 0) 12 fw), ((a 32), aI (g.2.1 0) 12 fo)] H → va_D A [(hm, .inr (9, mF a i)), ((a 31), aI (g.2.1 0) 12 fw), ((a 32), aI (g.2.1 0) 12 fo)] → va_S A s.heap H locs → lv_has ls 7 [(4, .int (iI zx)), (3, .int (iI r1)), (2, .int (iI go)), (1, .int (iI al)), (0, .ref hm)] → W p l e ({ frames := 1, cells := 0, slots := 0, locals := 23 } : Room) s m [.ref hm].toArray below meth c H locs 0 0 (MQ below (CQ g (q_X9_shareOf g hm a i fw fo M) A) [.ref hm].toArray s ({ frames := 1, cells := 0, slots := 0, locals := 23 } : Room).cells ({ frames := 1, cells := 0, slots := 0, locals := 23 } : Room).slots A) (F0 m 13 ls []) := by
    intro fuel
    induction fuel with
    | zero => intro al go zx xx hxx hS1 hmeas; exact absurd hmeas (Nat.not_lt_zero _)
    | succ fuel ih13 =>
      intro al go zx xx hxx hS1 hmeas H locs ls hP hD hS hl
      refine lv_iload hx hb dX9_shareOf_13 (lv_at hl 0 rfl) ?_
      refine lv_iconst (v := iI (1)) hx hb dX9_shareOf_15 rfl ?_
      refine lv_aload_n hx hb dX9_shareOf_16 rfl (lv_at hl 4 rfl) ?_
      refine va_get (D := g.1) (ci := 9) (v := .int (iI (i 30))) hx hb hts kX9_shareOf_9 hown hG.1 hP 0 rfl rfl 30 (by decide) (hts _ (List.mem_of_getElem? (i := 1) rfl)) (fun _ h9 => h9) rfl dX9_shareOf_17 ?_
      refine iv_ishl1 hx hb M dX9_shareOf_20 (by omega) ?_
      refine iv_icmp_ge (tgt := 108) hx hb dX9_shareOf_21 (by decide) (by omega) (fun hc3 => ?_) (fun hc3 => ?_)
      · have hE1 : (al, go) = shR fw fo M := by rw [← hS1, show 2 ^ M - xx = 0 from by omega]; rfl
        have hE2 : al = (shR fw fo M).1 := by rw [← hE1]
        refine lv_sipush (v := iI (1000)) hx hb dX9_shareOf_108 (by decide) ?_
        refine lv_iload_n hx hb dX9_shareOf_111 rfl (lv_at hl 2 rfl) ?_
        refine iv_imul hx hb dX9_shareOf_112 ?_
        refine lv_iload_n hx hb dX9_shareOf_113 rfl (lv_at hl 3 rfl) ?_
        refine iv_idiv hx hb dX9_shareOf_114 (by omega) ?_
        exact Ct.iret hx hb hr hlocks (hP.sub [0, 1, 2] rfl) (hD.sub [0, 1, 2] (by decide) rfl) hS ⟨by decide, by decide⟩ dX9_shareOf_115 ⟨((1000 * go) / al), rfl, rfl, (by unfold shareR; rw [← hE1])⟩
      · refine lv_iload hx hb dX9_shareOf_24 (lv_at hl 0 rfl) ?_
        refine Ct.callS (As := [.int (iI zx)]) (rest := []) (wr := [(hm, .inr (9, mF a i)), ((a 31), aI (g.2.1 0) 12 fw), ((a 32), aI (g.2.1 0) 12 fo)]) (c1 := 0) (s1 := 0) ⟨hx, hb, hml, hown, hts⟩ (c_X9_sizeOf l g zx (by omega)) (va_cwS 1 hts gX9_shareOf_X9_sizeOf rfl rfl rfl (by decide +kernel) ⟨Nat.le_of_ble_eq_true rfl, Nat.le_of_ble_eq_true rfl⟩) hG hP hD hS hA [] [0, 1, 2] rfl rfl (by decide) (by decide) (by decide) rfl hl.1 rfl (Nat.le_of_ble_eq_true rfl) dX9_shareOf_26 ⟨Nat.le_of_ble_eq_true rfl, Nat.le_of_ble_eq_true rfl⟩ rfl rfl (fun v w H locs hv hP hD hS => ?_)
        obtain ⟨rfl, rfl⟩ := hv
        show W p l e _ s m _ below meth c H locs 0 0 _ (F0 m 29 ls (.int (iI (szB zx 12)) :: []))
        have hP : va_P g.1 vwCl [(hm, .inr (9, mF a i)), ((a 31), aI (g.2.1 0) 12 fw), ((a 32), aI (g.2.1 0) 12 fo)] H := hP
        have hD : va_D A [(hm, .inr (9, mF a i)), ((a 31), aI (g.2.1 0) 12 fw), ((a 32), aI (g.2.1 0) 12 fo)] := hD
        have hsz := szB_rng zx 12
        refine lv_aload_n hx hb dX9_shareOf_29 rfl (lv_at hl 4 rfl) ?_
        refine lv_iconst (v := iI (1)) hx hb dX9_shareOf_30 rfl ?_
        refine Ct.callV (ci := 9) (q0 := 0) (qc := (RX9, TX9, 37)) (As := [.int (iI 1)]) (rest := [.int (iI (szB zx 12))]) (wr := []) (c1 := 0) (s1 := 0) ⟨hx, hb, hml, hown, hts⟩ (c_X9_dealt l g hm a i fw fo M 1 (by omega) (h2)) rfl rfl (cwV 1 hts gX9_shareOf_X9_dealt rfl rfl rfl (by decide +kernel) ⟨Nat.le_of_ble_eq_true rfl, Nat.le_of_ble_eq_true rfl⟩) hG hP hD hS hA [0, 1, 2] [] rfl rfl (by decide) (by decide) (by decide) rfl hl.1 rfl (Nat.le_of_ble_eq_true rfl) dX9_shareOf_31 ⟨Nat.le_of_ble_eq_true rfl, Nat.le_of_ble_eq_true rfl⟩ rfl rfl (fun v w H locs hv hP hD hS => ?_)
        obtain ⟨r4, rfl, rfl, hf5⟩ := hv
        show W p l e _ s m _ below meth c H locs 0 0 _ (F0 m 34 ls (.int (iI r4) :: [.int (iI (szB zx 12))]))
        have hP : va_P g.1 vwCl [(hm, .inr (9, mF a i)), ((a 31), aI (g.2.1 0) 12 fw), ((a 32), aI (g.2.1 0) 12 fo)] H := hP
        have hD : va_D A [(hm, .inr (9, mF a i)), ((a 31), aI (g.2.1 0) 12 fw), ((a 32), aI (g.2.1 0) 12 fo)] := hD
        have hf5 : r4 = mW fw 1 M := hf5
        refine iv_icmp_ne (tgt := 102) hx hb dX9_shareOf_34 (by decide) (by omega) (fun hc6 => ?_) (fun hc6 => ?_)
        · refine iv_iinc (k := 0) (x := zx) (lv' := [(4, .int (iI (zx + 1))), (3, .int (iI r1)), (2, .int (iI go)), (1, .int (iI al)), (0, .ref hm)]) hx hb dX9_shareOf_102 hl rfl (by decide) rfl (fun ls hl => ?_)
          refine lv_goto (tgt := 13) hx hb dX9_shareOf_105 (by decide) ?_
          exact ih13 al go (zx + 1) (xx + 1) (by omega) (by rw [← hS1, show 2 ^ M - xx = (2 ^ M - (xx + 1)) + 1 from by omega]; simp only [shF]; first | (rw [if_neg (by rw [← hxx.1]; omega)]) | (rw [if_pos (by rw [← hxx.1]; omega), if_pos (by rw [← hxx.1]; omega)]) | (rw [if_pos (by rw [← hxx.1]; omega), if_neg (by rw [← hxx.1]; omega), Int.add_zero])) (by omega) H locs ls (hP.sub [0, 1, 2] rfl) (hD.sub [0, 1, 2] (by decide) rfl) hS (lv_sub hl [0, 1, 2, 3, 4] rfl)
        · refine lv_iconst (v := iI (0)) hx hb dX9_shareOf_37 rfl ?_
          refine lv_istore (lv' := [(5, .int (iI 0)), (4, .int (iI zx)), (3, .int (iI r1)), (2, .int (iI go)), (1, .int (iI al)), (0, .ref hm)]) hx hb dX9_shareOf_38 hl (by decide) rfl (fun ls hl => ?_)
          refine lv_iconst (v := iI (0)) hx hb dX9_shareOf_40 rfl ?_
          refine lv_istore (lv' := [(6, .int (iI 0)), (5, .int (iI 0)), (4, .int (iI zx)), (3, .int (iI r1)), (2, .int (iI go)), (1, .int (iI al)), (0, .ref hm)]) hx hb dX9_shareOf_41 hl (by decide) rfl (fun ls hl => ?_)
          have hloop43 : ∀ (fuel : Nat) (sm : Int) (zj : Int) (j : Nat) (hc : zj = (j : Int) ∧ j ≤ M) (he : sm = sD fo zx j) (hmeas : M - j < fuel), ∀ (H : Heap) (locs : List Loc) (ls : Array Slot), va_P g.1 vwCl [(hm, .inr (9, mF a i)), ((a 31), aI (g.2.1 0) 12 fw), ((a 32), aI (g.2.1 0) 12 fo)] H → va_D A [(hm, .inr (9, mF a i)), ((a 31), aI (g.2.1 0) 12 fw), ((a 32), aI (g.2.1 0) 12 fo)] → va_S A s.heap H locs → lv_has ls 7 [(6, .int (iI zj)), (5, .int (iI sm)), (4, .int (iI zx)), (3, .int (iI r1)), (2, .int (iI go)), (1, .int (iI al)), (0, .ref hm)] → W p l e ({ frames := 1, cells := 0, slots := 0, locals := 23 } : Room) s m [.ref hm].toArray below meth c H locs 0 0 (MQ below (CQ g (q_X9_shareOf g hm a i fw fo M) A) [.ref hm].toArray s ({ frames := 1, cells := 0, slots := 0, locals := 23 } : Room).cells ({ frames := 1, cells := 0, slots := 0, locals := 23 } : Room).slots A) (F0 m 43 ls []) := by
            intro fuel
            induction fuel with
            | zero => intro sm zj j hc he hmeas; exact absurd hmeas (Nat.not_lt_zero _)
            | succ fuel ih43 =>
              intro sm zj j hc he hmeas H locs ls hP hD hS hl
              refine lv_iload hx hb dX9_shareOf_43 (lv_at hl 0 rfl) ?_
              refine lv_aload_n hx hb dX9_shareOf_45 rfl (lv_at hl 6 rfl) ?_
              refine va_get (D := g.1) (ci := 9) (v := .int (iI (i 30))) hx hb hts kX9_shareOf_9 hown hG.1 hP 0 rfl rfl 30 (by decide) (hts _ (List.mem_of_getElem? (i := 1) rfl)) (fun _ h9 => h9) rfl dX9_shareOf_46 ?_
              refine iv_icmp_ge (tgt := 85) hx hb dX9_shareOf_49 (by decide) (by omega) (fun hc7 => ?_) (fun hc7 => ?_)
              · refine iv_iinc (k := 5) (x := al) (lv' := [(1, .int (iI (al + 1))), (6, .int (iI zj)), (5, .int (iI sm)), (4, .int (iI zx)), (3, .int (iI r1)), (2, .int (iI go)), (0, .ref hm)]) hx hb dX9_shareOf_85 hl rfl (by decide) rfl (fun ls hl => ?_)
                have hsd := sD_rng fo zx M (fun j hj => (h2 j hj).2)
                rw [show j = M from by omega] at he
                refine lv_iload_n hx hb dX9_shareOf_88 rfl (lv_at hl 5 rfl) ?_
                refine lv_iload hx hb dX9_shareOf_89 (lv_at hl 2 rfl) ?_
                refine lv_iload_n hx hb dX9_shareOf_91 rfl (lv_at hl 4 rfl) ?_
                refine iv_icmp_lt (tgt := 99) hx hb dX9_shareOf_92 (by decide) (by omega) (fun hc8 => ?_) (fun hc8 => ?_)
                · refine lv_iconst (v := iI (0)) hx hb dX9_shareOf_99 rfl ?_
                  refine iv_iadd hx hb dX9_shareOf_100 ?_
                  refine lv_istore_n (lv' := [(2, .int (iI (go + 0))), (1, .int (iI (al + 1))), (6, .int (iI zj)), (5, .int (iI sm)), (4, .int (iI zx)), (3, .int (iI r1)), (0, .ref hm)]) hx hb dX9_shareOf_101 rfl hl (by decide) rfl (fun ls hl => ?_)
                  refine iv_iinc (k := 4) (x := zx) (lv' := [(4, .int (iI (zx + 1))), (2, .int (iI (go + 0))), (1, .int (iI (al + 1))), (6, .int (iI zj)), (5, .int (iI sm)), (3, .int (iI r1)), (0, .ref hm)]) hx hb dX9_shareOf_102 hl rfl (by decide) rfl (fun ls hl => ?_)
                  refine lv_goto (tgt := 13) hx hb dX9_shareOf_105 (by decide) ?_
                  exact ih13 (al + 1) (go + 0) (zx + 1) (xx + 1) (by omega) (by rw [← hS1, show 2 ^ M - xx = (2 ^ M - (xx + 1)) + 1 from by omega]; simp only [shF]; first | (rw [if_neg (by rw [← hxx.1]; omega)]) | (rw [if_pos (by rw [← hxx.1]; omega), if_pos (by rw [← hxx.1]; omega)]) | (rw [if_pos (by rw [← hxx.1]; omega), if_neg (by rw [← hxx.1]; omega), Int.add_zero])) (by omega) H locs ls (hP.sub [0, 1, 2] rfl) (hD.sub [0, 1, 2] (by decide) rfl) hS (lv_sub hl [0, 5, 1, 2, 6] rfl)
                · refine lv_iconst (v := iI (1)) hx hb dX9_shareOf_95 rfl ?_
                  refine lv_goto (tgt := 100) hx hb dX9_shareOf_96 (by decide) ?_
                  refine iv_iadd hx hb dX9_shareOf_100 ?_
                  refine lv_istore_n (lv' := [(2, .int (iI (go + 1))), (1, .int (iI (al + 1))), (6, .int (iI zj)), (5, .int (iI sm)), (4, .int (iI zx)), (3, .int (iI r1)), (0, .ref hm)]) hx hb dX9_shareOf_101 rfl hl (by decide) rfl (fun ls hl => ?_)
                  refine iv_iinc (k := 4) (x := zx) (lv' := [(4, .int (iI (zx + 1))), (2, .int (iI (go + 1))), (1, .int (iI (al + 1))), (6, .int (iI zj)), (5, .int (iI sm)), (3, .int (iI r1)), (0, .ref hm)]) hx hb dX9_shareOf_102 hl rfl (by decide) rfl (fun ls hl => ?_)
                  refine lv_goto (tgt := 13) hx hb dX9_shareOf_105 (by decide) ?_
                  exact ih13 (al + 1) (go + 1) (zx + 1) (xx + 1) (by omega) (by rw [← hS1, show 2 ^ M - xx = (2 ^ M - (xx + 1)) + 1 from by omega]; simp only [shF]; first | (rw [if_neg (by rw [← hxx.1]; omega)]) | (rw [if_pos (by rw [← hxx.1]; omega), if_pos (by rw [← hxx.1]; omega)]) | (rw [if_pos (by rw [← hxx.1]; omega), if_neg (by rw [← hxx.1]; omega), Int.add_zero])) (by omega) H locs ls (hP.sub [0, 1, 2] rfl) (hD.sub [0, 1, 2] (by decide) rfl) hS (lv_sub hl [0, 5, 1, 2, 6] rfl)
              · have hq := sh_rng j (z := zx) (by omega)
                refine lv_iload hx hb dX9_shareOf_52 (lv_at hl 1 rfl) ?_
                refine lv_iload hx hb dX9_shareOf_54 (lv_at hl 2 rfl) ?_
                refine lv_iload hx hb dX9_shareOf_56 (lv_at hl 0 rfl) ?_
                refine iv_ishr hx hb dX9_shareOf_58 (by omega) ?_
                refine iv_as (zx / 2 ^ j) (by rw [show zj.toNat = j from by omega]) ?_
                refine lv_iconst (v := iI (1)) hx hb dX9_shareOf_59 rfl ?_
                refine iv_and1 hx hb dX9_shareOf_60 (by omega) ?_
                refine lv_iconst (v := iI (1)) hx hb dX9_shareOf_61 rfl ?_
                refine iv_icmp_ne (tgt := 75) hx hb dX9_shareOf_62 (by decide) (by omega) (fun hc9 => ?_) (fun hc9 => ?_)
                · refine lv_iconst (v := iI (0)) hx hb dX9_shareOf_75 rfl ?_
                  refine iv_iadd hx hb dX9_shareOf_76 ?_
                  refine lv_istore (lv' := [(5, .int (iI (sm + 0))), (6, .int (iI zj)), (4, .int (iI zx)), (3, .int (iI r1)), (2, .int (iI go)), (1, .int (iI al)), (0, .ref hm)]) hx hb dX9_shareOf_77 hl (by decide) rfl (fun ls hl => ?_)
                  refine iv_iinc (k := 1) (x := zj) (lv' := [(6, .int (iI (zj + 1))), (5, .int (iI (sm + 0))), (4, .int (iI zx)), (3, .int (iI r1)), (2, .int (iI go)), (1, .int (iI al)), (0, .ref hm)]) hx hb dX9_shareOf_79 hl rfl (by decide) rfl (fun ls hl => ?_)
                  refine lv_goto (tgt := 43) hx hb dX9_shareOf_82 (by decide) ?_
                  exact ih43 (sm + 0) (zj + 1) (j + 1) (by omega) (by simp only [sD]; split <;> omega) (by omega) H locs ls (hP.sub [0, 1, 2] rfl) (hD.sub [0, 1, 2] (by decide) rfl) hS (lv_sub hl [0, 1, 2, 3, 4, 5, 6] rfl)
                · refine lv_aload_n hx hb dX9_shareOf_65 rfl (lv_at hl 6 rfl) ?_
                  refine va_get (D := g.1) (ci := 9) (v := .ref (a 32)) hx hb hts kX9_shareOf_9 hown hG.1 hP 0 rfl rfl 32 (by decide) (hts _ (List.mem_of_getElem? (i := 2) rfl)) (fun _ h9 => h9) rfl dX9_shareOf_66 ?_
                  refine lv_iload hx hb dX9_shareOf_69 (lv_at hl 0 rfl) ?_
                  refine iv_iald hx hb hG hP 2 rfl j (by omega) (by omega) (by decide) dX9_shareOf_71 ?_
                  refine lv_goto (tgt := 76) hx hb dX9_shareOf_72 (by decide) ?_
                  refine iv_iadd hx hb dX9_shareOf_76 ?_
                  refine lv_istore (lv' := [(5, .int (iI (sm + (fo j)))), (6, .int (iI zj)), (4, .int (iI zx)), (3, .int (iI r1)), (2, .int (iI go)), (1, .int (iI al)), (0, .ref hm)]) hx hb dX9_shareOf_77 hl (by decide) rfl (fun ls hl => ?_)
                  refine iv_iinc (k := 1) (x := zj) (lv' := [(6, .int (iI (zj + 1))), (5, .int (iI (sm + (fo j)))), (4, .int (iI zx)), (3, .int (iI r1)), (2, .int (iI go)), (1, .int (iI al)), (0, .ref hm)]) hx hb dX9_shareOf_79 hl rfl (by decide) rfl (fun ls hl => ?_)
                  refine lv_goto (tgt := 43) hx hb dX9_shareOf_82 (by decide) ?_
                  exact ih43 (sm + (fo j)) (zj + 1) (j + 1) (by omega) (by simp only [sD]; split <;> omega) (by omega) H locs ls (hP.sub [0, 1, 2] rfl) (hD.sub [0, 1, 2] (by decide) rfl) hS (lv_sub hl [0, 1, 2, 3, 4, 5, 6] rfl)
          exact hloop43 _ 0 0 0 (by omega) (rfl) (Nat.lt_succ_self _) H locs ls (hP.sub [0, 1, 2] rfl) (hD.sub [0, 1, 2] (by decide) rfl) hS (lv_sub hl [0, 1, 2, 3, 4, 5, 6] rfl)
  exact hloop13 _ 0 0 0 0 (by omega) (rfl) (Nat.lt_succ_self _) H locs ls (hP.sub [0, 1, 2] rfl) (hD.sub [0, 1, 2] (by decide) rfl) hS (lv_sub hl [0, 1, 2, 3, 4] rfl)
abbrev q_X9_share (g : GT) (hm : Nat) (a : Nat → Nat) (i : Nat → Int) (fw : Nat → Int) (fo : Nat → Int) (M : Nat) : Option Value → va_W → Prop := fun v w => ∃ (r : Int), v = some (.int (iI r)) ∧ w = [(hm, .inr (9, mF a i)), ((a 31), aI (g.2.1 0) 12 fw), ((a 32), aI (g.2.1 0) 12 fo)] ∧ (r = shareS fw fo M)
set_option maxHeartbeats 4000000 in
set_option maxRecDepth 100000 in
theorem c_X9_share (l : Launch) (g : GT) (hm : Nat) (a : Nat → Nat) (i : Nat → Int) (fw : Nat → Int) (fo : Nat → Int) (M : Nat) (h1 : i 30 = (M : Int) ∧ M ≤ 12) (h2 : ∀ j, j < M → (fw j = 0 ∨ fw j = 1) ∧ -999 ≤ fo j ∧ fo j ≤ 999) : Ct l g yX9_share wsX9_share ({ frames := 2, cells := 0, slots := 0, locals := 49 } : Room) [.ref hm] [(hm, .inr (9, mF a i)), ((a 31), aI (g.2.1 0) 12 fw), ((a 32), aI (g.2.1 0) 12 fo)] (q_X9_share g hm a i fw fo M) := by
  refine Ct.intro (maxL := 1) (ret := (some .int)) (by decide) rfl (Nat.le_of_ble_eq_true rfl) ?_
  intro p e s m below meth c A ls hx hb hr hml hown hts hlocks hnm hA hG hP hD hS hl
  have hown : s.vm.findClass RX9 = some m.cls := hown
  have hl : lv_has ls 1 [(0, .ref hm)] := hl
  have hP : va_P g.1 vwCl [(hm, .inr (9, mF a i)), ((a 31), aI (g.2.1 0) 12 fw), ((a 32), aI (g.2.1 0) 12 fo)] s.heap := hP
  have hS : va_S A s.heap s.heap [] := hS
  obtain ⟨H, hHe⟩ : ∃ H : Heap, H = s.heap := ⟨_, rfl⟩
  obtain ⟨locs, hLe⟩ : ∃ L : List Loc, L = [] := ⟨_, rfl⟩
  have hP : va_P g.1 vwCl [(hm, .inr (9, mF a i)), ((a 31), aI (g.2.1 0) 12 fw), ((a 32), aI (g.2.1 0) 12 fo)] H := by rw [hHe]; exact hP
  have hS : va_S A s.heap H locs := by rw [hHe, hLe]; exact hS
  suffices hgo : W p l e ({ frames := 2, cells := 0, slots := 0, locals := 49 } : Room) s m [.ref hm].toArray below meth c H locs 0 0 (MQ below (CQ g (q_X9_share g hm a i fw fo M) A) [.ref hm].toArray s ({ frames := 2, cells := 0, slots := 0, locals := 49 } : Room).cells ({ frames := 2, cells := 0, slots := 0, locals := 49 } : Room).slots A) (F0 m 0 ls []) by rw [hHe, hLe] at hgo; exact hgo
  clear hHe hLe
  refine lv_aload_n hx hb dX9_share_0 rfl (lv_at hl 0 rfl) ?_
  refine Ct.callV (ci := 9) (q0 := 0) (qc := (RX9, TX9, 37)) (As := []) (rest := []) (wr := []) (c1 := 0) (s1 := 0) ⟨hx, hb, hml, hown, hts⟩ (c_X9_isTrial l g hm a i fw fo M (by omega) (h2)) rfl rfl (cwV 0 hts gX9_share_X9_isTrial rfl rfl rfl (by decide +kernel) ⟨Nat.le_of_ble_eq_true rfl, Nat.le_of_ble_eq_true rfl⟩) hG hP hD hS hA [0, 1, 2] [] rfl rfl (by decide) (by decide) (by decide) rfl hl.1 rfl (Nat.le_of_ble_eq_true rfl) dX9_share_1 ⟨Nat.le_of_ble_eq_true rfl, Nat.le_of_ble_eq_true rfl⟩ rfl rfl (fun v w H locs hv hP hD hS => ?_)
  obtain ⟨⟨rfl, hb1⟩ | ⟨rfl, hb1⟩, rfl⟩ := hv
  · show W p l e _ s m _ below meth c H locs 0 0 _ (F0 m 4 ls (.int (iI 1) :: []))
    have hb1 : ¬ (mW fw 0 M = 0 ∨ mW fw 1 M = 0) := hb1
    have hP : va_P g.1 vwCl [(hm, .inr (9, mF a i)), ((a 31), aI (g.2.1 0) 12 fw), ((a 32), aI (g.2.1 0) 12 fo)] H := hP
    have hD : va_D A [(hm, .inr (9, mF a i)), ((a 31), aI (g.2.1 0) 12 fw), ((a 32), aI (g.2.1 0) 12 fo)] := hD
    refine iv_if_eq (tgt := 14) hx hb dX9_share_4 (by decide) (by decide) (fun h => absurd h (by decide)) (fun _ => ?_)
    refine lv_aload_n hx hb dX9_share_7 rfl (lv_at hl 0 rfl) ?_
    refine Ct.callV (ci := 9) (q0 := 0) (qc := (RX9, TX9, 37)) (As := []) (rest := []) (wr := []) (c1 := 0) (s1 := 0) ⟨hx, hb, hml, hown, hts⟩ (c_X9_shareOf l g hm a i fw fo M (by omega) (h2)) rfl rfl (cwV 0 hts gX9_share_X9_shareOf rfl rfl rfl (by decide +kernel) ⟨Nat.le_of_ble_eq_true rfl, Nat.le_of_ble_eq_true rfl⟩) hG hP hD hS hA [0, 1, 2] [] rfl rfl (by decide) (by decide) (by decide) rfl hl.1 rfl (Nat.le_of_ble_eq_true rfl) dX9_share_8 ⟨Nat.le_of_ble_eq_true rfl, Nat.le_of_ble_eq_true rfl⟩ rfl rfl (fun v w H locs hv hP hD hS => ?_)
    obtain ⟨r3, rfl, rfl, hf4⟩ := hv
    show W p l e _ s m _ below meth c H locs 0 0 _ (F0 m 11 ls (.int (iI r3) :: []))
    have hP : va_P g.1 vwCl [(hm, .inr (9, mF a i)), ((a 31), aI (g.2.1 0) 12 fw), ((a 32), aI (g.2.1 0) 12 fo)] H := hP
    have hD : va_D A [(hm, .inr (9, mF a i)), ((a 31), aI (g.2.1 0) 12 fw), ((a 32), aI (g.2.1 0) 12 fo)] := hD
    have hf4 : r3 = shareR fw fo M := hf4
    refine lv_goto (tgt := 16) hx hb dX9_share_11 (by decide) ?_
    exact Ct.iret hx hb hr hlocks (hP.sub [0, 1, 2] rfl) (hD.sub [0, 1, 2] (by decide) rfl) hS ⟨by decide, by decide⟩ dX9_share_16 ⟨r3, rfl, rfl, (by unfold shareS; first | (rw [if_neg (by assumption)]; assumption) | (rw [if_pos (by omega)]))⟩
  · show W p l e _ s m _ below meth c H locs 0 0 _ (F0 m 4 ls (.int (iI 0) :: []))
    have hb1 : ¬ (¬ (mW fw 0 M = 0 ∨ mW fw 1 M = 0)) := hb1
    have hP : va_P g.1 vwCl [(hm, .inr (9, mF a i)), ((a 31), aI (g.2.1 0) 12 fw), ((a 32), aI (g.2.1 0) 12 fo)] H := hP
    have hD : va_D A [(hm, .inr (9, mF a i)), ((a 31), aI (g.2.1 0) 12 fw), ((a 32), aI (g.2.1 0) 12 fo)] := hD
    refine iv_if_eq (tgt := 14) hx hb dX9_share_4 (by decide) (by decide) (fun _ => ?_) (fun h => absurd h (by decide))
    refine lv_bipush (v := iI (-2)) hx hb dX9_share_14 (by decide) ?_
    exact Ct.iret hx hb hr hlocks (hP.sub [0, 1, 2] rfl) (hD.sub [0, 1, 2] (by decide) rfl) hS ⟨by decide, by decide⟩ dX9_share_16 ⟨(-2), rfl, rfl, (by unfold shareS; first | (rw [if_neg (by assumption)]; assumption) | (rw [if_pos (by omega)]))⟩
theorem kX9_verdict_9 : ∀ w ∈ u_ws RX9 TX9 37, w ∈ wsX9_verdict := fun _ h => List.mem_cons_of_mem _ (List.mem_append_right _ h)
abbrev q_X9_verdict (g : GT) (hm : Nat) (a : Nat → Nat) (i : Nat → Int) (fw : Nat → Int) (fo : Nat → Int) (M : Nat) (fto : Nat → Int) : Option Value → va_W → Prop := fun v w => ∃ (r : Int), v = some (.int (iI r)) ∧ w = [(hm, .inr (9, mF a i)), ((a 31), aI (g.2.1 0) 12 fw), ((a 32), aI (g.2.1 0) 12 fo), ((a 11), aI (g.2.1 0) 5 fto)] ∧ (r = verdictS fw fo M (fto 4))
set_option maxHeartbeats 4000000 in
set_option maxRecDepth 100000 in
theorem c_X9_verdict (l : Launch) (g : GT) (hm : Nat) (a : Nat → Nat) (i : Nat → Int) (fw : Nat → Int) (fo : Nat → Int) (M : Nat) (fto : Nat → Int) (h1 : i 30 = (M : Int) ∧ M ≤ 12) (h2 : ∀ j, j < M → (fw j = 0 ∨ fw j = 1) ∧ -999 ≤ fo j ∧ fo j ≤ 999) (h3 : 1 ≤ fto 4 ∧ fto 4 ≤ 500) : Ct l g yX9_verdict wsX9_verdict ({ frames := 2, cells := 0, slots := 0, locals := 49 } : Room) [.ref hm] [(hm, .inr (9, mF a i)), ((a 31), aI (g.2.1 0) 12 fw), ((a 32), aI (g.2.1 0) 12 fo), ((a 11), aI (g.2.1 0) 5 fto)] (q_X9_verdict g hm a i fw fo M fto) := by
  refine Ct.intro (maxL := 2) (ret := (some .int)) (by decide) rfl (Nat.le_of_ble_eq_true rfl) ?_
  intro p e s m below meth c A ls hx hb hr hml hown hts hlocks hnm hA hG hP hD hS hl
  have hown : s.vm.findClass RX9 = some m.cls := hown
  have hl : lv_has ls 2 [(0, .ref hm)] := hl
  have hP : va_P g.1 vwCl [(hm, .inr (9, mF a i)), ((a 31), aI (g.2.1 0) 12 fw), ((a 32), aI (g.2.1 0) 12 fo), ((a 11), aI (g.2.1 0) 5 fto)] s.heap := hP
  have hS : va_S A s.heap s.heap [] := hS
  obtain ⟨H, hHe⟩ : ∃ H : Heap, H = s.heap := ⟨_, rfl⟩
  obtain ⟨locs, hLe⟩ : ∃ L : List Loc, L = [] := ⟨_, rfl⟩
  have hP : va_P g.1 vwCl [(hm, .inr (9, mF a i)), ((a 31), aI (g.2.1 0) 12 fw), ((a 32), aI (g.2.1 0) 12 fo), ((a 11), aI (g.2.1 0) 5 fto)] H := by rw [hHe]; exact hP
  have hS : va_S A s.heap H locs := by rw [hHe, hLe]; exact hS
  suffices hgo : W p l e ({ frames := 2, cells := 0, slots := 0, locals := 49 } : Room) s m [.ref hm].toArray below meth c H locs 0 0 (MQ below (CQ g (q_X9_verdict g hm a i fw fo M fto) A) [.ref hm].toArray s ({ frames := 2, cells := 0, slots := 0, locals := 49 } : Room).cells ({ frames := 2, cells := 0, slots := 0, locals := 49 } : Room).slots A) (F0 m 0 ls []) by rw [hHe, hLe] at hgo; exact hgo
  clear hHe hLe
  refine lv_aload_n hx hb dX9_verdict_0 rfl (lv_at hl 0 rfl) ?_
  refine Ct.callV (ci := 9) (q0 := 0) (qc := (RX9, TX9, 37)) (As := []) (rest := []) (wr := [((a 11), aI (g.2.1 0) 5 fto)]) (c1 := 0) (s1 := 0) ⟨hx, hb, hml, hown, hts⟩ (c_X9_isTrial l g hm a i fw fo M (by omega) (h2)) rfl rfl (cwV 0 hts gX9_verdict_X9_isTrial rfl rfl rfl (by decide +kernel) ⟨Nat.le_of_ble_eq_true rfl, Nat.le_of_ble_eq_true rfl⟩) hG hP hD hS hA [0, 1, 2] [3] rfl rfl (by decide) (by decide) (by decide) rfl hl.1 rfl (Nat.le_of_ble_eq_true rfl) dX9_verdict_1 ⟨Nat.le_of_ble_eq_true rfl, Nat.le_of_ble_eq_true rfl⟩ rfl rfl (fun v w H locs hv hP hD hS => ?_)
  obtain ⟨⟨rfl, hb1⟩ | ⟨rfl, hb1⟩, rfl⟩ := hv
  · show W p l e _ s m _ below meth c H locs 0 0 _ (F0 m 4 ls (.int (iI 1) :: []))
    have hb1 : ¬ (mW fw 0 M = 0 ∨ mW fw 1 M = 0) := hb1
    have hP : va_P g.1 vwCl [((a 11), aI (g.2.1 0) 5 fto), (hm, .inr (9, mF a i)), ((a 31), aI (g.2.1 0) 12 fw), ((a 32), aI (g.2.1 0) 12 fo)] H := hP
    have hD : va_D A [((a 11), aI (g.2.1 0) 5 fto), (hm, .inr (9, mF a i)), ((a 31), aI (g.2.1 0) 12 fw), ((a 32), aI (g.2.1 0) 12 fo)] := hD
    refine iv_if_ne (tgt := 10) hx hb dX9_verdict_4 (by decide) (by decide) (fun _ => ?_) (fun h => absurd h (by decide))
    refine lv_aload_n hx hb dX9_verdict_10 rfl (lv_at hl 0 rfl) ?_
    refine Ct.callV (ci := 9) (q0 := 1) (qc := (RX9, TX9, 37)) (As := []) (rest := []) (wr := [((a 11), aI (g.2.1 0) 5 fto)]) (c1 := 0) (s1 := 0) ⟨hx, hb, hml, hown, hts⟩ (c_X9_shareOf l g hm a i fw fo M (by omega) (h2)) rfl rfl (cwV 0 hts gX9_verdict_X9_shareOf rfl rfl rfl (by decide +kernel) ⟨Nat.le_of_ble_eq_true rfl, Nat.le_of_ble_eq_true rfl⟩) hG hP hD hS hA [1, 2, 3] [0] rfl rfl (by decide) (by decide) (by decide) rfl hl.1 rfl (Nat.le_of_ble_eq_true rfl) dX9_verdict_11 ⟨Nat.le_of_ble_eq_true rfl, Nat.le_of_ble_eq_true rfl⟩ rfl rfl (fun v w H locs hv hP hD hS => ?_)
    obtain ⟨r3, rfl, rfl, hf4⟩ := hv
    show W p l e _ s m _ below meth c H locs 0 0 _ (F0 m 14 ls (.int (iI r3) :: []))
    have hP : va_P g.1 vwCl [((a 11), aI (g.2.1 0) 5 fto), (hm, .inr (9, mF a i)), ((a 31), aI (g.2.1 0) 12 fw), ((a 32), aI (g.2.1 0) 12 fo)] H := hP
    have hD : va_D A [((a 11), aI (g.2.1 0) 5 fto), (hm, .inr (9, mF a i)), ((a 31), aI (g.2.1 0) 12 fw), ((a 32), aI (g.2.1 0) 12 fo)] := hD
    have hf4 : r3 = shareR fw fo M := hf4
    refine lv_istore_n (lv' := [(1, .int (iI r3)), (0, .ref hm)]) hx hb dX9_verdict_14 rfl hl (by decide) rfl (fun ls hl => ?_)
    have hsr := shareR_rng fw fo (M := M) (by omega)
    refine lv_iload_n hx hb dX9_verdict_15 rfl (lv_at hl 0 rfl) ?_
    refine lv_aload_n hx hb dX9_verdict_16 rfl (lv_at hl 1 rfl) ?_
    refine va_get (D := g.1) (ci := 9) (v := .ref (a 11)) hx hb hts kX9_verdict_9 hown hG.1 hP 1 rfl rfl 11 (by decide) (hts _ (List.mem_of_getElem? (i := 1) rfl)) (fun _ h9 => h9) rfl dX9_verdict_17 ?_
    refine lv_iconst (v := iI (4)) hx hb dX9_verdict_20 rfl ?_
    refine iv_iald hx hb hG hP 0 rfl 4 (rfl) (by decide) (by decide) dX9_verdict_21 ?_
    refine iv_icmp_ge (tgt := 29) hx hb dX9_verdict_22 (by decide) (by omega) (fun hc5 => ?_) (fun hc5 => ?_)
    · refine lv_iload_n hx hb dX9_verdict_29 rfl (lv_at hl 0 rfl) ?_
      refine lv_sipush (v := iI (500)) hx hb dX9_verdict_30 (by decide) ?_
      refine iv_icmp_lt (tgt := 40) hx hb dX9_verdict_33 (by decide) (by omega) (fun hc6 => ?_) (fun hc6 => ?_)
      · refine lv_bipush (v := iI (-5)) hx hb dX9_verdict_40 (by decide) ?_
        exact Ct.iret hx hb hr hlocks (hP.sub [1, 2, 3, 0] rfl) (hD.sub [1, 2, 3, 0] (by decide) rfl) hS ⟨by decide, by decide⟩ dX9_verdict_42 ⟨(-5), rfl, rfl, (by unfold verdictS; first | (rw [if_neg (by assumption)]; (repeat' split) <;> omega) | (rw [if_pos (by omega)]))⟩
      · refine lv_iconst (v := iI (0)) hx hb dX9_verdict_36 rfl ?_
        refine lv_goto (tgt := 42) hx hb dX9_verdict_37 (by decide) ?_
        exact Ct.iret hx hb hr hlocks (hP.sub [1, 2, 3, 0] rfl) (hD.sub [1, 2, 3, 0] (by decide) rfl) hS ⟨by decide, by decide⟩ dX9_verdict_42 ⟨0, rfl, rfl, (by unfold verdictS; first | (rw [if_neg (by assumption)]; (repeat' split) <;> omega) | (rw [if_pos (by omega)]))⟩
    · refine lv_iconst (v := iI (1)) hx hb dX9_verdict_25 rfl ?_
      refine lv_goto (tgt := 42) hx hb dX9_verdict_26 (by decide) ?_
      exact Ct.iret hx hb hr hlocks (hP.sub [1, 2, 3, 0] rfl) (hD.sub [1, 2, 3, 0] (by decide) rfl) hS ⟨by decide, by decide⟩ dX9_verdict_42 ⟨1, rfl, rfl, (by unfold verdictS; first | (rw [if_neg (by assumption)]; (repeat' split) <;> omega) | (rw [if_pos (by omega)]))⟩
  · show W p l e _ s m _ below meth c H locs 0 0 _ (F0 m 4 ls (.int (iI 0) :: []))
    have hb1 : ¬ (¬ (mW fw 0 M = 0 ∨ mW fw 1 M = 0)) := hb1
    have hP : va_P g.1 vwCl [((a 11), aI (g.2.1 0) 5 fto), (hm, .inr (9, mF a i)), ((a 31), aI (g.2.1 0) 12 fw), ((a 32), aI (g.2.1 0) 12 fo)] H := hP
    have hD : va_D A [((a 11), aI (g.2.1 0) 5 fto), (hm, .inr (9, mF a i)), ((a 31), aI (g.2.1 0) 12 fw), ((a 32), aI (g.2.1 0) 12 fo)] := hD
    refine iv_if_ne (tgt := 10) hx hb dX9_verdict_4 (by decide) (by decide) (fun h => absurd h (by decide)) (fun _ => ?_)
    refine lv_bipush (v := iI (-2)) hx hb dX9_verdict_7 (by decide) ?_
    exact Ct.iret hx hb hr hlocks (hP.sub [1, 2, 3, 0] rfl) (hD.sub [1, 2, 3, 0] (by decide) rfl) hS ⟨by decide, by decide⟩ dX9_verdict_9 ⟨(-2), rfl, rfl, (by unfold verdictS; first | (rw [if_neg (by assumption)]; (repeat' split) <;> omega) | (rw [if_pos (by omega)]))⟩
