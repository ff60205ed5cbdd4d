abbrev q_X8_placeInOrder (g : GT) (x : Int) : Option Value → va_W → Prop := fun v w => v = some (.int (iI (plF x 93 0))) ∧ w = []
set_option maxHeartbeats 4000000 in
set_option maxRecDepth 100000 in
theorem c_X8_placeInOrder (l : Launch) (g : GT) (x : Int) (h1 : (-2147483648 ≤ x ∧ x < 2147483648)) : Ct l g yX8_placeInOrder wsX8_placeInOrder ({ frames := 0, cells := 0, slots := 0, locals := 0 } : Room) [.int (iI x)] [] (q_X8_placeInOrder g x) := by
  refine Ct.intro (maxL := 2) (ret := (some .int)) (by decide) rfl (Nat.le_of_ble_eq_true rfl) ?_
  intro p e s m below meth c A ls hx hb hr hml hown hts hlocks hnm hA hG hP hD hS hl
  have hown : s.vm.findClass RX8 = some m.cls := hown
  have hl : lv_has ls 2 [(0, .int (iI x))] := hl
  have hP : va_P g.1 vwCl [] s.heap := hP
  have hS : va_S A s.heap s.heap [] := hS
  obtain ⟨H, hHe⟩ : ∃ H : Heap, H = s.heap := ⟨_, rfl⟩
  obtain ⟨locs, hLe⟩ : ∃ L : List Loc, L = [] := ⟨_, rfl⟩
  have hP : va_P g.1 vwCl [] H := by rw [hHe]; exact hP
  have hS : va_S A s.heap H locs := by rw [hHe, hLe]; exact hS
  suffices hgo : W p l e ({ frames := 0, cells := 0, slots := 0, locals := 0 } : Room) s m [.int (iI x)].toArray below meth c H locs 0 0 (MQ below (CQ g (q_X8_placeInOrder g x) A) [.int (iI x)].toArray s ({ frames := 0, cells := 0, slots := 0, locals := 0 } : Room).cells ({ frames := 0, cells := 0, slots := 0, locals := 0 } : Room).slots A) (F0 m 0 ls []) by rw [hHe, hLe] at hgo; exact hgo
  clear hHe hLe
  refine lv_iconst (v := iI (0)) hx hb dX8_placeInOrder_0 rfl ?_
  refine lv_istore_n (lv' := [(1, .int (iI 0)), (0, .int (iI x))]) hx hb dX8_placeInOrder_1 rfl hl (by decide) rfl (fun ls hl => ?_)
  have hloop2 : ∀ (fuel : Nat) (zp : Int) (pp : Nat) (hc : zp = (pp : Int) ∧ pp ≤ 93) (he : plF x (93 - pp) pp = plF x 93 0) (hmeas : 93 - pp < fuel), ∀ (H : Heap) (locs : List Loc) (ls : Array Slot), va_P g.1 vwCl [] H → va_D A [] → va_S A s.heap H locs → lv_has ls 2 [(1, .int (iI zp)), (0, .int (iI x))] → W p l e ({ frames := 0, cells := 0, slots := 0, locals := 0 } : Room) s m [.int (iI x)].toArray below meth c H locs 0 0 (MQ below (CQ g (q_X8_placeInOrder g x) A) [.int (iI x)].toArray s ({ frames := 0, cells := 0, slots := 0, locals := 0 } : Room).cells ({ frames := 0, cells := 0, slots := 0, locals := 0 } : Room).slots A) (F0 m 2 ls []) := by
    intro fuel
    induction fuel with
    | zero => intro zp pp hc he hmeas; exact absurd hmeas (Nat.not_lt_zero _)
    | succ fuel ih2 =>
      intro zp pp hc he hmeas H locs ls hP hD hS hl
      refine lv_iload_n hx hb dX8_placeInOrder_2 rfl (lv_at hl 0 rfl) ?_
      refine va_gets hx hb hG.2.2.1.1 hS hown (hts _ (List.mem_of_getElem? (i := 1) rfl)) (fun _ h9 => h9) dX8_placeInOrder_3 ?_
      refine iv_tlen hx hb hG.2.2.1 hS dX8_placeInOrder_6 ?_
      refine iv_as 93 rfl ?_
      refine iv_icmp_ge (tgt := 27) hx hb dX8_placeInOrder_7 (by decide) (by omega) (fun hc1 => ?_) (fun hc1 => ?_)
      · refine lv_iconst (v := iI (-1)) hx hb dX8_placeInOrder_27 rfl ?_
        exact Ct.iret hx hb hr hlocks (hP.sub [] rfl) (hD.sub [] (by decide) rfl) hS ⟨by decide, by decide⟩ dX8_placeInOrder_28 ⟨(by rw [← he, show 93 - pp = 0 from by omega]; rfl), rfl⟩
      · have ho := oT_rng pp (by omega)
        refine va_gets hx hb hG.2.2.1.1 hS hown (hts _ (List.mem_of_getElem? (i := 1) rfl)) (fun _ h9 => h9) dX8_placeInOrder_10 ?_
        refine lv_iload_n hx hb dX8_placeInOrder_13 rfl (lv_at hl 0 rfl) ?_
        refine iv_tld hx hb hG.2.2.1 hS pp (by omega) (by omega) (by decide) dX8_placeInOrder_14 ?_
        refine lv_iload_n hx hb dX8_placeInOrder_15 rfl (lv_at hl 1 rfl) ?_
        refine iv_icmp_ne (tgt := 21) hx hb dX8_placeInOrder_16 (by decide) (by omega) (fun hc2 => ?_) (fun hc2 => ?_)
        · refine iv_iinc (k := 0) (x := zp) (lv' := [(1, .int (iI (zp + 1))), (0, .int (iI x))]) hx hb dX8_placeInOrder_21 hl rfl (by decide) rfl (fun ls hl => ?_)
          refine lv_goto (tgt := 2) hx hb dX8_placeInOrder_24 (by decide) ?_
          exact ih2 (zp + 1) (pp + 1) (by omega) (by rw [← he, show 93 - pp = (93 - (pp + 1)) + 1 from by omega]; simp only [plF]; rw [if_neg (by assumption)]) (by omega) H locs ls (hP.sub [] rfl) (hD.sub [] (by decide) rfl) hS (lv_sub hl [0, 1] rfl)
        · refine lv_iload_n hx hb dX8_placeInOrder_19 rfl (lv_at hl 0 rfl) ?_
          exact Ct.iret hx hb hr hlocks (hP.sub [] rfl) (hD.sub [] (by decide) rfl) hS ⟨by decide, by decide⟩ dX8_placeInOrder_20 ⟨(by rw [← he, show 93 - pp = (92 - pp) + 1 from by omega]; simp only [plF]; rw [if_pos (by assumption), ← hc.1]), rfl⟩
  exact hloop2 _ 0 0 (by omega) (rfl) (Nat.lt_succ_self _) H locs ls (hP.sub [] rfl) (hD.sub [] (by decide) rfl) hS (lv_sub hl [0, 1] rfl)
theorem kX8_answer_8 : ∀ w ∈ u_ws RX8 TX8 13, w ∈ wsX8_answer := fun _ h => List.mem_cons_of_mem _ (List.mem_append_left _ (List.mem_append_left _ (List.mem_append_right _ h)))
abbrev q_X8_answer (g : GT) (hd : Nat) (d : Nat → Nat) (i : Nat → Int) (fle : Nat → Option Nat) (y : Nat) (mn : Int) (cn : Int) (me : Nat) (cs : Nat) (as_ : Nat) (sr : Nat) (hi : Nat) (fc : Nat → Int) (fas : Nat → Int) (fst : Nat → Int) (fhi : Nat → Int) (ad : Nat) (an : Nat) (aa : Nat) (fd : Nat → Int) (fn : Nat → Int) (fa : Nat → Int) (k : Nat) (x : Int) (much : Int) (less : Int) (ans : Int) (M : Nat) : Option Value → va_W → Prop := fun v w => ∃ (r : Int), ∃ (mn' : Int), ∃ (cn' : Int), ∃ (fc' : Nat → Int), ∃ (fas' : Nat → Int), ∃ (fst' : Nat → Int), ∃ (fhi' : Nat → Int), ∃ (fd' : Nat → Int), ∃ (fn' : Nat → Int), ∃ (fa' : Nat → Int), v = some (.int (iI r)) ∧ w = [(hd, .inr (8, dF d i)), ((d 3), aQ (g.2.1 3) 12 fle), (y, .inr (1, [.int (iI mn'), .int (iI cn'), .ref me, .ref cs, .ref as_, .ref sr, .ref hi])), (cs, aI (g.2.1 0) 40 fc'), (as_, aI (g.2.1 1) 40 fas'), (sr, aI (g.2.1 1) 40 fst'), (hi, aI (g.2.1 0) 93 fhi'), ((d 0), .inr (4, [.ref ad, .ref an, .ref aa])), (ad, aI (g.2.1 0) 3 fd'), (an, aI (g.2.1 0) 3 fn'), (aa, aI (g.2.1 0) 3 fa')] ∧ ((r = -1 ∧ ¬ (TaskP much less ∧ 0 ≤ ans ∧ ans ≤ 999) ∧ mn' = mn ∧ cn' = cn ∧ fc' = fc ∧ fas' = fas ∧ fst' = fst ∧ fhi' = fhi) ∨ ((TaskP much less ∧ 0 ≤ ans ∧ ans ≤ 999) ∧ ((r = -3 ∧ M = 40 ∧ mn' = mn ∧ cn' = cn ∧ fc' = fc ∧ fas' = fas ∧ fst' = fst ∧ fhi' = fhi) ∨ (r = mn ∧ M < 40 ∧ mn' = mn + 1 ∧ cn' = cn + 1 ∧ fc' = va_up fc M (1000 * (1000 * much + less) + ans) ∧ fas' = va_up fas M 0 ∧ fst' = va_up fst M (1 - anyH (1000 * (1000 * much + less) + ans) 93) ∧ ∀ p, p < 93 → fhi' p = fhi p + (if hitP (1000 * (1000 * much + less) + ans) p then 1 else 0)))))
set_option maxHeartbeats 4000000 in
set_option maxRecDepth 100000 in
theorem c_X8_answer (l : Launch) (g : GT) (hd : Nat) (d : Nat → Nat) (i : Nat → Int) (fle : Nat → Option Nat) (y : Nat) (mn : Int) (cn : Int) (me : Nat) (cs : Nat) (as_ : Nat) (sr : Nat) (hi : Nat) (fc : Nat → Int) (fas : Nat → Int) (fst : Nat → Int) (fhi : Nat → Int) (ad : Nat) (an : Nat) (aa : Nat) (fd : Nat → Int) (fn : Nat → Int) (fa : Nat → Int) (k : Nat) (x : Int) (much : Int) (less : Int) (ans : Int) (M : Nat) (h1 : x = (k : Int) ∧ x < i 4 ∧ i 4 ≤ 12) (h2 : fle k = some y) (h3 : mn = (M : Int) ∧ M ≤ 40 ∧ (-2147483648 ≤ much ∧ much < 2147483648) ∧ (-2147483648 ≤ less ∧ less < 2147483648) ∧ (-2147483648 ≤ ans ∧ ans < 2147483648)) : Ct l g yX8_answer wsX8_answer ({ frames := 6, cells := 0, slots := 0, locals := 148 } : Room) [.ref hd, .int (iI x), .int (iI much), .int (iI less), .int (iI ans)] [(hd, .inr (8, dF d i)), ((d 3), aQ (g.2.1 3) 12 fle), (y, .inr (1, [.int (iI mn), .int (iI cn), .ref me, .ref cs, .ref as_, .ref sr, .ref hi])), (cs, aI (g.2.1 0) 40 fc), (as_, aI (g.2.1 1) 40 fas), (sr, aI (g.2.1 1) 40 fst), (hi, aI (g.2.1 0) 93 fhi), ((d 0), .inr (4, [.ref ad, .ref an, .ref aa])), (ad, aI (g.2.1 0) 3 fd), (an, aI (g.2.1 0) 3 fn), (aa, aI (g.2.1 0) 3 fa)] (q_X8_answer g hd d i fle y mn cn me cs as_ sr hi fc fas fst fhi ad an aa fd fn fa k x much less ans M) := by
  refine Ct.intro (maxL := 6) (ret := (some .int)) (by decide) rfl (Nat.le_of_ble_eq_true rfl) ?_
  intro p e s m below meth c A ls hx hb hr hml hown hts hlocks hnm hA hG hP hD hS hl
  have hown : s.vm.findClass RX8 = some m.cls := hown
  have hl : lv_has ls 6 [(0, .ref hd), (1, .int (iI x)), (2, .int (iI much)), (3, .int (iI less)), (4, .int (iI ans))] := hl
  have hP : va_P g.1 vwCl [(hd, .inr (8, dF d i)), ((d 3), aQ (g.2.1 3) 12 fle), (y, .inr (1, [.int (iI mn), .int (iI cn), .ref me, .ref cs, .ref as_, .ref sr, .ref hi])), (cs, aI (g.2.1 0) 40 fc), (as_, aI (g.2.1 1) 40 fas), (sr, aI (g.2.1 1) 40 fst), (hi, aI (g.2.1 0) 93 fhi), ((d 0), .inr (4, [.ref ad, .ref an, .ref aa])), (ad, aI (g.2.1 0) 3 fd), (an, aI (g.2.1 0) 3 fn), (aa, aI (g.2.1 0) 3 fa)] s.heap := hP
  have hS : va_S A s.heap s.heap [] := hS
  obtain ⟨H, hHe⟩ : ∃ H : Heap, H = s.heap := ⟨_, rfl⟩
  obtain ⟨locs, hLe⟩ : ∃ L : List Loc, L = [] := ⟨_, rfl⟩
  have hP : va_P g.1 vwCl [(hd, .inr (8, dF d i)), ((d 3), aQ (g.2.1 3) 12 fle), (y, .inr (1, [.int (iI mn), .int (iI cn), .ref me, .ref cs, .ref as_, .ref sr, .ref hi])), (cs, aI (g.2.1 0) 40 fc), (as_, aI (g.2.1 1) 40 fas), (sr, aI (g.2.1 1) 40 fst), (hi, aI (g.2.1 0) 93 fhi), ((d 0), .inr (4, [.ref ad, .ref an, .ref aa])), (ad, aI (g.2.1 0) 3 fd), (an, aI (g.2.1 0) 3 fn), (aa, aI (g.2.1 0) 3 fa)] H := by rw [hHe]; exact hP
  have hS : va_S A s.heap H locs := by rw [hHe, hLe]; exact hS
  suffices hgo : W p l e ({ frames := 6, cells := 0, slots := 0, locals := 148 } : Room) s m [.ref hd, .int (iI x), .int (iI much), .int (iI less), .int (iI ans)].toArray below meth c H locs 0 0 (MQ below (CQ g (q_X8_answer g hd d i fle y mn cn me cs as_ sr hi fc fas fst fhi ad an aa fd fn fa k x much less ans M) A) [.ref hd, .int (iI x), .int (iI much), .int (iI less), .int (iI ans)].toArray s ({ frames := 6, cells := 0, slots := 0, locals := 148 } : Room).cells ({ frames := 6, cells := 0, slots := 0, locals := 148 } : Room).slots A) (F0 m 0 ls []) by rw [hHe, hLe] at hgo; exact hgo
  clear hHe hLe
  refine lv_aload_n hx hb dX8_answer_0 rfl (lv_at hl 0 rfl) ?_
  refine lv_iload_n hx hb dX8_answer_1 rfl (lv_at hl 1 rfl) ?_
  refine Ct.callV (ci := 8) (q0 := 0) (qc := (RX8, TX8, 13)) (As := [.int (iI x)]) (rest := []) (wr := [(y, .inr (1, [.int (iI mn), .int (iI cn), .ref me, .ref cs, .ref as_, .ref sr, .ref hi])), (cs, aI (g.2.1 0) 40 fc), (as_, aI (g.2.1 1) 40 fas), (sr, aI (g.2.1 1) 40 fst), (hi, aI (g.2.1 0) 93 fhi), ((d 0), .inr (4, [.ref ad, .ref an, .ref aa])), (ad, aI (g.2.1 0) 3 fd), (an, aI (g.2.1 0) 3 fn), (aa, aI (g.2.1 0) 3 fa)]) (c1 := 0) (s1 := 0) ⟨hx, hb, hml, hown, hts⟩ (c_X8_learnerAt l g hd d i fle x k y (by omega) (h2)) rfl rfl (cwV 1 hts gX8_answer_X8_learnerAt rfl rfl rfl (by decide +kernel) ⟨Nat.le_of_ble_eq_true rfl, Nat.le_of_ble_eq_true rfl⟩) hG hP hD hS hA [0, 1] [2, 3, 4, 5, 6, 7, 8, 9, 10] rfl rfl (by decide) (by decide) (by decide) rfl hl.1 rfl (Nat.le_of_ble_eq_true rfl) dX8_answer_2 ⟨Nat.le_of_ble_eq_true rfl, Nat.le_of_ble_eq_true rfl⟩ rfl rfl (fun v w H locs hv hP hD hS => ?_)
  obtain ⟨rfl, rfl⟩ := hv
  show W p l e _ s m _ below meth c H locs 0 0 _ (F0 m 5 ls (.ref y :: []))
  have hP : va_P g.1 vwCl [(y, .inr (1, [.int (iI mn), .int (iI cn), .ref me, .ref cs, .ref as_, .ref sr, .ref hi])), (cs, aI (g.2.1 0) 40 fc), (as_, aI (g.2.1 1) 40 fas), (sr, aI (g.2.1 1) 40 fst), (hi, aI (g.2.1 0) 93 fhi), ((d 0), .inr (4, [.ref ad, .ref an, .ref aa])), (ad, aI (g.2.1 0) 3 fd), (an, aI (g.2.1 0) 3 fn), (aa, aI (g.2.1 0) 3 fa), (hd, .inr (8, dF d i)), ((d 3), aQ (g.2.1 3) 12 fle)] H := hP
  have hD : va_D A [(y, .inr (1, [.int (iI mn), .int (iI cn), .ref me, .ref cs, .ref as_, .ref sr, .ref hi])), (cs, aI (g.2.1 0) 40 fc), (as_, aI (g.2.1 1) 40 fas), (sr, aI (g.2.1 1) 40 fst), (hi, aI (g.2.1 0) 93 fhi), ((d 0), .inr (4, [.ref ad, .ref an, .ref aa])), (ad, aI (g.2.1 0) 3 fd), (an, aI (g.2.1 0) 3 fn), (aa, aI (g.2.1 0) 3 fa), (hd, .inr (8, dF d i)), ((d 3), aQ (g.2.1 3) 12 fle)] := hD
  refine lv_astore (lv' := [(5, .ref y), (0, .ref hd), (1, .int (iI x)), (2, .int (iI much)), (3, .int (iI less)), (4, .int (iI ans))]) hx hb dX8_answer_5 hl (by decide) rfl (fun ls hl => ?_)
  refine lv_aload hx hb dX8_answer_7 (lv_at hl 0 rfl) ?_
  refine lv_ifnull hx hb dX8_answer_9 ?_
  refine lv_iload_n hx hb dX8_answer_12 rfl (lv_at hl 3 rfl) ?_
  refine lv_iload_n hx hb dX8_answer_13 rfl (lv_at hl 4 rfl) ?_
  refine Ct.callS (As := [.int (iI much), .int (iI less)]) (rest := []) (wr := [(y, .inr (1, [.int (iI mn), .int (iI cn), .ref me, .ref cs, .ref as_, .ref sr, .ref hi])), (cs, aI (g.2.1 0) 40 fc), (as_, aI (g.2.1 1) 40 fas), (sr, aI (g.2.1 1) 40 fst), (hi, aI (g.2.1 0) 93 fhi), ((d 0), .inr (4, [.ref ad, .ref an, .ref aa])), (ad, aI (g.2.1 0) 3 fd), (an, aI (g.2.1 0) 3 fn), (aa, aI (g.2.1 0) 3 fa), (hd, .inr (8, dF d i)), ((d 3), aQ (g.2.1 3) 12 fle)]) (c1 := 0) (s1 := 0) ⟨hx, hb, hml, hown, hts⟩ (c_X8_isTask l g much less (by omega)) (va_cwS 2 hts gX8_answer_X8_isTask rfl rfl rfl (by decide +kernel) ⟨Nat.le_of_ble_eq_true rfl, Nat.le_of_ble_eq_true rfl⟩) hG hP hD hS hA [] [0, 1, 2, 3, 4, 5, 6, 7, 8, 9, 10] rfl rfl (by decide) (by decide) (by decide) rfl hl.1 rfl (Nat.le_of_ble_eq_true rfl) dX8_answer_14 ⟨Nat.le_of_ble_eq_true rfl, Nat.le_of_ble_eq_true rfl⟩ rfl rfl (fun v w H locs hv hP hD hS => ?_)
  obtain ⟨⟨rfl, hb1⟩ | ⟨rfl, hb1⟩, rfl⟩ := hv
  · show W p l e _ s m _ below meth c H locs 0 0 _ (F0 m 17 ls (.int (iI 1) :: []))
    have hb1 : 0 ≤ less ∧ less ≤ much ∧ much ≤ 999 := hb1
    have hP : va_P g.1 vwCl [(y, .inr (1, [.int (iI mn), .int (iI cn), .ref me, .ref cs, .ref as_, .ref sr, .ref hi])), (cs, aI (g.2.1 0) 40 fc), (as_, aI (g.2.1 1) 40 fas), (sr, aI (g.2.1 1) 40 fst), (hi, aI (g.2.1 0) 93 fhi), ((d 0), .inr (4, [.ref ad, .ref an, .ref aa])), (ad, aI (g.2.1 0) 3 fd), (an, aI (g.2.1 0) 3 fn), (aa, aI (g.2.1 0) 3 fa), (hd, .inr (8, dF d i)), ((d 3), aQ (g.2.1 3) 12 fle)] H := hP
    have hD : va_D A [(y, .inr (1, [.int (iI mn), .int (iI cn), .ref me, .ref cs, .ref as_, .ref sr, .ref hi])), (cs, aI (g.2.1 0) 40 fc), (as_, aI (g.2.1 1) 40 fas), (sr, aI (g.2.1 1) 40 fst), (hi, aI (g.2.1 0) 93 fhi), ((d 0), .inr (4, [.ref ad, .ref an, .ref aa])), (ad, aI (g.2.1 0) 3 fd), (an, aI (g.2.1 0) 3 fn), (aa, aI (g.2.1 0) 3 fa), (hd, .inr (8, dF d i)), ((d 3), aQ (g.2.1 3) 12 fle)] := hD
    refine iv_if_eq (tgt := 28) hx hb dX8_answer_17 (by decide) (by decide) (fun h => absurd h (by decide)) (fun _ => ?_)
    refine lv_iload hx hb dX8_answer_20 (lv_at hl 5 rfl) ?_
    refine Ct.callS (As := [.int (iI ans)]) (rest := []) (wr := [(y, .inr (1, [.int (iI mn), .int (iI cn), .ref me, .ref cs, .ref as_, .ref sr, .ref hi])), (cs, aI (g.2.1 0) 40 fc), (as_, aI (g.2.1 1) 40 fas), (sr, aI (g.2.1 1) 40 fst), (hi, aI (g.2.1 0) 93 fhi), ((d 0), .inr (4, [.ref ad, .ref an, .ref aa])), (ad, aI (g.2.1 0) 3 fd), (an, aI (g.2.1 0) 3 fn), (aa, aI (g.2.1 0) 3 fa), (hd, .inr (8, dF d i)), ((d 3), aQ (g.2.1 3) 12 fle)]) (c1 := 0) (s1 := 0) ⟨hx, hb, hml, hown, hts⟩ (c_X8_isNumber l g ans (by omega)) (va_cwS 1 hts gX8_answer_X8_isNumber rfl rfl rfl (by decide +kernel) ⟨Nat.le_of_ble_eq_true rfl, Nat.le_of_ble_eq_true rfl⟩) hG hP hD hS hA [] [0, 1, 2, 3, 4, 5, 6, 7, 8, 9, 10] rfl rfl (by decide) (by decide) (by decide) rfl hl.1 rfl (Nat.le_of_ble_eq_true rfl) dX8_answer_22 ⟨Nat.le_of_ble_eq_true rfl, Nat.le_of_ble_eq_true rfl⟩ rfl rfl (fun v w H locs hv hP hD hS => ?_)
    obtain ⟨⟨rfl, hb3⟩ | ⟨rfl, hb3⟩, rfl⟩ := hv
    · show W p l e _ s m _ below meth c H locs 0 0 _ (F0 m 25 ls (.int (iI 1) :: []))
      have hb3 : 0 ≤ ans ∧ ans ≤ 999 := hb3
      have hP : va_P g.1 vwCl [(y, .inr (1, [.int (iI mn), .int (iI cn), .ref me, .ref cs, .ref as_, .ref sr, .ref hi])), (cs, aI (g.2.1 0) 40 fc), (as_, aI (g.2.1 1) 40 fas), (sr, aI (g.2.1 1) 40 fst), (hi, aI (g.2.1 0) 93 fhi), ((d 0), .inr (4, [.ref ad, .ref an, .ref aa])), (ad, aI (g.2.1 0) 3 fd), (an, aI (g.2.1 0) 3 fn), (aa, aI (g.2.1 0) 3 fa), (hd, .inr (8, dF d i)), ((d 3), aQ (g.2.1 3) 12 fle)] H := hP
      have hD : va_D A [(y, .inr (1, [.int (iI mn), .int (iI cn), .ref me, .ref cs, .ref as_, .ref sr, .ref hi])), (cs, aI (g.2.1 0) 40 fc), (as_, aI (g.2.1 1) 40 fas), (sr, aI (g.2.1 1) 40 fst), (hi, aI (g.2.1 0) 93 fhi), ((d 0), .inr (4, [.ref ad, .ref an, .ref aa])), (ad, aI (g.2.1 0) 3 fd), (an, aI (g.2.1 0) 3 fn), (aa, aI (g.2.1 0) 3 fa), (hd, .inr (8, dF d i)), ((d 3), aQ (g.2.1 3) 12 fle)] := hD
      refine iv_if_ne (tgt := 30) hx hb dX8_answer_25 (by decide) (by decide) (fun _ => ?_) (fun h => absurd h (by decide))
      refine lv_aload hx hb dX8_answer_30 (lv_at hl 0 rfl) ?_
      refine lv_iload_n hx hb dX8_answer_32 rfl (lv_at hl 3 rfl) ?_
      refine lv_iload_n hx hb dX8_answer_33 rfl (lv_at hl 4 rfl) ?_
      refine lv_iload hx hb dX8_answer_34 (lv_at hl 5 rfl) ?_
      refine lv_aload_n hx hb dX8_answer_36 rfl (lv_at hl 1 rfl) ?_
      refine va_get (D := g.1) (ci := 8) (v := .ref (d 0)) hx hb hts kX8_answer_8 hown hG.1 hP 9 rfl rfl 0 (by decide) (hts _ (List.mem_of_getElem? (i := 1) rfl)) (fun _ h9 => h9) rfl dX8_answer_37 ?_
      refine Ct.callV (ci := 1) (q0 := 0) (qc := (RX1, TX1, 7)) (As := [.int (iI much), .int (iI less), .int (iI ans), .ref (d 0)]) (rest := []) (wr := [(hd, .inr (8, dF d i)), ((d 3), aQ (g.2.1 3) 12 fle)]) (c1 := 0) (s1 := 0) ⟨hx, hb, hml, hown, hts⟩ (c_X1_take l g y mn cn me cs as_ sr hi fc fas fst fhi (d 0) ad an aa fd fn fa much less ans M (by omega)) rfl rfl (cwV 4 hts gX8_answer_X1_take rfl rfl rfl (by decide +kernel) ⟨Nat.le_of_ble_eq_true rfl, Nat.le_of_ble_eq_true rfl⟩) hG hP hD hS hA [0, 1, 2, 3, 4, 5, 6, 7, 8] [9, 10] rfl rfl (by decide) (by decide) (by decide) rfl hl.1 rfl (Nat.le_of_ble_eq_true rfl) dX8_answer_40 ⟨Nat.le_of_ble_eq_true rfl, Nat.le_of_ble_eq_true rfl⟩ rfl rfl (fun v w H locs hv hP hD hS => ?_)
      obtain ⟨r5, mn6, cn7, fc8, fas9, fst10, fhi11, fd12, fn13, fa14, rfl, rfl, hf15⟩ := hv
      show W p l e _ s m _ below meth c H locs 0 0 _ (F0 m 43 ls (.int (iI r5) :: []))
      have hP : va_P g.1 vwCl [(hd, .inr (8, dF d i)), ((d 3), aQ (g.2.1 3) 12 fle), (y, .inr (1, [.int (iI mn6), .int (iI cn7), .ref me, .ref cs, .ref as_, .ref sr, .ref hi])), (cs, aI (g.2.1 0) 40 fc8), (as_, aI (g.2.1 1) 40 fas9), (sr, aI (g.2.1 1) 40 fst10), (hi, aI (g.2.1 0) 93 fhi11), ((d 0), .inr (4, [.ref ad, .ref an, .ref aa])), (ad, aI (g.2.1 0) 3 fd12), (an, aI (g.2.1 0) 3 fn13), (aa, aI (g.2.1 0) 3 fa14)] H := hP
      have hD : va_D A [(hd, .inr (8, dF d i)), ((d 3), aQ (g.2.1 3) 12 fle), (y, .inr (1, [.int (iI mn6), .int (iI cn7), .ref me, .ref cs, .ref as_, .ref sr, .ref hi])), (cs, aI (g.2.1 0) 40 fc8), (as_, aI (g.2.1 1) 40 fas9), (sr, aI (g.2.1 1) 40 fst10), (hi, aI (g.2.1 0) 93 fhi11), ((d 0), .inr (4, [.ref ad, .ref an, .ref aa])), (ad, aI (g.2.1 0) 3 fd12), (an, aI (g.2.1 0) 3 fn13), (aa, aI (g.2.1 0) 3 fa14)] := hD
      exact Ct.iret hx hb hr hlocks (hP.sub [0, 1, 2, 3, 4, 5, 6, 7, 8, 9, 10] rfl) (hD.sub [0, 1, 2, 3, 4, 5, 6, 7, 8, 9, 10] (by decide) rfl) hS ⟨by decide, by decide⟩ dX8_answer_43 ⟨r5, mn6, cn7, fc8, fas9, fst10, fhi11, fd12, fn13, fa14, rfl, rfl, (Or.inr ⟨by omega, by assumption⟩)⟩
    · show W p l e _ s m _ below meth c H locs 0 0 _ (F0 m 25 ls (.int (iI 0) :: []))
      have hb3 : ¬ (0 ≤ ans ∧ ans ≤ 999) := hb3
      have hP : va_P g.1 vwCl [(y, .inr (1, [.int (iI mn), .int (iI cn), .ref me, .ref cs, .ref as_, .ref sr, .ref hi])), (cs, aI (g.2.1 0) 40 fc), (as_, aI (g.2.1 1) 40 fas), (sr, aI (g.2.1 1) 40 fst), (hi, aI (g.2.1 0) 93 fhi), ((d 0), .inr (4, [.ref ad, .ref an, .ref aa])), (ad, aI (g.2.1 0) 3 fd), (an, aI (g.2.1 0) 3 fn), (aa, aI (g.2.1 0) 3 fa), (hd, .inr (8, dF d i)), ((d 3), aQ (g.2.1 3) 12 fle)] H := hP
      have hD : va_D A [(y, .inr (1, [.int (iI mn), .int (iI cn), .ref me, .ref cs, .ref as_, .ref sr, .ref hi])), (cs, aI (g.2.1 0) 40 fc), (as_, aI (g.2.1 1) 40 fas), (sr, aI (g.2.1 1) 40 fst), (hi, aI (g.2.1 0) 93 fhi), ((d 0), .inr (4, [.ref ad, .ref an, .ref aa])), (ad, aI (g.2.1 0) 3 fd), (an, aI (g.2.1 0) 3 fn), (aa, aI (g.2.1 0) 3 fa), (hd, .inr (8, dF d i)), ((d 3), aQ (g.2.1 3) 12 fle)] := hD
      refine iv_if_ne (tgt := 30) hx hb dX8_answer_25 (by decide) (by decide) (fun h => absurd h (by decide)) (fun _ => ?_)
      refine lv_iconst (v := iI (-1)) hx hb dX8_answer_28 rfl ?_
      exact Ct.iret hx hb hr hlocks (hP.sub [9, 10, 0, 1, 2, 3, 4, 5, 6, 7, 8] rfl) (hD.sub [9, 10, 0, 1, 2, 3, 4, 5, 6, 7, 8] (by decide) rfl) hS ⟨by decide, by decide⟩ dX8_answer_29 ⟨(-1), mn, cn, fc, fas, fst, fhi, fd, fn, fa, rfl, rfl, (Or.inl ⟨rfl, by omega, rfl, rfl, rfl, rfl, rfl, rfl⟩)⟩
  · show W p l e _ s m _ below meth c H locs 0 0 _ (F0 m 17 ls (.int (iI 0) :: []))
    have hb1 : ¬ (0 ≤ less ∧ less ≤ much ∧ much ≤ 999) := hb1
    have hP : va_P g.1 vwCl [(y, .inr (1, [.int (iI mn), .int (iI cn), .ref me, .ref cs, .ref as_, .ref sr, .ref hi])), (cs, aI (g.2.1 0) 40 fc), (as_, aI (g.2.1 1) 40 fas), (sr, aI (g.2.1 1) 40 fst), (hi, aI (g.2.1 0) 93 fhi), ((d 0), .inr (4, [.ref ad, .ref an, .ref aa])), (ad, aI (g.2.1 0) 3 fd), (an, aI (g.2.1 0) 3 fn), (aa, aI (g.2.1 0) 3 fa), (hd, .inr (8, dF d i)), ((d 3), aQ (g.2.1 3) 12 fle)] H := hP
    have hD : va_D A [(y, .inr (1, [.int (iI mn), .int (iI cn), .ref me, .ref cs, .ref as_, .ref sr, .ref hi])), (cs, aI (g.2.1 0) 40 fc), (as_, aI (g.2.1 1) 40 fas), (sr, aI (g.2.1 1) 40 fst), (hi, aI (g.2.1 0) 93 fhi), ((d 0), .inr (4, [.ref ad, .ref an, .ref aa])), (ad, aI (g.2.1 0) 3 fd), (an, aI (g.2.1 0) 3 fn), (aa, aI (g.2.1 0) 3 fa), (hd, .inr (8, dF d i)), ((d 3), aQ (g.2.1 3) 12 fle)] := hD
    refine iv_if_eq (tgt := 28) hx hb dX8_answer_17 (by decide) (by decide) (fun _ => ?_) (fun h => absurd h (by decide))
    refine lv_iconst (v := iI (-1)) hx hb dX8_answer_28 rfl ?_
    exact Ct.iret hx hb hr hlocks (hP.sub [9, 10, 0, 1, 2, 3, 4, 5, 6, 7, 8] rfl) (hD.sub [9, 10, 0, 1, 2, 3, 4, 5, 6, 7, 8] (by decide) rfl) hS ⟨by decide, by decide⟩ dX8_answer_29 ⟨(-1), mn, cn, fc, fas, fst, fhi, fd, fn, fa, rfl, rfl, (Or.inl ⟨rfl, by omega, rfl, rfl, rfl, rfl, rfl, rfl⟩)⟩
abbrev q_X8_answerB (g : GT) (hd : Nat) (d : Nat → Nat) (i : Nat → Int) (fle : Nat → Option Nat) (x : Int) (much : Int) (less : Int) (ans : Int) : Option Value → va_W → Prop := fun v w => ∃ (r : Int), v = some (.int (iI r)) ∧ w = [(hd, .inr (8, dF d i)), ((d 3), aQ (g.2.1 3) 12 fle)] ∧ (r = -1)
set_option maxHeartbeats 4000000 in
set_option maxRecDepth 100000 in
theorem c_X8_answerB (l : Launch) (g : GT) (hd : Nat) (d : Nat → Nat) (i : Nat → Int) (fle : Nat → Option Nat) (x : Int) (much : Int) (less : Int) (ans : Int) (h1 : ¬ (0 ≤ x ∧ x < i 4) ∧ 0 ≤ i 4 ∧ i 4 ≤ 12 ∧ (-2147483648 ≤ x ∧ x < 2147483648)) : Ct l g yX8_answer wsX8_answer ({ frames := 6, cells := 0, slots := 0, locals := 148 } : Room) [.ref hd, .int (iI x), .int (iI much), .int (iI less), .int (iI ans)] [(hd, .inr (8, dF d i)), ((d 3), aQ (g.2.1 3) 12 fle)] (q_X8_answerB g hd d i fle x much less ans) := by
  refine Ct.intro (maxL := 6) (ret := (some .int)) (by decide) rfl (Nat.le_of_ble_eq_true rfl) ?_
  intro p e s m below meth c A ls hx hb hr hml hown hts hlocks hnm hA hG hP hD hS hl
  have hown : s.vm.findClass RX8 = some m.cls := hown
  have hl : lv_has ls 6 [(0, .ref hd), (1, .int (iI x)), (2, .int (iI much)), (3, .int (iI less)), (4, .int (iI ans))] := hl
  have hP : va_P g.1 vwCl [(hd, .inr (8, dF d i)), ((d 3), aQ (g.2.1 3) 12 fle)] s.heap := hP
  have hS : va_S A s.heap s.heap [] := hS
  obtain ⟨H, hHe⟩ : ∃ H : Heap, H = s.heap := ⟨_, rfl⟩
  obtain ⟨locs, hLe⟩ : ∃ L : List Loc, L = [] := ⟨_, rfl⟩
  have hP : va_P g.1 vwCl [(hd, .inr (8, dF d i)), ((d 3), aQ (g.2.1 3) 12 fle)] H := by rw [hHe]; exact hP
  have hS : va_S A s.heap H locs := by rw [hHe, hLe]; exact hS
  suffices hgo : W p l e ({ frames := 6, cells := 0, slots := 0, locals := 148 } : Room) s m [.ref hd, .int (iI x), .int (iI much), .int (iI less), .int (iI ans)].toArray below meth c H locs 0 0 (MQ below (CQ g (q_X8_answerB g hd d i fle x much less ans) A) [.ref hd, .int (iI x), .int (iI much), .int (iI less), .int (iI ans)].toArray s ({ frames := 6, cells := 0, slots := 0, locals := 148 } : Room).cells ({ frames := 6, cells := 0, slots := 0, locals := 148 } : Room).slots A) (F0 m 0 ls []) by rw [hHe, hLe] at hgo; exact hgo
  clear hHe hLe
  refine lv_aload_n hx hb dX8_answer_0 rfl (lv_at hl 0 rfl) ?_
  refine lv_iload_n hx hb dX8_answer_1 rfl (lv_at hl 1 rfl) ?_
  refine Ct.callV (ci := 8) (q0 := 0) (qc := (RX8, TX8, 13)) (As := [.int (iI x)]) (rest := []) (wr := []) (c1 := 0) (s1 := 0) ⟨hx, hb, hml, hown, hts⟩ (c_X8_learnerAtB l g hd d i fle x (by omega)) rfl rfl (cwV 1 hts gX8_answer_X8_learnerAt rfl rfl rfl (by decide +kernel) ⟨Nat.le_of_ble_eq_true rfl, Nat.le_of_ble_eq_true rfl⟩) hG hP hD hS hA [0, 1] [] rfl rfl (by decide) (by decide) (by decide) rfl hl.1 rfl (Nat.le_of_ble_eq_true rfl) dX8_answer_2 ⟨Nat.le_of_ble_eq_true rfl, Nat.le_of_ble_eq_true rfl⟩ rfl rfl (fun v w H locs hv hP hD hS => ?_)
  obtain ⟨rfl, rfl⟩ := hv
  show W p l e _ s m _ below meth c H locs 0 0 _ (F0 m 5 ls (.null :: []))
  have hP : va_P g.1 vwCl [(hd, .inr (8, dF d i)), ((d 3), aQ (g.2.1 3) 12 fle)] H := hP
  have hD : va_D A [(hd, .inr (8, dF d i)), ((d 3), aQ (g.2.1 3) 12 fle)] := hD
  refine lv_astoreN (lv' := [(5, .null), (0, .ref hd), (1, .int (iI x)), (2, .int (iI much)), (3, .int (iI less)), (4, .int (iI ans))]) hx hb dX8_answer_5 hl (by decide) rfl (fun ls hl => ?_)
  refine lv_aloadN hx hb dX8_answer_7 (lv_at hl 0 rfl) ?_
  refine lv_ifnullN (tgt := 28) hx hb dX8_answer_9 (by decide) ?_
  refine lv_iconst (v := iI (-1)) hx hb dX8_answer_28 rfl ?_
  exact Ct.iret hx hb hr hlocks (hP.sub [0, 1] rfl) (hD.sub [0, 1] (by decide) rfl) hS ⟨by decide, by decide⟩ dX8_answer_29 ⟨(-1), rfl, rfl, (by omega)⟩
theorem kX8_aside_1 : ∀ w ∈ u_ws RX1 TX1 7, w ∈ wsX8_aside := fun _ h => List.mem_cons_of_mem _ (List.mem_append_left _ (List.mem_append_left _ (List.mem_append_right _ h)))
theorem kX8_aside_8 : ∀ w ∈ u_ws RX8 TX8 13, w ∈ wsX8_aside := fun _ h => List.mem_cons_of_mem _ (List.mem_append_left _ (List.mem_append_right _ h))
abbrev q_X8_aside (g : GT) (hd : Nat) (d : Nat → Nat) (i : Nat → Int) (fle : Nat → Option Nat) (y : Nat) (mn : Int) (cn : Int) (me : Nat) (cs : Nat) (as_ : Nat) (sr : Nat) (hi : Nat) (fc : Nat → Int) (fas : Nat → Int) (fst : Nat → Int) (fhi : Nat → Int) (ad : Nat) (an : Nat) (aa : Nat) (fd : Nat → Int) (fn : Nat → Int) (fa : Nat → Int) (k : Nat) (x : Int) (az : Int) (aw : Int) (M : Nat) : Option Value → va_W → Prop := fun v w => ∃ (r : Int), ∃ (cn' : Int), ∃ (fas' : Nat → Int), ∃ (fhi' : Nat → Int), ∃ (fd' : Nat → Int), ∃ (fn' : Nat → Int), ∃ (fa' : Nat → Int), v = some (.int (iI r)) ∧ w = [(hd, .inr (8, dF d i)), ((d 3), aQ (g.2.1 3) 12 fle), (y, .inr (1, [.int (iI mn), .int (iI cn'), .ref me, .ref cs, .ref as_, .ref sr, .ref hi])), (cs, aI (g.2.1 0) 40 fc), (as_, aI (g.2.1 1) 40 fas'), (sr, aI (g.2.1 1) 40 fst), (hi, aI (g.2.1 0) 93 fhi'), ((d 0), .inr (4, [.ref ad, .ref an, .ref aa])), (ad, aI (g.2.1 0) 3 fd'), (an, aI (g.2.1 0) 3 fn'), (aa, aI (g.2.1 0) 3 fa')] ∧ ((r = -1 ∧ ¬ (0 ≤ az ∧ az < mn) ∧ cn' = cn ∧ fas' = fas ∧ fhi' = fhi) ∨ ((0 ≤ az ∧ az < mn) ∧ r = fas az.toNat ∧ cn' = cn + (fas az.toNat - aw) ∧ fas' = va_up fas az.toNat aw ∧ ∀ p, p < 93 → fhi' p = fhi p + (if hitP (fc az.toNat) p then fas az.toNat - aw else 0)))
set_option maxHeartbeats 4000000 in
set_option maxRecDepth 100000 in
theorem c_X8_aside (l : Launch) (g : GT) (hd : Nat) (d : Nat → Nat) (i : Nat → Int) (fle : Nat → Option Nat) (y : Nat) (mn : Int) (cn : Int) (me : Nat) (cs : Nat) (as_ : Nat) (sr : Nat) (hi : Nat) (fc : Nat → Int) (fas : Nat → Int) (fst : Nat → Int) (fhi : Nat → Int) (ad : Nat) (an : Nat) (aa : Nat) (fd : Nat → Int) (fn : Nat → Int) (fa : Nat → Int) (k : Nat) (x : Int) (az : Int) (aw : Int) (M : Nat) (h1 : x = (k : Int) ∧ x < i 4 ∧ i 4 ≤ 12) (h2 : fle k = some y) (h3 : mn = (M : Int) ∧ M ≤ 40 ∧ (aw = 0 ∨ aw = 1) ∧ (-2147483648 ≤ az ∧ az < 2147483648)) (h4 : ∀ j, j < M → caseOK (fc j) ∧ (fas j = 0 ∨ fas j = 1)) : Ct l g yX8_aside wsX8_aside ({ frames := 6, cells := 0, slots := 0, locals := 148 } : Room) [.ref hd, .int (iI x), .int (iI az), .int (iI aw)] [(hd, .inr (8, dF d i)), ((d 3), aQ (g.2.1 3) 12 fle), (y, .inr (1, [.int (iI mn), .int (iI cn), .ref me, .ref cs, .ref as_, .ref sr, .ref hi])), (cs, aI (g.2.1 0) 40 fc), (as_, aI (g.2.1 1) 40 fas), (sr, aI (g.2.1 1) 40 fst), (hi, aI (g.2.1 0) 93 fhi), ((d 0), .inr (4, [.ref ad, .ref an, .ref aa])), (ad, aI (g.2.1 0) 3 fd), (an, aI (g.2.1 0) 3 fn), (aa, aI (g.2.1 0) 3 fa)] (q_X8_aside g hd d i fle y mn cn me cs as_ sr hi fc fas fst fhi ad an aa fd fn fa k x az aw M) := by
  refine Ct.intro (maxL := 5) (ret := (some .int)) (by decide) rfl (Nat.le_of_ble_eq_true rfl) ?_
  intro p e s m below meth c A ls hx hb hr hml hown hts hlocks hnm hA hG hP hD hS hl
  have hown : s.vm.findClass RX8 = some m.cls := hown
  have hl : lv_has ls 5 [(0, .ref hd), (1, .int (iI x)), (2, .int (iI az)), (3, .int (iI aw))] := hl
  have hP : va_P g.1 vwCl [(hd, .inr (8, dF d i)), ((d 3), aQ (g.2.1 3) 12 fle), (y, .inr (1, [.int (iI mn), .int (iI cn), .ref me, .ref cs, .ref as_, .ref sr, .ref hi])), (cs, aI (g.2.1 0) 40 fc), (as_, aI (g.2.1 1) 40 fas), (sr, aI (g.2.1 1) 40 fst), (hi, aI (g.2.1 0) 93 fhi), ((d 0), .inr (4, [.ref ad, .ref an, .ref aa])), (ad, aI (g.2.1 0) 3 fd), (an, aI (g.2.1 0) 3 fn), (aa, aI (g.2.1 0) 3 fa)] s.heap := hP
  have hS : va_S A s.heap s.heap [] := hS
  obtain ⟨H, hHe⟩ : ∃ H : Heap, H = s.heap := ⟨_, rfl⟩
  obtain ⟨locs, hLe⟩ : ∃ L : List Loc, L = [] := ⟨_, rfl⟩
  have hP : va_P g.1 vwCl [(hd, .inr (8, dF d i)), ((d 3), aQ (g.2.1 3) 12 fle), (y, .inr (1, [.int (iI mn), .int (iI cn), .ref me, .ref cs, .ref as_, .ref sr, .ref hi])), (cs, aI (g.2.1 0) 40 fc), (as_, aI (g.2.1 1) 40 fas), (sr, aI (g.2.1 1) 40 fst), (hi, aI (g.2.1 0) 93 fhi), ((d 0), .inr (4, [.ref ad, .ref an, .ref aa])), (ad, aI (g.2.1 0) 3 fd), (an, aI (g.2.1 0) 3 fn), (aa, aI (g.2.1 0) 3 fa)] H := by rw [hHe]; exact hP
  have hS : va_S A s.heap H locs := by rw [hHe, hLe]; exact hS
  suffices hgo : W p l e ({ frames := 6, cells := 0, slots := 0, locals := 148 } : Room) s m [.ref hd, .int (iI x), .int (iI az), .int (iI aw)].toArray below meth c H locs 0 0 (MQ below (CQ g (q_X8_aside g hd d i fle y mn cn me cs as_ sr hi fc fas fst fhi ad an aa fd fn fa k x az aw M) A) [.ref hd, .int (iI x), .int (iI az), .int (iI aw)].toArray s ({ frames := 6, cells := 0, slots := 0, locals := 148 } : Room).cells ({ frames := 6, cells := 0, slots := 0, locals := 148 } : Room).slots A) (F0 m 0 ls []) by rw [hHe, hLe] at hgo; exact hgo
  clear hHe hLe
  refine lv_aload_n hx hb dX8_aside_0 rfl (lv_at hl 0 rfl) ?_
  refine lv_iload_n hx hb dX8_aside_1 rfl (lv_at hl 1 rfl) ?_
  refine Ct.callV (ci := 8) (q0 := 0) (qc := (RX8, TX8, 13)) (As := [.int (iI x)]) (rest := []) (wr := [(y, .inr (1, [.int (iI mn), .int (iI cn), .ref me, .ref cs, .ref as_, .ref sr, .ref hi])), (cs, aI (g.2.1 0) 40 fc), (as_, aI (g.2.1 1) 40 fas), (sr, aI (g.2.1 1) 40 fst), (hi, aI (g.2.1 0) 93 fhi), ((d 0), .inr (4, [.ref ad, .ref an, .ref aa])), (ad, aI (g.2.1 0) 3 fd), (an, aI (g.2.1 0) 3 fn), (aa, aI (g.2.1 0) 3 fa)]) (c1 := 0) (s1 := 0) ⟨hx, hb, hml, hown, hts⟩ (c_X8_learnerAt l g hd d i fle x k y (by omega) (h2)) rfl rfl (cwV 1 hts gX8_aside_X8_learnerAt rfl rfl rfl (by decide +kernel) ⟨Nat.le_of_ble_eq_true rfl, Nat.le_of_ble_eq_true rfl⟩) hG hP hD hS hA [0, 1] [2, 3, 4, 5, 6, 7, 8, 9, 10] rfl rfl (by decide) (by decide) (by decide) rfl hl.1 rfl (Nat.le_of_ble_eq_true rfl) dX8_aside_2 ⟨Nat.le_of_ble_eq_true rfl, Nat.le_of_ble_eq_true rfl⟩ rfl rfl (fun v w H locs hv hP hD hS => ?_)
  obtain ⟨rfl, rfl⟩ := hv
  show W p l e _ s m _ below meth c H locs 0 0 _ (F0 m 5 ls (.ref y :: []))
  have hP : va_P g.1 vwCl [(y, .inr (1, [.int (iI mn), .int (iI cn), .ref me, .ref cs, .ref as_, .ref sr, .ref hi])), (cs, aI (g.2.1 0) 40 fc), (as_, aI (g.2.1 1) 40 fas), (sr, aI (g.2.1 1) 40 fst), (hi, aI (g.2.1 0) 93 fhi), ((d 0), .inr (4, [.ref ad, .ref an, .ref aa])), (ad, aI (g.2.1 0) 3 fd), (an, aI (g.2.1 0) 3 fn), (aa, aI (g.2.1 0) 3 fa), (hd, .inr (8, dF d i)), ((d 3), aQ (g.2.1 3) 12 fle)] H := hP
  have hD : va_D A [(y, .inr (1, [.int (iI mn), .int (iI cn), .ref me, .ref cs, .ref as_, .ref sr, .ref hi])), (cs, aI (g.2.1 0) 40 fc), (as_, aI (g.2.1 1) 40 fas), (sr, aI (g.2.1 1) 40 fst), (hi, aI (g.2.1 0) 93 fhi), ((d 0), .inr (4, [.ref ad, .ref an, .ref aa])), (ad, aI (g.2.1 0) 3 fd), (an, aI (g.2.1 0) 3 fn), (aa, aI (g.2.1 0) 3 fa), (hd, .inr (8, dF d i)), ((d 3), aQ (g.2.1 3) 12 fle)] := hD
  refine lv_astore (lv' := [(4, .ref y), (0, .ref hd), (1, .int (iI x)), (2, .int (iI az)), (3, .int (iI aw))]) hx hb dX8_aside_5 hl (by decide) rfl (fun ls hl => ?_)
  refine lv_aload hx hb dX8_aside_7 (lv_at hl 0 rfl) ?_
  refine lv_ifnull hx hb dX8_aside_9 ?_
  refine lv_iload_n hx hb dX8_aside_12 rfl (lv_at hl 3 rfl) ?_
  refine lv_iconst (v := iI (0)) hx hb dX8_aside_13 rfl ?_
  refine lv_aload hx hb dX8_aside_14 (lv_at hl 0 rfl) ?_
  refine va_get (D := g.1) (ci := 1) (v := .int (iI mn)) hx hb hts kX8_aside_1 hown hG.1 hP 0 rfl rfl 0 (by decide) (hts _ (List.mem_of_getElem? (i := 1) rfl)) (fun _ h9 => h9) rfl dX8_aside_16 ?_
  refine lv_iconst (v := iI (1)) hx hb dX8_aside_19 rfl ?_
  refine iv_isub hx hb dX8_aside_20 ?_
  refine Ct.callS (As := [.int (iI az), .int (iI 0), .int (iI (mn - 1))]) (rest := []) (wr := [(y, .inr (1, [.int (iI mn), .int (iI cn), .ref me, .ref cs, .ref as_, .ref sr, .ref hi])), (cs, aI (g.2.1 0) 40 fc), (as_, aI (g.2.1 1) 40 fas), (sr, aI (g.2.1 1) 40 fst), (hi, aI (g.2.1 0) 93 fhi), ((d 0), .inr (4, [.ref ad, .ref an, .ref aa])), (ad, aI (g.2.1 0) 3 fd), (an, aI (g.2.1 0) 3 fn), (aa, aI (g.2.1 0) 3 fa), (hd, .inr (8, dF d i)), ((d 3), aQ (g.2.1 3) 12 fle)]) (c1 := 0) (s1 := 0) ⟨hx, hb, hml, hown, hts⟩ (c_X8_within l g az 0 (mn - 1) (by omega)) (va_cwS 3 hts gX8_aside_X8_within rfl rfl rfl (by decide +kernel) ⟨Nat.le_of_ble_eq_true rfl, Nat.le_of_ble_eq_true rfl⟩) hG hP hD hS hA [] [0, 1, 2, 3, 4, 5, 6, 7, 8, 9, 10] rfl rfl (by decide) (by decide) (by decide) rfl hl.1 rfl (Nat.le_of_ble_eq_true rfl) dX8_aside_21 ⟨Nat.le_of_ble_eq_true rfl, Nat.le_of_ble_eq_true rfl⟩ rfl rfl (fun v w H locs hv hP hD hS => ?_)
  obtain ⟨⟨rfl, hb1⟩ | ⟨rfl, hb1⟩, rfl⟩ := hv
  · show W p l e _ s m _ below meth c H locs 0 0 _ (F0 m 24 ls (.int (iI 1) :: []))
    have hb1 : 0 ≤ az ∧ az ≤ (mn - 1) := hb1
    have hP : va_P g.1 vwCl [(y, .inr (1, [.int (iI mn), .int (iI cn), .ref me, .ref cs, .ref as_, .ref sr, .ref hi])), (cs, aI (g.2.1 0) 40 fc), (as_, aI (g.2.1 1) 40 fas), (sr, aI (g.2.1 1) 40 fst), (hi, aI (g.2.1 0) 93 fhi), ((d 0), .inr (4, [.ref ad, .ref an, .ref aa])), (ad, aI (g.2.1 0) 3 fd), (an, aI (g.2.1 0) 3 fn), (aa, aI (g.2.1 0) 3 fa), (hd, .inr (8, dF d i)), ((d 3), aQ (g.2.1 3) 12 fle)] H := hP
    have hD : va_D A [(y, .inr (1, [.int (iI mn), .int (iI cn), .ref me, .ref cs, .ref as_, .ref sr, .ref hi])), (cs, aI (g.2.1 0) 40 fc), (as_, aI (g.2.1 1) 40 fas), (sr, aI (g.2.1 1) 40 fst), (hi, aI (g.2.1 0) 93 fhi), ((d 0), .inr (4, [.ref ad, .ref an, .ref aa])), (ad, aI (g.2.1 0) 3 fd), (an, aI (g.2.1 0) 3 fn), (aa, aI (g.2.1 0) 3 fa), (hd, .inr (8, dF d i)), ((d 3), aQ (g.2.1 3) 12 fle)] := hD
    refine iv_if_ne (tgt := 29) hx hb dX8_aside_24 (by decide) (by decide) (fun _ => ?_) (fun h => absurd h (by decide))
    have hq := h4 az.toNat (by omega)
    refine lv_aload hx hb dX8_aside_29 (lv_at hl 0 rfl) ?_
    refine lv_iload_n hx hb dX8_aside_31 rfl (lv_at hl 3 rfl) ?_
    refine lv_iload_n hx hb dX8_aside_32 rfl (lv_at hl 4 rfl) ?_
    refine lv_aload_n hx hb dX8_aside_33 rfl (lv_at hl 1 rfl) ?_
    refine va_get (D := g.1) (ci := 8) (v := .ref (d 0)) hx hb hts kX8_aside_8 hown hG.1 hP 9 rfl rfl 0 (by decide) (hts _ (List.mem_of_getElem? (i := 2) rfl)) (fun _ h9 => h9) rfl dX8_aside_34 ?_
    refine Ct.callV (ci := 1) (q0 := 0) (qc := (RX1, TX1, 7)) (As := [.int (iI az), .int (iI aw), .ref (d 0)]) (rest := []) (wr := [(hd, .inr (8, dF d i)), ((d 3), aQ (g.2.1 3) 12 fle)]) (c1 := 0) (s1 := 0) ⟨hx, hb, hml, hown, hts⟩ (c_X1_put l g y mn cn me cs as_ sr hi fc fas fst fhi (d 0) ad an aa fd fn fa az aw az.toNat (fc az.toNat) (by omega) (rfl) (hq.1)) rfl rfl (cwV 3 hts gX8_aside_X1_put rfl rfl rfl (by decide +kernel) ⟨Nat.le_of_ble_eq_true rfl, Nat.le_of_ble_eq_true rfl⟩) hG hP hD hS hA [0, 1, 2, 3, 4, 5, 6, 7, 8] [9, 10] rfl rfl (by decide) (by decide) (by decide) rfl hl.1 rfl (Nat.le_of_ble_eq_true rfl) dX8_aside_37 ⟨Nat.le_of_ble_eq_true rfl, Nat.le_of_ble_eq_true rfl⟩ rfl rfl (fun v w H locs hv hP hD hS => ?_)
    obtain ⟨cn3, fas4, fhi5, fd6, fn7, fa8, ⟨rfl, hb12⟩ | ⟨rfl, hb12⟩, rfl, hf9, hf10, hf11⟩ := hv
    · show W p l e _ s m _ below meth c H locs 0 0 _ (F0 m 40 ls (.int (iI 1) :: []))
      have hb12 : fas az.toNat = 1 := hb12
      have hP : va_P g.1 vwCl [(hd, .inr (8, dF d i)), ((d 3), aQ (g.2.1 3) 12 fle), (y, .inr (1, [.int (iI mn), .int (iI cn3), .ref me, .ref cs, .ref as_, .ref sr, .ref hi])), (cs, aI (g.2.1 0) 40 fc), (as_, aI (g.2.1 1) 40 fas4), (sr, aI (g.2.1 1) 40 fst), (hi, aI (g.2.1 0) 93 fhi5), ((d 0), .inr (4, [.ref ad, .ref an, .ref aa])), (ad, aI (g.2.1 0) 3 fd6), (an, aI (g.2.1 0) 3 fn7), (aa, aI (g.2.1 0) 3 fa8)] H := hP
      have hD : va_D A [(hd, .inr (8, dF d i)), ((d 3), aQ (g.2.1 3) 12 fle), (y, .inr (1, [.int (iI mn), .int (iI cn3), .ref me, .ref cs, .ref as_, .ref sr, .ref hi])), (cs, aI (g.2.1 0) 40 fc), (as_, aI (g.2.1 1) 40 fas4), (sr, aI (g.2.1 1) 40 fst), (hi, aI (g.2.1 0) 93 fhi5), ((d 0), .inr (4, [.ref ad, .ref an, .ref aa])), (ad, aI (g.2.1 0) 3 fd6), (an, aI (g.2.1 0) 3 fn7), (aa, aI (g.2.1 0) 3 fa8)] := hD
      have hf9 : fas4 = va_up fas az.toNat aw := hf9
      have hf10 : cn3 = cn + (fas az.toNat - aw) := hf10
      have hE9 := hf11
      refine iv_if_eq (tgt := 47) hx hb dX8_aside_40 (by decide) (by decide) (fun h => absurd h (by decide)) (fun _ => ?_)
      refine lv_iconst (v := iI (1)) hx hb dX8_aside_43 rfl ?_
      refine lv_goto (tgt := 48) hx hb dX8_aside_44 (by decide) ?_
      exact Ct.iret hx hb hr hlocks (hP.sub [0, 1, 2, 3, 4, 5, 6, 7, 8, 9, 10] rfl) (hD.sub [0, 1, 2, 3, 4, 5, 6, 7, 8, 9, 10] (by decide) rfl) hS ⟨by decide, by decide⟩ dX8_aside_48 ⟨1, cn3, fas4, fhi5, fd6, fn7, fa8, rfl, rfl, (Or.inr ⟨by omega, by omega, by omega, by assumption, hE9⟩)⟩
    · show W p l e _ s m _ below meth c H locs 0 0 _ (F0 m 40 ls (.int (iI 0) :: []))
      have hb12 : ¬ (fas az.toNat = 1) := hb12
      have hP : va_P g.1 vwCl [(hd, .inr (8, dF d i)), ((d 3), aQ (g.2.1 3) 12 fle), (y, .inr (1, [.int (iI mn), .int (iI cn3), .ref me, .ref cs, .ref as_, .ref sr, .ref hi])), (cs, aI (g.2.1 0) 40 fc), (as_, aI (g.2.1 1) 40 fas4), (sr, aI (g.2.1 1) 40 fst), (hi, aI (g.2.1 0) 93 fhi5), ((d 0), .inr (4, [.ref ad, .ref an, .ref aa])), (ad, aI (g.2.1 0) 3 fd6), (an, aI (g.2.1 0) 3 fn7), (aa, aI (g.2.1 0) 3 fa8)] H := hP
      have hD : va_D A [(hd, .inr (8, dF d i)), ((d 3), aQ (g.2.1 3) 12 fle), (y, .inr (1, [.int (iI mn), .int (iI cn3), .ref me, .ref cs, .ref as_, .ref sr, .ref hi])), (cs, aI (g.2.1 0) 40 fc), (as_, aI (g.2.1 1) 40 fas4), (sr, aI (g.2.1 1) 40 fst), (hi, aI (g.2.1 0) 93 fhi5), ((d 0), .inr (4, [.ref ad, .ref an, .ref aa])), (ad, aI (g.2.1 0) 3 fd6), (an, aI (g.2.1 0) 3 fn7), (aa, aI (g.2.1 0) 3 fa8)] := hD
      have hf9 : fas4 = va_up fas az.toNat aw := hf9
      have hf10 : cn3 = cn + (fas az.toNat - aw) := hf10
      have hE9 := hf11
      refine iv_if_eq (tgt := 47) hx hb dX8_aside_40 (by decide) (by decide) (fun _ => ?_) (fun h => absurd h (by decide))
      refine lv_iconst (v := iI (0)) hx hb dX8_aside_47 rfl ?_
      exact Ct.iret hx hb hr hlocks (hP.sub [0, 1, 2, 3, 4, 5, 6, 7, 8, 9, 10] rfl) (hD.sub [0, 1, 2, 3, 4, 5, 6, 7, 8, 9, 10] (by decide) rfl) hS ⟨by decide, by decide⟩ dX8_aside_48 ⟨0, cn3, fas4, fhi5, fd6, fn7, fa8, rfl, rfl, (Or.inr ⟨by omega, by omega, by omega, by assumption, hE9⟩)⟩
  · show W p l e _ s m _ below meth c H locs 0 0 _ (F0 m 24 ls (.int (iI 0) :: []))
    have hb1 : ¬ (0 ≤ az ∧ az ≤ (mn - 1)) := hb1
    have hP : va_P g.1 vwCl [(y, .inr (1, [.int (iI mn), .int (iI cn), .ref me, .ref cs, .ref as_, .ref sr, .ref hi])), (cs, aI (g.2.1 0) 40 fc), (as_, aI (g.2.1 1) 40 fas), (sr, aI (g.2.1 1) 40 fst), (hi, aI (g.2.1 0) 93 fhi), ((d 0), .inr (4, [.ref ad, .ref an, .ref aa])), (ad, aI (g.2.1 0) 3 fd), (an, aI (g.2.1 0) 3 fn), (aa, aI (g.2.1 0) 3 fa), (hd, .inr (8, dF d i)), ((d 3), aQ (g.2.1 3) 12 fle)] H := hP
    have hD : va_D A [(y, .inr (1, [.int (iI mn), .int (iI cn), .ref me, .ref cs, .ref as_, .ref sr, .ref hi])), (cs, aI (g.2.1 0) 40 fc), (as_, aI (g.2.1 1) 40 fas), (sr, aI (g.2.1 1) 40 fst), (hi, aI (g.2.1 0) 93 fhi), ((d 0), .inr (4, [.ref ad, .ref an, .ref aa])), (ad, aI (g.2.1 0) 3 fd), (an, aI (g.2.1 0) 3 fn), (aa, aI (g.2.1 0) 3 fa), (hd, .inr (8, dF d i)), ((d 3), aQ (g.2.1 3) 12 fle)] := hD
    refine iv_if_ne (tgt := 29) hx hb dX8_aside_24 (by decide) (by decide) (fun h => absurd h (by decide)) (fun _ => ?_)
    refine lv_iconst (v := iI (-1)) hx hb dX8_aside_27 rfl ?_
    exact Ct.iret hx hb hr hlocks (hP.sub [9, 10, 0, 1, 2, 3, 4, 5, 6, 7, 8] rfl) (hD.sub [9, 10, 0, 1, 2, 3, 4, 5, 6, 7, 8] (by decide) rfl) hS ⟨by decide, by decide⟩ dX8_aside_28 ⟨(-1), cn, fas, fhi, fd, fn, fa, rfl, rfl, (Or.inl ⟨rfl, by omega, rfl, rfl, rfl⟩)⟩
abbrev q_X8_asideB (g : GT) (hd : Nat) (d : Nat → Nat) (i : Nat → Int) (fle : Nat → Option Nat) (x : Int) (az : Int) (aw : Int) : Option Value → va_W → Prop := fun v w => ∃ (r : Int), v = some (.int (iI r)) ∧ w = [(hd, .inr (8, dF d i)), ((d 3), aQ (g.2.1 3) 12 fle)] ∧ (r = -1)
set_option maxHeartbeats 4000000 in
set_option maxRecDepth 100000 in
theorem c_X8_asideB (l : Launch) (g : GT) (hd : Nat) (d : Nat → Nat) (i : Nat → Int) (fle : Nat → Option Nat) (x : Int) (az : Int) (aw : Int) (h1 : ¬ (0 ≤ x ∧ x < i 4) ∧ 0 ≤ i 4 ∧ i 4 ≤ 12 ∧ (-2147483648 ≤ x ∧ x < 2147483648)) : Ct l g yX8_aside wsX8_aside ({ frames := 6, cells := 0, slots := 0, locals := 148 } : Room) [.ref hd, .int (iI x), .int (iI az), .int (iI aw)] [(hd, .inr (8, dF d i)), ((d 3), aQ (g.2.1 3) 12 fle)] (q_X8_asideB g hd d i fle x az aw) := by
  refine Ct.intro (maxL := 5) (ret := (some .int)) (by decide) rfl (Nat.le_of_ble_eq_true rfl) ?_
  intro p e s m below meth c A ls hx hb hr hml hown hts hlocks hnm hA hG hP hD hS hl
  have hown : s.vm.findClass RX8 = some m.cls := hown
  have hl : lv_has ls 5 [(0, .ref hd), (1, .int (iI x)), (2, .int (iI az)), (3, .int (iI aw))] := hl
  have hP : va_P g.1 vwCl [(hd, .inr (8, dF d i)), ((d 3), aQ (g.2.1 3) 12 fle)] s.heap := hP
  have hS : va_S A s.heap s.heap [] := hS
  obtain ⟨H, hHe⟩ : ∃ H : Heap, H = s.heap := ⟨_, rfl⟩
  obtain ⟨locs, hLe⟩ : ∃ L : List Loc, L = [] := ⟨_, rfl⟩
  have hP : va_P g.1 vwCl [(hd, .inr (8, dF d i)), ((d 3), aQ (g.2.1 3) 12 fle)] H := by rw [hHe]; exact hP
  have hS : va_S A s.heap H locs := by rw [hHe, hLe]; exact hS
  suffices hgo : W p l e ({ frames := 6, cells := 0, slots := 0, locals := 148 } : Room) s m [.ref hd, .int (iI x), .int (iI az), .int (iI aw)].toArray below meth c H locs 0 0 (MQ below (CQ g (q_X8_asideB g hd d i fle x az aw) A) [.ref hd, .int (iI x), .int (iI az), .int (iI aw)].toArray s ({ frames := 6, cells := 0, slots := 0, locals := 148 } : Room).cells ({ frames := 6, cells := 0, slots := 0, locals := 148 } : Room).slots A) (F0 m 0 ls []) by rw [hHe, hLe] at hgo; exact hgo
  clear hHe hLe
  refine lv_aload_n hx hb dX8_aside_0 rfl (lv_at hl 0 rfl) ?_
  refine lv_iload_n hx hb dX8_aside_1 rfl (lv_at hl 1 rfl) ?_
  refine Ct.callV (ci := 8) (q0 := 0) (qc := (RX8, TX8, 13)) (As := [.int (iI x)]) (rest := []) (wr := []) (c1 := 0) (s1 := 0) ⟨hx, hb, hml, hown, hts⟩ (c_X8_learnerAtB l g hd d i fle x (by omega)) rfl rfl (cwV 1 hts gX8_aside_X8_learnerAt rfl rfl rfl (by decide +kernel) ⟨Nat.le_of_ble_eq_true rfl, Nat.le_of_ble_eq_true rfl⟩) hG hP hD hS hA [0, 1] [] rfl rfl (by decide) (by decide) (by decide) rfl hl.1 rfl (Nat.le_of_ble_eq_true rfl) dX8_aside_2 ⟨Nat.le_of_ble_eq_true rfl, Nat.le_of_ble_eq_true rfl⟩ rfl rfl (fun v w H locs hv hP hD hS => ?_)
  obtain ⟨rfl, rfl⟩ := hv
  show W p l e _ s m _ below meth c H locs 0 0 _ (F0 m 5 ls (.null :: []))
  have hP : va_P g.1 vwCl [(hd, .inr (8, dF d i)), ((d 3), aQ (g.2.1 3) 12 fle)] H := hP
  have hD : va_D A [(hd, .inr (8, dF d i)), ((d 3), aQ (g.2.1 3) 12 fle)] := hD
  refine lv_astoreN (lv' := [(4, .null), (0, .ref hd), (1, .int (iI x)), (2, .int (iI az)), (3, .int (iI aw))]) hx hb dX8_aside_5 hl (by decide) rfl (fun ls hl => ?_)
  refine lv_aloadN hx hb dX8_aside_7 (lv_at hl 0 rfl) ?_
  refine lv_ifnullN (tgt := 27) hx hb dX8_aside_9 (by decide) ?_
  refine lv_iconst (v := iI (-1)) hx hb dX8_aside_27 rfl ?_
  exact Ct.iret hx hb hr hlocks (hP.sub [0, 1] rfl) (hD.sub [0, 1] (by decide) rfl) hS ⟨by decide, by decide⟩ dX8_aside_28 ⟨(-1), rfl, rfl, (by omega)⟩
