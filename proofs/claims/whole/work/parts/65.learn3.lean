theorem kX1_pointsAt_1 : ∀ w ∈ u_ws RX1 TX1 7, w ∈ wsX1_pointsAt := fun _ h => List.mem_cons_of_mem _ (List.mem_append_right _ h)
abbrev q_X1_pointsAt (g : GT) (y : Nat) (mn : Int) (cn : Int) (me : Nat) (cs : Nat) (as_ : Nat) (sr : Nat) (hi : Nat) (fhi : Nat → Int) (mk : Nat) (fmk : Nat → Int) (pz : Int) (p_ : Nat) : Option Value → va_W → Prop := fun v w => v = some (.int (iI (pts fhi cn fmk p_))) ∧ w = [(y, .inr (1, [.int (iI mn), .int (iI cn), .ref me, .ref cs, .ref as_, .ref sr, .ref hi])), (hi, aI (g.2.1 0) 93 fhi), (mk, aI (g.2.1 0) 5 fmk)]
set_option maxHeartbeats 4000000 in
set_option maxRecDepth 100000 in
theorem c_X1_pointsAt (l : Launch) (g : GT) (y : Nat) (mn : Int) (cn : Int) (me : Nat) (cs : Nat) (as_ : Nat) (sr : Nat) (hi : Nat) (fhi : Nat → Int) (mk : Nat) (fmk : Nat → Int) (pz : Int) (p_ : Nat) (h1 : pz = (p_ : Int) ∧ p_ < 93) : Ct l g yX1_pointsAt wsX1_pointsAt ({ frames := 1, cells := 0, slots := 0, locals := 20 } : Room) [.ref y, .int (iI pz), .ref mk] [(y, .inr (1, [.int (iI mn), .int (iI cn), .ref me, .ref cs, .ref as_, .ref sr, .ref hi])), (hi, aI (g.2.1 0) 93 fhi), (mk, aI (g.2.1 0) 5 fmk)] (q_X1_pointsAt g y mn cn me cs as_ sr hi fhi mk fmk pz p_) := by
  refine Ct.intro (maxL := 4) (ret := (some .int)) (by decide) rfl (Nat.le_of_ble_eq_true rfl) ?_
  intro p e s m below meth c A ls hx hb hr hml hown hts hlocks hnm hA hG hP hD hS hl
  have hown : s.vm.findClass RX1 = some m.cls := hown
  have hl : lv_has ls 4 [(0, .ref y), (1, .int (iI pz)), (2, .ref mk)] := hl
  have hP : va_P g.1 vwCl [(y, .inr (1, [.int (iI mn), .int (iI cn), .ref me, .ref cs, .ref as_, .ref sr, .ref hi])), (hi, aI (g.2.1 0) 93 fhi), (mk, aI (g.2.1 0) 5 fmk)] s.heap := hP
  have hS : va_S A s.heap s.heap [] := hS
  obtain ⟨H, hHe⟩ : ∃ H : Heap, H = s.heap := ⟨_, rfl⟩
  obtain ⟨locs, hLe⟩ : ∃ L : List Loc, L = [] := ⟨_, rfl⟩
  have hP : va_P g.1 vwCl [(y, .inr (1, [.int (iI mn), .int (iI cn), .ref me, .ref cs, .ref as_, .ref sr, .ref hi])), (hi, aI (g.2.1 0) 93 fhi), (mk, aI (g.2.1 0) 5 fmk)] H := by rw [hHe]; exact hP
  have hS : va_S A s.heap H locs := by rw [hHe, hLe]; exact hS
  suffices hgo : W p l e ({ frames := 1, cells := 0, slots := 0, locals := 20 } : Room) s m [.ref y, .int (iI pz), .ref mk].toArray below meth c H locs 0 0 (MQ below (CQ g (q_X1_pointsAt g y mn cn me cs as_ sr hi fhi mk fmk pz p_) A) [.ref y, .int (iI pz), .ref mk].toArray s ({ frames := 1, cells := 0, slots := 0, locals := 20 } : Room).cells ({ frames := 1, cells := 0, slots := 0, locals := 20 } : Room).slots A) (F0 m 0 ls []) by rw [hHe, hLe] at hgo; exact hgo
  clear hHe hLe
  refine lv_aload_n hx hb dX1_pointsAt_0 rfl (lv_at hl 0 rfl) ?_
  refine va_get (D := g.1) (ci := 1) (v := .ref hi) hx hb hts kX1_pointsAt_1 hown hG.1 hP 0 rfl rfl 6 (by decide) (hts _ (List.mem_of_getElem? (i := 1) rfl)) (fun _ h9 => h9) rfl dX1_pointsAt_1 ?_
  refine lv_iload_n hx hb dX1_pointsAt_4 rfl (lv_at hl 1 rfl) ?_
  refine iv_iald hx hb hG hP 1 rfl p_ (by omega) (by omega) (by decide) dX1_pointsAt_5 ?_
  refine lv_istore_n (lv' := [(3, .int (iI (fhi p_))), (0, .ref y), (1, .int (iI pz)), (2, .ref mk)]) hx hb dX1_pointsAt_6 rfl hl (by decide) rfl (fun ls hl => ?_)
  refine lv_iload_n hx hb dX1_pointsAt_7 rfl (lv_at hl 0 rfl) ?_
  refine lv_aload_n hx hb dX1_pointsAt_8 rfl (lv_at hl 3 rfl) ?_
  refine lv_iconst (v := iI (0)) hx hb dX1_pointsAt_9 rfl ?_
  refine iv_iald hx hb hG hP 2 rfl 0 (rfl) (by decide) (by decide) dX1_pointsAt_10 ?_
  refine iv_imul hx hb dX1_pointsAt_11 ?_
  refine lv_aload_n hx hb dX1_pointsAt_12 rfl (lv_at hl 1 rfl) ?_
  refine va_get (D := g.1) (ci := 1) (v := .int (iI cn)) hx hb hts kX1_pointsAt_1 hown hG.1 hP 0 rfl rfl 1 (by decide) (hts _ (List.mem_of_getElem? (i := 2) rfl)) (fun _ h9 => h9) rfl dX1_pointsAt_13 ?_
  refine lv_iload_n hx hb dX1_pointsAt_16 rfl (lv_at hl 0 rfl) ?_
  refine iv_isub hx hb dX1_pointsAt_17 ?_
  refine lv_aload_n hx hb dX1_pointsAt_18 rfl (lv_at hl 3 rfl) ?_
  refine lv_iconst (v := iI (1)) hx hb dX1_pointsAt_19 rfl ?_
  refine iv_iald hx hb hG hP 2 rfl 1 (rfl) (by decide) (by decide) dX1_pointsAt_20 ?_
  refine iv_imul hx hb dX1_pointsAt_21 ?_
  refine iv_isub hx hb dX1_pointsAt_22 ?_
  refine va_getsN hx hb hG.2.2.1.1 hS hown (va_Nw.use rfl hG.2.1.2.1) (fun _ h9 => h9) dX1_pointsAt_23 ?_
  refine lv_iload_n hx hb dX1_pointsAt_26 rfl (lv_at hl 2 rfl) ?_
  refine iv_tld hx hb hG.2.2.1 hS p_ (by omega) (by omega) (by decide) dX1_pointsAt_27 ?_
  have ho := oT_rng p_ (by omega)
  refine Ct.callS (As := [.int (iI (oT p_))]) (rest := [.int (iI (((fhi p_) * (fmk 0)) - ((cn - (fhi p_)) * (fmk 1))))]) (wr := [(y, .inr (1, [.int (iI mn), .int (iI cn), .ref me, .ref cs, .ref as_, .ref sr, .ref hi])), (hi, aI (g.2.1 0) 93 fhi), (mk, aI (g.2.1 0) 5 fmk)]) (c1 := 0) (s1 := 0) ⟨hx, hb, hml, hown, hts⟩ (c_bitCount l g (oT p_) (by omega)) (va_cwS 1 hts gX1_pointsAt_J6_bitCount_0f7a4 rfl rfl rfl (by decide +kernel) ⟨Nat.le_of_ble_eq_true rfl, Nat.le_of_ble_eq_true rfl⟩) hG hP hD hS hA [] [0, 1, 2] rfl rfl (by decide) (by decide) (by decide) rfl hl.1 rfl (Nat.le_of_ble_eq_true rfl) dX1_pointsAt_28 ⟨Nat.le_of_ble_eq_true rfl, Nat.le_of_ble_eq_true rfl⟩ rfl rfl (fun v w H locs hv hP hD hS => ?_)
  obtain ⟨rfl, rfl⟩ := hv
  show W p l e _ s m _ below meth c H locs 0 0 _ (F0 m 31 ls (.int (iI (szB (oT p_) 12)) :: [.int (iI (((fhi p_) * (fmk 0)) - ((cn - (fhi p_)) * (fmk 1))))]))
  have hP : va_P g.1 vwCl [(y, .inr (1, [.int (iI mn), .int (iI cn), .ref me, .ref cs, .ref as_, .ref sr, .ref hi])), (hi, aI (g.2.1 0) 93 fhi), (mk, aI (g.2.1 0) 5 fmk)] H := hP
  have hD : va_D A [(y, .inr (1, [.int (iI mn), .int (iI cn), .ref me, .ref cs, .ref as_, .ref sr, .ref hi])), (hi, aI (g.2.1 0) 93 fhi), (mk, aI (g.2.1 0) 5 fmk)] := hD
  refine lv_aload_n hx hb dX1_pointsAt_31 rfl (lv_at hl 3 rfl) ?_
  refine lv_iconst (v := iI (2)) hx hb dX1_pointsAt_32 rfl ?_
  refine iv_iald hx hb hG hP 2 rfl 2 (rfl) (by decide) (by decide) dX1_pointsAt_33 ?_
  refine iv_imul hx hb dX1_pointsAt_34 ?_
  refine iv_isub hx hb dX1_pointsAt_35 ?_
  exact Ct.iret hx hb hr hlocks (hP.sub [0, 1, 2] rfl) (hD.sub [0, 1, 2] (by decide) rfl) hS ⟨by decide, by decide⟩ dX1_pointsAt_36 ⟨rfl, rfl⟩
abbrev q_X1_bestPlace (g : GT) (y : Nat) (mn : Int) (cn : Int) (me : Nat) (cs : Nat) (as_ : Nat) (sr : Nat) (hi : Nat) (fhi : Nat → Int) (mk : Nat) (fmk : Nat → Int) : Option Value → va_W → Prop := fun v w => v = some (.int (iI ((bpF (pts fhi cn fmk) 92 1 0 : Nat) : Int))) ∧ w = [(y, .inr (1, [.int (iI mn), .int (iI cn), .ref me, .ref cs, .ref as_, .ref sr, .ref hi])), (hi, aI (g.2.1 0) 93 fhi), (mk, aI (g.2.1 0) 5 fmk)]
set_option maxHeartbeats 4000000 in
set_option maxRecDepth 100000 in
theorem c_X1_bestPlace (l : Launch) (g : GT) (y : Nat) (mn : Int) (cn : Int) (me : Nat) (cs : Nat) (as_ : Nat) (sr : Nat) (hi : Nat) (fhi : Nat → Int) (mk : Nat) (fmk : Nat → Int) (hh : ∀ p, p < 93 → 0 ≤ fhi p ∧ fhi p ≤ cn ∧ cn ≤ 40) (hmk : ∀ j, j < 3 → 0 ≤ fmk j ∧ fmk j ≤ 99) : Ct l g yX1_bestPlace wsX1_bestPlace ({ frames := 2, cells := 0, slots := 0, locals := 43 } : Room) [.ref y, .ref mk] [(y, .inr (1, [.int (iI mn), .int (iI cn), .ref me, .ref cs, .ref as_, .ref sr, .ref hi])), (hi, aI (g.2.1 0) 93 fhi), (mk, aI (g.2.1 0) 5 fmk)] (q_X1_bestPlace g y mn cn me cs as_ sr hi fhi mk fmk) := by
  refine Ct.intro (maxL := 6) (ret := (some .int)) (by decide) rfl (Nat.le_of_ble_eq_true rfl) ?_
  intro p e s m below meth c A ls hx hb hr hml hown hts hlocks hnm hA hG hP hD hS hl
  have hown : s.vm.findClass RX1 = some m.cls := hown
  have hl : lv_has ls 6 [(0, .ref y), (1, .ref mk)] := hl
  have hP : va_P g.1 vwCl [(y, .inr (1, [.int (iI mn), .int (iI cn), .ref me, .ref cs, .ref as_, .ref sr, .ref hi])), (hi, aI (g.2.1 0) 93 fhi), (mk, aI (g.2.1 0) 5 fmk)] s.heap := hP
  have hS : va_S A s.heap s.heap [] := hS
  have hpr := fun p hp => pts_rng (fh := fhi) (mk := fmk) (cn := cn) (p := p) (hh p hp) hmk
  have hp0 := hpr 0 (by omega)
  obtain ⟨H, hHe⟩ : ∃ H : Heap, H = s.heap := ⟨_, rfl⟩
  obtain ⟨locs, hLe⟩ : ∃ L : List Loc, L = [] := ⟨_, rfl⟩
  have hP : va_P g.1 vwCl [(y, .inr (1, [.int (iI mn), .int (iI cn), .ref me, .ref cs, .ref as_, .ref sr, .ref hi])), (hi, aI (g.2.1 0) 93 fhi), (mk, aI (g.2.1 0) 5 fmk)] H := by rw [hHe]; exact hP
  have hS : va_S A s.heap H locs := by rw [hHe, hLe]; exact hS
  suffices hgo : W p l e ({ frames := 2, cells := 0, slots := 0, locals := 43 } : Room) s m [.ref y, .ref mk].toArray below meth c H locs 0 0 (MQ below (CQ g (q_X1_bestPlace g y mn cn me cs as_ sr hi fhi mk fmk) A) [.ref y, .ref mk].toArray s ({ frames := 2, cells := 0, slots := 0, locals := 43 } : Room).cells ({ frames := 2, cells := 0, slots := 0, locals := 43 } : Room).slots A) (F0 m 0 ls []) by rw [hHe, hLe] at hgo; exact hgo
  clear hHe hLe
  refine lv_iconst (v := iI (0)) hx hb dX1_bestPlace_0 rfl ?_
  refine lv_istore_n (lv' := [(2, .int (iI 0)), (0, .ref y), (1, .ref mk)]) hx hb dX1_bestPlace_1 rfl hl (by decide) rfl (fun ls hl => ?_)
  refine lv_aload_n hx hb dX1_bestPlace_2 rfl (lv_at hl 1 rfl) ?_
  refine lv_iconst (v := iI (0)) hx hb dX1_bestPlace_3 rfl ?_
  refine lv_aload_n hx hb dX1_bestPlace_4 rfl (lv_at hl 2 rfl) ?_
  refine Ct.callV (ci := 1) (q0 := 0) (qc := (RX1, TX1, 7)) (As := [.int (iI 0), .ref mk]) (rest := []) (wr := []) (c1 := 0) (s1 := 0) ⟨hx, hb, hml, hown, hts⟩ (c_X1_pointsAt l g y mn cn me cs as_ sr hi fhi mk fmk 0 0 (by omega)) rfl rfl (cwV 2 hts gX1_bestPlace_X1_pointsAt rfl rfl rfl (by decide +kernel) ⟨Nat.le_of_ble_eq_true rfl, Nat.le_of_ble_eq_true rfl⟩) hG hP hD hS hA [0, 1, 2] [] rfl rfl (by decide) (by decide) (by decide) rfl hl.1 rfl (Nat.le_of_ble_eq_true rfl) dX1_bestPlace_5 ⟨Nat.le_of_ble_eq_true rfl, Nat.le_of_ble_eq_true rfl⟩ rfl rfl (fun v w H locs hv hP hD hS => ?_)
  obtain ⟨rfl, rfl⟩ := hv
  show W p l e _ s m _ below meth c H locs 0 0 _ (F0 m 8 ls (.int (iI (pts fhi cn fmk 0)) :: []))
  have hP : va_P g.1 vwCl [(y, .inr (1, [.int (iI mn), .int (iI cn), .ref me, .ref cs, .ref as_, .ref sr, .ref hi])), (hi, aI (g.2.1 0) 93 fhi), (mk, aI (g.2.1 0) 5 fmk)] H := hP
  have hD : va_D A [(y, .inr (1, [.int (iI mn), .int (iI cn), .ref me, .ref cs, .ref as_, .ref sr, .ref hi])), (hi, aI (g.2.1 0) 93 fhi), (mk, aI (g.2.1 0) 5 fmk)] := hD
  refine lv_istore_n (lv' := [(3, .int (iI (pts fhi cn fmk 0))), (2, .int (iI 0)), (0, .ref y), (1, .ref mk)]) hx hb dX1_bestPlace_8 rfl hl (by decide) rfl (fun ls hl => ?_)
  refine lv_iconst (v := iI (1)) hx hb dX1_bestPlace_9 rfl ?_
  refine lv_istore (lv' := [(4, .int (iI 1)), (3, .int (iI (pts fhi cn fmk 0))), (2, .int (iI 0)), (0, .ref y), (1, .ref mk)]) hx hb dX1_bestPlace_10 hl (by decide) rfl (fun ls hl => ?_)
  have hloop12 : ∀ (fuel : Nat) (bs : Int) (ms : Int) (zp : Int) (pp : Nat) (hc : zp = (pp : Int) ∧ 1 ≤ pp ∧ pp ≤ 93 ∧ 0 ≤ bs ∧ bs < 93) (hm : ms = (pts fhi cn fmk) bs.toNat) (hB : bpF (pts fhi cn fmk) (93 - pp) pp bs.toNat = bpF (pts fhi cn fmk) 92 1 0) (hmeas : 93 - pp < fuel), ∀ (H : Heap) (locs : List Loc) (ls : Array Slot), va_P g.1 vwCl [(y, .inr (1, [.int (iI mn), .int (iI cn), .ref me, .ref cs, .ref as_, .ref sr, .ref hi])), (hi, aI (g.2.1 0) 93 fhi), (mk, aI (g.2.1 0) 5 fmk)] H → va_D A [(y, .inr (1, [.int (iI mn), .int (iI cn), .ref me, .ref cs, .ref as_, .ref sr, .ref hi])), (hi, aI (g.2.1 0) 93 fhi), (mk, aI (g.2.1 0) 5 fmk)] → va_S A s.heap H locs → lv_has ls 6 [(4, .int (iI zp)), (3, .int (iI ms)), (2, .int (iI bs)), (0, .ref y), (1, .ref mk)] → W p l e ({ frames := 2, cells := 0, slots := 0, locals := 43 } : Room) s m [.ref y, .ref mk].toArray below meth c H locs 0 0 (MQ below (CQ g (q_X1_bestPlace g y mn cn me cs as_ sr hi fhi mk fmk) A) [.ref y, .ref mk].toArray s ({ frames := 2, cells := 0, slots := 0, locals := 43 } : Room).cells ({ frames := 2, cells := 0, slots := 0, locals := 43 } : Room).slots A) (F0 m 12 ls []) := by
    intro fuel
    induction fuel with
    | zero => intro bs ms zp pp hc hm hB hmeas; exact absurd hmeas (Nat.not_lt_zero _)
    | succ fuel ih12 =>
      intro bs ms zp pp hc hm hB hmeas H locs ls hP hD hS hl
      refine lv_iload hx hb dX1_bestPlace_12 (lv_at hl 0 rfl) ?_
      refine va_getsN hx hb hG.2.2.1.1 hS hown (va_Nw.use rfl hG.2.1.2.1) (fun _ h9 => h9) dX1_bestPlace_14 ?_
      refine iv_tlen hx hb hG.2.2.1 hS dX1_bestPlace_17 ?_
      refine iv_as 93 rfl ?_
      refine iv_icmp_ge (tgt := 48) hx hb dX1_bestPlace_18 (by decide) (by omega) (fun hc1 => ?_) (fun hc1 => ?_)
      · refine lv_iload_n hx hb dX1_bestPlace_48 rfl (lv_at hl 2 rfl) ?_
        exact Ct.iret hx hb hr hlocks (hP.sub [0, 1, 2] rfl) (hD.sub [0, 1, 2] (by decide) rfl) hS ⟨by decide, by decide⟩ dX1_bestPlace_49 ⟨(by rw [← hB, show 93 - pp = 0 from by omega]; show _ = some (Value.int (iI ((bs.toNat : Nat) : Int))); rw [show ((bs.toNat : Nat) : Int) = bs from by omega]), rfl⟩
      · have hpp := hpr pp (by omega)
        have hpb := hpr bs.toNat (by omega)
        refine lv_aload_n hx hb dX1_bestPlace_21 rfl (lv_at hl 3 rfl) ?_
        refine lv_iload hx hb dX1_bestPlace_22 (lv_at hl 0 rfl) ?_
        refine lv_aload_n hx hb dX1_bestPlace_24 rfl (lv_at hl 4 rfl) ?_
        refine Ct.callV (ci := 1) (q0 := 0) (qc := (RX1, TX1, 7)) (As := [.int (iI zp), .ref mk]) (rest := []) (wr := []) (c1 := 0) (s1 := 0) ⟨hx, hb, hml, hown, hts⟩ (c_X1_pointsAt l g y mn cn me cs as_ sr hi fhi mk fmk zp pp (by omega)) rfl rfl (cwV 2 hts gX1_bestPlace_X1_pointsAt rfl rfl rfl (by decide +kernel) ⟨Nat.le_of_ble_eq_true rfl, Nat.le_of_ble_eq_true rfl⟩) hG hP hD hS hA [0, 1, 2] [] rfl rfl (by decide) (by decide) (by decide) rfl hl.1 rfl (Nat.le_of_ble_eq_true rfl) dX1_bestPlace_25 ⟨Nat.le_of_ble_eq_true rfl, Nat.le_of_ble_eq_true rfl⟩ rfl rfl (fun v w H locs hv hP hD hS => ?_)
        obtain ⟨rfl, rfl⟩ := hv
        show W p l e _ s m _ below meth c H locs 0 0 _ (F0 m 28 ls (.int (iI (pts fhi cn fmk pp)) :: []))
        have hP : va_P g.1 vwCl [(y, .inr (1, [.int (iI mn), .int (iI cn), .ref me, .ref cs, .ref as_, .ref sr, .ref hi])), (hi, aI (g.2.1 0) 93 fhi), (mk, aI (g.2.1 0) 5 fmk)] H := hP
        have hD : va_D A [(y, .inr (1, [.int (iI mn), .int (iI cn), .ref me, .ref cs, .ref as_, .ref sr, .ref hi])), (hi, aI (g.2.1 0) 93 fhi), (mk, aI (g.2.1 0) 5 fmk)] := hD
        refine lv_istore (lv' := [(5, .int (iI (pts fhi cn fmk pp))), (4, .int (iI zp)), (3, .int (iI ms)), (2, .int (iI bs)), (0, .ref y), (1, .ref mk)]) hx hb dX1_bestPlace_28 hl (by decide) rfl (fun ls hl => ?_)
        refine lv_iload hx hb dX1_bestPlace_30 (lv_at hl 0 rfl) ?_
        refine lv_iload_n hx hb dX1_bestPlace_32 rfl (lv_at hl 2 rfl) ?_
        refine iv_icmp_le (tgt := 42) hx hb dX1_bestPlace_33 (by decide) (by omega) (fun hc2 => ?_) (fun hc2 => ?_)
        · refine iv_iinc (k := 1) (x := zp) (lv' := [(4, .int (iI (zp + 1))), (5, .int (iI (pts fhi cn fmk pp))), (3, .int (iI ms)), (2, .int (iI bs)), (0, .ref y), (1, .ref mk)]) hx hb dX1_bestPlace_42 hl rfl (by decide) rfl (fun ls hl => ?_)
          refine lv_goto (tgt := 12) hx hb dX1_bestPlace_45 (by decide) ?_
          exact ih12 bs ms (zp + 1) (pp + 1) (by omega) (by first | exact hm | rw [show zp.toNat = pp from by omega]) (by rw [← hB, show 93 - pp = (93 - (pp + 1)) + 1 from by omega]; simp only [bpF]; first | (rw [if_neg (by omega)]) | (rw [if_pos (by omega), show zp.toNat = pp from by omega])) (by omega) H locs ls (hP.sub [0, 1, 2] rfl) (hD.sub [0, 1, 2] (by decide) rfl) hS (lv_sub hl [0, 2, 3, 4, 5] rfl)
        · refine lv_iload hx hb dX1_bestPlace_36 (lv_at hl 0 rfl) ?_
          refine lv_istore_n (lv' := [(3, .int (iI (pts fhi cn fmk pp))), (5, .int (iI (pts fhi cn fmk pp))), (4, .int (iI zp)), (2, .int (iI bs)), (0, .ref y), (1, .ref mk)]) hx hb dX1_bestPlace_38 rfl hl (by decide) rfl (fun ls hl => ?_)
          refine lv_iload hx hb dX1_bestPlace_39 (lv_at hl 2 rfl) ?_
          refine lv_istore_n (lv' := [(2, .int (iI zp)), (3, .int (iI (pts fhi cn fmk pp))), (5, .int (iI (pts fhi cn fmk pp))), (4, .int (iI zp)), (0, .ref y), (1, .ref mk)]) hx hb dX1_bestPlace_41 rfl hl (by decide) rfl (fun ls hl => ?_)
          refine iv_iinc (k := 3) (x := zp) (lv' := [(4, .int (iI (zp + 1))), (2, .int (iI zp)), (3, .int (iI (pts fhi cn fmk pp))), (5, .int (iI (pts fhi cn fmk pp))), (0, .ref y), (1, .ref mk)]) hx hb dX1_bestPlace_42 hl rfl (by decide) rfl (fun ls hl => ?_)
          refine lv_goto (tgt := 12) hx hb dX1_bestPlace_45 (by decide) ?_
          exact ih12 zp (pts fhi cn fmk pp) (zp + 1) (pp + 1) (by omega) (by first | exact hm | rw [show zp.toNat = pp from by omega]) (by rw [← hB, show 93 - pp = (93 - (pp + 1)) + 1 from by omega]; simp only [bpF]; first | (rw [if_neg (by omega)]) | (rw [if_pos (by omega), show zp.toNat = pp from by omega])) (by omega) H locs ls (hP.sub [0, 1, 2] rfl) (hD.sub [0, 1, 2] (by decide) rfl) hS (lv_sub hl [0, 2, 1, 4, 5] rfl)
  exact hloop12 _ 0 (pts fhi cn fmk 0) 1 1 (by omega) (rfl) (rfl) (Nat.lt_succ_self _) H locs ls (hP.sub [0, 1, 2] rfl) (hD.sub [0, 1, 2] (by decide) rfl) hS (lv_sub hl [0, 1, 2, 3, 4] rfl)
abbrev q_X1_leadOf (g : GT) (y : Nat) (mn : Int) (cn : Int) (me : Nat) (cs : Nat) (as_ : Nat) (sr : Nat) (hi : Nat) (fhi : Nat → Int) (mk : Nat) (fmk : Nat → Int) (bz : Int) (be : Nat) : Option Value → va_W → Prop := fun v w => v = some (.int (iI (ldR (pts fhi cn fmk) be))) ∧ w = [(y, .inr (1, [.int (iI mn), .int (iI cn), .ref me, .ref cs, .ref as_, .ref sr, .ref hi])), (hi, aI (g.2.1 0) 93 fhi), (mk, aI (g.2.1 0) 5 fmk)]
set_option maxHeartbeats 4000000 in
set_option maxRecDepth 100000 in
theorem c_X1_leadOf (l : Launch) (g : GT) (y : Nat) (mn : Int) (cn : Int) (me : Nat) (cs : Nat) (as_ : Nat) (sr : Nat) (hi : Nat) (fhi : Nat → Int) (mk : Nat) (fmk : Nat → Int) (bz : Int) (be : Nat) (h1 : bz = (be : Int) ∧ be < 93) (hh : ∀ p, p < 93 → 0 ≤ fhi p ∧ fhi p ≤ cn ∧ cn ≤ 40) (hmk : ∀ j, j < 3 → 0 ≤ fmk j ∧ fmk j ≤ 99) : Ct l g yX1_leadOf wsX1_leadOf ({ frames := 2, cells := 0, slots := 0, locals := 43 } : Room) [.ref y, .int (iI bz), .ref mk] [(y, .inr (1, [.int (iI mn), .int (iI cn), .ref me, .ref cs, .ref as_, .ref sr, .ref hi])), (hi, aI (g.2.1 0) 93 fhi), (mk, aI (g.2.1 0) 5 fmk)] (q_X1_leadOf g y mn cn me cs as_ sr hi fhi mk fmk bz be) := by
  refine Ct.intro (maxL := 5) (ret := (some .int)) (by decide) rfl (Nat.le_of_ble_eq_true rfl) ?_
  intro p e s m below meth c A ls hx hb hr hml hown hts hlocks hnm hA hG hP hD hS hl
  have hown : s.vm.findClass RX1 = some m.cls := hown
  have hl : lv_has ls 5 [(0, .ref y), (1, .int (iI bz)), (2, .ref mk)] := hl
  have hP : va_P g.1 vwCl [(y, .inr (1, [.int (iI mn), .int (iI cn), .ref me, .ref cs, .ref as_, .ref sr, .ref hi])), (hi, aI (g.2.1 0) 93 fhi), (mk, aI (g.2.1 0) 5 fmk)] s.heap := hP
  have hS : va_S A s.heap s.heap [] := hS
  have hpr := fun p hp => pts_rng (fh := fhi) (mk := fmk) (cn := cn) (p := p) (hh p hp) hmk
  obtain ⟨H, hHe⟩ : ∃ H : Heap, H = s.heap := ⟨_, rfl⟩
  obtain ⟨locs, hLe⟩ : ∃ L : List Loc, L = [] := ⟨_, rfl⟩
  have hP : va_P g.1 vwCl [(y, .inr (1, [.int (iI mn), .int (iI cn), .ref me, .ref cs, .ref as_, .ref sr, .ref hi])), (hi, aI (g.2.1 0) 93 fhi), (mk, aI (g.2.1 0) 5 fmk)] H := by rw [hHe]; exact hP
  have hS : va_S A s.heap H locs := by rw [hHe, hLe]; exact hS
  suffices hgo : W p l e ({ frames := 2, cells := 0, slots := 0, locals := 43 } : Room) s m [.ref y, .int (iI bz), .ref mk].toArray below meth c H locs 0 0 (MQ below (CQ g (q_X1_leadOf g y mn cn me cs as_ sr hi fhi mk fmk bz be) A) [.ref y, .int (iI bz), .ref mk].toArray s ({ frames := 2, cells := 0, slots := 0, locals := 43 } : Room).cells ({ frames := 2, cells := 0, slots := 0, locals := 43 } : Room).slots A) (F0 m 0 ls []) by rw [hHe, hLe] at hgo; exact hgo
  clear hHe hLe
  have hjoin10 : ∀ (z0 : Int) (hz0 : z0 = (((if be = 0 then 1 else 0) : Nat) : Int)), ∀ (H : Heap) (locs : List Loc) (ls : Array Slot), va_P g.1 vwCl [(y, .inr (1, [.int (iI mn), .int (iI cn), .ref me, .ref cs, .ref as_, .ref sr, .ref hi])), (hi, aI (g.2.1 0) 93 fhi), (mk, aI (g.2.1 0) 5 fmk)] H → va_D A [(y, .inr (1, [.int (iI mn), .int (iI cn), .ref me, .ref cs, .ref as_, .ref sr, .ref hi])), (hi, aI (g.2.1 0) 93 fhi), (mk, aI (g.2.1 0) 5 fmk)] → va_S A s.heap H locs → lv_has ls 5 [(0, .ref y), (1, .int (iI bz)), (2, .ref mk)] → W p l e ({ frames := 2, cells := 0, slots := 0, locals := 43 } : Room) s m [.ref y, .int (iI bz), .ref mk].toArray below meth c H locs 0 0 (MQ below (CQ g (q_X1_leadOf g y mn cn me cs as_ sr hi fhi mk fmk bz be) A) [.ref y, .int (iI bz), .ref mk].toArray s ({ frames := 2, cells := 0, slots := 0, locals := 43 } : Room).cells ({ frames := 2, cells := 0, slots := 0, locals := 43 } : Room).slots A) (F0 m 10 ls [.int (iI z0), .ref y]) := by
    intro z0 hz0 H locs ls hP hD hS hl
    refine lv_aload_n hx hb dX1_leadOf_10 rfl (lv_at hl 2 rfl) ?_
    refine Ct.callV (ci := 1) (q0 := 0) (qc := (RX1, TX1, 7)) (As := [.int (iI z0), .ref mk]) (rest := []) (wr := []) (c1 := 0) (s1 := 0) ⟨hx, hb, hml, hown, hts⟩ (c_X1_pointsAt l g y mn cn me cs as_ sr hi fhi mk fmk z0 (if be = 0 then 1 else 0) (⟨hz0, by split <;> omega⟩)) rfl rfl (cwV 2 hts gX1_leadOf_X1_pointsAt rfl rfl rfl (by decide +kernel) ⟨Nat.le_of_ble_eq_true rfl, Nat.le_of_ble_eq_true rfl⟩) hG hP hD hS hA [0, 1, 2] [] rfl rfl (by decide) (by decide) (by decide) rfl hl.1 rfl (Nat.le_of_ble_eq_true rfl) dX1_leadOf_11 ⟨Nat.le_of_ble_eq_true rfl, Nat.le_of_ble_eq_true rfl⟩ rfl rfl (fun v w H locs hv hP hD hS => ?_)
    obtain ⟨rfl, rfl⟩ := hv
    show W p l e _ s m _ below meth c H locs 0 0 _ (F0 m 14 ls (.int (iI (pts fhi cn fmk (if be = 0 then 1 else 0))) :: []))
    have hP : va_P g.1 vwCl [(y, .inr (1, [.int (iI mn), .int (iI cn), .ref me, .ref cs, .ref as_, .ref sr, .ref hi])), (hi, aI (g.2.1 0) 93 fhi), (mk, aI (g.2.1 0) 5 fmk)] H := hP
    have hD : va_D A [(y, .inr (1, [.int (iI mn), .int (iI cn), .ref me, .ref cs, .ref as_, .ref sr, .ref hi])), (hi, aI (g.2.1 0) 93 fhi), (mk, aI (g.2.1 0) 5 fmk)] := hD
    refine lv_istore_n (lv' := [(3, .int (iI (pts fhi cn fmk (if be = 0 then 1 else 0)))), (0, .ref y), (1, .int (iI bz)), (2, .ref mk)]) hx hb dX1_leadOf_14 rfl hl (by decide) rfl (fun ls hl => ?_)
    have hpq := hpr (if be = 0 then 1 else 0) (by split <;> omega)
    refine lv_iconst (v := iI (0)) hx hb dX1_leadOf_15 rfl ?_
    refine lv_istore (lv' := [(4, .int (iI 0)), (3, .int (iI (pts fhi cn fmk (if be = 0 then 1 else 0)))), (0, .ref y), (1, .int (iI bz)), (2, .ref mk)]) hx hb dX1_leadOf_16 hl (by decide) rfl (fun ls hl => ?_)
    have hloop18 : ∀ (fuel : Nat) (nx : Int) (zp : Int) (pp : Nat) (hc : zp = (pp : Int) ∧ pp ≤ 93 ∧ -10000 ≤ nx ∧ nx ≤ 10000) (hL : ldF (pts fhi cn fmk) be (93 - pp) pp nx = ldF (pts fhi cn fmk) be 93 0 ((pts fhi cn fmk) (if be = 0 then 1 else 0))) (hmeas : 93 - pp < fuel), ∀ (H : Heap) (locs : List Loc) (ls : Array Slot), va_P g.1 vwCl [(y, .inr (1, [.int (iI mn), .int (iI cn), .ref me, .ref cs, .ref as_, .ref sr, .ref hi])), (hi, aI (g.2.1 0) 93 fhi), (mk, aI (g.2.1 0) 5 fmk)] H → va_D A [(y, .inr (1, [.int (iI mn), .int (iI cn), .ref me, .ref cs, .ref as_, .ref sr, .ref hi])), (hi, aI (g.2.1 0) 93 fhi), (mk, aI (g.2.1 0) 5 fmk)] → va_S A s.heap H locs → lv_has ls 5 [(4, .int (iI zp)), (3, .int (iI nx)), (0, .ref y), (1, .int (iI bz)), (2, .ref mk)] → W p l e ({ frames := 2, cells := 0, slots := 0, locals := 43 } : Room) s m [.ref y, .int (iI bz), .ref mk].toArray below meth c H locs 0 0 (MQ below (CQ g (q_X1_leadOf g y mn cn me cs as_ sr hi fhi mk fmk bz be) A) [.ref y, .int (iI bz), .ref mk].toArray s ({ frames := 2, cells := 0, slots := 0, locals := 43 } : Room).cells ({ frames := 2, cells := 0, slots := 0, locals := 43 } : Room).slots A) (F0 m 18 ls []) := by
      intro fuel
      induction fuel with
      | zero => intro nx zp pp hc hL hmeas; exact absurd hmeas (Nat.not_lt_zero _)
      | succ fuel ih18 =>
        intro nx zp pp hc hL hmeas H locs ls hP hD hS hl
        refine lv_iload hx hb dX1_leadOf_18 (lv_at hl 0 rfl) ?_
        refine va_getsN hx hb hG.2.2.1.1 hS hown (va_Nw.use rfl hG.2.1.2.1) (fun _ h9 => h9) dX1_leadOf_20 ?_
        refine iv_tlen hx hb hG.2.2.1 hS dX1_leadOf_23 ?_
        refine iv_as 93 rfl ?_
        refine iv_icmp_ge (tgt := 51) hx hb dX1_leadOf_24 (by decide) (by omega) (fun hc1 => ?_) (fun hc1 => ?_)
        · refine lv_aload_n hx hb dX1_leadOf_51 rfl (lv_at hl 2 rfl) ?_
          refine lv_iload_n hx hb dX1_leadOf_52 rfl (lv_at hl 3 rfl) ?_
          refine lv_aload_n hx hb dX1_leadOf_53 rfl (lv_at hl 4 rfl) ?_
          refine Ct.callV (ci := 1) (q0 := 0) (qc := (RX1, TX1, 7)) (As := [.int (iI bz), .ref mk]) (rest := []) (wr := []) (c1 := 0) (s1 := 0) ⟨hx, hb, hml, hown, hts⟩ (c_X1_pointsAt l g y mn cn me cs as_ sr hi fhi mk fmk bz be (by omega)) rfl rfl (cwV 2 hts gX1_leadOf_X1_pointsAt rfl rfl rfl (by decide +kernel) ⟨Nat.le_of_ble_eq_true rfl, Nat.le_of_ble_eq_true rfl⟩) hG hP hD hS hA [0, 1, 2] [] rfl rfl (by decide) (by decide) (by decide) rfl hl.1 rfl (Nat.le_of_ble_eq_true rfl) dX1_leadOf_54 ⟨Nat.le_of_ble_eq_true rfl, Nat.le_of_ble_eq_true rfl⟩ rfl rfl (fun v w H locs hv hP hD hS => ?_)
          obtain ⟨rfl, rfl⟩ := hv
          show W p l e _ s m _ below meth c H locs 0 0 _ (F0 m 57 ls (.int (iI (pts fhi cn fmk be)) :: []))
          have hP : va_P g.1 vwCl [(y, .inr (1, [.int (iI mn), .int (iI cn), .ref me, .ref cs, .ref as_, .ref sr, .ref hi])), (hi, aI (g.2.1 0) 93 fhi), (mk, aI (g.2.1 0) 5 fmk)] H := hP
          have hD : va_D A [(y, .inr (1, [.int (iI mn), .int (iI cn), .ref me, .ref cs, .ref as_, .ref sr, .ref hi])), (hi, aI (g.2.1 0) 93 fhi), (mk, aI (g.2.1 0) 5 fmk)] := hD
          refine lv_iload_n hx hb dX1_leadOf_57 rfl (lv_at hl 1 rfl) ?_
          refine iv_isub hx hb dX1_leadOf_58 ?_
          exact Ct.iret hx hb hr hlocks (hP.sub [0, 1, 2] rfl) (hD.sub [0, 1, 2] (by decide) rfl) hS ⟨by decide, by decide⟩ dX1_leadOf_59 ⟨(by unfold ldR; rw [← hL, show 93 - pp = 0 from by omega]; rfl), rfl⟩
        · have hpp := hpr pp (by omega)
          refine lv_iload hx hb dX1_leadOf_27 (lv_at hl 0 rfl) ?_
          refine lv_iload_n hx hb dX1_leadOf_29 rfl (lv_at hl 3 rfl) ?_
          refine iv_icmp_eq (tgt := 45) hx hb dX1_leadOf_30 (by decide) (by omega) (fun hc2 => ?_) (fun hc2 => ?_)
          · refine iv_iinc (k := 0) (x := zp) (lv' := [(4, .int (iI (zp + 1))), (3, .int (iI nx)), (0, .ref y), (1, .int (iI bz)), (2, .ref mk)]) hx hb dX1_leadOf_45 hl rfl (by decide) rfl (fun ls hl => ?_)
            refine lv_goto (tgt := 18) hx hb dX1_leadOf_48 (by decide) ?_
            exact ih18 nx (zp + 1) (pp + 1) (by omega) (by rw [← hL, show 93 - pp = (93 - (pp + 1)) + 1 from by omega]; simp only [ldF]; first | (rw [if_pos (by omega)]) | (rw [if_neg (by omega)])) (by omega) H locs ls (hP.sub [0, 1, 2] rfl) (hD.sub [0, 1, 2] (by decide) rfl) hS (lv_sub hl [0, 1, 2, 3, 4] rfl)
          · refine lv_iload_n hx hb dX1_leadOf_33 rfl (lv_at hl 1 rfl) ?_
            refine lv_aload_n hx hb dX1_leadOf_34 rfl (lv_at hl 2 rfl) ?_
            refine lv_iload hx hb dX1_leadOf_35 (lv_at hl 0 rfl) ?_
            refine lv_aload_n hx hb dX1_leadOf_37 rfl (lv_at hl 4 rfl) ?_
            refine Ct.callV (ci := 1) (q0 := 0) (qc := (RX1, TX1, 7)) (As := [.int (iI zp), .ref mk]) (rest := [.int (iI nx)]) (wr := []) (c1 := 0) (s1 := 0) ⟨hx, hb, hml, hown, hts⟩ (c_X1_pointsAt l g y mn cn me cs as_ sr hi fhi mk fmk zp pp (by omega)) rfl rfl (cwV 2 hts gX1_leadOf_X1_pointsAt rfl rfl rfl (by decide +kernel) ⟨Nat.le_of_ble_eq_true rfl, Nat.le_of_ble_eq_true rfl⟩) hG hP hD hS hA [0, 1, 2] [] rfl rfl (by decide) (by decide) (by decide) rfl hl.1 rfl (Nat.le_of_ble_eq_true rfl) dX1_leadOf_38 ⟨Nat.le_of_ble_eq_true rfl, Nat.le_of_ble_eq_true rfl⟩ rfl rfl (fun v w H locs hv hP hD hS => ?_)
            obtain ⟨rfl, rfl⟩ := hv
            show W p l e _ s m _ below meth c H locs 0 0 _ (F0 m 41 ls (.int (iI (pts fhi cn fmk pp)) :: [.int (iI nx)]))
            have hP : va_P g.1 vwCl [(y, .inr (1, [.int (iI mn), .int (iI cn), .ref me, .ref cs, .ref as_, .ref sr, .ref hi])), (hi, aI (g.2.1 0) 93 fhi), (mk, aI (g.2.1 0) 5 fmk)] H := hP
            have hD : va_D A [(y, .inr (1, [.int (iI mn), .int (iI cn), .ref me, .ref cs, .ref as_, .ref sr, .ref hi])), (hi, aI (g.2.1 0) 93 fhi), (mk, aI (g.2.1 0) 5 fmk)] := hD
            refine iv_max hx hb (by rw [hml]; exact hl.1.symm) hown (hts _ (List.mem_of_getElem? (i := 1) rfl)) (hts _ (List.mem_of_getElem? (i := 2) rfl)) (hts _ (List.mem_of_getElem? (i := 3) rfl)) (hts _ (List.mem_of_getElem? (i := 4) rfl)) (Nat.le_of_ble_eq_true rfl) (Nat.le_of_ble_eq_true rfl) (Nat.le_of_ble_eq_true rfl) (Nat.le_of_ble_eq_true rfl) (by omega) dX1_leadOf_41 ?_
            refine lv_istore_n (lv' := [(3, .int (iI (max nx (pts fhi cn fmk pp)))), (4, .int (iI zp)), (0, .ref y), (1, .int (iI bz)), (2, .ref mk)]) hx hb dX1_leadOf_44 rfl hl (by decide) rfl (fun ls hl => ?_)
            refine iv_iinc (k := 1) (x := zp) (lv' := [(4, .int (iI (zp + 1))), (3, .int (iI (max nx (pts fhi cn fmk pp)))), (0, .ref y), (1, .int (iI bz)), (2, .ref mk)]) hx hb dX1_leadOf_45 hl rfl (by decide) rfl (fun ls hl => ?_)
            refine lv_goto (tgt := 18) hx hb dX1_leadOf_48 (by decide) ?_
            exact ih18 (max nx (pts fhi cn fmk pp)) (zp + 1) (pp + 1) (by omega) (by rw [← hL, show 93 - pp = (93 - (pp + 1)) + 1 from by omega]; simp only [ldF]; first | (rw [if_pos (by omega)]) | (rw [if_neg (by omega)])) (by omega) H locs ls (hP.sub [0, 1, 2] rfl) (hD.sub [0, 1, 2] (by decide) rfl) hS (lv_sub hl [0, 1, 2, 3, 4] rfl)
    exact hloop18 _ (pts fhi cn fmk (if be = 0 then 1 else 0)) 0 0 (by omega) (rfl) (Nat.lt_succ_self _) H locs ls (hP.sub [0, 1, 2] rfl) (hD.sub [0, 1, 2] (by decide) rfl) hS (lv_sub hl [0, 1, 2, 3, 4] rfl)
  refine lv_aload_n hx hb dX1_leadOf_0 rfl (lv_at hl 0 rfl) ?_
  refine lv_iload_n hx hb dX1_leadOf_1 rfl (lv_at hl 1 rfl) ?_
  refine iv_if_ne (tgt := 9) hx hb dX1_leadOf_2 (by decide) (by omega) (fun hc3 => ?_) (fun hc3 => ?_)
  · refine lv_iconst (v := iI (0)) hx hb dX1_leadOf_9 rfl ?_
    exact hjoin10 0 (by split <;> first | rfl | omega) H locs ls (hP.sub [0, 1, 2] rfl) (hD.sub [0, 1, 2] (by decide) rfl) hS (lv_sub hl [0, 1, 2] rfl)
  · refine lv_iconst (v := iI (1)) hx hb dX1_leadOf_5 rfl ?_
    refine lv_goto (tgt := 10) hx hb dX1_leadOf_6 (by decide) ?_
    exact hjoin10 1 (by split <;> first | rfl | omega) H locs ls (hP.sub [0, 1, 2] rfl) (hD.sub [0, 1, 2] (by decide) rfl) hS (lv_sub hl [0, 1, 2] rfl)
theorem kX1_rightOnes_1 : ∀ w ∈ u_ws RX1 TX1 7, w ∈ wsX1_rightOnes := fun _ h => List.mem_cons_of_mem _ (List.mem_append_right _ h)
abbrev q_X1_rightOnes (g : GT) (y : Nat) (mn : Int) (cn : Int) (me : Nat) (cs : Nat) (as_ : Nat) (sr : Nat) (hi : Nat) (fhi : Nat → Int) : Option Value → va_W → Prop := fun v w => v = some (.int (iI (fhi 0))) ∧ w = [(y, .inr (1, [.int (iI mn), .int (iI cn), .ref me, .ref cs, .ref as_, .ref sr, .ref hi])), (hi, aI (g.2.1 0) 93 fhi)]
set_option maxHeartbeats 4000000 in
set_option maxRecDepth 100000 in
theorem c_X1_rightOnes (l : Launch) (g : GT) (y : Nat) (mn : Int) (cn : Int) (me : Nat) (cs : Nat) (as_ : Nat) (sr : Nat) (hi : Nat) (fhi : Nat → Int) : Ct l g yX1_rightOnes wsX1_rightOnes ({ frames := 0, cells := 0, slots := 0, locals := 0 } : Room) [.ref y] [(y, .inr (1, [.int (iI mn), .int (iI cn), .ref me, .ref cs, .ref as_, .ref sr, .ref hi])), (hi, aI (g.2.1 0) 93 fhi)] (q_X1_rightOnes g y mn cn me cs as_ sr hi fhi) := by
  refine Ct.intro (maxL := 1) (ret := (some .int)) (by decide) rfl (Nat.le_of_ble_eq_true rfl) ?_
  intro p e s m below meth c A ls hx hb hr hml hown hts hlocks hnm hA hG hP hD hS hl
  have hown : s.vm.findClass RX1 = some m.cls := hown
  have hl : lv_has ls 1 [(0, .ref y)] := hl
  have hP : va_P g.1 vwCl [(y, .inr (1, [.int (iI mn), .int (iI cn), .ref me, .ref cs, .ref as_, .ref sr, .ref hi])), (hi, aI (g.2.1 0) 93 fhi)] s.heap := hP
  have hS : va_S A s.heap s.heap [] := hS
  obtain ⟨H, hHe⟩ : ∃ H : Heap, H = s.heap := ⟨_, rfl⟩
  obtain ⟨locs, hLe⟩ : ∃ L : List Loc, L = [] := ⟨_, rfl⟩
  have hP : va_P g.1 vwCl [(y, .inr (1, [.int (iI mn), .int (iI cn), .ref me, .ref cs, .ref as_, .ref sr, .ref hi])), (hi, aI (g.2.1 0) 93 fhi)] H := by rw [hHe]; exact hP
  have hS : va_S A s.heap H locs := by rw [hHe, hLe]; exact hS
  suffices hgo : W p l e ({ frames := 0, cells := 0, slots := 0, locals := 0 } : Room) s m [.ref y].toArray below meth c H locs 0 0 (MQ below (CQ g (q_X1_rightOnes g y mn cn me cs as_ sr hi fhi) A) [.ref y].toArray s ({ frames := 0, cells := 0, slots := 0, locals := 0 } : Room).cells ({ frames := 0, cells := 0, slots := 0, locals := 0 } : Room).slots A) (F0 m 0 ls []) by rw [hHe, hLe] at hgo; exact hgo
  clear hHe hLe
  refine lv_aload_n hx hb dX1_rightOnes_0 rfl (lv_at hl 0 rfl) ?_
  refine va_get (D := g.1) (ci := 1) (v := .ref hi) hx hb hts kX1_rightOnes_1 hown hG.1 hP 0 rfl rfl 6 (by decide) (hts _ (List.mem_of_getElem? (i := 1) rfl)) (fun _ h9 => h9) rfl dX1_rightOnes_1 ?_
  refine lv_iconst (v := iI (0)) hx hb dX1_rightOnes_4 rfl ?_
  refine iv_iald hx hb hG hP 1 rfl 0 (rfl) (by decide) (by decide) dX1_rightOnes_5 ?_
  exact Ct.iret hx hb hr hlocks (hP.sub [0, 1] rfl) (hD.sub [0, 1] (by decide) rfl) hS ⟨by decide, by decide⟩ dX1_rightOnes_6 ⟨rfl, rfl⟩
theorem kX1_strangeOnes_1 : ∀ w ∈ u_ws RX1 TX1 7, w ∈ wsX1_strangeOnes := fun _ h => List.mem_cons_of_mem _ (List.mem_append_right _ h)
abbrev q_X1_strangeOnes (g : GT) (y : Nat) (mn : Int) (cn : Int) (me : Nat) (cs : Nat) (as_ : Nat) (sr : Nat) (hi : Nat) (fas : Nat → Int) (fst : Nat → Int) (M : Nat) : Option Value → va_W → Prop := fun v w => v = some (.int (iI (cntS fst fas M))) ∧ w = [(y, .inr (1, [.int (iI mn), .int (iI cn), .ref me, .ref cs, .ref as_, .ref sr, .ref hi])), (as_, aI (g.2.1 1) 40 fas), (sr, aI (g.2.1 1) 40 fst)]
set_option maxHeartbeats 4000000 in
set_option maxRecDepth 100000 in
theorem c_X1_strangeOnes (l : Launch) (g : GT) (y : Nat) (mn : Int) (cn : Int) (me : Nat) (cs : Nat) (as_ : Nat) (sr : Nat) (hi : Nat) (fas : Nat → Int) (fst : Nat → Int) (M : Nat) (h1 : mn = (M : Int) ∧ M ≤ 40) (h2 : ∀ j, j < M → (fas j = 0 ∨ fas j = 1) ∧ (fst j = 0 ∨ fst j = 1)) : Ct l g yX1_strangeOnes wsX1_strangeOnes ({ frames := 0, cells := 0, slots := 0, locals := 0 } : Room) [.ref y] [(y, .inr (1, [.int (iI mn), .int (iI cn), .ref me, .ref cs, .ref as_, .ref sr, .ref hi])), (as_, aI (g.2.1 1) 40 fas), (sr, aI (g.2.1 1) 40 fst)] (q_X1_strangeOnes g y mn cn me cs as_ sr hi fas fst M) := by
  refine Ct.intro (maxL := 3) (ret := (some .int)) (by decide) rfl (Nat.le_of_ble_eq_true rfl) ?_
  intro p e s m below meth c A ls hx hb hr hml hown hts hlocks hnm hA hG hP hD hS hl
  have hown : s.vm.findClass RX1 = some m.cls := hown
  have hl : lv_has ls 3 [(0, .ref y)] := hl
  have hP : va_P g.1 vwCl [(y, .inr (1, [.int (iI mn), .int (iI cn), .ref me, .ref cs, .ref as_, .ref sr, .ref hi])), (as_, aI (g.2.1 1) 40 fas), (sr, aI (g.2.1 1) 40 fst)] s.heap := hP
  have hS : va_S A s.heap s.heap [] := hS
  obtain ⟨H, hHe⟩ : ∃ H : Heap, H = s.heap := ⟨_, rfl⟩
  obtain ⟨locs, hLe⟩ : ∃ L : List Loc, L = [] := ⟨_, rfl⟩
  have hP : va_P g.1 vwCl [(y, .inr (1, [.int (iI mn), .int (iI cn), .ref me, .ref cs, .ref as_, .ref sr, .ref hi])), (as_, aI (g.2.1 1) 40 fas), (sr, aI (g.2.1 1) 40 fst)] H := by rw [hHe]; exact hP
  have hS : va_S A s.heap H locs := by rw [hHe, hLe]; exact hS
  suffices hgo : W p l e ({ frames := 0, cells := 0, slots := 0, locals := 0 } : Room) s m [.ref y].toArray below meth c H locs 0 0 (MQ below (CQ g (q_X1_strangeOnes g y mn cn me cs as_ sr hi fas fst M) A) [.ref y].toArray s ({ frames := 0, cells := 0, slots := 0, locals := 0 } : Room).cells ({ frames := 0, cells := 0, slots := 0, locals := 0 } : Room).slots A) (F0 m 0 ls []) by rw [hHe, hLe] at hgo; exact hgo
  clear hHe hLe
  refine lv_iconst (v := iI (0)) hx hb dX1_strangeOnes_0 rfl ?_
  refine lv_istore_n (lv' := [(1, .int (iI 0)), (0, .ref y)]) hx hb dX1_strangeOnes_1 rfl hl (by decide) rfl (fun ls hl => ?_)
  refine lv_iconst (v := iI (0)) hx hb dX1_strangeOnes_2 rfl ?_
  refine lv_istore_n (lv' := [(2, .int (iI 0)), (1, .int (iI 0)), (0, .ref y)]) hx hb dX1_strangeOnes_3 rfl hl (by decide) rfl (fun ls hl => ?_)
  have hloop4 : ∀ (fuel : Nat) (fo_ : Int) (zj : Int) (j : Nat) (hc : zj = (j : Int) ∧ j ≤ M) (he : fo_ = cntS fst fas j) (hmeas : M - j < fuel), ∀ (H : Heap) (locs : List Loc) (ls : Array Slot), va_P g.1 vwCl [(y, .inr (1, [.int (iI mn), .int (iI cn), .ref me, .ref cs, .ref as_, .ref sr, .ref hi])), (as_, aI (g.2.1 1) 40 fas), (sr, aI (g.2.1 1) 40 fst)] H → va_D A [(y, .inr (1, [.int (iI mn), .int (iI cn), .ref me, .ref cs, .ref as_, .ref sr, .ref hi])), (as_, aI (g.2.1 1) 40 fas), (sr, aI (g.2.1 1) 40 fst)] → va_S A s.heap H locs → lv_has ls 3 [(2, .int (iI zj)), (1, .int (iI fo_)), (0, .ref y)] → W p l e ({ frames := 0, cells := 0, slots := 0, locals := 0 } : Room) s m [.ref y].toArray below meth c H locs 0 0 (MQ below (CQ g (q_X1_strangeOnes g y mn cn me cs as_ sr hi fas fst M) A) [.ref y].toArray s ({ frames := 0, cells := 0, slots := 0, locals := 0 } : Room).cells ({ frames := 0, cells := 0, slots := 0, locals := 0 } : Room).slots A) (F0 m 4 ls []) := by
    intro fuel
    induction fuel with
    | zero => intro fo_ zj j hc he hmeas; exact absurd hmeas (Nat.not_lt_zero _)
    | succ fuel ih4 =>
      intro fo_ zj j hc he hmeas H locs ls hP hD hS hl
      refine lv_iload_n hx hb dX1_strangeOnes_4 rfl (lv_at hl 0 rfl) ?_
      refine lv_aload_n hx hb dX1_strangeOnes_5 rfl (lv_at hl 2 rfl) ?_
      refine va_get (D := g.1) (ci := 1) (v := .int (iI mn)) hx hb hts kX1_strangeOnes_1 hown hG.1 hP 0 rfl rfl 0 (by decide) (hts _ (List.mem_of_getElem? (i := 1) rfl)) (fun _ h9 => h9) rfl dX1_strangeOnes_6 ?_
      refine iv_icmp_ge (tgt := 39) hx hb dX1_strangeOnes_9 (by decide) (by omega) (fun hc1 => ?_) (fun hc1 => ?_)
      · refine lv_iload_n hx hb dX1_strangeOnes_39 rfl (lv_at hl 1 rfl) ?_
        exact Ct.iret hx hb hr hlocks (hP.sub [0, 1, 2] rfl) (hD.sub [0, 1, 2] (by decide) rfl) hS ⟨by decide, by decide⟩ dX1_strangeOnes_40 ⟨(by rw [he, show j = M from by omega]), rfl⟩
      · have hq := h2 j (by omega)
        refine lv_aload_n hx hb dX1_strangeOnes_12 rfl (lv_at hl 2 rfl) ?_
        refine va_get (D := g.1) (ci := 1) (v := .ref sr) hx hb hts kX1_strangeOnes_1 hown hG.1 hP 0 rfl rfl 5 (by decide) (hts _ (List.mem_of_getElem? (i := 2) rfl)) (fun _ h9 => h9) rfl dX1_strangeOnes_13 ?_
        refine lv_iload_n hx hb dX1_strangeOnes_16 rfl (lv_at hl 0 rfl) ?_
        refine iv_zald hx hb hG hP 2 rfl j (by omega) (by omega) (by decide) dX1_strangeOnes_17 ?_
        refine iv_if_eq (tgt := 33) hx hb dX1_strangeOnes_18 (by decide) (by omega) (fun hc2 => ?_) (fun hc2 => ?_)
        · refine iv_iinc (k := 0) (x := zj) (lv' := [(2, .int (iI (zj + 1))), (1, .int (iI fo_)), (0, .ref y)]) hx hb dX1_strangeOnes_33 hl rfl (by decide) rfl (fun ls hl => ?_)
          refine lv_goto (tgt := 4) hx hb dX1_strangeOnes_36 (by decide) ?_
          exact ih4 fo_ (zj + 1) (j + 1) (by omega) (by simp only [cntS]; split <;> omega) (by omega) H locs ls (hP.sub [0, 1, 2] rfl) (hD.sub [0, 1, 2] (by decide) rfl) hS (lv_sub hl [0, 1, 2] rfl)
        · refine lv_aload_n hx hb dX1_strangeOnes_21 rfl (lv_at hl 2 rfl) ?_
          refine va_get (D := g.1) (ci := 1) (v := .ref as_) hx hb hts kX1_strangeOnes_1 hown hG.1 hP 0 rfl rfl 4 (by decide) (hts _ (List.mem_of_getElem? (i := 3) rfl)) (fun _ h9 => h9) rfl dX1_strangeOnes_22 ?_
          refine lv_iload_n hx hb dX1_strangeOnes_25 rfl (lv_at hl 0 rfl) ?_
          refine iv_zald hx hb hG hP 1 rfl j (by omega) (by omega) (by decide) dX1_strangeOnes_26 ?_
          refine iv_if_ne (tgt := 33) hx hb dX1_strangeOnes_27 (by decide) (by omega) (fun hc3 => ?_) (fun hc3 => ?_)
          · refine iv_iinc (k := 0) (x := zj) (lv' := [(2, .int (iI (zj + 1))), (1, .int (iI fo_)), (0, .ref y)]) hx hb dX1_strangeOnes_33 hl rfl (by decide) rfl (fun ls hl => ?_)
            refine lv_goto (tgt := 4) hx hb dX1_strangeOnes_36 (by decide) ?_
            exact ih4 fo_ (zj + 1) (j + 1) (by omega) (by simp only [cntS]; split <;> omega) (by omega) H locs ls (hP.sub [0, 1, 2] rfl) (hD.sub [0, 1, 2] (by decide) rfl) hS (lv_sub hl [0, 1, 2] rfl)
          · refine iv_iinc (k := 1) (x := fo_) (lv' := [(1, .int (iI (fo_ + 1))), (2, .int (iI zj)), (0, .ref y)]) hx hb dX1_strangeOnes_30 hl rfl (by decide) rfl (fun ls hl => ?_)
            refine iv_iinc (k := 1) (x := zj) (lv' := [(2, .int (iI (zj + 1))), (1, .int (iI (fo_ + 1))), (0, .ref y)]) hx hb dX1_strangeOnes_33 hl rfl (by decide) rfl (fun ls hl => ?_)
            refine lv_goto (tgt := 4) hx hb dX1_strangeOnes_36 (by decide) ?_
            exact ih4 (fo_ + 1) (zj + 1) (j + 1) (by omega) (by simp only [cntS]; split <;> omega) (by omega) H locs ls (hP.sub [0, 1, 2] rfl) (hD.sub [0, 1, 2] (by decide) rfl) hS (lv_sub hl [0, 1, 2] rfl)
  exact hloop4 _ 0 0 0 (by omega) (rfl) (Nat.lt_succ_self _) H locs ls (hP.sub [0, 1, 2] rfl) (hD.sub [0, 1, 2] (by decide) rfl) hS (lv_sub hl [0, 1, 2] rfl)
