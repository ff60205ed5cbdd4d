theorem kX0_bestWay_0 : ∀ w ∈ u_ws RX0 TX0 3, w ∈ wsX0_bestWay := fun _ h => List.mem_cons_of_mem _ (List.mem_append_right _ h)
abbrev q_X0_bestWay (g : GT) (co : Nat) (ch : Nat) (cg_ : Nat) (cl : Nat) (fh : Nat → Int) (fg : Nat → Int) (fl : Nat → Int) (hz : Int) (hm_ : Int) (h : Nat) : Option Value → va_W → Prop := fun v w => v = some (.int (iI ((bwF (fun b => ofP (b &&& h = 0 ∧ StandP fh (fun s => (fl s).toNat) b h)) fh fg hm_ 255 1 0 : Nat) : Int))) ∧ w = [(co, .inr (0, [.ref ch, .ref cg_, .ref cl])), (ch, aI (g.2.1 0) 8 fh), (cg_, aI (g.2.1 0) 8 fg), (cl, aI (g.2.1 0) 8 fl)]
set_option maxHeartbeats 4000000 in
set_option maxRecDepth 100000 in
theorem c_X0_bestWay (l : Launch) (g : GT) (co : Nat) (ch : Nat) (cg_ : Nat) (cl : Nat) (fh : Nat → Int) (fg : Nat → Int) (fl : Nat → Int) (hz : Int) (hm_ : Int) (h : Nat) (h1 : hz = (h : Int) ∧ h < 256 ∧ 0 ≤ hm_ ∧ hm_ ≤ 160) (hC : ∀ j, j < 8 → 0 ≤ fh j ∧ fh j ≤ 20 ∧ 0 ≤ fg j ∧ fg j ≤ 99 ∧ 0 ≤ fl j ∧ fl j < 256) : Ct l g yX0_bestWay wsX0_bestWay ({ frames := 3, cells := 0, slots := 0, locals := 67 } : Room) [.ref co, .int (iI hz), .int (iI hm_)] [(co, .inr (0, [.ref ch, .ref cg_, .ref cl])), (ch, aI (g.2.1 0) 8 fh), (cg_, aI (g.2.1 0) 8 fg), (cl, aI (g.2.1 0) 8 fl)] (q_X0_bestWay g co ch cg_ cl fh fg fl hz hm_ h) := by
  refine Ct.intro (maxL := 9) (ret := (some .int)) (by decide) rfl (Nat.le_of_ble_eq_true rfl) ?_
  intro p e s m below meth c A ls hx hb hr hml hown hts hlocks hnm hA hG hP hD hS hl
  have hown : s.vm.findClass RX0 = some m.cls := hown
  have hl : lv_has ls 9 [(0, .ref co), (1, .int (iI hz)), (2, .int (iI hm_))] := hl
  have hP : va_P g.1 vwCl [(co, .inr (0, [.ref ch, .ref cg_, .ref cl])), (ch, aI (g.2.1 0) 8 fh), (cg_, aI (g.2.1 0) 8 fg), (cl, aI (g.2.1 0) 8 fl)] s.heap := hP
  have hS : va_S A s.heap s.heap [] := hS
  have hg8 := fun x => sD_rngN (f := fg) (B := 99) x 8 (fun j hj => by have := hC j hj; omega)
  have hh8 := fun x => sD_rngN (f := fh) (B := 20) x 8 (fun j hj => by have := hC j hj; omega)
  obtain ⟨H, hHe⟩ : ∃ H : Heap, H = s.heap := ⟨_, rfl⟩
  obtain ⟨locs, hLe⟩ : ∃ L : List Loc, L = [] := ⟨_, rfl⟩
  have hP : va_P g.1 vwCl [(co, .inr (0, [.ref ch, .ref cg_, .ref cl])), (ch, aI (g.2.1 0) 8 fh), (cg_, aI (g.2.1 0) 8 fg), (cl, aI (g.2.1 0) 8 fl)] H := by rw [hHe]; exact hP
  have hS : va_S A s.heap H locs := by rw [hHe, hLe]; exact hS
  suffices hgo : W p l e ({ frames := 3, cells := 0, slots := 0, locals := 67 } : Room) s m [.ref co, .int (iI hz), .int (iI hm_)].toArray below meth c H locs 0 0 (MQ below (CQ g (q_X0_bestWay g co ch cg_ cl fh fg fl hz hm_ h) A) [.ref co, .int (iI hz), .int (iI hm_)].toArray s ({ frames := 3, cells := 0, slots := 0, locals := 67 } : Room).cells ({ frames := 3, cells := 0, slots := 0, locals := 67 } : Room).slots A) (F0 m 0 ls []) by rw [hHe, hLe] at hgo; exact hgo
  clear hHe hLe
  refine lv_iconst (v := iI (0)) hx hb dX0_bestWay_0 rfl ?_
  refine lv_istore_n (lv' := [(3, .int (iI 0)), (0, .ref co), (1, .int (iI hz)), (2, .int (iI hm_))]) hx hb dX0_bestWay_1 rfl hl (by decide) rfl (fun ls hl => ?_)
  refine lv_iconst (v := iI (0)) hx hb dX0_bestWay_2 rfl ?_
  refine lv_istore (lv' := [(4, .int (iI 0)), (3, .int (iI 0)), (0, .ref co), (1, .int (iI hz)), (2, .int (iI hm_))]) hx hb dX0_bestWay_3 hl (by decide) rfl (fun ls hl => ?_)
  refine lv_iconst (v := iI (0)) hx hb dX0_bestWay_5 rfl ?_
  refine lv_istore (lv' := [(5, .int (iI 0)), (4, .int (iI 0)), (3, .int (iI 0)), (0, .ref co), (1, .int (iI hz)), (2, .int (iI hm_))]) hx hb dX0_bestWay_6 hl (by decide) rfl (fun ls hl => ?_)
  refine lv_iconst (v := iI (1)) hx hb dX0_bestWay_8 rfl ?_
  refine lv_istore (lv' := [(6, .int (iI 1)), (5, .int (iI 0)), (4, .int (iI 0)), (3, .int (iI 0)), (0, .ref co), (1, .int (iI hz)), (2, .int (iI hm_))]) hx hb dX0_bestWay_9 hl (by decide) rfl (fun ls hl => ?_)
  have hloop11 : ∀ (fuel : Nat) (bs : Int) (bg : Int) (bh : Int) (zb : Int) (b : Nat) (hbb : zb = (b : Int) ∧ 1 ≤ b ∧ b ≤ 256 ∧ 0 ≤ bs ∧ bs < 256) (heg : bg = sD fg bs 8) (heh : bh = sD fh bs 8) (hB : bwF (fun b => ofP (b &&& h = 0 ∧ StandP fh (fun s => (fl s).toNat) b h)) fh fg hm_ (256 - b) b bs.toNat = bwF (fun b => ofP (b &&& h = 0 ∧ StandP fh (fun s => (fl s).toNat) b h)) fh fg hm_ 255 1 0) (hmeas : 256 - b < fuel), ∀ (H : Heap) (locs : List Loc) (ls : Array Slot), va_P g.1 vwCl [(co, .inr (0, [.ref ch, .ref cg_, .ref cl])), (ch, aI (g.2.1 0) 8 fh), (cg_, aI (g.2.1 0) 8 fg), (cl, aI (g.2.1 0) 8 fl)] H → va_D A [(co, .inr (0, [.ref ch, .ref cg_, .ref cl])), (ch, aI (g.2.1 0) 8 fh), (cg_, aI (g.2.1 0) 8 fg), (cl, aI (g.2.1 0) 8 fl)] → va_S A s.heap H locs → lv_has ls 9 [(6, .int (iI zb)), (5, .int (iI bh)), (4, .int (iI bg)), (3, .int (iI bs)), (0, .ref co), (1, .int (iI hz)), (2, .int (iI hm_))] → W p l e ({ frames := 3, cells := 0, slots := 0, locals := 67 } : Room) s m [.ref co, .int (iI hz), .int (iI hm_)].toArray below meth c H locs 0 0 (MQ below (CQ g (q_X0_bestWay g co ch cg_ cl fh fg fl hz hm_ h) A) [.ref co, .int (iI hz), .int (iI hm_)].toArray s ({ frames := 3, cells := 0, slots := 0, locals := 67 } : Room).cells ({ frames := 3, cells := 0, slots := 0, locals := 67 } : Room).slots A) (F0 m 11 ls []) := by
    intro fuel
    induction fuel with
    | zero => intro bs bg bh zb b hbb heg heh hB hmeas; exact absurd hmeas (Nat.not_lt_zero _)
    | succ fuel ih11 =>
      intro bs bg bh zb b hbb heg heh hB hmeas H locs ls hP hD hS hl
      refine lv_iload hx hb dX0_bestWay_11 (lv_at hl 0 rfl) ?_
      refine lv_sipush (v := iI (256)) hx hb dX0_bestWay_13 (by decide) ?_
      refine iv_icmp_ge (tgt := 105) hx hb dX0_bestWay_16 (by decide) (by omega) (fun hc1 => ?_) (fun hc1 => ?_)
      · refine lv_iload_n hx hb dX0_bestWay_105 rfl (lv_at hl 3 rfl) ?_
        exact Ct.iret hx hb hr hlocks (hP.sub [0, 1, 2, 3] rfl) (hD.sub [0, 1, 2, 3] (by decide) rfl) hS ⟨by decide, by decide⟩ dX0_bestWay_106 ⟨(by rw [← hB, show 256 - b = 0 from by omega]; show _ = some (Value.int (iI ((bs.toNat : Nat) : Int))); rw [show ((bs.toNat : Nat) : Int) = bs from by omega]), rfl⟩
      · have hbs : ((bs.toNat : Nat) : Int) = bs := by omega
        have hr1 := hg8 bs
        have hr2 := hh8 bs
        refine lv_iload hx hb dX0_bestWay_19 (lv_at hl 0 rfl) ?_
        refine lv_iload_n hx hb dX0_bestWay_21 rfl (lv_at hl 5 rfl) ?_
        refine iv_iand (z := ((b &&& h : Nat) : Int)) hx hb dX0_bestWay_22 (by rw [hbb.1, h1.1]; exact iI_andN b h) ?_
        have hanl : b &&& h ≤ h := Nat.and_le_right
        refine iv_if_ne (tgt := 99) hx hb dX0_bestWay_23 (by decide) (by omega) (fun hc2 => ?_) (fun hc2 => ?_)
        · have hnad : ¬ (b &&& h = 0 ∧ StandP fh (fun s => (fl s).toNat) b h) := fun hz9 => absurd hz9.1 (by omega)
          refine iv_iinc (k := 0) (x := zb) (lv' := [(6, .int (iI (zb + 1))), (5, .int (iI bh)), (4, .int (iI bg)), (3, .int (iI bs)), (0, .ref co), (1, .int (iI hz)), (2, .int (iI hm_))]) hx hb dX0_bestWay_99 hl rfl (by decide) rfl (fun ls hl => ?_)
          refine lv_goto (tgt := 11) hx hb dX0_bestWay_102 (by decide) ?_
          exact ih11 bs bg bh (zb + 1) (b + 1) (by omega) (by omega) (by omega) (by rw [← hB, show 256 - b = (256 - (b + 1)) + 1 from by omega]; simp only [bwF]; first | (rw [if_neg (fun hz => absurd (ofP_1 hz.1) hnad)]) | (rw [if_neg (fun hz => by have hz2 := hz.2; rw [← hbb.1, hbs] at hz2; omega)]) | (rw [if_pos ⟨ofP_t had, by rw [← hbb.1, hbs]; omega⟩, show zb.toNat = b from by omega])) (by omega) H locs ls (hP.sub [0, 1, 2, 3] rfl) (hD.sub [0, 1, 2, 3] (by decide) rfl) hS (lv_sub hl [0, 1, 2, 3, 4, 5, 6] rfl)
        · refine lv_aload_n hx hb dX0_bestWay_26 rfl (lv_at hl 4 rfl) ?_
          refine lv_iload hx hb dX0_bestWay_27 (lv_at hl 0 rfl) ?_
          refine lv_iload_n hx hb dX0_bestWay_29 rfl (lv_at hl 5 rfl) ?_
          refine Ct.callV (ci := 0) (q0 := 0) (qc := (RX0, TX0, 3)) (As := [.int (iI zb), .int (iI hz)]) (rest := []) (wr := []) (c1 := 0) (s1 := 0) ⟨hx, hb, hml, hown, hts⟩ (c_X0_stands l g co ch cg_ cl fh fg fl zb hz b h (by omega) (hC)) rfl rfl (cwV 2 hts gX0_bestWay_X0_stands rfl rfl rfl (by decide +kernel) ⟨Nat.le_of_ble_eq_true rfl, Nat.le_of_ble_eq_true rfl⟩) hG hP hD hS hA [0, 1, 2, 3] [] rfl rfl (by decide) (by decide) (by decide) rfl hl.1 rfl (Nat.le_of_ble_eq_true rfl) dX0_bestWay_30 ⟨Nat.le_of_ble_eq_true rfl, Nat.le_of_ble_eq_true rfl⟩ rfl rfl (fun v w H locs hv hP hD hS => ?_)
          obtain ⟨⟨rfl, hb3⟩ | ⟨rfl, hb3⟩, rfl⟩ := hv
          · show W p l e _ s m _ below meth c H locs 0 0 _ (F0 m 33 ls (.int (iI 1) :: []))
            have hb3 : StandP fh (fun s => (fl s).toNat) b h := hb3
            have hP : va_P g.1 vwCl [(co, .inr (0, [.ref ch, .ref cg_, .ref cl])), (ch, aI (g.2.1 0) 8 fh), (cg_, aI (g.2.1 0) 8 fg), (cl, aI (g.2.1 0) 8 fl)] H := hP
            have hD : va_D A [(co, .inr (0, [.ref ch, .ref cg_, .ref cl])), (ch, aI (g.2.1 0) 8 fh), (cg_, aI (g.2.1 0) 8 fg), (cl, aI (g.2.1 0) 8 fl)] := hD
            refine iv_if_ne (tgt := 39) hx hb dX0_bestWay_33 (by decide) (by decide) (fun _ => ?_) (fun h => absurd h (by decide))
            have had : b &&& h = 0 ∧ StandP fh (fun s => (fl s).toNat) b h := ⟨by omega, by assumption⟩
            refine lv_aload_n hx hb dX0_bestWay_39 rfl (lv_at hl 4 rfl) ?_
            refine va_get (D := g.1) (ci := 0) (v := .ref ch) hx hb hts kX0_bestWay_0 hown hG.1 hP 0 rfl rfl 0 (by decide) (hts _ (List.mem_of_getElem? (i := 1) rfl)) (fun _ h9 => h9) rfl dX0_bestWay_40 ?_
            refine lv_iload hx hb dX0_bestWay_43 (lv_at hl 0 rfl) ?_
            refine Ct.callSN (As := [.ref ch, .int (iI zb)]) (rest := []) (wr := [(co, .inr (0, [.ref ch, .ref cg_, .ref cl])), (cg_, aI (g.2.1 0) 8 fg), (cl, aI (g.2.1 0) 8 fl)]) (c1 := 0) (s1 := 0) ⟨hx, hb, hml, hown, hts⟩ (c_X8_total l g ch fh zb (by omega)) ⟨(va_cnB 2 hts gX0_bestWay_X8_total_n29 rfl rfl rfl (hG.2.1.m 9 rfl) (hts _ (List.mem_of_getElem? (i := 14) rfl)) (by decide +kernel) ⟨Nat.le_of_ble_eq_true rfl, Nat.le_of_ble_eq_true rfl⟩), (hts _ (List.mem_of_getElem? (i := 16) rfl)), trivial⟩ hG hP hD hS hA [1] [0, 2, 3] rfl rfl (by decide) (by decide) (by decide) rfl hl.1 rfl (Nat.le_of_ble_eq_true rfl) dX0_bestWay_45 ⟨Nat.le_of_ble_eq_true rfl, Nat.le_of_ble_eq_true rfl⟩ rfl rfl (fun v w H locs hv hP hD hS => ?_)
            obtain ⟨rfl, rfl⟩ := hv
            show W p l e _ s m _ below meth c H locs 0 0 _ (F0 m 48 ls (.int (iI (sD fh zb 8)) :: []))
            have hP : va_P g.1 vwCl [(co, .inr (0, [.ref ch, .ref cg_, .ref cl])), (cg_, aI (g.2.1 0) 8 fg), (cl, aI (g.2.1 0) 8 fl), (ch, aI (g.2.1 0) 8 fh)] H := hP
            have hD : va_D A [(co, .inr (0, [.ref ch, .ref cg_, .ref cl])), (cg_, aI (g.2.1 0) 8 fg), (cl, aI (g.2.1 0) 8 fl), (ch, aI (g.2.1 0) 8 fh)] := hD
            refine lv_istore (lv' := [(7, .int (iI (sD fh zb 8))), (6, .int (iI zb)), (5, .int (iI bh)), (4, .int (iI bg)), (3, .int (iI bs)), (0, .ref co), (1, .int (iI hz)), (2, .int (iI hm_))]) hx hb dX0_bestWay_48 hl (by decide) rfl (fun ls hl => ?_)
            refine lv_aload_n hx hb dX0_bestWay_50 rfl (lv_at hl 5 rfl) ?_
            refine va_get (D := g.1) (ci := 0) (v := .ref cg_) hx hb hts kX0_bestWay_0 hown hG.1 hP 0 rfl rfl 1 (by decide) (hts _ (List.mem_of_getElem? (i := 2) rfl)) (fun _ h9 => h9) rfl dX0_bestWay_51 ?_
            refine lv_iload hx hb dX0_bestWay_54 (lv_at hl 1 rfl) ?_
            refine Ct.callSN (As := [.ref cg_, .int (iI zb)]) (rest := []) (wr := [(co, .inr (0, [.ref ch, .ref cg_, .ref cl])), (cl, aI (g.2.1 0) 8 fl), (ch, aI (g.2.1 0) 8 fh)]) (c1 := 0) (s1 := 0) ⟨hx, hb, hml, hown, hts⟩ (c_X8_total l g cg_ fg zb (by omega)) ⟨(va_cnB 2 hts gX0_bestWay_X8_total_n29 rfl rfl rfl (hG.2.1.m 9 rfl) (hts _ (List.mem_of_getElem? (i := 14) rfl)) (by decide +kernel) ⟨Nat.le_of_ble_eq_true rfl, Nat.le_of_ble_eq_true rfl⟩), (hts _ (List.mem_of_getElem? (i := 16) rfl)), trivial⟩ hG hP hD hS hA [1] [0, 2, 3] rfl rfl (by decide) (by decide) (by decide) rfl hl.1 rfl (Nat.le_of_ble_eq_true rfl) dX0_bestWay_56 ⟨Nat.le_of_ble_eq_true rfl, Nat.le_of_ble_eq_true rfl⟩ rfl rfl (fun v w H locs hv hP hD hS => ?_)
            obtain ⟨rfl, rfl⟩ := hv
            show W p l e _ s m _ below meth c H locs 0 0 _ (F0 m 59 ls (.int (iI (sD fg zb 8)) :: []))
            have hP : va_P g.1 vwCl [(co, .inr (0, [.ref ch, .ref cg_, .ref cl])), (cl, aI (g.2.1 0) 8 fl), (ch, aI (g.2.1 0) 8 fh), (cg_, aI (g.2.1 0) 8 fg)] H := hP
            have hD : va_D A [(co, .inr (0, [.ref ch, .ref cg_, .ref cl])), (cl, aI (g.2.1 0) 8 fl), (ch, aI (g.2.1 0) 8 fh), (cg_, aI (g.2.1 0) 8 fg)] := hD
            refine lv_istore (lv' := [(8, .int (iI (sD fg zb 8))), (7, .int (iI (sD fh zb 8))), (6, .int (iI zb)), (5, .int (iI bh)), (4, .int (iI bg)), (3, .int (iI bs)), (0, .ref co), (1, .int (iI hz)), (2, .int (iI hm_))]) hx hb dX0_bestWay_59 hl (by decide) rfl (fun ls hl => ?_)
            have hr3 := hg8 zb
            have hr4 := hh8 zb
            refine lv_iload hx hb dX0_bestWay_61 (lv_at hl 1 rfl) ?_
            refine lv_iload_n hx hb dX0_bestWay_63 rfl (lv_at hl 8 rfl) ?_
            refine iv_icmp_gt (tgt := 99) hx hb dX0_bestWay_64 (by decide) (by omega) (fun hc5 => ?_) (fun hc5 => ?_)
            · refine iv_iinc (k := 2) (x := zb) (lv' := [(6, .int (iI (zb + 1))), (8, .int (iI (sD fg zb 8))), (7, .int (iI (sD fh zb 8))), (5, .int (iI bh)), (4, .int (iI bg)), (3, .int (iI bs)), (0, .ref co), (1, .int (iI hz)), (2, .int (iI hm_))]) hx hb dX0_bestWay_99 hl rfl (by decide) rfl (fun ls hl => ?_)
              refine lv_goto (tgt := 11) hx hb dX0_bestWay_102 (by decide) ?_
              exact ih11 bs bg bh (zb + 1) (b + 1) (by omega) (by omega) (by omega) (by rw [← hB, show 256 - b = (256 - (b + 1)) + 1 from by omega]; simp only [bwF]; first | (rw [if_neg (fun hz => absurd (ofP_1 hz.1) hnad)]) | (rw [if_neg (fun hz => by have hz2 := hz.2; rw [← hbb.1, hbs] at hz2; omega)]) | (rw [if_pos ⟨ofP_t had, by rw [← hbb.1, hbs]; omega⟩, show zb.toNat = b from by omega])) (by omega) H locs ls (hP.sub [0, 2, 3, 1] rfl) (hD.sub [0, 2, 3, 1] (by decide) rfl) hS (lv_sub hl [0, 3, 4, 5, 6, 7, 8] rfl)
            · refine lv_iload hx hb dX0_bestWay_67 (lv_at hl 0 rfl) ?_
              refine lv_iload hx hb dX0_bestWay_69 (lv_at hl 4 rfl) ?_
              refine iv_icmp_gt (tgt := 88) hx hb dX0_bestWay_71 (by decide) (by omega) (fun hc6 => ?_) (fun hc6 => ?_)
              · refine lv_iload hx hb dX0_bestWay_88 (lv_at hl 2 rfl) ?_
                refine lv_istore_n (lv' := [(3, .int (iI zb)), (8, .int (iI (sD fg zb 8))), (7, .int (iI (sD fh zb 8))), (6, .int (iI zb)), (5, .int (iI bh)), (4, .int (iI bg)), (0, .ref co), (1, .int (iI hz)), (2, .int (iI hm_))]) hx hb dX0_bestWay_90 rfl hl (by decide) rfl (fun ls hl => ?_)
                refine lv_iload hx hb dX0_bestWay_91 (lv_at hl 1 rfl) ?_
                refine lv_istore (lv' := [(4, .int (iI (sD fg zb 8))), (3, .int (iI zb)), (8, .int (iI (sD fg zb 8))), (7, .int (iI (sD fh zb 8))), (6, .int (iI zb)), (5, .int (iI bh)), (0, .ref co), (1, .int (iI hz)), (2, .int (iI hm_))]) hx hb dX0_bestWay_93 hl (by decide) rfl (fun ls hl => ?_)
                refine lv_iload hx hb dX0_bestWay_95 (lv_at hl 3 rfl) ?_
                refine lv_istore (lv' := [(5, .int (iI (sD fh zb 8))), (4, .int (iI (sD fg zb 8))), (3, .int (iI zb)), (8, .int (iI (sD fg zb 8))), (7, .int (iI (sD fh zb 8))), (6, .int (iI zb)), (0, .ref co), (1, .int (iI hz)), (2, .int (iI hm_))]) hx hb dX0_bestWay_97 hl (by decide) rfl (fun ls hl => ?_)
                refine iv_iinc (k := 5) (x := zb) (lv' := [(6, .int (iI (zb + 1))), (5, .int (iI (sD fh zb 8))), (4, .int (iI (sD fg zb 8))), (3, .int (iI zb)), (8, .int (iI (sD fg zb 8))), (7, .int (iI (sD fh zb 8))), (0, .ref co), (1, .int (iI hz)), (2, .int (iI hm_))]) hx hb dX0_bestWay_99 hl rfl (by decide) rfl (fun ls hl => ?_)
                refine lv_goto (tgt := 11) hx hb dX0_bestWay_102 (by decide) ?_
                exact ih11 zb (sD fg zb 8) (sD fh zb 8) (zb + 1) (b + 1) (by omega) (by omega) (by omega) (by rw [← hB, show 256 - b = (256 - (b + 1)) + 1 from by omega]; simp only [bwF]; first | (rw [if_neg (fun hz => absurd (ofP_1 hz.1) hnad)]) | (rw [if_neg (fun hz => by have hz2 := hz.2; rw [← hbb.1, hbs] at hz2; omega)]) | (rw [if_pos ⟨ofP_t had, by rw [← hbb.1, hbs]; omega⟩, show zb.toNat = b from by omega])) (by omega) H locs ls (hP.sub [0, 2, 3, 1] rfl) (hD.sub [0, 2, 3, 1] (by decide) rfl) hS (lv_sub hl [0, 1, 2, 3, 6, 7, 8] rfl)
              · refine lv_iload hx hb dX0_bestWay_74 (lv_at hl 0 rfl) ?_
                refine lv_iload hx hb dX0_bestWay_76 (lv_at hl 4 rfl) ?_
                refine iv_icmp_ne (tgt := 99) hx hb dX0_bestWay_78 (by decide) (by omega) (fun hc7 => ?_) (fun hc7 => ?_)
                · refine iv_iinc (k := 2) (x := zb) (lv' := [(6, .int (iI (zb + 1))), (8, .int (iI (sD fg zb 8))), (7, .int (iI (sD fh zb 8))), (5, .int (iI bh)), (4, .int (iI bg)), (3, .int (iI bs)), (0, .ref co), (1, .int (iI hz)), (2, .int (iI hm_))]) hx hb dX0_bestWay_99 hl rfl (by decide) rfl (fun ls hl => ?_)
                  refine lv_goto (tgt := 11) hx hb dX0_bestWay_102 (by decide) ?_
                  exact ih11 bs bg bh (zb + 1) (b + 1) (by omega) (by omega) (by omega) (by rw [← hB, show 256 - b = (256 - (b + 1)) + 1 from by omega]; simp only [bwF]; first | (rw [if_neg (fun hz => absurd (ofP_1 hz.1) hnad)]) | (rw [if_neg (fun hz => by have hz2 := hz.2; rw [← hbb.1, hbs] at hz2; omega)]) | (rw [if_pos ⟨ofP_t had, by rw [← hbb.1, hbs]; omega⟩, show zb.toNat = b from by omega])) (by omega) H locs ls (hP.sub [0, 2, 3, 1] rfl) (hD.sub [0, 2, 3, 1] (by decide) rfl) hS (lv_sub hl [0, 3, 4, 5, 6, 7, 8] rfl)
                · refine lv_iload hx hb dX0_bestWay_81 (lv_at hl 1 rfl) ?_
                  refine lv_iload hx hb dX0_bestWay_83 (lv_at hl 3 rfl) ?_
                  refine iv_icmp_ge (tgt := 99) hx hb dX0_bestWay_85 (by decide) (by omega) (fun hc8 => ?_) (fun hc8 => ?_)
                  · refine iv_iinc (k := 2) (x := zb) (lv' := [(6, .int (iI (zb + 1))), (8, .int (iI (sD fg zb 8))), (7, .int (iI (sD fh zb 8))), (5, .int (iI bh)), (4, .int (iI bg)), (3, .int (iI bs)), (0, .ref co), (1, .int (iI hz)), (2, .int (iI hm_))]) hx hb dX0_bestWay_99 hl rfl (by decide) rfl (fun ls hl => ?_)
                    refine lv_goto (tgt := 11) hx hb dX0_bestWay_102 (by decide) ?_
                    exact ih11 bs bg bh (zb + 1) (b + 1) (by omega) (by omega) (by omega) (by rw [← hB, show 256 - b = (256 - (b + 1)) + 1 from by omega]; simp only [bwF]; first | (rw [if_neg (fun hz => absurd (ofP_1 hz.1) hnad)]) | (rw [if_neg (fun hz => by have hz2 := hz.2; rw [← hbb.1, hbs] at hz2; omega)]) | (rw [if_pos ⟨ofP_t had, by rw [← hbb.1, hbs]; omega⟩, show zb.toNat = b from by omega])) (by omega) H locs ls (hP.sub [0, 2, 3, 1] rfl) (hD.sub [0, 2, 3, 1] (by decide) rfl) hS (lv_sub hl [0, 3, 4, 5, 6, 7, 8] rfl)
                  · refine lv_iload hx hb dX0_bestWay_88 (lv_at hl 2 rfl) ?_
                    refine lv_istore_n (lv' := [(3, .int (iI zb)), (8, .int (iI (sD fg zb 8))), (7, .int (iI (sD fh zb 8))), (6, .int (iI zb)), (5, .int (iI bh)), (4, .int (iI bg)), (0, .ref co), (1, .int (iI hz)), (2, .int (iI hm_))]) hx hb dX0_bestWay_90 rfl hl (by decide) rfl (fun ls hl => ?_)
                    refine lv_iload hx hb dX0_bestWay_91 (lv_at hl 1 rfl) ?_
                    refine lv_istore (lv' := [(4, .int (iI (sD fg zb 8))), (3, .int (iI zb)), (8, .int (iI (sD fg zb 8))), (7, .int (iI (sD fh zb 8))), (6, .int (iI zb)), (5, .int (iI bh)), (0, .ref co), (1, .int (iI hz)), (2, .int (iI hm_))]) hx hb dX0_bestWay_93 hl (by decide) rfl (fun ls hl => ?_)
                    refine lv_iload hx hb dX0_bestWay_95 (lv_at hl 3 rfl) ?_
                    refine lv_istore (lv' := [(5, .int (iI (sD fh zb 8))), (4, .int (iI (sD fg zb 8))), (3, .int (iI zb)), (8, .int (iI (sD fg zb 8))), (7, .int (iI (sD fh zb 8))), (6, .int (iI zb)), (0, .ref co), (1, .int (iI hz)), (2, .int (iI hm_))]) hx hb dX0_bestWay_97 hl (by decide) rfl (fun ls hl => ?_)
                    refine iv_iinc (k := 5) (x := zb) (lv' := [(6, .int (iI (zb + 1))), (5, .int (iI (sD fh zb 8))), (4, .int (iI (sD fg zb 8))), (3, .int (iI zb)), (8, .int (iI (sD fg zb 8))), (7, .int (iI (sD fh zb 8))), (0, .ref co), (1, .int (iI hz)), (2, .int (iI hm_))]) hx hb dX0_bestWay_99 hl rfl (by decide) rfl (fun ls hl => ?_)
                    refine lv_goto (tgt := 11) hx hb dX0_bestWay_102 (by decide) ?_
                    exact ih11 zb (sD fg zb 8) (sD fh zb 8) (zb + 1) (b + 1) (by omega) (by omega) (by omega) (by rw [← hB, show 256 - b = (256 - (b + 1)) + 1 from by omega]; simp only [bwF]; first | (rw [if_neg (fun hz => absurd (ofP_1 hz.1) hnad)]) | (rw [if_neg (fun hz => by have hz2 := hz.2; rw [← hbb.1, hbs] at hz2; omega)]) | (rw [if_pos ⟨ofP_t had, by rw [← hbb.1, hbs]; omega⟩, show zb.toNat = b from by omega])) (by omega) H locs ls (hP.sub [0, 2, 3, 1] rfl) (hD.sub [0, 2, 3, 1] (by decide) rfl) hS (lv_sub hl [0, 1, 2, 3, 6, 7, 8] rfl)
          · show W p l e _ s m _ below meth c H locs 0 0 _ (F0 m 33 ls (.int (iI 0) :: []))
            have hb3 : ¬ (StandP fh (fun s => (fl s).toNat) b h) := hb3
            have hP : va_P g.1 vwCl [(co, .inr (0, [.ref ch, .ref cg_, .ref cl])), (ch, aI (g.2.1 0) 8 fh), (cg_, aI (g.2.1 0) 8 fg), (cl, aI (g.2.1 0) 8 fl)] H := hP
            have hD : va_D A [(co, .inr (0, [.ref ch, .ref cg_, .ref cl])), (ch, aI (g.2.1 0) 8 fh), (cg_, aI (g.2.1 0) 8 fg), (cl, aI (g.2.1 0) 8 fl)] := hD
            refine iv_if_ne (tgt := 39) hx hb dX0_bestWay_33 (by decide) (by decide) (fun h => absurd h (by decide)) (fun _ => ?_)
            have hnad : ¬ (b &&& h = 0 ∧ StandP fh (fun s => (fl s).toNat) b h) := fun hz9 => absurd hz9.2 (by assumption)
            refine lv_goto (tgt := 99) hx hb dX0_bestWay_36 (by decide) ?_
            refine iv_iinc (k := 0) (x := zb) (lv' := [(6, .int (iI (zb + 1))), (5, .int (iI bh)), (4, .int (iI bg)), (3, .int (iI bs)), (0, .ref co), (1, .int (iI hz)), (2, .int (iI hm_))]) hx hb dX0_bestWay_99 hl rfl (by decide) rfl (fun ls hl => ?_)
            refine lv_goto (tgt := 11) hx hb dX0_bestWay_102 (by decide) ?_
            exact ih11 bs bg bh (zb + 1) (b + 1) (by omega) (by omega) (by omega) (by rw [← hB, show 256 - b = (256 - (b + 1)) + 1 from by omega]; simp only [bwF]; first | (rw [if_neg (fun hz => absurd (ofP_1 hz.1) hnad)]) | (rw [if_neg (fun hz => by have hz2 := hz.2; rw [← hbb.1, hbs] at hz2; omega)]) | (rw [if_pos ⟨ofP_t had, by rw [← hbb.1, hbs]; omega⟩, show zb.toNat = b from by omega])) (by omega) H locs ls (hP.sub [0, 1, 2, 3] rfl) (hD.sub [0, 1, 2, 3] (by decide) rfl) hS (lv_sub hl [0, 1, 2, 3, 4, 5, 6] rfl)
  exact hloop11 _ 0 0 0 1 1 (by omega) ((sD_z fg 8).symm) ((sD_z fh 8).symm) (rfl) (Nat.lt_succ_self _) H locs ls (hP.sub [0, 1, 2, 3] rfl) (hD.sub [0, 1, 2, 3] (by decide) rfl) hS (lv_sub hl [0, 1, 2, 3, 4, 5, 6] rfl)
