theorem kX6_readInto_6 : ∀ w ∈ u_ws RX6 TX6 3, w ∈ wsX6_readInto := fun _ h => List.mem_cons_of_mem _ (List.mem_append_left _ (List.mem_append_right _ h))
abbrev q_X6_readInto (g : GT) (ht : Nat) (tb : Nat) (tl : Int) (tp : Int) (ft : Nat → Int) (L : Nat) (co : Nat) (ch : Nat) (cg_ : Nat) (cl : Nat) (fh : Nat → Int) (fg : Nat → Int) (fl : Nat → Int) : Option Value → va_W → Prop := fun v w => ∃ (r : Int), ∃ (tp' : Int), ∃ (fh' : Nat → Int), ∃ (fg' : Nat → Int), ∃ (fl' : Nat → Int), v = some (.int (iI r)) ∧ w = [(ht, .inr (6, [.int (iI tl), .ref tb, .int (iI tp')])), (tb, aI (g.2.1 2) 100 ft), (co, .inr (0, [.ref ch, .ref cg_, .ref cl])), (ch, aI (g.2.1 0) 8 fh'), (cg_, aI (g.2.1 0) 8 fg'), (cl, aI (g.2.1 0) 8 fl')] ∧ (r = (rdF ft L 8 1 0 (fun _ => 0, fun _ => 0, fun _ => 0)).1) ∧ ((fh', fg', fl') = (rdF ft L 8 1 0 (fun _ => 0, fun _ => 0, fun _ => 0)).2)
set_option maxHeartbeats 4000000 in
set_option maxRecDepth 100000 in
theorem c_X6_readInto (l : Launch) (g : GT) (ht : Nat) (tb : Nat) (tl : Int) (tp : Int) (ft : Nat → Int) (L : Nat) (co : Nat) (ch : Nat) (cg_ : Nat) (cl : Nat) (fh : Nat → Int) (fg : Nat → Int) (fl : Nat → Int) (h1 : tl = (L : Int) ∧ L ≤ 100) (hT : ∀ j, j < L → 32 ≤ ft j ∧ ft j ≤ 126) : Ct l g yX6_readInto wsX6_readInto ({ frames := 4, cells := 0, slots := 0, locals := 92 } : Room) [.ref ht, .ref co] [(ht, .inr (6, [.int (iI tl), .ref tb, .int (iI tp)])), (tb, aI (g.2.1 2) 100 ft), (co, .inr (0, [.ref ch, .ref cg_, .ref cl])), (ch, aI (g.2.1 0) 8 fh), (cg_, aI (g.2.1 0) 8 fg), (cl, aI (g.2.1 0) 8 fl)] (q_X6_readInto g ht tb tl tp ft L co ch cg_ cl fh fg fl) := by
  refine Ct.intro (maxL := 3) (ret := (some .int)) (by decide) rfl (Nat.le_of_ble_eq_true rfl) ?_
  intro p e s m below meth c A ls hx hb hr hml hown hts hlocks hnm hA hG hP hD hS hl
  have hown : s.vm.findClass RX6 = some m.cls := hown
  have hl : lv_has ls 3 [(0, .ref ht), (1, .ref co)] := hl
  have hP : va_P g.1 vwCl [(ht, .inr (6, [.int (iI tl), .ref tb, .int (iI tp)])), (tb, aI (g.2.1 2) 100 ft), (co, .inr (0, [.ref ch, .ref cg_, .ref cl])), (ch, aI (g.2.1 0) 8 fh), (cg_, aI (g.2.1 0) 8 fg), (cl, aI (g.2.1 0) 8 fl)] s.heap := hP
  have hS : va_S A s.heap s.heap [] := hS
  obtain ⟨H, hHe⟩ : ∃ H : Heap, H = s.heap := ⟨_, rfl⟩
  obtain ⟨locs, hLe⟩ : ∃ L : List Loc, L = [] := ⟨_, rfl⟩
  have hP : va_P g.1 vwCl [(ht, .inr (6, [.int (iI tl), .ref tb, .int (iI tp)])), (tb, aI (g.2.1 2) 100 ft), (co, .inr (0, [.ref ch, .ref cg_, .ref cl])), (ch, aI (g.2.1 0) 8 fh), (cg_, aI (g.2.1 0) 8 fg), (cl, aI (g.2.1 0) 8 fl)] H := by rw [hHe]; exact hP
  have hS : va_S A s.heap H locs := by rw [hHe, hLe]; exact hS
  suffices hgo : W p l e ({ frames := 4, cells := 0, slots := 0, locals := 92 } : Room) s m [.ref ht, .ref co].toArray below meth c H locs 0 0 (MQ below (CQ g (q_X6_readInto g ht tb tl tp ft L co ch cg_ cl fh fg fl) A) [.ref ht, .ref co].toArray s ({ frames := 4, cells := 0, slots := 0, locals := 92 } : Room).cells ({ frames := 4, cells := 0, slots := 0, locals := 92 } : Room).slots A) (F0 m 0 ls []) by rw [hHe, hLe] at hgo; exact hgo
  clear hHe hLe
  refine lv_aload_n hx hb dX6_readInto_0 rfl (lv_at hl 1 rfl) ?_
  refine Ct.callV (ci := 0) (q0 := 2) (qc := (RX0, TX0, 3)) (As := []) (rest := []) (wr := [(ht, .inr (6, [.int (iI tl), .ref tb, .int (iI tp)])), (tb, aI (g.2.1 2) 100 ft)]) (c1 := 0) (s1 := 0) ⟨hx, hb, hml, hown, hts⟩ (c_X0_clearZ l g co ch cg_ cl fh fg fl ) rfl rfl (cwV 0 hts gX6_readInto_X0_clear rfl rfl rfl (by decide +kernel) ⟨Nat.le_of_ble_eq_true rfl, Nat.le_of_ble_eq_true rfl⟩) hG hP hD hS hA [2, 3, 4, 5] [0, 1] rfl rfl (by decide) (by decide) (by decide) rfl hl.1 rfl (Nat.le_of_ble_eq_true rfl) dX6_readInto_1 ⟨Nat.le_of_ble_eq_true rfl, Nat.le_of_ble_eq_true rfl⟩ rfl rfl (fun v w H locs hv hP hD hS => ?_)
  obtain ⟨rfl, rfl⟩ := hv
  show W p l e _ s m _ below meth c H locs 0 0 _ (F0 m 4 ls [])
  have hP : va_P g.1 vwCl [(ht, .inr (6, [.int (iI tl), .ref tb, .int (iI tp)])), (tb, aI (g.2.1 2) 100 ft), (co, .inr (0, [.ref ch, .ref cg_, .ref cl])), (ch, aI (g.2.1 0) 8 (fun _ => 0)), (cg_, aI (g.2.1 0) 8 (fun _ => 0)), (cl, aI (g.2.1 0) 8 (fun _ => 0))] H := hP
  have hD : va_D A [(ht, .inr (6, [.int (iI tl), .ref tb, .int (iI tp)])), (tb, aI (g.2.1 2) 100 ft), (co, .inr (0, [.ref ch, .ref cg_, .ref cl])), (ch, aI (g.2.1 0) 8 (fun _ => 0)), (cg_, aI (g.2.1 0) 8 (fun _ => 0)), (cl, aI (g.2.1 0) 8 (fun _ => 0))] := hD
  refine lv_aload_n hx hb dX6_readInto_4 rfl (lv_at hl 0 rfl) ?_
  refine lv_iconst (v := iI (0)) hx hb dX6_readInto_5 rfl ?_
  refine va_put (D := g.1) (ci := 6) (v := .int (iI 0)) hx hb hts kX6_readInto_6 tyX6 tyX6_ok nmX6 hown hG.1 hP hD hS 0 rfl rfl 2 (by decide) (hts _ (List.mem_of_getElem? (i := 1) rfl)) (fun _ h9 => h9) rfl (tyX6_ok 2 (by decide)) rfl rfl (Nat.le_of_ble_eq_true rfl) dX6_readInto_6 (fun H locs hP hD hS => ?_)
  have hP : va_P g.1 vwCl [(ht, .inr (6, [.int (iI tl), .ref tb, .int (iI 0)])), (tb, aI (g.2.1 2) 100 ft), (co, .inr (0, [.ref ch, .ref cg_, .ref cl])), (ch, aI (g.2.1 0) 8 (fun _ => 0)), (cg_, aI (g.2.1 0) 8 (fun _ => 0)), (cl, aI (g.2.1 0) 8 (fun _ => 0))] H := hP
  have hD : va_D A [(ht, .inr (6, [.int (iI tl), .ref tb, .int (iI 0)])), (tb, aI (g.2.1 2) 100 ft), (co, .inr (0, [.ref ch, .ref cg_, .ref cl])), (ch, aI (g.2.1 0) 8 (fun _ => 0)), (cg_, aI (g.2.1 0) 8 (fun _ => 0)), (cl, aI (g.2.1 0) 8 (fun _ => 0))] := hD
  refine lv_iconst (v := iI (1)) hx hb dX6_readInto_9 rfl ?_
  refine lv_istore_n (lv' := [(2, .int (iI 1)), (0, .ref ht), (1, .ref co)]) hx hb dX6_readInto_10 rfl hl (by decide) rfl (fun ls hl => ?_)
  have hloop11 : ∀ (fuel : Nat) (zk : Int) (f1 : Nat → Int) (f2 : Nat → Int) (f3 : Nat → Int) (pz : Int) (k9 : Nat) (p9 : Nat) (hc : zk = (k9 : Int) ∧ 1 ≤ k9 ∧ k9 ≤ 8 ∧ pz = (p9 : Int) ∧ p9 ≤ L) (hok : CSok (f1, f2, f3)) (he : rdF ft L (9 - k9) k9 p9 (f1, f2, f3) = rdF ft L 8 1 0 (fun _ => 0, fun _ => 0, fun _ => 0)) (hmeas : 9 - k9 < fuel), ∀ (H : Heap) (locs : List Loc) (ls : Array Slot), va_P g.1 vwCl [(ht, .inr (6, [.int (iI tl), .ref tb, .int (iI pz)])), (tb, aI (g.2.1 2) 100 ft), (co, .inr (0, [.ref ch, .ref cg_, .ref cl])), (ch, aI (g.2.1 0) 8 f1), (cg_, aI (g.2.1 0) 8 f2), (cl, aI (g.2.1 0) 8 f3)] H → va_D A [(ht, .inr (6, [.int (iI tl), .ref tb, .int (iI pz)])), (tb, aI (g.2.1 2) 100 ft), (co, .inr (0, [.ref ch, .ref cg_, .ref cl])), (ch, aI (g.2.1 0) 8 f1), (cg_, aI (g.2.1 0) 8 f2), (cl, aI (g.2.1 0) 8 f3)] → va_S A s.heap H locs → lv_has ls 3 [(2, .int (iI zk)), (0, .ref ht), (1, .ref co)] → W p l e ({ frames := 4, cells := 0, slots := 0, locals := 92 } : Room) s m [.ref ht, .ref co].toArray below meth c H locs 0 0 (MQ below (CQ g (q_X6_readInto g ht tb tl tp ft L co ch cg_ cl fh fg fl) A) [.ref ht, .ref co].toArray s ({ frames := 4, cells := 0, slots := 0, locals := 92 } : Room).cells ({ frames := 4, cells := 0, slots := 0, locals := 92 } : Room).slots A) (F0 m 11 ls []) := by
    intro fuel
    induction fuel with
    | zero => intro zk f1 f2 f3 pz k9 p9 hc hok he hmeas; exact absurd hmeas (Nat.not_lt_zero _)
    | succ fuel ih11 =>
      intro zk f1 f2 f3 pz k9 p9 hc hok he hmeas H locs ls hP hD hS hl
      refine lv_iload_n hx hb dX6_readInto_11 rfl (lv_at hl 0 rfl) ?_
      refine lv_bipush (v := iI (8)) hx hb dX6_readInto_12 (by decide) ?_
      refine iv_icmp_gt (tgt := 61) hx hb dX6_readInto_14 (by decide) (by omega) (fun hc1 => absurd hc1 (by omega)) (fun hc1 => ?_)
      refine lv_aload_n hx hb dX6_readInto_17 rfl (lv_at hl 1 rfl) ?_
      refine lv_aload_n hx hb dX6_readInto_18 rfl (lv_at hl 2 rfl) ?_
      refine Ct.callV (ci := 6) (q0 := 0) (qc := (RX6, TX6, 3)) (As := [.ref co]) (rest := []) (wr := []) (c1 := 0) (s1 := 0) ⟨hx, hb, hml, hown, hts⟩ (c_X6_readClause l g ht tb tl pz ft L co ch cg_ cl f1 f2 f3 p9 (by omega) (hT) (hok)) rfl rfl (cwV 1 hts gX6_readInto_X6_readClause rfl rfl rfl (by decide +kernel) ⟨Nat.le_of_ble_eq_true rfl, Nat.le_of_ble_eq_true rfl⟩) hG hP hD hS hA [0, 1, 2, 3, 4, 5] [] rfl rfl (by decide) (by decide) (by decide) rfl hl.1 rfl (Nat.le_of_ble_eq_true rfl) dX6_readInto_19 ⟨Nat.le_of_ble_eq_true rfl, Nat.le_of_ble_eq_true rfl⟩ rfl rfl (fun v w H locs hv hP hD hS => ?_)
      obtain ⟨tp2, fh3, fg4, fl5, ⟨rfl, hb9⟩ | ⟨rfl, hb9⟩, rfl, hf6, hf7, hf8⟩ := hv
      · show W p l e _ s m _ below meth c H locs 0 0 _ (F0 m 22 ls (.int (iI 1) :: []))
        have hb9 : (clF ft L f1 p9).1 = 1 := hb9
        have hP : va_P g.1 vwCl [(ht, .inr (6, [.int (iI tl), .ref tb, .int (iI tp2)])), (tb, aI (g.2.1 2) 100 ft), (co, .inr (0, [.ref ch, .ref cg_, .ref cl])), (ch, aI (g.2.1 0) 8 fh3), (cg_, aI (g.2.1 0) 8 fg4), (cl, aI (g.2.1 0) 8 fl5)] H := hP
        have hD : va_D A [(ht, .inr (6, [.int (iI tl), .ref tb, .int (iI tp2)])), (tb, aI (g.2.1 2) 100 ft), (co, .inr (0, [.ref ch, .ref cg_, .ref cl])), (ch, aI (g.2.1 0) 8 fh3), (cg_, aI (g.2.1 0) 8 fg4), (cl, aI (g.2.1 0) 8 fl5)] := hD
        have hf6 : tp2 = (((clF ft L f1 p9).2.1 : Nat) : Int) := hf6
        have hf7 : (clF ft L f1 p9).1 = 1 → (fh3, fg4, fl5) = clS ft L (f1, f2, f3) p9 := hf7
        have hf8 : ¬ (clF ft L f1 p9).1 = 1 → fh3 = f1 ∧ fg4 = f2 ∧ fl5 = f3 := hf8
        have hcr := clF_rng ft L f1 p9 (by omega)
        have hcp := hf6
        have hce := hf7
        have hcu := hf8
        refine iv_if_ne (tgt := 28) hx hb dX6_readInto_22 (by decide) (by decide) (fun _ => ?_) (fun h => absurd h (by decide))
        have hok1 : (clF ft L f1 p9).1 = 1 := by assumption
        have hcs := hce hok1
        have hsl := sk_le ft (L := L) (p := (clF ft L f1 p9).2.1) (by omega)
        refine lv_aload_n hx hb dX6_readInto_28 rfl (lv_at hl 1 rfl) ?_
        refine Ct.callV (ci := 6) (q0 := 0) (qc := (RX6, TX6, 3)) (As := []) (rest := []) (wr := [(co, .inr (0, [.ref ch, .ref cg_, .ref cl])), (ch, aI (g.2.1 0) 8 fh3), (cg_, aI (g.2.1 0) 8 fg4), (cl, aI (g.2.1 0) 8 fl5)]) (c1 := 0) (s1 := 0) ⟨hx, hb, hml, hown, hts⟩ (c_X6_next l g ht tb tl tp2 ft L ((clF ft L f1 p9).2.1) (by omega) (hT)) rfl rfl (cwV 0 hts gX6_readInto_X6_next rfl rfl rfl (by decide +kernel) ⟨Nat.le_of_ble_eq_true rfl, Nat.le_of_ble_eq_true rfl⟩) hG hP hD hS hA [0, 1] [2, 3, 4, 5] rfl rfl (by decide) (by decide) (by decide) rfl hl.1 rfl (Nat.le_of_ble_eq_true rfl) dX6_readInto_29 ⟨Nat.le_of_ble_eq_true rfl, Nat.le_of_ble_eq_true rfl⟩ rfl rfl (fun v w H locs hv hP hD hS => ?_)
        obtain ⟨r11, tp12, rfl, rfl, hf13, hf14⟩ := hv
        show W p l e _ s m _ below meth c H locs 0 0 _ (F0 m 32 ls (.int (iI r11) :: []))
        have hP : va_P g.1 vwCl [(co, .inr (0, [.ref ch, .ref cg_, .ref cl])), (ch, aI (g.2.1 0) 8 fh3), (cg_, aI (g.2.1 0) 8 fg4), (cl, aI (g.2.1 0) 8 fl5), (ht, .inr (6, [.int (iI tl), .ref tb, .int (iI tp12)])), (tb, aI (g.2.1 2) 100 ft)] H := hP
        have hD : va_D A [(co, .inr (0, [.ref ch, .ref cg_, .ref cl])), (ch, aI (g.2.1 0) 8 fh3), (cg_, aI (g.2.1 0) 8 fg4), (cl, aI (g.2.1 0) 8 fl5), (ht, .inr (6, [.int (iI tl), .ref tb, .int (iI tp12)])), (tb, aI (g.2.1 2) 100 ft)] := hD
        have hf13 : tp12 = (sk ft L ((clF ft L f1 p9).2.1) : Int) := hf13
        have hf14 : r11 = (if sk ft L ((clF ft L f1 p9).2.1) < L then ft (sk ft L ((clF ft L f1 p9).2.1)) else -1) := hf14
        have hnx := hf14
        have hbr : -1 ≤ r11 ∧ r11 ≤ 126 := (by rw [hnx]; split <;> first | omega | (have := hT (sk ft L (clF ft L f1 p9).2.1) (by omega); omega))
        refine iv_if_ge (tgt := 37) hx hb dX6_readInto_32 (by decide) (by omega) (fun hc15 => ?_) (fun hc15 => ?_)
        · have hnl : sk ft L (clF ft L f1 p9).2.1 < L := Classical.byContradiction (fun z => by rw [if_neg z] at hnx; omega)
          refine lv_iload_n hx hb dX6_readInto_37 rfl (lv_at hl 0 rfl) ?_
          refine lv_bipush (v := iI (8)) hx hb dX6_readInto_38 (by decide) ?_
          refine iv_icmp_eq (tgt := 61) hx hb dX6_readInto_40 (by decide) (by omega) (fun hc16 => ?_) (fun hc16 => ?_)
          · first | have hF := hF | (have hF : rdF ft L (9 - k9) k9 p9 (f1, f2, f3) = (-20 - (sk ft L (clF ft L f1 p9).2.1 : Int), clS ft L (f1, f2, f3) p9) := by rw [show 9 - k9 = (8 - k9) + 1 from by omega]; simp only [rdF]; rw [if_neg (fun z => z hok1), if_neg (fun z => z hnl), if_pos (by omega)])
            refine lv_bipush (v := iI (-20)) hx hb dX6_readInto_61 (by decide) ?_
            refine lv_aload_n hx hb dX6_readInto_63 rfl (lv_at hl 1 rfl) ?_
            refine va_get (D := g.1) (ci := 6) (v := .int (iI tp12)) hx hb hts kX6_readInto_6 hown hG.1 hP 4 rfl rfl 2 (by decide) (hts _ (List.mem_of_getElem? (i := 1) rfl)) (fun _ h9 => h9) rfl dX6_readInto_64 ?_
            refine iv_isub hx hb dX6_readInto_67 ?_
            exact Ct.iret hx hb hr hlocks (hP.sub [4, 5, 0, 1, 2, 3] rfl) (hD.sub [4, 5, 0, 1, 2, 3] (by decide) rfl) hS ⟨by decide, by decide⟩ dX6_readInto_68 ⟨((-20) - tp12), tp12, fh3, fg4, fl5, rfl, rfl, (by rw [← he, hF]; omega), (by rw [← he, hF]; first | exact hcs | (obtain ⟨u1, u2, u3⟩ := hu; rw [u1, u2, u3]))⟩
          · refine lv_aload_n hx hb dX6_readInto_43 rfl (lv_at hl 1 rfl) ?_
            refine lv_bipush (v := iI (59)) hx hb dX6_readInto_44 (by decide) ?_
            refine Ct.callV (ci := 6) (q0 := 4) (qc := (RX6, TX6, 3)) (As := [.int (iI 59)]) (rest := []) (wr := [(co, .inr (0, [.ref ch, .ref cg_, .ref cl])), (ch, aI (g.2.1 0) 8 fh3), (cg_, aI (g.2.1 0) 8 fg4), (cl, aI (g.2.1 0) 8 fl5)]) (c1 := 0) (s1 := 0) ⟨hx, hb, hml, hown, hts⟩ (c_X6_pass l g ht tb tl tp12 ft L (sk ft L (clF ft L f1 p9).2.1) 59 (by omega) (hT) (by omega)) rfl rfl (cwV 1 hts gX6_readInto_X6_pass rfl rfl rfl (by decide +kernel) ⟨Nat.le_of_ble_eq_true rfl, Nat.le_of_ble_eq_true rfl⟩) hG hP hD hS hA [4, 5] [0, 1, 2, 3] rfl rfl (by decide) (by decide) (by decide) rfl hl.1 rfl (Nat.le_of_ble_eq_true rfl) dX6_readInto_46 ⟨Nat.le_of_ble_eq_true rfl, Nat.le_of_ble_eq_true rfl⟩ rfl rfl (fun v w H locs hv hP hD hS => ?_)
            obtain ⟨tp17, ⟨rfl, hb20⟩ | ⟨rfl, hb20⟩, rfl, hf18, hf19⟩ := hv
            · show W p l e _ s m _ below meth c H locs 0 0 _ (F0 m 49 ls (.int (iI 1) :: []))
              have hb20 : psP ft L 59 (sk ft L (clF ft L f1 p9).2.1) := hb20
              have hP : va_P g.1 vwCl [(co, .inr (0, [.ref ch, .ref cg_, .ref cl])), (ch, aI (g.2.1 0) 8 fh3), (cg_, aI (g.2.1 0) 8 fg4), (cl, aI (g.2.1 0) 8 fl5), (ht, .inr (6, [.int (iI tl), .ref tb, .int (iI tp17)])), (tb, aI (g.2.1 2) 100 ft)] H := hP
              have hD : va_D A [(co, .inr (0, [.ref ch, .ref cg_, .ref cl])), (ch, aI (g.2.1 0) 8 fh3), (cg_, aI (g.2.1 0) 8 fg4), (cl, aI (g.2.1 0) 8 fl5), (ht, .inr (6, [.int (iI tl), .ref tb, .int (iI tp17)])), (tb, aI (g.2.1 2) 100 ft)] := hD
              have hf18 : psP ft L 59 (sk ft L (clF ft L f1 p9).2.1) → tp17 = (sk ft L (sk ft L (clF ft L f1 p9).2.1) : Int) + 1 := hf18
              have hf19 : ¬ psP ft L 59 (sk ft L (clF ft L f1 p9).2.1) → tp17 = (sk ft L (sk ft L (clF ft L f1 p9).2.1) : Int) := hf19
              have hs3 := sk_sk ft (L := L) (p := (clF ft L f1 p9).2.1) (by omega)
              have hs4 := congrArg ft hs3
              first | have hpl := hf18 (by assumption) | have hpl := hf19 (by assumption)
              refine iv_if_ne (tgt := 55) hx hb dX6_readInto_49 (by decide) (by decide) (fun _ => ?_) (fun h => absurd h (by decide))
              refine iv_iinc (k := 0) (x := zk) (lv' := [(2, .int (iI (zk + 1))), (0, .ref ht), (1, .ref co)]) hx hb dX6_readInto_55 hl rfl (by decide) rfl (fun ls hl => ?_)
              refine lv_goto (tgt := 11) hx hb dX6_readInto_58 (by decide) ?_
              exact ih11 (zk + 1) fh3 fg4 fl5 tp17 (k9 + 1) (sk ft L (clF ft L f1 p9).2.1 + 1) (by omega) (by rw [hcs]; exact clS_ok (by omega) hok hok1) (by rw [← he, show 9 - k9 = (9 - (k9 + 1)) + 1 from by omega]; simp only [rdF]; rw [if_neg (fun z => z hok1), if_neg (fun z => by omega), if_neg (fun z => by omega), hcs]) (by omega) H locs ls (hP.sub [4, 5, 0, 1, 2, 3] rfl) (hD.sub [4, 5, 0, 1, 2, 3] (by decide) rfl) hS (lv_sub hl [0, 1, 2] rfl)
            · show W p l e _ s m _ below meth c H locs 0 0 _ (F0 m 49 ls (.int (iI 0) :: []))
              have hb20 : ¬ (psP ft L 59 (sk ft L (clF ft L f1 p9).2.1)) := hb20
              have hP : va_P g.1 vwCl [(co, .inr (0, [.ref ch, .ref cg_, .ref cl])), (ch, aI (g.2.1 0) 8 fh3), (cg_, aI (g.2.1 0) 8 fg4), (cl, aI (g.2.1 0) 8 fl5), (ht, .inr (6, [.int (iI tl), .ref tb, .int (iI tp17)])), (tb, aI (g.2.1 2) 100 ft)] H := hP
              have hD : va_D A [(co, .inr (0, [.ref ch, .ref cg_, .ref cl])), (ch, aI (g.2.1 0) 8 fh3), (cg_, aI (g.2.1 0) 8 fg4), (cl, aI (g.2.1 0) 8 fl5), (ht, .inr (6, [.int (iI tl), .ref tb, .int (iI tp17)])), (tb, aI (g.2.1 2) 100 ft)] := hD
              have hf18 : psP ft L 59 (sk ft L (clF ft L f1 p9).2.1) → tp17 = (sk ft L (sk ft L (clF ft L f1 p9).2.1) : Int) + 1 := hf18
              have hf19 : ¬ psP ft L 59 (sk ft L (clF ft L f1 p9).2.1) → tp17 = (sk ft L (sk ft L (clF ft L f1 p9).2.1) : Int) := hf19
              have hs3 := sk_sk ft (L := L) (p := (clF ft L f1 p9).2.1) (by omega)
              have hs4 := congrArg ft hs3
              first | have hpl := hf18 (by assumption) | have hpl := hf19 (by assumption)
              refine iv_if_ne (tgt := 55) hx hb dX6_readInto_49 (by decide) (by decide) (fun h => absurd h (by decide)) (fun _ => ?_)
              refine lv_goto (tgt := 61) hx hb dX6_readInto_52 (by decide) ?_
              first | have hF := hF | (have hF : rdF ft L (9 - k9) k9 p9 (f1, f2, f3) = (-20 - (sk ft L (clF ft L f1 p9).2.1 : Int), clS ft L (f1, f2, f3) p9) := by rw [show 9 - k9 = (8 - k9) + 1 from by omega]; simp only [rdF]; rw [if_neg (fun z => z hok1), if_neg (fun z => z hnl), if_pos (by omega)])
              refine lv_bipush (v := iI (-20)) hx hb dX6_readInto_61 (by decide) ?_
              refine lv_aload_n hx hb dX6_readInto_63 rfl (lv_at hl 1 rfl) ?_
              refine va_get (D := g.1) (ci := 6) (v := .int (iI tp17)) hx hb hts kX6_readInto_6 hown hG.1 hP 4 rfl rfl 2 (by decide) (hts _ (List.mem_of_getElem? (i := 1) rfl)) (fun _ h9 => h9) rfl dX6_readInto_64 ?_
              refine iv_isub hx hb dX6_readInto_67 ?_
              exact Ct.iret hx hb hr hlocks (hP.sub [4, 5, 0, 1, 2, 3] rfl) (hD.sub [4, 5, 0, 1, 2, 3] (by decide) rfl) hS ⟨by decide, by decide⟩ dX6_readInto_68 ⟨((-20) - tp17), tp17, fh3, fg4, fl5, rfl, rfl, (by rw [← he, hF]; omega), (by rw [← he, hF]; first | exact hcs | (obtain ⟨u1, u2, u3⟩ := hu; rw [u1, u2, u3]))⟩
        · have hF : rdF ft L (9 - k9) k9 p9 (f1, f2, f3) = ((k9 : Int), clS ft L (f1, f2, f3) p9) := by rw [show 9 - k9 = (8 - k9) + 1 from by omega]; simp only [rdF]; rw [if_neg (fun z => z hok1), if_pos (fun z => by rw [if_pos z] at hnx; have := hT _ z; omega)]
          refine lv_iload_n hx hb dX6_readInto_35 rfl (lv_at hl 0 rfl) ?_
          exact Ct.iret hx hb hr hlocks (hP.sub [4, 5, 0, 1, 2, 3] rfl) (hD.sub [4, 5, 0, 1, 2, 3] (by decide) rfl) hS ⟨by decide, by decide⟩ dX6_readInto_36 ⟨zk, tp12, fh3, fg4, fl5, rfl, rfl, (by rw [← he, hF]; omega), (by rw [← he, hF]; exact hcs)⟩
      · show W p l e _ s m _ below meth c H locs 0 0 _ (F0 m 22 ls (.int (iI 0) :: []))
        have hb9 : ¬ ((clF ft L f1 p9).1 = 1) := hb9
        have hP : va_P g.1 vwCl [(ht, .inr (6, [.int (iI tl), .ref tb, .int (iI tp2)])), (tb, aI (g.2.1 2) 100 ft), (co, .inr (0, [.ref ch, .ref cg_, .ref cl])), (ch, aI (g.2.1 0) 8 fh3), (cg_, aI (g.2.1 0) 8 fg4), (cl, aI (g.2.1 0) 8 fl5)] H := hP
        have hD : va_D A [(ht, .inr (6, [.int (iI tl), .ref tb, .int (iI tp2)])), (tb, aI (g.2.1 2) 100 ft), (co, .inr (0, [.ref ch, .ref cg_, .ref cl])), (ch, aI (g.2.1 0) 8 fh3), (cg_, aI (g.2.1 0) 8 fg4), (cl, aI (g.2.1 0) 8 fl5)] := hD
        have hf6 : tp2 = (((clF ft L f1 p9).2.1 : Nat) : Int) := hf6
        have hf7 : (clF ft L f1 p9).1 = 1 → (fh3, fg4, fl5) = clS ft L (f1, f2, f3) p9 := hf7
        have hf8 : ¬ (clF ft L f1 p9).1 = 1 → fh3 = f1 ∧ fg4 = f2 ∧ fl5 = f3 := hf8
        have hcr := clF_rng ft L f1 p9 (by omega)
        have hcp := hf6
        have hce := hf7
        have hcu := hf8
        refine iv_if_ne (tgt := 28) hx hb dX6_readInto_22 (by decide) (by decide) (fun h => absurd h (by decide)) (fun _ => ?_)
        have hF : rdF ft L (9 - k9) k9 p9 (f1, f2, f3) = (-20 - ((clF ft L f1 p9).2.1 : Int), (f1, f2, f3)) := by rw [show 9 - k9 = (8 - k9) + 1 from by omega]; simp only [rdF]; rw [if_pos (by assumption)]
        have hu := hcu (by assumption)
        refine lv_goto (tgt := 61) hx hb dX6_readInto_25 (by decide) ?_
        first | have hF := hF | (have hF : rdF ft L (9 - k9) k9 p9 (f1, f2, f3) = (-20 - (sk ft L (clF ft L f1 p9).2.1 : Int), clS ft L (f1, f2, f3) p9) := by rw [show 9 - k9 = (8 - k9) + 1 from by omega]; simp only [rdF]; rw [if_neg (fun z => z hok1), if_neg (fun z => z hnl), if_pos (by omega)])
        refine lv_bipush (v := iI (-20)) hx hb dX6_readInto_61 (by decide) ?_
        refine lv_aload_n hx hb dX6_readInto_63 rfl (lv_at hl 1 rfl) ?_
        refine va_get (D := g.1) (ci := 6) (v := .int (iI tp2)) hx hb hts kX6_readInto_6 hown hG.1 hP 0 rfl rfl 2 (by decide) (hts _ (List.mem_of_getElem? (i := 1) rfl)) (fun _ h9 => h9) rfl dX6_readInto_64 ?_
        refine iv_isub hx hb dX6_readInto_67 ?_
        exact Ct.iret hx hb hr hlocks (hP.sub [0, 1, 2, 3, 4, 5] rfl) (hD.sub [0, 1, 2, 3, 4, 5] (by decide) rfl) hS ⟨by decide, by decide⟩ dX6_readInto_68 ⟨((-20) - tp2), tp2, fh3, fg4, fl5, rfl, rfl, (by rw [← he, hF]; omega), (by rw [← he, hF]; first | exact hcs | (obtain ⟨u1, u2, u3⟩ := hu; rw [u1, u2, u3]))⟩
  exact hloop11 _ 1 (fun _ => 0) (fun _ => 0) (fun _ => 0) 0 1 0 (by omega) (fun j _ => by simp) (rfl) (Nat.lt_succ_self _) H locs ls (hP.sub [0, 1, 2, 3, 4, 5] rfl) (hD.sub [0, 1, 2, 3, 4, 5] (by decide) rfl) hS (lv_sub hl [0, 1, 2] rfl)
