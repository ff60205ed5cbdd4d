theorem kX0_stands_0 : ∀ w ∈ u_ws RX0 TX0 3, w ∈ wsX0_stands := fun _ h => List.mem_cons_of_mem _ (List.mem_append_right _ h)
abbrev q_X0_stands (g : GT) (co : Nat) (ch : Nat) (cg_ : Nat) (cl : Nat) (fh : Nat → Int) (fg : Nat → Int) (fl : Nat → Int) (bz : Int) (hz : Int) (b : Nat) (h : Nat) : Option Value → va_W → Prop := fun v w => (v = some (.int (iI 1)) ∧ (StandP fh (fun s => (fl s).toNat) b h) ∨ v = some (.int (iI 0)) ∧ ¬ (StandP fh (fun s => (fl s).toNat) b h)) ∧ w = [(co, .inr (0, [.ref ch, .ref cg_, .ref cl])), (ch, aI (g.2.1 0) 8 fh), (cg_, aI (g.2.1 0) 8 fg), (cl, aI (g.2.1 0) 8 fl)]
set_option maxHeartbeats 4000000 in
set_option maxRecDepth 100000 in
theorem c_X0_stands (l : Launch) (g : GT) (co : Nat) (ch : Nat) (cg_ : Nat) (cl : Nat) (fh : Nat → Int) (fg : Nat → Int) (fl : Nat → Int) (bz : Int) (hz : Int) (b : Nat) (h : Nat) (h1 : bz = (b : Int) ∧ b < 256 ∧ hz = (h : Int) ∧ h < 256) (hC : ∀ j, j < 8 → 0 ≤ fh j ∧ fh j ≤ 20 ∧ 0 ≤ fg j ∧ fg j ≤ 99 ∧ 0 ≤ fl j ∧ fl j < 256) : Ct l g yX0_stands wsX0_stands ({ frames := 2, cells := 0, slots := 0, locals := 43 } : Room) [.ref co, .int (iI bz), .int (iI hz)] [(co, .inr (0, [.ref ch, .ref cg_, .ref cl])), (ch, aI (g.2.1 0) 8 fh), (cg_, aI (g.2.1 0) 8 fg), (cl, aI (g.2.1 0) 8 fl)] (q_X0_stands g co ch cg_ cl fh fg fl bz hz b h) := by
  refine Ct.intro (maxL := 5) (ret := (some .boolean)) (by decide) rfl (Nat.le_of_ble_eq_true rfl) ?_
  intro p e s m below meth c A ls hx hb hr hml hown hts hlocks hnm hA hG hP hD hS hl
  have hown : s.vm.findClass RX0 = some m.cls := hown
  have hl : lv_has ls 5 [(0, .ref co), (1, .int (iI bz)), (2, .int (iI hz))] := hl
  have hP : va_P g.1 vwCl [(co, .inr (0, [.ref ch, .ref cg_, .ref cl])), (ch, aI (g.2.1 0) 8 fh), (cg_, aI (g.2.1 0) 8 fg), (cl, aI (g.2.1 0) 8 fl)] s.heap := hP
  have hS : va_S A s.heap s.heap [] := hS
  obtain ⟨H, hHe⟩ : ∃ H : Heap, H = s.heap := ⟨_, rfl⟩
  obtain ⟨locs, hLe⟩ : ∃ L : List Loc, L = [] := ⟨_, rfl⟩
  have hP : va_P g.1 vwCl [(co, .inr (0, [.ref ch, .ref cg_, .ref cl])), (ch, aI (g.2.1 0) 8 fh), (cg_, aI (g.2.1 0) 8 fg), (cl, aI (g.2.1 0) 8 fl)] H := by rw [hHe]; exact hP
  have hS : va_S A s.heap H locs := by rw [hHe, hLe]; exact hS
  suffices hgo : W p l e ({ frames := 2, cells := 0, slots := 0, locals := 43 } : Room) s m [.ref co, .int (iI bz), .int (iI hz)].toArray below meth c H locs 0 0 (MQ below (CQ g (q_X0_stands g co ch cg_ cl fh fg fl bz hz b h) A) [.ref co, .int (iI bz), .int (iI hz)].toArray s ({ frames := 2, cells := 0, slots := 0, locals := 43 } : Room).cells ({ frames := 2, cells := 0, slots := 0, locals := 43 } : Room).slots A) (F0 m 0 ls []) by rw [hHe, hLe] at hgo; exact hgo
  clear hHe hLe
  refine lv_iconst (v := iI (0)) hx hb dX0_stands_0 rfl ?_
  refine lv_istore_n (lv' := [(3, .int (iI 0)), (0, .ref co), (1, .int (iI bz)), (2, .int (iI hz))]) hx hb dX0_stands_1 rfl hl (by decide) rfl (fun ls hl => ?_)
  have hloop2 : ∀ (fuel : Nat) (zj : Int) (j : Nat) (hc : zj = (j : Int) ∧ j ≤ 8) (he : ∀ s, s < j → bitP b s → 0 < fh s ∧ ndn (fl s).toNat (b ||| h) = 0) (hmeas : 8 - j < fuel), ∀ (H : Heap) (locs : List Loc) (ls : Array Slot), va_P g.1 vwCl [(co, .inr (0, [.ref ch, .ref cg_, .ref cl])), (ch, aI (g.2.1 0) 8 fh), (cg_, aI (g.2.1 0) 8 fg), (cl, aI (g.2.1 0) 8 fl)] H → va_D A [(co, .inr (0, [.ref ch, .ref cg_, .ref cl])), (ch, aI (g.2.1 0) 8 fh), (cg_, aI (g.2.1 0) 8 fg), (cl, aI (g.2.1 0) 8 fl)] → va_S A s.heap H locs → lv_has ls 5 [(3, .int (iI zj)), (0, .ref co), (1, .int (iI bz)), (2, .int (iI hz))] → W p l e ({ frames := 2, cells := 0, slots := 0, locals := 43 } : Room) s m [.ref co, .int (iI bz), .int (iI hz)].toArray below meth c H locs 0 0 (MQ below (CQ g (q_X0_stands g co ch cg_ cl fh fg fl bz hz b h) A) [.ref co, .int (iI bz), .int (iI hz)].toArray s ({ frames := 2, cells := 0, slots := 0, locals := 43 } : Room).cells ({ frames := 2, cells := 0, slots := 0, locals := 43 } : Room).slots A) (F0 m 2 ls []) := by
    intro fuel
    induction fuel with
    | zero => intro zj j hc he hmeas; exact absurd hmeas (Nat.not_lt_zero _)
    | succ fuel ih2 =>
      intro zj j hc he hmeas H locs ls hP hD hS hl
      refine lv_iload_n hx hb dX0_stands_2 rfl (lv_at hl 0 rfl) ?_
      refine lv_bipush (v := iI (8)) hx hb dX0_stands_3 (by decide) ?_
      refine iv_icmp_ge (tgt := 60) hx hb dX0_stands_5 (by decide) (by omega) (fun hc1 => ?_) (fun hc1 => ?_)
      · refine lv_iconst (v := iI (1)) hx hb dX0_stands_60 rfl ?_
        exact Ct.zret hx hb hr hlocks (hP.sub [0, 1, 2, 3] rfl) (hD.sub [0, 1, 2, 3] (by decide) rfl) hS ⟨by decide, by decide⟩ dX0_stands_61 (by decide) ⟨Or.inl ⟨rfl, fun s hs hb9 => he s (by omega) hb9⟩, rfl⟩
      · have hq := sh_rng j (z := (b : Int)) (by omega)
        have hqj := hC j (by omega)
        have hjoin22 : ∀ (zb : Int) (hzb : (zb = 1 ∧ bitP b j) ∨ (zb = 0 ∧ ¬ bitP b j)), ∀ (H : Heap) (locs : List Loc) (ls : Array Slot), va_P g.1 vwCl [(co, .inr (0, [.ref ch, .ref cg_, .ref cl])), (ch, aI (g.2.1 0) 8 fh), (cg_, aI (g.2.1 0) 8 fg), (cl, aI (g.2.1 0) 8 fl)] H → va_D A [(co, .inr (0, [.ref ch, .ref cg_, .ref cl])), (ch, aI (g.2.1 0) 8 fh), (cg_, aI (g.2.1 0) 8 fg), (cl, aI (g.2.1 0) 8 fl)] → va_S A s.heap H locs → lv_has ls 5 [(3, .int (iI zj)), (0, .ref co), (1, .int (iI bz)), (2, .int (iI hz))] → W p l e ({ frames := 2, cells := 0, slots := 0, locals := 43 } : Room) s m [.ref co, .int (iI bz), .int (iI hz)].toArray below meth c H locs 0 0 (MQ below (CQ g (q_X0_stands g co ch cg_ cl fh fg fl bz hz b h) A) [.ref co, .int (iI bz), .int (iI hz)].toArray s ({ frames := 2, cells := 0, slots := 0, locals := 43 } : Room).cells ({ frames := 2, cells := 0, slots := 0, locals := 43 } : Room).slots A) (F0 m 22 ls [.int (iI zb)]) := by
          intro zb hzb H locs ls hP hD hS hl
          refine lv_istore (lv' := [(4, .int (iI zb)), (3, .int (iI zj)), (0, .ref co), (1, .int (iI bz)), (2, .int (iI hz))]) hx hb dX0_stands_22 hl (by decide) rfl (fun ls hl => ?_)
          refine lv_iload hx hb dX0_stands_24 (lv_at hl 0 rfl) ?_
          refine iv_if_eq (tgt := 54) hx hb dX0_stands_26 (by decide) (by omega) (fun hc2 => ?_) (fun hc2 => ?_)
          · have hnb : ¬ bitP b j := by omega
            refine iv_iinc (k := 1) (x := zj) (lv' := [(3, .int (iI (zj + 1))), (4, .int (iI zb)), (0, .ref co), (1, .int (iI bz)), (2, .int (iI hz))]) hx hb dX0_stands_54 hl rfl (by decide) rfl (fun ls hl => ?_)
            refine lv_goto (tgt := 2) hx hb dX0_stands_57 (by decide) ?_
            exact ih2 (zj + 1) (j + 1) (by omega) (fun s hs hb9 => if q : s = j then (by subst q; first | exact absurd hb9 (by assumption) | exact hgood) else he s (by omega) hb9) (by omega) H locs ls (hP.sub [0, 1, 2, 3] rfl) (hD.sub [0, 1, 2, 3] (by decide) rfl) hS (lv_sub hl [0, 2, 3, 4] rfl)
          · have hyb : bitP b j := by omega
            refine lv_aload_n hx hb dX0_stands_29 rfl (lv_at hl 2 rfl) ?_
            refine lv_iload_n hx hb dX0_stands_30 rfl (lv_at hl 1 rfl) ?_
            refine Ct.callV (ci := 0) (q0 := 0) (qc := (RX0, TX0, 3)) (As := [.int (iI zj)]) (rest := []) (wr := []) (c1 := 0) (s1 := 0) ⟨hx, hb, hml, hown, hts⟩ (c_X0_has l g co ch cg_ cl fh fg fl zj (by omega) (hC)) rfl rfl (cwV 1 hts gX0_stands_X0_has rfl rfl rfl (by decide +kernel) ⟨Nat.le_of_ble_eq_true rfl, Nat.le_of_ble_eq_true rfl⟩) hG hP hD hS hA [0, 1, 2, 3] [] rfl rfl (by decide) (by decide) (by decide) rfl hl.1 rfl (Nat.le_of_ble_eq_true rfl) dX0_stands_31 ⟨Nat.le_of_ble_eq_true rfl, Nat.le_of_ble_eq_true rfl⟩ rfl rfl (fun v w H locs hv hP hD hS => ?_)
            obtain ⟨⟨rfl, hb3⟩ | ⟨rfl, hb3⟩, rfl⟩ := hv
            · show W p l e _ s m _ below meth c H locs 0 0 _ (F0 m 34 ls (.int (iI 1) :: []))
              have hb3 : (0 ≤ zj ∧ zj ≤ 7) ∧ 0 < fh zj.toNat := hb3
              have hP : va_P g.1 vwCl [(co, .inr (0, [.ref ch, .ref cg_, .ref cl])), (ch, aI (g.2.1 0) 8 fh), (cg_, aI (g.2.1 0) 8 fg), (cl, aI (g.2.1 0) 8 fl)] H := hP
              have hD : va_D A [(co, .inr (0, [.ref ch, .ref cg_, .ref cl])), (ch, aI (g.2.1 0) 8 fh), (cg_, aI (g.2.1 0) 8 fg), (cl, aI (g.2.1 0) 8 fl)] := hD
              refine iv_if_eq (tgt := 52) hx hb dX0_stands_34 (by decide) (by decide) (fun h => absurd h (by decide)) (fun _ => ?_)
              refine lv_aload_n hx hb dX0_stands_37 rfl (lv_at hl 2 rfl) ?_
              refine va_get (D := g.1) (ci := 0) (v := .ref cl) hx hb hts kX0_stands_0 hown hG.1 hP 0 rfl rfl 2 (by decide) (hts _ (List.mem_of_getElem? (i := 1) rfl)) (fun _ h9 => h9) rfl dX0_stands_38 ?_
              refine lv_iload_n hx hb dX0_stands_41 rfl (lv_at hl 1 rfl) ?_
              refine iv_iald hx hb hG hP 3 rfl j (by omega) (by omega) (by decide) dX0_stands_42 ?_
              refine lv_iload_n hx hb dX0_stands_43 rfl (lv_at hl 3 rfl) ?_
              refine lv_iload_n hx hb dX0_stands_44 rfl (lv_at hl 4 rfl) ?_
              refine iv_ior (z := ((b ||| h : Nat) : Int)) hx hb dX0_stands_45 (by rw [h1.1, h1.2.2.1]; exact iI_orN b h) ?_
              refine lv_iconst (v := iI (-1)) hx hb dX0_stands_46 rfl ?_
              refine lv_ixor hx hb dX0_stands_47 ?_
              refine lv_iand hx hb dX0_stands_48 ?_
              rw [iI_ndnF _ (show 0 ≤ fl j ∧ fl j < 256 by omega)]
              have hnl := ndn_lt (m := b ||| h) (show (fl j).toNat < 256 by omega)
              refine iv_if_eq (tgt := 54) hx hb dX0_stands_49 (by decide) (by omega) (fun hc5 => ?_) (fun hc5 => ?_)
              · have hgood : 0 < fh j ∧ ndn (fl j).toNat (b ||| h) = 0 := ⟨by rw [show j = zj.toNat from by omega]; omega, by omega⟩
                refine iv_iinc (k := 1) (x := zj) (lv' := [(3, .int (iI (zj + 1))), (4, .int (iI zb)), (0, .ref co), (1, .int (iI bz)), (2, .int (iI hz))]) hx hb dX0_stands_54 hl rfl (by decide) rfl (fun ls hl => ?_)
                refine lv_goto (tgt := 2) hx hb dX0_stands_57 (by decide) ?_
                exact ih2 (zj + 1) (j + 1) (by omega) (fun s hs hb9 => if q : s = j then (by subst q; first | exact absurd hb9 (by assumption) | exact hgood) else he s (by omega) hb9) (by omega) H locs ls (hP.sub [0, 1, 2, 3] rfl) (hD.sub [0, 1, 2, 3] (by decide) rfl) hS (lv_sub hl [0, 2, 3, 4] rfl)
              · refine lv_iconst (v := iI (0)) hx hb dX0_stands_52 rfl ?_
                exact Ct.zret hx hb hr hlocks (hP.sub [0, 1, 2, 3] rfl) (hD.sub [0, 1, 2, 3] (by decide) rfl) hS ⟨by decide, by decide⟩ dX0_stands_53 (by decide) ⟨Or.inr ⟨rfl, fun hst => by have hq9 : 0 < fh j ∧ ndn (fl j).toNat (b ||| h) = 0 := hst j (by omega) hyb; have hq8 : fh zj.toNat = fh j := congrArg fh (show zj.toNat = j by omega); omega⟩, rfl⟩
            · show W p l e _ s m _ below meth c H locs 0 0 _ (F0 m 34 ls (.int (iI 0) :: []))
              have hb3 : ¬ ((0 ≤ zj ∧ zj ≤ 7) ∧ 0 < fh zj.toNat) := hb3
              have hP : va_P g.1 vwCl [(co, .inr (0, [.ref ch, .ref cg_, .ref cl])), (ch, aI (g.2.1 0) 8 fh), (cg_, aI (g.2.1 0) 8 fg), (cl, aI (g.2.1 0) 8 fl)] H := hP
              have hD : va_D A [(co, .inr (0, [.ref ch, .ref cg_, .ref cl])), (ch, aI (g.2.1 0) 8 fh), (cg_, aI (g.2.1 0) 8 fg), (cl, aI (g.2.1 0) 8 fl)] := hD
              refine iv_if_eq (tgt := 52) hx hb dX0_stands_34 (by decide) (by decide) (fun _ => ?_) (fun h => absurd h (by decide))
              refine lv_iconst (v := iI (0)) hx hb dX0_stands_52 rfl ?_
              exact Ct.zret hx hb hr hlocks (hP.sub [0, 1, 2, 3] rfl) (hD.sub [0, 1, 2, 3] (by decide) rfl) hS ⟨by decide, by decide⟩ dX0_stands_53 (by decide) ⟨Or.inr ⟨rfl, fun hst => by have hq9 : 0 < fh j ∧ ndn (fl j).toNat (b ||| h) = 0 := hst j (by omega) hyb; have hq8 : fh zj.toNat = fh j := congrArg fh (show zj.toNat = j by omega); omega⟩, rfl⟩
        refine lv_iload_n hx hb dX0_stands_8 rfl (lv_at hl 2 rfl) ?_
        refine lv_iload_n hx hb dX0_stands_9 rfl (lv_at hl 0 rfl) ?_
        refine iv_ishr hx hb dX0_stands_10 (by omega) ?_
        refine iv_as ((b : Int) / 2 ^ j) (by rw [show zj.toNat = j from by omega, h1.1]) ?_
        refine lv_iconst (v := iI (1)) hx hb dX0_stands_11 rfl ?_
        refine iv_and1 hx hb dX0_stands_12 (by omega) ?_
        refine lv_iconst (v := iI (1)) hx hb dX0_stands_13 rfl ?_
        refine iv_icmp_ne (tgt := 21) hx hb dX0_stands_14 (by decide) (by omega) (fun hc7 => ?_) (fun hc7 => ?_)
        · refine lv_iconst (v := iI (0)) hx hb dX0_stands_21 rfl ?_
          exact hjoin22 0 (by first | exact Or.inl ⟨rfl, by assumption⟩ | exact Or.inr ⟨rfl, by assumption⟩) H locs ls (hP.sub [0, 1, 2, 3] rfl) (hD.sub [0, 1, 2, 3] (by decide) rfl) hS (lv_sub hl [0, 1, 2, 3] rfl)
        · refine lv_iconst (v := iI (1)) hx hb dX0_stands_17 rfl ?_
          refine lv_goto (tgt := 22) hx hb dX0_stands_18 (by decide) ?_
          exact hjoin22 1 (by first | exact Or.inl ⟨rfl, by assumption⟩ | exact Or.inr ⟨rfl, by assumption⟩) H locs ls (hP.sub [0, 1, 2, 3] rfl) (hD.sub [0, 1, 2, 3] (by decide) rfl) hS (lv_sub hl [0, 1, 2, 3] rfl)
  exact hloop2 _ 0 0 (by omega) (fun s hs => absurd hs (Nat.not_lt_zero s)) (Nat.lt_succ_self _) H locs ls (hP.sub [0, 1, 2, 3] rfl) (hD.sub [0, 1, 2, 3] (by decide) rfl) hS (lv_sub hl [0, 1, 2, 3] rfl)
