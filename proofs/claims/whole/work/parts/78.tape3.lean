theorem kX6_readLeans_6 : ∀ w ∈ u_ws RX6 TX6 3, w ∈ wsX6_readLeans := fun _ h => List.mem_cons_of_mem _ (List.mem_append_left _ (List.mem_append_right _ h))
abbrev q_X6_readLeans (g : GT) (ht : Nat) (tb : Nat) (tl : Int) (tp : Int) (ft : Nat → Int) (L : Nat) (co : Nat) (ch : Nat) (cg_ : Nat) (cl : Nat) (fh : Nat → Int) (fg : Nat → Int) (fl : Nat → Int) (q : Nat) : Option Value → va_W → Prop := fun v w => ∃ (r : Int), ∃ (tp' : Int), v = some (.int (iI r)) ∧ w = [(ht, .inr (6, [.int (iI tl), .ref tb, .int (iI tp')])), (tb, aI (g.2.1 2) 100 ft), (co, .inr (0, [.ref ch, .ref cg_, .ref cl])), (ch, aI (g.2.1 0) 8 fh), (cg_, aI (g.2.1 0) 8 fg), (cl, aI (g.2.1 0) 8 fl)] ∧ (r = (if (lnF ft L fh 100 q 0).1 = 1 then (((lnF ft L fh 100 q 0).2.2 : Nat) : Int) else -1)) ∧ (tp' = (((lnF ft L fh 100 q 0).2.1 : Nat) : Int))
set_option maxHeartbeats 4000000 in
set_option maxRecDepth 100000 in
theorem c_X6_readLeans (l : Launch) (g : GT) (ht : Nat) (tb : Nat) (tl : Int) (tp : Int) (ft : Nat → Int) (L : Nat) (co : Nat) (ch : Nat) (cg_ : Nat) (cl : Nat) (fh : Nat → Int) (fg : Nat → Int) (fl : Nat → Int) (q : Nat) (h1 : tl = (L : Int) ∧ L ≤ 100 ∧ tp = (q : Int) ∧ q ≤ L) (hT : ∀ j, j < L → 32 ≤ ft j ∧ ft j ≤ 126) (hC : ∀ j, j < 8 → 0 ≤ fh j ∧ fh j ≤ 20 ∧ 0 ≤ fg j ∧ fg j ≤ 99 ∧ 0 ≤ fl j ∧ fl j < 256) : Ct l g yX6_readLeans wsX6_readLeans ({ frames := 2, cells := 0, slots := 0, locals := 43 } : Room) [.ref ht, .ref co] [(ht, .inr (6, [.int (iI tl), .ref tb, .int (iI tp)])), (tb, aI (g.2.1 2) 100 ft), (co, .inr (0, [.ref ch, .ref cg_, .ref cl])), (ch, aI (g.2.1 0) 8 fh), (cg_, aI (g.2.1 0) 8 fg), (cl, aI (g.2.1 0) 8 fl)] (q_X6_readLeans g ht tb tl tp ft L co ch cg_ cl fh fg fl q) := by
  refine Ct.intro (maxL := 5) (ret := (some .int)) (by decide) rfl (Nat.le_of_ble_eq_true rfl) ?_
  intro p e s m below meth c A ls hx hb hr hml hown hts hlocks hnm hA hG hP hD hS hl
  have hown : s.vm.findClass RX6 = some m.cls := hown
  have hl : lv_has ls 5 [(0, .ref ht), (1, .ref co)] := hl
  have hP : va_P g.1 vwCl [(ht, .inr (6, [.int (iI tl), .ref tb, .int (iI tp)])), (tb, aI (g.2.1 2) 100 ft), (co, .inr (0, [.ref ch, .ref cg_, .ref cl])), (ch, aI (g.2.1 0) 8 fh), (cg_, aI (g.2.1 0) 8 fg), (cl, aI (g.2.1 0) 8 fl)] s.heap := hP
  have hS : va_S A s.heap s.heap [] := hS
  obtain ⟨H, hHe⟩ : ∃ H : Heap, H = s.heap := ⟨_, rfl⟩
  obtain ⟨locs, hLe⟩ : ∃ L : List Loc, L = [] := ⟨_, rfl⟩
  have hP : va_P g.1 vwCl [(ht, .inr (6, [.int (iI tl), .ref tb, .int (iI tp)])), (tb, aI (g.2.1 2) 100 ft), (co, .inr (0, [.ref ch, .ref cg_, .ref cl])), (ch, aI (g.2.1 0) 8 fh), (cg_, aI (g.2.1 0) 8 fg), (cl, aI (g.2.1 0) 8 fl)] H := by rw [hHe]; exact hP
  have hS : va_S A s.heap H locs := by rw [hHe, hLe]; exact hS
  suffices hgo : W p l e ({ frames := 2, cells := 0, slots := 0, locals := 43 } : Room) s m [.ref ht, .ref co].toArray below meth c H locs 0 0 (MQ below (CQ g (q_X6_readLeans g ht tb tl tp ft L co ch cg_ cl fh fg fl q) A) [.ref ht, .ref co].toArray s ({ frames := 2, cells := 0, slots := 0, locals := 43 } : Room).cells ({ frames := 2, cells := 0, slots := 0, locals := 43 } : Room).slots A) (F0 m 0 ls []) by rw [hHe, hLe] at hgo; exact hgo
  clear hHe hLe
  refine lv_iconst (v := iI (0)) hx hb dX6_readLeans_0 rfl ?_
  refine lv_istore_n (lv' := [(2, .int (iI 0)), (0, .ref ht), (1, .ref co)]) hx hb dX6_readLeans_1 rfl hl (by decide) rfl (fun ls hl => ?_)
  refine lv_iconst (v := iI (0)) hx hb dX6_readLeans_2 rfl ?_
  refine lv_istore_n (lv' := [(3, .int (iI 0)), (2, .int (iI 0)), (0, .ref ht), (1, .ref co)]) hx hb dX6_readLeans_3 rfl hl (by decide) rfl (fun ls hl => ?_)
  have hloop4 : ∀ (fuel : Nat) (bz : Int) (zm : Int) (pz : Int) (m9 : Nat) (p9 : Nat) (b9 : Nat) (hc : bz = (b9 : Int) ∧ b9 < 256 ∧ pz = (p9 : Int) ∧ p9 ≤ L ∧ zm = (m9 : Int) ∧ 2 * m9 ≤ p9) (he : lnF ft L fh (100 - m9) p9 b9 = lnF ft L fh 100 q 0) (hmeas : 100 - m9 < fuel), ∀ (H : Heap) (locs : List Loc) (ls : Array Slot), va_P g.1 vwCl [(ht, .inr (6, [.int (iI tl), .ref tb, .int (iI pz)])), (tb, aI (g.2.1 2) 100 ft), (co, .inr (0, [.ref ch, .ref cg_, .ref cl])), (ch, aI (g.2.1 0) 8 fh), (cg_, aI (g.2.1 0) 8 fg), (cl, aI (g.2.1 0) 8 fl)] H → va_D A [(ht, .inr (6, [.int (iI tl), .ref tb, .int (iI pz)])), (tb, aI (g.2.1 2) 100 ft), (co, .inr (0, [.ref ch, .ref cg_, .ref cl])), (ch, aI (g.2.1 0) 8 fh), (cg_, aI (g.2.1 0) 8 fg), (cl, aI (g.2.1 0) 8 fl)] → va_S A s.heap H locs → lv_has ls 5 [(3, .int (iI zm)), (2, .int (iI bz)), (0, .ref ht), (1, .ref co)] → W p l e ({ frames := 2, cells := 0, slots := 0, locals := 43 } : Room) s m [.ref ht, .ref co].toArray below meth c H locs 0 0 (MQ below (CQ g (q_X6_readLeans g ht tb tl tp ft L co ch cg_ cl fh fg fl q) A) [.ref ht, .ref co].toArray s ({ frames := 2, cells := 0, slots := 0, locals := 43 } : Room).cells ({ frames := 2, cells := 0, slots := 0, locals := 43 } : Room).slots A) (F0 m 4 ls []) := by
    intro fuel
    induction fuel with
    | zero => intro bz zm pz m9 p9 b9 hc he hmeas; exact absurd hmeas (Nat.not_lt_zero _)
    | succ fuel ih4 =>
      intro bz zm pz m9 p9 b9 hc he hmeas H locs ls hP hD hS hl
      refine lv_iload_n hx hb dX6_readLeans_4 rfl (lv_at hl 0 rfl) ?_
      refine lv_bipush (v := iI (100)) hx hb dX6_readLeans_5 (by decide) ?_
      refine iv_icmp_ge (tgt := 66) hx hb dX6_readLeans_7 (by decide) (by omega) (fun hc1 => absurd hc1 (by omega)) (fun hc1 => ?_)
      refine lv_aload_n hx hb dX6_readLeans_10 rfl (lv_at hl 2 rfl) ?_
      refine Ct.callV (ci := 6) (q0 := 0) (qc := (RX6, TX6, 3)) (As := []) (rest := []) (wr := [(co, .inr (0, [.ref ch, .ref cg_, .ref cl])), (ch, aI (g.2.1 0) 8 fh), (cg_, aI (g.2.1 0) 8 fg), (cl, aI (g.2.1 0) 8 fl)]) (c1 := 0) (s1 := 0) ⟨hx, hb, hml, hown, hts⟩ (c_X6_nextSkill l g ht tb tl pz ft L p9 (by omega) (hT)) rfl rfl (cwV 0 hts gX6_readLeans_X6_nextSkill rfl rfl rfl (by decide +kernel) ⟨Nat.le_of_ble_eq_true rfl, Nat.le_of_ble_eq_true rfl⟩) hG hP hD hS hA [0, 1] [2, 3, 4, 5] rfl rfl (by decide) (by decide) (by decide) rfl hl.1 rfl (Nat.le_of_ble_eq_true rfl) dX6_readLeans_11 ⟨Nat.le_of_ble_eq_true rfl, Nat.le_of_ble_eq_true rfl⟩ rfl rfl (fun v w H locs hv hP hD hS => ?_)
      obtain ⟨r2, tp3, rfl, rfl, hf4, hf5⟩ := hv
      show W p l e _ s m _ below meth c H locs 0 0 _ (F0 m 14 ls (.int (iI r2) :: []))
      have hP : va_P g.1 vwCl [(co, .inr (0, [.ref ch, .ref cg_, .ref cl])), (ch, aI (g.2.1 0) 8 fh), (cg_, aI (g.2.1 0) 8 fg), (cl, aI (g.2.1 0) 8 fl), (ht, .inr (6, [.int (iI tl), .ref tb, .int (iI tp3)])), (tb, aI (g.2.1 2) 100 ft)] H := hP
      have hD : va_D A [(co, .inr (0, [.ref ch, .ref cg_, .ref cl])), (ch, aI (g.2.1 0) 8 fh), (cg_, aI (g.2.1 0) 8 fg), (cl, aI (g.2.1 0) 8 fl), (ht, .inr (6, [.int (iI tl), .ref tb, .int (iI tp3)])), (tb, aI (g.2.1 2) 100 ft)] := hD
      have hf4 : tp3 = (sk ft L p9 : Int) := hf4
      have hf5 : (ltP ft L p9 ∧ r2 = (ltS ft L p9 : Int)) ∨ (¬ ltP ft L p9 ∧ r2 = -1) := hf5
      have hlt := hf5
      have hrr : -1 ≤ r2 ∧ r2 ≤ 7 := (by rcases hf5 with z | z; (have := ltS_lt z.1; omega); omega)
      refine lv_istore (lv' := [(4, .int (iI r2)), (3, .int (iI zm)), (2, .int (iI bz)), (0, .ref ht), (1, .ref co)]) hx hb dX6_readLeans_14 hl (by decide) rfl (fun ls hl => ?_)
      refine lv_iload hx hb dX6_readLeans_16 (lv_at hl 0 rfl) ?_
      refine iv_if_lt (tgt := 30) hx hb dX6_readLeans_18 (by decide) (by omega) (fun hc6 => ?_) (fun hc6 => ?_)
      · have hF : lnF ft L fh (100 - m9) p9 b9 = (0, sk ft L p9, b9) := by rw [show 100 - m9 = (99 - m9) + 1 from by omega]; simp only [lnF]; rw [if_neg (show ¬ (ltP ft L p9 ∧ 0 < fh (ltS ft L p9)) from fun z => by first | (exfalso; omega) | exact absurd (⟨by have := ltS_lt z.1; omega, z.2⟩ : (0 ≤ ((ltS ft L p9 : Nat) : Int) ∧ ((ltS ft L p9 : Nat) : Int) ≤ 7) ∧ 0 < fh ((ltS ft L p9 : Nat) : Int).toNat) (by assumption))]
        refine lv_iconst (v := iI (-1)) hx hb dX6_readLeans_30 rfl ?_
        exact Ct.iret hx hb hr hlocks (hP.sub [4, 5, 0, 1, 2, 3] rfl) (hD.sub [4, 5, 0, 1, 2, 3] (by decide) rfl) hS ⟨by decide, by decide⟩ dX6_readLeans_31 ⟨(-1), tp3, rfl, rfl, (by rw [← he, hF]; rfl), (by rw [← he, hF]; assumption)⟩
      · have hlp : ltP ft L p9 := (by rcases hlt with z | z; exact z.1; exfalso; omega)
        have hls := ltS_lt hlp
        have hsl := sk_le ft (L := L) (p := p9) (by omega)
        refine lv_aload_n hx hb dX6_readLeans_21 rfl (lv_at hl 4 rfl) ?_
        refine lv_iload hx hb dX6_readLeans_22 (lv_at hl 0 rfl) ?_
        refine iv_as (((ltS ft L p9 : Nat) : Int)) (by omega) ?_
        refine Ct.callV (ci := 0) (q0 := 0) (qc := (RX0, TX0, 3)) (As := [.int (iI ((ltS ft L p9 : Nat) : Int))]) (rest := []) (wr := [(ht, .inr (6, [.int (iI tl), .ref tb, .int (iI tp3)])), (tb, aI (g.2.1 2) 100 ft)]) (c1 := 0) (s1 := 0) ⟨hx, hb, hml, hown, hts⟩ (c_X0_has l g co ch cg_ cl fh fg fl ((ltS ft L p9 : Nat) : Int) (by omega) (hC)) rfl rfl (cwV 1 hts gX6_readLeans_X0_has rfl rfl rfl (by decide +kernel) ⟨Nat.le_of_ble_eq_true rfl, Nat.le_of_ble_eq_true rfl⟩) hG hP hD hS hA [0, 1, 2, 3] [4, 5] rfl rfl (by decide) (by decide) (by decide) rfl hl.1 rfl (Nat.le_of_ble_eq_true rfl) dX6_readLeans_24 ⟨Nat.le_of_ble_eq_true rfl, Nat.le_of_ble_eq_true rfl⟩ rfl rfl (fun v w H locs hv hP hD hS => ?_)
        obtain ⟨⟨rfl, hb7⟩ | ⟨rfl, hb7⟩, rfl⟩ := hv
        · show W p l e _ s m _ below meth c H locs 0 0 _ (F0 m 27 ls (.int (iI 1) :: []))
          have hb7 : (0 ≤ ((ltS ft L p9 : Nat) : Int) ∧ ((ltS ft L p9 : Nat) : Int) ≤ 7) ∧ 0 < fh ((ltS ft L p9 : Nat) : Int).toNat := hb7
          have hP : va_P g.1 vwCl [(ht, .inr (6, [.int (iI tl), .ref tb, .int (iI tp3)])), (tb, aI (g.2.1 2) 100 ft), (co, .inr (0, [.ref ch, .ref cg_, .ref cl])), (ch, aI (g.2.1 0) 8 fh), (cg_, aI (g.2.1 0) 8 fg), (cl, aI (g.2.1 0) 8 fl)] H := hP
          have hD : va_D A [(ht, .inr (6, [.int (iI tl), .ref tb, .int (iI tp3)])), (tb, aI (g.2.1 2) 100 ft), (co, .inr (0, [.ref ch, .ref cg_, .ref cl])), (ch, aI (g.2.1 0) 8 fh), (cg_, aI (g.2.1 0) 8 fg), (cl, aI (g.2.1 0) 8 fl)] := hD
          refine iv_if_ne (tgt := 32) hx hb dX6_readLeans_27 (by decide) (by decide) (fun _ => ?_) (fun h => absurd h (by decide))
          have hhs : 0 < fh (ltS ft L p9) := (by assumption : (0 ≤ ((ltS ft L p9 : Nat) : Int) ∧ ((ltS ft L p9 : Nat) : Int) ≤ 7) ∧ 0 < fh ((ltS ft L p9 : Nat) : Int).toNat).2
          refine lv_aload_n hx hb dX6_readLeans_32 rfl (lv_at hl 3 rfl) ?_
          refine lv_dup hx hb dX6_readLeans_33 rfl ?_
          refine va_get (D := g.1) (ci := 6) (v := .int (iI tp3)) hx hb hts kX6_readLeans_6 hown hG.1 hP 0 rfl rfl 2 (by decide) (hts _ (List.mem_of_getElem? (i := 1) rfl)) (fun _ h9 => h9) rfl dX6_readLeans_34 ?_
          refine lv_iconst (v := iI (1)) hx hb dX6_readLeans_37 rfl ?_
          refine iv_iadd hx hb dX6_readLeans_38 ?_
          refine va_put (D := g.1) (ci := 6) (v := .int (iI (tp3 + 1))) hx hb hts kX6_readLeans_6 tyX6 tyX6_ok nmX6 hown hG.1 hP hD hS 0 rfl rfl 2 (by decide) (hts _ (List.mem_of_getElem? (i := 1) rfl)) (fun _ h9 => h9) rfl (tyX6_ok 2 (by decide)) rfl rfl (Nat.le_of_ble_eq_true rfl) dX6_readLeans_39 (fun H locs hP hD hS => ?_)
          have hP : va_P g.1 vwCl [(ht, .inr (6, [.int (iI tl), .ref tb, .int (iI (tp3 + 1))])), (tb, aI (g.2.1 2) 100 ft), (co, .inr (0, [.ref ch, .ref cg_, .ref cl])), (ch, aI (g.2.1 0) 8 fh), (cg_, aI (g.2.1 0) 8 fg), (cl, aI (g.2.1 0) 8 fl)] H := hP
          have hD : va_D A [(ht, .inr (6, [.int (iI tl), .ref tb, .int (iI (tp3 + 1))])), (tb, aI (g.2.1 2) 100 ft), (co, .inr (0, [.ref ch, .ref cg_, .ref cl])), (ch, aI (g.2.1 0) 8 fh), (cg_, aI (g.2.1 0) 8 fg), (cl, aI (g.2.1 0) 8 fl)] := hD
          refine lv_iload_n hx hb dX6_readLeans_42 rfl (lv_at hl 2 rfl) ?_
          refine lv_iconst (v := iI (1)) hx hb dX6_readLeans_43 rfl ?_
          refine lv_iload hx hb dX6_readLeans_44 (lv_at hl 0 rfl) ?_
          refine iv_ishl1 hx hb (ltS ft L p9) dX6_readLeans_46 (by omega) ?_
          refine iv_ior (z := ((b9 ||| 2 ^ ltS ft L p9 : Nat) : Int)) hx hb dX6_readLeans_47 (by rw [hc.1, show (2 : Int) ^ (ltS ft L p9) = ((2 ^ ltS ft L p9 : Nat) : Int) from by simp]; exact iI_orN _ _) ?_
          refine lv_istore_n (lv' := [(2, .int (iI ((b9 ||| 2 ^ ltS ft L p9 : Nat) : Int))), (4, .int (iI r2)), (3, .int (iI zm)), (0, .ref ht), (1, .ref co)]) hx hb dX6_readLeans_48 rfl hl (by decide) rfl (fun ls hl => ?_)
          refine lv_aload_n hx hb dX6_readLeans_49 rfl (lv_at hl 3 rfl) ?_
          refine lv_bipush (v := iI (44)) hx hb dX6_readLeans_50 (by decide) ?_
          refine Ct.callV (ci := 6) (q0 := 0) (qc := (RX6, TX6, 3)) (As := [.int (iI 44)]) (rest := []) (wr := [(co, .inr (0, [.ref ch, .ref cg_, .ref cl])), (ch, aI (g.2.1 0) 8 fh), (cg_, aI (g.2.1 0) 8 fg), (cl, aI (g.2.1 0) 8 fl)]) (c1 := 0) (s1 := 0) ⟨hx, hb, hml, hown, hts⟩ (c_X6_pass l g ht tb tl (tp3 + 1) ft L (sk ft L p9 + 1) 44 (by omega) (hT) (by omega)) rfl rfl (cwV 1 hts gX6_readLeans_X6_pass rfl rfl rfl (by decide +kernel) ⟨Nat.le_of_ble_eq_true rfl, Nat.le_of_ble_eq_true rfl⟩) hG hP hD hS hA [0, 1] [2, 3, 4, 5] rfl rfl (by decide) (by decide) (by decide) rfl hl.1 rfl (Nat.le_of_ble_eq_true rfl) dX6_readLeans_52 ⟨Nat.le_of_ble_eq_true rfl, Nat.le_of_ble_eq_true rfl⟩ rfl rfl (fun v w H locs hv hP hD hS => ?_)
          obtain ⟨tp9, ⟨rfl, hb12⟩ | ⟨rfl, hb12⟩, rfl, hf10, hf11⟩ := hv
          · show W p l e _ s m _ below meth c H locs 0 0 _ (F0 m 55 ls (.int (iI 1) :: []))
            have hb12 : psP ft L 44 (sk ft L p9 + 1) := hb12
            have hP : va_P g.1 vwCl [(co, .inr (0, [.ref ch, .ref cg_, .ref cl])), (ch, aI (g.2.1 0) 8 fh), (cg_, aI (g.2.1 0) 8 fg), (cl, aI (g.2.1 0) 8 fl), (ht, .inr (6, [.int (iI tl), .ref tb, .int (iI tp9)])), (tb, aI (g.2.1 2) 100 ft)] H := hP
            have hD : va_D A [(co, .inr (0, [.ref ch, .ref cg_, .ref cl])), (ch, aI (g.2.1 0) 8 fh), (cg_, aI (g.2.1 0) 8 fg), (cl, aI (g.2.1 0) 8 fl), (ht, .inr (6, [.int (iI tl), .ref tb, .int (iI tp9)])), (tb, aI (g.2.1 2) 100 ft)] := hD
            have hf10 : psP ft L 44 (sk ft L p9 + 1) → tp9 = (sk ft L (sk ft L p9 + 1) : Int) + 1 := hf10
            have hf11 : ¬ psP ft L 44 (sk ft L p9 + 1) → tp9 = (sk ft L (sk ft L p9 + 1) : Int) := hf11
            first | have hpl := hf10 (by assumption) | have hpl := hf11 (by assumption)
            have hs2 := sk_le ft (L := L) (p := sk ft L p9 + 1) (by omega)
            refine iv_if_ne (tgt := 60) hx hb dX6_readLeans_55 (by decide) (by decide) (fun _ => ?_) (fun h => absurd h (by decide))
            have hps : psP ft L 44 (sk ft L p9 + 1) := by assumption
            refine iv_iinc (k := 2) (x := zm) (lv' := [(3, .int (iI (zm + 1))), (2, .int (iI ((b9 ||| 2 ^ ltS ft L p9 : Nat) : Int))), (4, .int (iI r2)), (0, .ref ht), (1, .ref co)]) hx hb dX6_readLeans_60 hl rfl (by decide) rfl (fun ls hl => ?_)
            refine lv_goto (tgt := 4) hx hb dX6_readLeans_63 (by decide) ?_
            exact ih4 ((b9 ||| 2 ^ ltS ft L p9 : Nat) : Int) (zm + 1) tp9 (m9 + 1) (sk ft L (sk ft L p9 + 1) + 1) (b9 ||| 2 ^ ltS ft L p9) (⟨rfl, or_lt8 (by omega) hls.1, by omega, by omega, by omega, by omega⟩) (by rw [← he, show 100 - m9 = (100 - (m9 + 1)) + 1 from by omega]; simp only [lnF]; rw [if_pos (show ltP ft L p9 ∧ 0 < fh (ltS ft L p9) from ⟨hlp, hhs⟩), if_pos hps]) (by omega) H locs ls (hP.sub [4, 5, 0, 1, 2, 3] rfl) (hD.sub [4, 5, 0, 1, 2, 3] (by decide) rfl) hS (lv_sub hl [0, 1, 3, 4] rfl)
          · show W p l e _ s m _ below meth c H locs 0 0 _ (F0 m 55 ls (.int (iI 0) :: []))
            have hb12 : ¬ (psP ft L 44 (sk ft L p9 + 1)) := hb12
            have hP : va_P g.1 vwCl [(co, .inr (0, [.ref ch, .ref cg_, .ref cl])), (ch, aI (g.2.1 0) 8 fh), (cg_, aI (g.2.1 0) 8 fg), (cl, aI (g.2.1 0) 8 fl), (ht, .inr (6, [.int (iI tl), .ref tb, .int (iI tp9)])), (tb, aI (g.2.1 2) 100 ft)] H := hP
            have hD : va_D A [(co, .inr (0, [.ref ch, .ref cg_, .ref cl])), (ch, aI (g.2.1 0) 8 fh), (cg_, aI (g.2.1 0) 8 fg), (cl, aI (g.2.1 0) 8 fl), (ht, .inr (6, [.int (iI tl), .ref tb, .int (iI tp9)])), (tb, aI (g.2.1 2) 100 ft)] := hD
            have hf10 : psP ft L 44 (sk ft L p9 + 1) → tp9 = (sk ft L (sk ft L p9 + 1) : Int) + 1 := hf10
            have hf11 : ¬ psP ft L 44 (sk ft L p9 + 1) → tp9 = (sk ft L (sk ft L p9 + 1) : Int) := hf11
            first | have hpl := hf10 (by assumption) | have hpl := hf11 (by assumption)
            have hs2 := sk_le ft (L := L) (p := sk ft L p9 + 1) (by omega)
            refine iv_if_ne (tgt := 60) hx hb dX6_readLeans_55 (by decide) (by decide) (fun h => absurd h (by decide)) (fun _ => ?_)
            have hF : lnF ft L fh (100 - m9) p9 b9 = (1, sk ft L (sk ft L p9 + 1), b9 ||| 2 ^ ltS ft L p9) := by rw [show 100 - m9 = (99 - m9) + 1 from by omega]; simp only [lnF]; rw [if_pos (show ltP ft L p9 ∧ 0 < fh (ltS ft L p9) from ⟨hlp, hhs⟩), if_neg (by assumption)]
            refine lv_iload_n hx hb dX6_readLeans_58 rfl (lv_at hl 0 rfl) ?_
            exact Ct.iret hx hb hr hlocks (hP.sub [4, 5, 0, 1, 2, 3] rfl) (hD.sub [4, 5, 0, 1, 2, 3] (by decide) rfl) hS ⟨by decide, by decide⟩ dX6_readLeans_59 ⟨((b9 ||| 2 ^ ltS ft L p9 : Nat) : Int), tp9, rfl, rfl, (by rw [← he, hF]; rfl), (by rw [← he, hF]; omega)⟩
        · show W p l e _ s m _ below meth c H locs 0 0 _ (F0 m 27 ls (.int (iI 0) :: []))
          have hb7 : ¬ ((0 ≤ ((ltS ft L p9 : Nat) : Int) ∧ ((ltS ft L p9 : Nat) : Int) ≤ 7) ∧ 0 < fh ((ltS ft L p9 : Nat) : Int).toNat) := hb7
          have hP : va_P g.1 vwCl [(ht, .inr (6, [.int (iI tl), .ref tb, .int (iI tp3)])), (tb, aI (g.2.1 2) 100 ft), (co, .inr (0, [.ref ch, .ref cg_, .ref cl])), (ch, aI (g.2.1 0) 8 fh), (cg_, aI (g.2.1 0) 8 fg), (cl, aI (g.2.1 0) 8 fl)] H := hP
          have hD : va_D A [(ht, .inr (6, [.int (iI tl), .ref tb, .int (iI tp3)])), (tb, aI (g.2.1 2) 100 ft), (co, .inr (0, [.ref ch, .ref cg_, .ref cl])), (ch, aI (g.2.1 0) 8 fh), (cg_, aI (g.2.1 0) 8 fg), (cl, aI (g.2.1 0) 8 fl)] := hD
          refine iv_if_ne (tgt := 32) hx hb dX6_readLeans_27 (by decide) (by decide) (fun h => absurd h (by decide)) (fun _ => ?_)
          have hF : lnF ft L fh (100 - m9) p9 b9 = (0, sk ft L p9, b9) := by rw [show 100 - m9 = (99 - m9) + 1 from by omega]; simp only [lnF]; rw [if_neg (show ¬ (ltP ft L p9 ∧ 0 < fh (ltS ft L p9)) from fun z => by first | (exfalso; omega) | exact absurd (⟨by have := ltS_lt z.1; omega, z.2⟩ : (0 ≤ ((ltS ft L p9 : Nat) : Int) ∧ ((ltS ft L p9 : Nat) : Int) ≤ 7) ∧ 0 < fh ((ltS ft L p9 : Nat) : Int).toNat) (by assumption))]
          refine lv_iconst (v := iI (-1)) hx hb dX6_readLeans_30 rfl ?_
          exact Ct.iret hx hb hr hlocks (hP.sub [0, 1, 2, 3, 4, 5] rfl) (hD.sub [0, 1, 2, 3, 4, 5] (by decide) rfl) hS ⟨by decide, by decide⟩ dX6_readLeans_31 ⟨(-1), tp3, rfl, rfl, (by rw [← he, hF]; rfl), (by rw [← he, hF]; assumption)⟩
  exact hloop4 _ 0 0 tp 0 q 0 (by omega) (rfl) (Nat.lt_succ_self _) H locs ls (hP.sub [0, 1, 2, 3, 4, 5] rfl) (hD.sub [0, 1, 2, 3, 4, 5] (by decide) rfl) hS (lv_sub hl [0, 1, 2, 3] rfl)
