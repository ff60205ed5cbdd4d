theorem kX6_readClause_0 : ∀ w ∈ u_ws RX0 TX0 3, w ∈ wsX6_readClause := fun _ h => List.mem_cons_of_mem _ (List.mem_append_right _ h)
theorem kX6_readClause_6 : ∀ w ∈ u_ws RX6 TX6 3, w ∈ wsX6_readClause := fun _ h => List.mem_cons_of_mem _ (List.mem_append_left _ (List.mem_append_right _ h))
abbrev q_X6_readClause (g : GT) (ht : Nat) (tb : Nat) (tl : Int) (tp : Int) (ft : Nat → Int) (L : Nat) (co : Nat) (ch : Nat) (cg_ : Nat) (cl : Nat) (fh : Nat → Int) (fg : Nat → Int) (fl : Nat → Int) (q : Nat) : Option Value → va_W → Prop := fun v w => ∃ (tp' : Int), ∃ (fh' : Nat → Int), ∃ (fg' : Nat → Int), ∃ (fl' : Nat → Int), (v = some (.int (iI 1)) ∧ ((clF ft L fh q).1 = 1) ∨ v = some (.int (iI 0)) ∧ ¬ ((clF ft L fh q).1 = 1)) ∧ w = [(ht, .inr (6, [.int (iI tl), .ref tb, .int (iI tp')])), (tb, aI (g.2.1 2) 100 ft), (co, .inr (0, [.ref ch, .ref cg_, .ref cl])), (ch, aI (g.2.1 0) 8 fh'), (cg_, aI (g.2.1 0) 8 fg'), (cl, aI (g.2.1 0) 8 fl')] ∧ (tp' = (((clF ft L fh q).2.1 : Nat) : Int)) ∧ ((clF ft L fh q).1 = 1 → (fh', fg', fl') = clS ft L (fh, fg, fl) q) ∧ (¬ (clF ft L fh q).1 = 1 → fh' = fh ∧ fg' = fg ∧ fl' = fl)
set_option maxHeartbeats 4000000 in
set_option maxRecDepth 100000 in
theorem c_X6_readClause (l : Launch) (g : GT) (ht : Nat) (tb : Nat) (tl : Int) (tp : Int) (ft : Nat → Int) (L : Nat) (co : Nat) (ch : Nat) (cg_ : Nat) (cl : Nat) (fh : Nat → Int) (fg : Nat → Int) (fl : Nat → Int) (q : Nat) (h1 : tl = (L : Int) ∧ L ≤ 100 ∧ tp = (q : Int) ∧ q ≤ L) (hT : ∀ j, j < L → 32 ≤ ft j ∧ ft j ≤ 126) (hC : ∀ j, j < 8 → 0 ≤ fh j ∧ fh j ≤ 20 ∧ 0 ≤ fg j ∧ fg j ≤ 99 ∧ 0 ≤ fl j ∧ fl j < 256) : Ct l g yX6_readClause wsX6_readClause ({ frames := 3, cells := 0, slots := 0, locals := 67 } : Room) [.ref ht, .ref co] [(ht, .inr (6, [.int (iI tl), .ref tb, .int (iI tp)])), (tb, aI (g.2.1 2) 100 ft), (co, .inr (0, [.ref ch, .ref cg_, .ref cl])), (ch, aI (g.2.1 0) 8 fh), (cg_, aI (g.2.1 0) 8 fg), (cl, aI (g.2.1 0) 8 fl)] (q_X6_readClause g ht tb tl tp ft L co ch cg_ cl fh fg fl q) := by
  refine Ct.intro (maxL := 6) (ret := (some .boolean)) (by decide) rfl (Nat.le_of_ble_eq_true rfl) ?_
  intro p e s m below meth c A ls hx hb hr hml hown hts hlocks hnm hA hG hP hD hS hl
  have hown : s.vm.findClass RX6 = some m.cls := hown
  have hl : lv_has ls 6 [(0, .ref ht), (1, .ref co)] := hl
  have hP : va_P g.1 vwCl [(ht, .inr (6, [.int (iI tl), .ref tb, .int (iI tp)])), (tb, aI (g.2.1 2) 100 ft), (co, .inr (0, [.ref ch, .ref cg_, .ref cl])), (ch, aI (g.2.1 0) 8 fh), (cg_, aI (g.2.1 0) 8 fg), (cl, aI (g.2.1 0) 8 fl)] s.heap := hP
  have hS : va_S A s.heap s.heap [] := hS
  obtain ⟨H, hHe⟩ : ∃ H : Heap, H = s.heap := ⟨_, rfl⟩
  obtain ⟨locs, hLe⟩ : ∃ L : List Loc, L = [] := ⟨_, rfl⟩
  have hP : va_P g.1 vwCl [(ht, .inr (6, [.int (iI tl), .ref tb, .int (iI tp)])), (tb, aI (g.2.1 2) 100 ft), (co, .inr (0, [.ref ch, .ref cg_, .ref cl])), (ch, aI (g.2.1 0) 8 fh), (cg_, aI (g.2.1 0) 8 fg), (cl, aI (g.2.1 0) 8 fl)] H := by rw [hHe]; exact hP
  have hS : va_S A s.heap H locs := by rw [hHe, hLe]; exact hS
  suffices hgo : W p l e ({ frames := 3, cells := 0, slots := 0, locals := 67 } : Room) s m [.ref ht, .ref co].toArray below meth c H locs 0 0 (MQ below (CQ g (q_X6_readClause g ht tb tl tp ft L co ch cg_ cl fh fg fl q) A) [.ref ht, .ref co].toArray s ({ frames := 3, cells := 0, slots := 0, locals := 67 } : Room).cells ({ frames := 3, cells := 0, slots := 0, locals := 67 } : Room).slots A) (F0 m 0 ls []) by rw [hHe, hLe] at hgo; exact hgo
  clear hHe hLe
  refine lv_aload_n hx hb dX6_readClause_0 rfl (lv_at hl 0 rfl) ?_
  refine Ct.callV (ci := 6) (q0 := 0) (qc := (RX6, TX6, 3)) (As := []) (rest := []) (wr := [(co, .inr (0, [.ref ch, .ref cg_, .ref cl])), (ch, aI (g.2.1 0) 8 fh), (cg_, aI (g.2.1 0) 8 fg), (cl, aI (g.2.1 0) 8 fl)]) (c1 := 0) (s1 := 0) ⟨hx, hb, hml, hown, hts⟩ (c_X6_nextSkill l g ht tb tl tp ft L q (by omega) (hT)) rfl rfl (cwV 0 hts gX6_readClause_X6_nextSkill rfl rfl rfl (by decide +kernel) ⟨Nat.le_of_ble_eq_true rfl, Nat.le_of_ble_eq_true rfl⟩) hG hP hD hS hA [0, 1] [2, 3, 4, 5] rfl rfl (by decide) (by decide) (by decide) rfl hl.1 rfl (Nat.le_of_ble_eq_true rfl) dX6_readClause_1 ⟨Nat.le_of_ble_eq_true rfl, Nat.le_of_ble_eq_true rfl⟩ rfl rfl (fun v w H locs hv hP hD hS => ?_)
  obtain ⟨r1, tp2, rfl, rfl, hf3, hf4⟩ := hv
  show W p l e _ s m _ below meth c H locs 0 0 _ (F0 m 4 ls (.int (iI r1) :: []))
  have hP : va_P g.1 vwCl [(co, .inr (0, [.ref ch, .ref cg_, .ref cl])), (ch, aI (g.2.1 0) 8 fh), (cg_, aI (g.2.1 0) 8 fg), (cl, aI (g.2.1 0) 8 fl), (ht, .inr (6, [.int (iI tl), .ref tb, .int (iI tp2)])), (tb, aI (g.2.1 2) 100 ft)] H := hP
  have hD : va_D A [(co, .inr (0, [.ref ch, .ref cg_, .ref cl])), (ch, aI (g.2.1 0) 8 fh), (cg_, aI (g.2.1 0) 8 fg), (cl, aI (g.2.1 0) 8 fl), (ht, .inr (6, [.int (iI tl), .ref tb, .int (iI tp2)])), (tb, aI (g.2.1 2) 100 ft)] := hD
  have hf3 : tp2 = (sk ft L q : Int) := hf3
  have hf4 : (ltP ft L q ∧ r1 = (ltS ft L q : Int)) ∨ (¬ ltP ft L q ∧ r1 = -1) := hf4
  have hlt := hf4
  have hrr : -1 ≤ r1 ∧ r1 ≤ 7 := (by rcases hf4 with z | z; (have := ltS_lt z.1; omega); omega)
  refine lv_istore_n (lv' := [(2, .int (iI r1)), (0, .ref ht), (1, .ref co)]) hx hb dX6_readClause_4 rfl hl (by decide) rfl (fun ls hl => ?_)
  refine lv_iload_n hx hb dX6_readClause_5 rfl (lv_at hl 0 rfl) ?_
  refine iv_if_lt (tgt := 17) hx hb dX6_readClause_6 (by decide) (by omega) (fun hc5 => ?_) (fun hc5 => ?_)
  · have hF : clF ft L fh q = (0, sk ft L q, 0, 0, 0, 0) := clF_0 (fun z => by first | (exfalso; omega) | exact z.2 (by assumption : (0 ≤ ((ltS ft L q : Nat) : Int) ∧ ((ltS ft L q : Nat) : Int) ≤ 7) ∧ 0 < fh ((ltS ft L q : Nat) : Int).toNat).2)
    refine lv_iconst (v := iI (0)) hx hb dX6_readClause_17 rfl ?_
    exact Ct.zret hx hb hr hlocks (hP.sub [4, 5, 0, 1, 2, 3] rfl) (hD.sub [4, 5, 0, 1, 2, 3] (by decide) rfl) hS ⟨by decide, by decide⟩ dX6_readClause_18 (by decide) ⟨tp2, fh, fg, fl, Or.inr ⟨rfl, by rw [hF]; show ¬ (0 : Int) = 1; omega⟩, rfl, (by rw [hF]; omega), (fun z => absurd z (by rw [hF]; show ¬ (0 : Int) = 1; omega)), (fun _ => ⟨rfl, rfl, rfl⟩)⟩
  · have hlp : ltP ft L q := (by rcases hlt with z | z; exact z.1; exfalso; omega)
    have hls := ltS_lt hlp
    refine lv_aload_n hx hb dX6_readClause_9 rfl (lv_at hl 2 rfl) ?_
    refine lv_iload_n hx hb dX6_readClause_10 rfl (lv_at hl 0 rfl) ?_
    refine iv_as (((ltS ft L q : Nat) : Int)) (by omega) ?_
    refine Ct.callV (ci := 0) (q0 := 0) (qc := (RX0, TX0, 3)) (As := [.int (iI ((ltS ft L q : Nat) : Int))]) (rest := []) (wr := [(ht, .inr (6, [.int (iI tl), .ref tb, .int (iI tp2)])), (tb, aI (g.2.1 2) 100 ft)]) (c1 := 0) (s1 := 0) ⟨hx, hb, hml, hown, hts⟩ (c_X0_has l g co ch cg_ cl fh fg fl ((ltS ft L q : Nat) : Int) (by omega) (hC)) rfl rfl (cwV 1 hts gX6_readClause_X0_has rfl rfl rfl (by decide +kernel) ⟨Nat.le_of_ble_eq_true rfl, Nat.le_of_ble_eq_true rfl⟩) hG hP hD hS hA [0, 1, 2, 3] [4, 5] rfl rfl (by decide) (by decide) (by decide) rfl hl.1 rfl (Nat.le_of_ble_eq_true rfl) dX6_readClause_11 ⟨Nat.le_of_ble_eq_true rfl, Nat.le_of_ble_eq_true rfl⟩ rfl rfl (fun v w H locs hv hP hD hS => ?_)
    obtain ⟨⟨rfl, hb6⟩ | ⟨rfl, hb6⟩, rfl⟩ := hv
    · show W p l e _ s m _ below meth c H locs 0 0 _ (F0 m 14 ls (.int (iI 1) :: []))
      have hb6 : (0 ≤ ((ltS ft L q : Nat) : Int) ∧ ((ltS ft L q : Nat) : Int) ≤ 7) ∧ 0 < fh ((ltS ft L q : Nat) : Int).toNat := hb6
      have hP : va_P g.1 vwCl [(ht, .inr (6, [.int (iI tl), .ref tb, .int (iI tp2)])), (tb, aI (g.2.1 2) 100 ft), (co, .inr (0, [.ref ch, .ref cg_, .ref cl])), (ch, aI (g.2.1 0) 8 fh), (cg_, aI (g.2.1 0) 8 fg), (cl, aI (g.2.1 0) 8 fl)] H := hP
      have hD : va_D A [(ht, .inr (6, [.int (iI tl), .ref tb, .int (iI tp2)])), (tb, aI (g.2.1 2) 100 ft), (co, .inr (0, [.ref ch, .ref cg_, .ref cl])), (ch, aI (g.2.1 0) 8 fh), (cg_, aI (g.2.1 0) 8 fg), (cl, aI (g.2.1 0) 8 fl)] := hD
      refine iv_if_eq (tgt := 19) hx hb dX6_readClause_14 (by decide) (by decide) (fun h => absurd h (by decide)) (fun _ => ?_)
      have hF : clF ft L fh q = (0, sk ft L q, 0, 0, 0, 0) := clF_0 (fun z => by first | (exfalso; omega) | exact z.2 (by assumption : (0 ≤ ((ltS ft L q : Nat) : Int) ∧ ((ltS ft L q : Nat) : Int) ≤ 7) ∧ 0 < fh ((ltS ft L q : Nat) : Int).toNat).2)
      refine lv_iconst (v := iI (0)) hx hb dX6_readClause_17 rfl ?_
      exact Ct.zret hx hb hr hlocks (hP.sub [0, 1, 2, 3, 4, 5] rfl) (hD.sub [0, 1, 2, 3, 4, 5] (by decide) rfl) hS ⟨by decide, by decide⟩ dX6_readClause_18 (by decide) ⟨tp2, fh, fg, fl, Or.inr ⟨rfl, by rw [hF]; show ¬ (0 : Int) = 1; omega⟩, rfl, (by rw [hF]; omega), (fun z => absurd z (by rw [hF]; show ¬ (0 : Int) = 1; omega)), (fun _ => ⟨rfl, rfl, rfl⟩)⟩
    · show W p l e _ s m _ below meth c H locs 0 0 _ (F0 m 14 ls (.int (iI 0) :: []))
      have hb6 : ¬ ((0 ≤ ((ltS ft L q : Nat) : Int) ∧ ((ltS ft L q : Nat) : Int) ≤ 7) ∧ 0 < fh ((ltS ft L q : Nat) : Int).toNat) := hb6
      have hP : va_P g.1 vwCl [(ht, .inr (6, [.int (iI tl), .ref tb, .int (iI tp2)])), (tb, aI (g.2.1 2) 100 ft), (co, .inr (0, [.ref ch, .ref cg_, .ref cl])), (ch, aI (g.2.1 0) 8 fh), (cg_, aI (g.2.1 0) 8 fg), (cl, aI (g.2.1 0) 8 fl)] H := hP
      have hD : va_D A [(ht, .inr (6, [.int (iI tl), .ref tb, .int (iI tp2)])), (tb, aI (g.2.1 2) 100 ft), (co, .inr (0, [.ref ch, .ref cg_, .ref cl])), (ch, aI (g.2.1 0) 8 fh), (cg_, aI (g.2.1 0) 8 fg), (cl, aI (g.2.1 0) 8 fl)] := hD
      refine iv_if_eq (tgt := 19) hx hb dX6_readClause_14 (by decide) (by decide) (fun _ => ?_) (fun h => absurd h (by decide))
      have hnh : ltP ft L q ∧ ¬ 0 < fh (ltS ft L q) := ⟨hlp, fun z => absurd (⟨by omega, z⟩ : (0 ≤ ((ltS ft L q : Nat) : Int) ∧ ((ltS ft L q : Nat) : Int) ≤ 7) ∧ 0 < fh ((ltS ft L q : Nat) : Int).toNat) (by assumption)⟩
      have hA9 : ((cA ft L q : Nat) : Int) = (sk ft L q : Int) + 1 := by unfold cA; omega
      have hAl := cA_le hlp
      refine lv_aload_n hx hb dX6_readClause_19 rfl (lv_at hl 1 rfl) ?_
      refine lv_dup hx hb dX6_readClause_20 rfl ?_
      refine va_get (D := g.1) (ci := 6) (v := .int (iI tp2)) hx hb hts kX6_readClause_6 hown hG.1 hP 0 rfl rfl 2 (by decide) (hts _ (List.mem_of_getElem? (i := 1) rfl)) (fun _ h9 => h9) rfl dX6_readClause_21 ?_
      refine lv_iconst (v := iI (1)) hx hb dX6_readClause_24 rfl ?_
      refine iv_iadd hx hb dX6_readClause_25 ?_
      refine va_put (D := g.1) (ci := 6) (v := .int (iI (tp2 + 1))) hx hb hts kX6_readClause_6 tyX6 tyX6_ok nmX6 hown hG.1 hP hD hS 0 rfl rfl 2 (by decide) (hts _ (List.mem_of_getElem? (i := 1) rfl)) (fun _ h9 => h9) rfl (tyX6_ok 2 (by decide)) rfl rfl (Nat.le_of_ble_eq_true rfl) dX6_readClause_26 (fun H locs hP hD hS => ?_)
      have hP : va_P g.1 vwCl [(ht, .inr (6, [.int (iI tl), .ref tb, .int (iI (tp2 + 1))])), (tb, aI (g.2.1 2) 100 ft), (co, .inr (0, [.ref ch, .ref cg_, .ref cl])), (ch, aI (g.2.1 0) 8 fh), (cg_, aI (g.2.1 0) 8 fg), (cl, aI (g.2.1 0) 8 fl)] H := hP
      have hD : va_D A [(ht, .inr (6, [.int (iI tl), .ref tb, .int (iI (tp2 + 1))])), (tb, aI (g.2.1 2) 100 ft), (co, .inr (0, [.ref ch, .ref cg_, .ref cl])), (ch, aI (g.2.1 0) 8 fh), (cg_, aI (g.2.1 0) 8 fg), (cl, aI (g.2.1 0) 8 fl)] := hD
      refine lv_aload_n hx hb dX6_readClause_29 rfl (lv_at hl 1 rfl) ?_
      refine lv_bipush (v := iI (61)) hx hb dX6_readClause_30 (by decide) ?_
      refine Ct.callV (ci := 6) (q0 := 0) (qc := (RX6, TX6, 3)) (As := [.int (iI 61)]) (rest := []) (wr := [(co, .inr (0, [.ref ch, .ref cg_, .ref cl])), (ch, aI (g.2.1 0) 8 fh), (cg_, aI (g.2.1 0) 8 fg), (cl, aI (g.2.1 0) 8 fl)]) (c1 := 0) (s1 := 0) ⟨hx, hb, hml, hown, hts⟩ (c_X6_pass l g ht tb tl (tp2 + 1) ft L (cA ft L q) 61 (by omega) (hT) (by omega)) rfl rfl (cwV 1 hts gX6_readClause_X6_pass rfl rfl rfl (by decide +kernel) ⟨Nat.le_of_ble_eq_true rfl, Nat.le_of_ble_eq_true rfl⟩) hG hP hD hS hA [0, 1] [2, 3, 4, 5] rfl rfl (by decide) (by decide) (by decide) rfl hl.1 rfl (Nat.le_of_ble_eq_true rfl) dX6_readClause_32 ⟨Nat.le_of_ble_eq_true rfl, Nat.le_of_ble_eq_true rfl⟩ rfl rfl (fun v w H locs hv hP hD hS => ?_)
      obtain ⟨tp9, ⟨rfl, hb12⟩ | ⟨rfl, hb12⟩, rfl, hf10, hf11⟩ := hv
      · show W p l e _ s m _ below meth c H locs 0 0 _ (F0 m 35 ls (.int (iI 1) :: []))
        have hb12 : psP ft L 61 (cA ft L q) := hb12
        have hP : va_P g.1 vwCl [(co, .inr (0, [.ref ch, .ref cg_, .ref cl])), (ch, aI (g.2.1 0) 8 fh), (cg_, aI (g.2.1 0) 8 fg), (cl, aI (g.2.1 0) 8 fl), (ht, .inr (6, [.int (iI tl), .ref tb, .int (iI tp9)])), (tb, aI (g.2.1 2) 100 ft)] H := hP
        have hD : va_D A [(co, .inr (0, [.ref ch, .ref cg_, .ref cl])), (ch, aI (g.2.1 0) 8 fh), (cg_, aI (g.2.1 0) 8 fg), (cl, aI (g.2.1 0) 8 fl), (ht, .inr (6, [.int (iI tl), .ref tb, .int (iI tp9)])), (tb, aI (g.2.1 2) 100 ft)] := hD
        have hf10 : psP ft L 61 (cA ft L q) → tp9 = (sk ft L (cA ft L q) : Int) + 1 := hf10
        have hf11 : ¬ psP ft L 61 (cA ft L q) → tp9 = (sk ft L (cA ft L q) : Int) := hf11
        first | have hpl := hf10 (by assumption) | have hpl := hf11 (by assumption)
        refine iv_if_ne (tgt := 40) hx hb dX6_readClause_35 (by decide) (by decide) (fun _ => ?_) (fun h => absurd h (by decide))
        have hp61 : psP ft L 61 (cA ft L q) := by assumption
        have hB9 : ((cB ft L q : Nat) : Int) = (sk ft L (cA ft L q) : Int) + 1 := by unfold cB; omega
        have hBl := cB_le hp61
        refine lv_aload_n hx hb dX6_readClause_40 rfl (lv_at hl 1 rfl) ?_
        refine lv_iconst (v := iI (1)) hx hb dX6_readClause_41 rfl ?_
        refine lv_bipush (v := iI (20)) hx hb dX6_readClause_42 (by decide) ?_
        refine Ct.callV (ci := 6) (q0 := 4) (qc := (RX6, TX6, 3)) (As := [.int (iI 1), .int (iI 20)]) (rest := []) (wr := [(co, .inr (0, [.ref ch, .ref cg_, .ref cl])), (ch, aI (g.2.1 0) 8 fh), (cg_, aI (g.2.1 0) 8 fg), (cl, aI (g.2.1 0) 8 fl)]) (c1 := 0) (s1 := 0) ⟨hx, hb, hml, hown, hts⟩ (c_X6_readNumber l g ht tb tl tp9 ft L (cB ft L q) 1 20 (by omega) (hT) (by omega)) rfl rfl (cwV 2 hts gX6_readClause_X6_readNumber rfl rfl rfl (by decide +kernel) ⟨Nat.le_of_ble_eq_true rfl, Nat.le_of_ble_eq_true rfl⟩) hG hP hD hS hA [4, 5] [0, 1, 2, 3] rfl rfl (by decide) (by decide) (by decide) rfl hl.1 rfl (Nat.le_of_ble_eq_true rfl) dX6_readClause_44 ⟨Nat.le_of_ble_eq_true rfl, Nat.le_of_ble_eq_true rfl⟩ rfl rfl (fun v w H locs hv hP hD hS => ?_)
        obtain ⟨r14, tp15, rfl, rfl, hf16⟩ := hv
        show W p l e _ s m _ below meth c H locs 0 0 _ (F0 m 47 ls (.int (iI r14) :: []))
        have hP : va_P g.1 vwCl [(co, .inr (0, [.ref ch, .ref cg_, .ref cl])), (ch, aI (g.2.1 0) 8 fh), (cg_, aI (g.2.1 0) 8 fg), (cl, aI (g.2.1 0) 8 fl), (ht, .inr (6, [.int (iI tl), .ref tb, .int (iI tp15)])), (tb, aI (g.2.1 2) 100 ft)] H := hP
        have hD : va_D A [(co, .inr (0, [.ref ch, .ref cg_, .ref cl])), (ch, aI (g.2.1 0) 8 fh), (cg_, aI (g.2.1 0) 8 fg), (cl, aI (g.2.1 0) 8 fl), (ht, .inr (6, [.int (iI tl), .ref tb, .int (iI tp15)])), (tb, aI (g.2.1 2) 100 ft)] := hD
        have hf16 : (nuP ft L 1 20 (cB ft L q) ∧ r14 = nuV ft L (cB ft L q) ∧ tp15 = (nuE ft L (cB ft L q) : Int)) ∨ (¬ nuP ft L 1 20 (cB ft L q) ∧ r14 = -1 ∧ tp15 = (sk ft L (cB ft L q) : Int)) := hf16
        have hn1 := hf16
        refine lv_istore_n (lv' := [(3, .int (iI r14)), (2, .int (iI r1)), (0, .ref ht), (1, .ref co)]) hx hb dX6_readClause_47 rfl hl (by decide) rfl (fun ls hl => ?_)
        refine lv_iload_n hx hb dX6_readClause_48 rfl (lv_at hl 0 rfl) ?_
        refine iv_if_lt (tgt := 61) hx hb dX6_readClause_49 (by decide) (by omega) (fun hc17 => ?_) (fun hc17 => ?_)
        · have hF1 : ¬ nuP ft L 1 20 (cB ft L q) := (by rcases hn1 with z | z; (have z1 := z.1.2.1; have z2 := z.2.1; exfalso; omega); exact z.1)
          have hF : clF ft L fh q = (0, sk ft L (cB ft L q), 0, 0, 0, 0) := clF_2 hnh hp61 hF1
          have hpl9 := (hn1.resolve_left (fun z => hF1 z.1)).2.2
          first | have hF : clF ft L fh q = (0, sk ft L (cB ft L q), 0, 0, 0, 0) := hF | have hF : clF ft L fh q = (0, sk ft L (cC ft L q), 0, 0, 0, 0) := clF_3 hnh hp61 hnp1.1 (by assumption)
          refine lv_iconst (v := iI (0)) hx hb dX6_readClause_61 rfl ?_
          exact Ct.zret hx hb hr hlocks (hP.sub [4, 5, 0, 1, 2, 3] rfl) (hD.sub [4, 5, 0, 1, 2, 3] (by decide) rfl) hS ⟨by decide, by decide⟩ dX6_readClause_62 (by decide) ⟨tp15, fh, fg, fl, Or.inr ⟨rfl, by rw [hF]; show ¬ (0 : Int) = 1; omega⟩, rfl, (by rw [hF]; omega), (fun z => absurd z (by rw [hF]; show ¬ (0 : Int) = 1; omega)), (fun _ => ⟨rfl, rfl, rfl⟩)⟩
        · have hnp1 := hn1.resolve_right (fun z => by have z1 := z.2.1; omega)
          have hC9 : ((cC ft L q : Nat) : Int) = (nuE ft L (cB ft L q) : Int) := rfl
          have hCl := cC_le hp61
          have hu1 : 0 ≤ nuV ft L (cB ft L q) := (by have := hnp1.1.2.1; omega)
          refine lv_aload_n hx hb dX6_readClause_52 rfl (lv_at hl 2 rfl) ?_
          refine lv_bipush (v := iI (47)) hx hb dX6_readClause_53 (by decide) ?_
          refine Ct.callV (ci := 6) (q0 := 4) (qc := (RX6, TX6, 3)) (As := [.int (iI 47)]) (rest := []) (wr := [(co, .inr (0, [.ref ch, .ref cg_, .ref cl])), (ch, aI (g.2.1 0) 8 fh), (cg_, aI (g.2.1 0) 8 fg), (cl, aI (g.2.1 0) 8 fl)]) (c1 := 0) (s1 := 0) ⟨hx, hb, hml, hown, hts⟩ (c_X6_pass l g ht tb tl tp15 ft L (cC ft L q) 47 (by omega) (hT) (by omega)) rfl rfl (cwV 1 hts gX6_readClause_X6_pass rfl rfl rfl (by decide +kernel) ⟨Nat.le_of_ble_eq_true rfl, Nat.le_of_ble_eq_true rfl⟩) hG hP hD hS hA [4, 5] [0, 1, 2, 3] rfl rfl (by decide) (by decide) (by decide) rfl hl.1 rfl (Nat.le_of_ble_eq_true rfl) dX6_readClause_55 ⟨Nat.le_of_ble_eq_true rfl, Nat.le_of_ble_eq_true rfl⟩ rfl rfl (fun v w H locs hv hP hD hS => ?_)
          obtain ⟨tp18, ⟨rfl, hb21⟩ | ⟨rfl, hb21⟩, rfl, hf19, hf20⟩ := hv
          · show W p l e _ s m _ below meth c H locs 0 0 _ (F0 m 58 ls (.int (iI 1) :: []))
            have hb21 : psP ft L 47 (cC ft L q) := hb21
            have hP : va_P g.1 vwCl [(co, .inr (0, [.ref ch, .ref cg_, .ref cl])), (ch, aI (g.2.1 0) 8 fh), (cg_, aI (g.2.1 0) 8 fg), (cl, aI (g.2.1 0) 8 fl), (ht, .inr (6, [.int (iI tl), .ref tb, .int (iI tp18)])), (tb, aI (g.2.1 2) 100 ft)] H := hP
            have hD : va_D A [(co, .inr (0, [.ref ch, .ref cg_, .ref cl])), (ch, aI (g.2.1 0) 8 fh), (cg_, aI (g.2.1 0) 8 fg), (cl, aI (g.2.1 0) 8 fl), (ht, .inr (6, [.int (iI tl), .ref tb, .int (iI tp18)])), (tb, aI (g.2.1 2) 100 ft)] := hD
            have hf19 : psP ft L 47 (cC ft L q) → tp18 = (sk ft L (cC ft L q) : Int) + 1 := hf19
            have hf20 : ¬ psP ft L 47 (cC ft L q) → tp18 = (sk ft L (cC ft L q) : Int) := hf20
            first | have hpl := hf19 (by assumption) | have hpl := hf20 (by assumption)
            refine iv_if_ne (tgt := 63) hx hb dX6_readClause_58 (by decide) (by decide) (fun _ => ?_) (fun h => absurd h (by decide))
            have hp47 : psP ft L 47 (cC ft L q) := by assumption
            have hD9 : ((cD ft L q : Nat) : Int) = (sk ft L (cC ft L q) : Int) + 1 := by unfold cD; omega
            have hDl := cD_le hp47
            refine lv_aload_n hx hb dX6_readClause_63 rfl (lv_at hl 2 rfl) ?_
            refine lv_iconst (v := iI (0)) hx hb dX6_readClause_64 rfl ?_
            refine lv_bipush (v := iI (99)) hx hb dX6_readClause_65 (by decide) ?_
            refine Ct.callV (ci := 6) (q0 := 4) (qc := (RX6, TX6, 3)) (As := [.int (iI 0), .int (iI 99)]) (rest := []) (wr := [(co, .inr (0, [.ref ch, .ref cg_, .ref cl])), (ch, aI (g.2.1 0) 8 fh), (cg_, aI (g.2.1 0) 8 fg), (cl, aI (g.2.1 0) 8 fl)]) (c1 := 0) (s1 := 0) ⟨hx, hb, hml, hown, hts⟩ (c_X6_readNumber l g ht tb tl tp18 ft L (cD ft L q) 0 99 (by omega) (hT) (by omega)) rfl rfl (cwV 2 hts gX6_readClause_X6_readNumber rfl rfl rfl (by decide +kernel) ⟨Nat.le_of_ble_eq_true rfl, Nat.le_of_ble_eq_true rfl⟩) hG hP hD hS hA [4, 5] [0, 1, 2, 3] rfl rfl (by decide) (by decide) (by decide) rfl hl.1 rfl (Nat.le_of_ble_eq_true rfl) dX6_readClause_67 ⟨Nat.le_of_ble_eq_true rfl, Nat.le_of_ble_eq_true rfl⟩ rfl rfl (fun v w H locs hv hP hD hS => ?_)
            obtain ⟨r23, tp24, rfl, rfl, hf25⟩ := hv
            show W p l e _ s m _ below meth c H locs 0 0 _ (F0 m 70 ls (.int (iI r23) :: []))
            have hP : va_P g.1 vwCl [(co, .inr (0, [.ref ch, .ref cg_, .ref cl])), (ch, aI (g.2.1 0) 8 fh), (cg_, aI (g.2.1 0) 8 fg), (cl, aI (g.2.1 0) 8 fl), (ht, .inr (6, [.int (iI tl), .ref tb, .int (iI tp24)])), (tb, aI (g.2.1 2) 100 ft)] H := hP
            have hD : va_D A [(co, .inr (0, [.ref ch, .ref cg_, .ref cl])), (ch, aI (g.2.1 0) 8 fh), (cg_, aI (g.2.1 0) 8 fg), (cl, aI (g.2.1 0) 8 fl), (ht, .inr (6, [.int (iI tl), .ref tb, .int (iI tp24)])), (tb, aI (g.2.1 2) 100 ft)] := hD
            have hf25 : (nuP ft L 0 99 (cD ft L q) ∧ r23 = nuV ft L (cD ft L q) ∧ tp24 = (nuE ft L (cD ft L q) : Int)) ∨ (¬ nuP ft L 0 99 (cD ft L q) ∧ r23 = -1 ∧ tp24 = (sk ft L (cD ft L q) : Int)) := hf25
            have hn2 := hf25
            refine lv_istore (lv' := [(4, .int (iI r23)), (3, .int (iI r14)), (2, .int (iI r1)), (0, .ref ht), (1, .ref co)]) hx hb dX6_readClause_70 hl (by decide) rfl (fun ls hl => ?_)
            refine lv_iload hx hb dX6_readClause_72 (lv_at hl 0 rfl) ?_
            refine iv_if_ge (tgt := 79) hx hb dX6_readClause_74 (by decide) (by omega) (fun hc26 => ?_) (fun hc26 => ?_)
            · have hnp2 := hn2.resolve_right (fun z => by have z1 := z.2.1; omega)
              have hE9 : ((cE ft L q : Nat) : Int) = (nuE ft L (cD ft L q) : Int) := rfl
              have hEl := cE_le hp47
              refine lv_aload_n hx hb dX6_readClause_79 rfl (lv_at hl 3 rfl) ?_
              refine lv_bipush (v := iI (58)) hx hb dX6_readClause_80 (by decide) ?_
              refine Ct.callV (ci := 6) (q0 := 4) (qc := (RX6, TX6, 3)) (As := [.int (iI 58)]) (rest := []) (wr := [(co, .inr (0, [.ref ch, .ref cg_, .ref cl])), (ch, aI (g.2.1 0) 8 fh), (cg_, aI (g.2.1 0) 8 fg), (cl, aI (g.2.1 0) 8 fl)]) (c1 := 0) (s1 := 0) ⟨hx, hb, hml, hown, hts⟩ (c_X6_pass l g ht tb tl tp24 ft L (cE ft L q) 58 (by omega) (hT) (by omega)) rfl rfl (cwV 1 hts gX6_readClause_X6_pass rfl rfl rfl (by decide +kernel) ⟨Nat.le_of_ble_eq_true rfl, Nat.le_of_ble_eq_true rfl⟩) hG hP hD hS hA [4, 5] [0, 1, 2, 3] rfl rfl (by decide) (by decide) (by decide) rfl hl.1 rfl (Nat.le_of_ble_eq_true rfl) dX6_readClause_82 ⟨Nat.le_of_ble_eq_true rfl, Nat.le_of_ble_eq_true rfl⟩ rfl rfl (fun v w H locs hv hP hD hS => ?_)
              obtain ⟨tp27, ⟨rfl, hb30⟩ | ⟨rfl, hb30⟩, rfl, hf28, hf29⟩ := hv
              · show W p l e _ s m _ below meth c H locs 0 0 _ (F0 m 85 ls (.int (iI 1) :: []))
                have hb30 : psP ft L 58 (cE ft L q) := hb30
                have hP : va_P g.1 vwCl [(co, .inr (0, [.ref ch, .ref cg_, .ref cl])), (ch, aI (g.2.1 0) 8 fh), (cg_, aI (g.2.1 0) 8 fg), (cl, aI (g.2.1 0) 8 fl), (ht, .inr (6, [.int (iI tl), .ref tb, .int (iI tp27)])), (tb, aI (g.2.1 2) 100 ft)] H := hP
                have hD : va_D A [(co, .inr (0, [.ref ch, .ref cg_, .ref cl])), (ch, aI (g.2.1 0) 8 fh), (cg_, aI (g.2.1 0) 8 fg), (cl, aI (g.2.1 0) 8 fl), (ht, .inr (6, [.int (iI tl), .ref tb, .int (iI tp27)])), (tb, aI (g.2.1 2) 100 ft)] := hD
                have hf28 : psP ft L 58 (cE ft L q) → tp27 = (sk ft L (cE ft L q) : Int) + 1 := hf28
                have hf29 : ¬ psP ft L 58 (cE ft L q) → tp27 = (sk ft L (cE ft L q) : Int) := hf29
                first | have hpl := hf28 (by assumption) | have hpl := hf29 (by assumption)
                refine iv_if_eq (tgt := 96) hx hb dX6_readClause_85 (by decide) (by decide) (fun h => absurd h (by decide)) (fun _ => ?_)
                have hp58 : psP ft L 58 (cE ft L q) := by assumption
                have hG9 : ((cG ft L q : Nat) : Int) = (sk ft L (cE ft L q) : Int) + 1 := by unfold cG; omega
                have hGl := cG_le hp58
                have hF : clF ft L fh q = _ := clF_6 hnh hp61 hnp1.1 hp47 hnp2.1 hp58
                have hlr := lnF_rng ft L fh 100 (cG ft L q) 0 hGl (by omega)
                refine lv_aload_n hx hb dX6_readClause_88 rfl (lv_at hl 3 rfl) ?_
                refine lv_aload_n hx hb dX6_readClause_89 rfl (lv_at hl 4 rfl) ?_
                refine Ct.callV (ci := 6) (q0 := 4) (qc := (RX6, TX6, 3)) (As := [.ref co]) (rest := []) (wr := []) (c1 := 0) (s1 := 0) ⟨hx, hb, hml, hown, hts⟩ (c_X6_readLeans l g ht tb tl tp27 ft L co ch cg_ cl fh fg fl (cG ft L q) (by omega) (hT) (hC)) rfl rfl (cwV 1 hts gX6_readClause_X6_readLeans rfl rfl rfl (by decide +kernel) ⟨Nat.le_of_ble_eq_true rfl, Nat.le_of_ble_eq_true rfl⟩) hG hP hD hS hA [4, 5, 0, 1, 2, 3] [] rfl rfl (by decide) (by decide) (by decide) rfl hl.1 rfl (Nat.le_of_ble_eq_true rfl) dX6_readClause_90 ⟨Nat.le_of_ble_eq_true rfl, Nat.le_of_ble_eq_true rfl⟩ rfl rfl (fun v w H locs hv hP hD hS => ?_)
                obtain ⟨r32, tp33, rfl, rfl, hf34, hf35⟩ := hv
                show W p l e _ s m _ below meth c H locs 0 0 _ (F0 m 93 ls (.int (iI r32) :: []))
                have hP : va_P g.1 vwCl [(ht, .inr (6, [.int (iI tl), .ref tb, .int (iI tp33)])), (tb, aI (g.2.1 2) 100 ft), (co, .inr (0, [.ref ch, .ref cg_, .ref cl])), (ch, aI (g.2.1 0) 8 fh), (cg_, aI (g.2.1 0) 8 fg), (cl, aI (g.2.1 0) 8 fl)] H := hP
                have hD : va_D A [(ht, .inr (6, [.int (iI tl), .ref tb, .int (iI tp33)])), (tb, aI (g.2.1 2) 100 ft), (co, .inr (0, [.ref ch, .ref cg_, .ref cl])), (ch, aI (g.2.1 0) 8 fh), (cg_, aI (g.2.1 0) 8 fg), (cl, aI (g.2.1 0) 8 fl)] := hD
                have hf34 : r32 = (if (lnF ft L fh 100 (cG ft L q) 0).1 = 1 then (((lnF ft L fh 100 (cG ft L q) 0).2.2 : Nat) : Int) else -1) := hf34
                have hf35 : tp33 = (((lnF ft L fh 100 (cG ft L q) 0).2.1 : Nat) : Int) := hf35
                have hre := hf34
                refine lv_goto (tgt := 97) hx hb dX6_readClause_93 (by decide) ?_
                refine lv_istore (lv' := [(5, .int (iI r32)), (4, .int (iI r23)), (3, .int (iI r14)), (2, .int (iI r1)), (0, .ref ht), (1, .ref co)]) hx hb dX6_readClause_97 hl (by decide) rfl (fun ls hl => ?_)
                refine lv_iload hx hb dX6_readClause_99 (lv_at hl 0 rfl) ?_
                refine iv_if_ge (tgt := 106) hx hb dX6_readClause_101 (by decide) (by omega) (fun hc36 => ?_) (fun hc36 => ?_)
                · first | have hr5 := hr5 | (have hz5 : (lnF ft L fh 100 (cG ft L q) 0).1 = 1 := Classical.byContradiction (fun z => by rw [if_neg z] at hre; omega); have hr5 := hre; rw [if_pos hz5] at hr5)
                  refine lv_aload_n hx hb dX6_readClause_106 rfl (lv_at hl 5 rfl) ?_
                  refine va_get (D := g.1) (ci := 0) (v := .ref ch) hx hb hts kX6_readClause_0 hown hG.1 hP 2 rfl rfl 0 (by decide) (hts _ (List.mem_of_getElem? (i := 2) rfl)) (fun _ h9 => h9) rfl dX6_readClause_107 ?_
                  refine lv_iload_n hx hb dX6_readClause_110 rfl (lv_at hl 3 rfl) ?_
                  refine lv_iload_n hx hb dX6_readClause_111 rfl (lv_at hl 2 rfl) ?_
                  refine iv_iast hx hb hG hP hD hS 3 rfl (ltS ft L q) (by omega) (by omega) (by decide) dX6_readClause_112 (fun H locs hP hD hS => ?_)
                  have hP : va_P g.1 vwCl [(ht, .inr (6, [.int (iI tl), .ref tb, .int (iI tp33)])), (tb, aI (g.2.1 2) 100 ft), (co, .inr (0, [.ref ch, .ref cg_, .ref cl])), (ch, aI (g.2.1 0) 8 (va_up fh (ltS ft L q) r14)), (cg_, aI (g.2.1 0) 8 fg), (cl, aI (g.2.1 0) 8 fl)] H := hP
                  have hD : va_D A [(ht, .inr (6, [.int (iI tl), .ref tb, .int (iI tp33)])), (tb, aI (g.2.1 2) 100 ft), (co, .inr (0, [.ref ch, .ref cg_, .ref cl])), (ch, aI (g.2.1 0) 8 (va_up fh (ltS ft L q) r14)), (cg_, aI (g.2.1 0) 8 fg), (cl, aI (g.2.1 0) 8 fl)] := hD
                  refine lv_aload_n hx hb dX6_readClause_113 rfl (lv_at hl 5 rfl) ?_
                  refine va_get (D := g.1) (ci := 0) (v := .ref cg_) hx hb hts kX6_readClause_0 hown hG.1 hP 2 rfl rfl 1 (by decide) (hts _ (List.mem_of_getElem? (i := 3) rfl)) (fun _ h9 => h9) rfl dX6_readClause_114 ?_
                  refine lv_iload_n hx hb dX6_readClause_117 rfl (lv_at hl 3 rfl) ?_
                  refine lv_iload hx hb dX6_readClause_118 (lv_at hl 1 rfl) ?_
                  refine iv_iast hx hb hG hP hD hS 4 rfl (ltS ft L q) (by omega) (by omega) (by decide) dX6_readClause_120 (fun H locs hP hD hS => ?_)
                  have hP : va_P g.1 vwCl [(ht, .inr (6, [.int (iI tl), .ref tb, .int (iI tp33)])), (tb, aI (g.2.1 2) 100 ft), (co, .inr (0, [.ref ch, .ref cg_, .ref cl])), (ch, aI (g.2.1 0) 8 (va_up fh (ltS ft L q) r14)), (cg_, aI (g.2.1 0) 8 (va_up fg (ltS ft L q) r23)), (cl, aI (g.2.1 0) 8 fl)] H := hP
                  have hD : va_D A [(ht, .inr (6, [.int (iI tl), .ref tb, .int (iI tp33)])), (tb, aI (g.2.1 2) 100 ft), (co, .inr (0, [.ref ch, .ref cg_, .ref cl])), (ch, aI (g.2.1 0) 8 (va_up fh (ltS ft L q) r14)), (cg_, aI (g.2.1 0) 8 (va_up fg (ltS ft L q) r23)), (cl, aI (g.2.1 0) 8 fl)] := hD
                  refine lv_aload_n hx hb dX6_readClause_121 rfl (lv_at hl 5 rfl) ?_
                  refine va_get (D := g.1) (ci := 0) (v := .ref cl) hx hb hts kX6_readClause_0 hown hG.1 hP 2 rfl rfl 2 (by decide) (hts _ (List.mem_of_getElem? (i := 4) rfl)) (fun _ h9 => h9) rfl dX6_readClause_122 ?_
                  refine lv_iload_n hx hb dX6_readClause_125 rfl (lv_at hl 3 rfl) ?_
                  refine lv_iload hx hb dX6_readClause_126 (lv_at hl 0 rfl) ?_
                  refine iv_iast hx hb hG hP hD hS 5 rfl (ltS ft L q) (by omega) (by omega) (by decide) dX6_readClause_128 (fun H locs hP hD hS => ?_)
                  have hP : va_P g.1 vwCl [(ht, .inr (6, [.int (iI tl), .ref tb, .int (iI tp33)])), (tb, aI (g.2.1 2) 100 ft), (co, .inr (0, [.ref ch, .ref cg_, .ref cl])), (ch, aI (g.2.1 0) 8 (va_up fh (ltS ft L q) r14)), (cg_, aI (g.2.1 0) 8 (va_up fg (ltS ft L q) r23)), (cl, aI (g.2.1 0) 8 (va_up fl (ltS ft L q) r32))] H := hP
                  have hD : va_D A [(ht, .inr (6, [.int (iI tl), .ref tb, .int (iI tp33)])), (tb, aI (g.2.1 2) 100 ft), (co, .inr (0, [.ref ch, .ref cg_, .ref cl])), (ch, aI (g.2.1 0) 8 (va_up fh (ltS ft L q) r14)), (cg_, aI (g.2.1 0) 8 (va_up fg (ltS ft L q) r23)), (cl, aI (g.2.1 0) 8 (va_up fl (ltS ft L q) r32))] := hD
                  refine lv_iconst (v := iI (1)) hx hb dX6_readClause_129 rfl ?_
                  exact Ct.zret hx hb hr hlocks (hP.sub [0, 1, 2, 3, 4, 5] rfl) (hD.sub [0, 1, 2, 3, 4, 5] (by decide) rfl) hS ⟨by decide, by decide⟩ dX6_readClause_130 (by decide) ⟨tp33, (va_up fh (ltS ft L q) r14), (va_up fg (ltS ft L q) r23), (va_up fl (ltS ft L q) r32), Or.inl ⟨rfl, by rw [hF] <;> first | rfl | exact hz5⟩, rfl, (by rw [hF] <;> first | assumption | omega), (fun _ => by unfold clS; simp only [hF]; rw [hnp1.2.1, hnp2.2.1, hr5]), (fun z => absurd (show (clF ft L fh q).1 = 1 by rw [hF] <;> first | rfl | exact hz5) z)⟩
                · have hz5 : ¬ (lnF ft L fh 100 (cG ft L q) 0).1 = 1 := fun z => by rw [if_pos z] at hre; omega
                  refine lv_iconst (v := iI (0)) hx hb dX6_readClause_104 rfl ?_
                  exact Ct.zret hx hb hr hlocks (hP.sub [0, 1, 2, 3, 4, 5] rfl) (hD.sub [0, 1, 2, 3, 4, 5] (by decide) rfl) hS ⟨by decide, by decide⟩ dX6_readClause_105 (by decide) ⟨tp33, fh, fg, fl, Or.inr ⟨rfl, by rw [hF]; exact hz5⟩, rfl, (by rw [hF]; assumption), (fun z => absurd z (by rw [hF]; exact hz5)), (fun _ => ⟨rfl, rfl, rfl⟩)⟩
              · show W p l e _ s m _ below meth c H locs 0 0 _ (F0 m 85 ls (.int (iI 0) :: []))
                have hb30 : ¬ (psP ft L 58 (cE ft L q)) := hb30
                have hP : va_P g.1 vwCl [(co, .inr (0, [.ref ch, .ref cg_, .ref cl])), (ch, aI (g.2.1 0) 8 fh), (cg_, aI (g.2.1 0) 8 fg), (cl, aI (g.2.1 0) 8 fl), (ht, .inr (6, [.int (iI tl), .ref tb, .int (iI tp27)])), (tb, aI (g.2.1 2) 100 ft)] H := hP
                have hD : va_D A [(co, .inr (0, [.ref ch, .ref cg_, .ref cl])), (ch, aI (g.2.1 0) 8 fh), (cg_, aI (g.2.1 0) 8 fg), (cl, aI (g.2.1 0) 8 fl), (ht, .inr (6, [.int (iI tl), .ref tb, .int (iI tp27)])), (tb, aI (g.2.1 2) 100 ft)] := hD
                have hf28 : psP ft L 58 (cE ft L q) → tp27 = (sk ft L (cE ft L q) : Int) + 1 := hf28
                have hf29 : ¬ psP ft L 58 (cE ft L q) → tp27 = (sk ft L (cE ft L q) : Int) := hf29
                first | have hpl := hf28 (by assumption) | have hpl := hf29 (by assumption)
                refine iv_if_eq (tgt := 96) hx hb dX6_readClause_85 (by decide) (by decide) (fun _ => ?_) (fun h => absurd h (by decide))
                have hF : clF ft L fh q = _ := clF_5 hnh hp61 hnp1.1 hp47 hnp2.1 (by assumption)
                have hr5 : (0 : Int) = ((0 : Nat) : Int) := rfl
                refine lv_iconst (v := iI (0)) hx hb dX6_readClause_96 rfl ?_
                refine lv_istore (lv' := [(5, .int (iI 0)), (4, .int (iI r23)), (3, .int (iI r14)), (2, .int (iI r1)), (0, .ref ht), (1, .ref co)]) hx hb dX6_readClause_97 hl (by decide) rfl (fun ls hl => ?_)
                refine lv_iload hx hb dX6_readClause_99 (lv_at hl 0 rfl) ?_
                refine iv_if_ge (tgt := 106) hx hb dX6_readClause_101 (by decide) (by decide) (fun _ => ?_) (fun h => absurd h (by decide))
                first | have hr5 := hr5 | (have hz5 : (lnF ft L fh 100 (cG ft L q) 0).1 = 1 := Classical.byContradiction (fun z => by rw [if_neg z] at hre; omega); have hr5 := hre; rw [if_pos hz5] at hr5)
                refine lv_aload_n hx hb dX6_readClause_106 rfl (lv_at hl 5 rfl) ?_
                refine va_get (D := g.1) (ci := 0) (v := .ref ch) hx hb hts kX6_readClause_0 hown hG.1 hP 0 rfl rfl 0 (by decide) (hts _ (List.mem_of_getElem? (i := 2) rfl)) (fun _ h9 => h9) rfl dX6_readClause_107 ?_
                refine lv_iload_n hx hb dX6_readClause_110 rfl (lv_at hl 3 rfl) ?_
                refine lv_iload_n hx hb dX6_readClause_111 rfl (lv_at hl 2 rfl) ?_
                refine iv_iast hx hb hG hP hD hS 1 rfl (ltS ft L q) (by omega) (by omega) (by decide) dX6_readClause_112 (fun H locs hP hD hS => ?_)
                have hP : va_P g.1 vwCl [(co, .inr (0, [.ref ch, .ref cg_, .ref cl])), (ch, aI (g.2.1 0) 8 (va_up fh (ltS ft L q) r14)), (cg_, aI (g.2.1 0) 8 fg), (cl, aI (g.2.1 0) 8 fl), (ht, .inr (6, [.int (iI tl), .ref tb, .int (iI tp27)])), (tb, aI (g.2.1 2) 100 ft)] H := hP
                have hD : va_D A [(co, .inr (0, [.ref ch, .ref cg_, .ref cl])), (ch, aI (g.2.1 0) 8 (va_up fh (ltS ft L q) r14)), (cg_, aI (g.2.1 0) 8 fg), (cl, aI (g.2.1 0) 8 fl), (ht, .inr (6, [.int (iI tl), .ref tb, .int (iI tp27)])), (tb, aI (g.2.1 2) 100 ft)] := hD
                refine lv_aload_n hx hb dX6_readClause_113 rfl (lv_at hl 5 rfl) ?_
                refine va_get (D := g.1) (ci := 0) (v := .ref cg_) hx hb hts kX6_readClause_0 hown hG.1 hP 0 rfl rfl 1 (by decide) (hts _ (List.mem_of_getElem? (i := 3) rfl)) (fun _ h9 => h9) rfl dX6_readClause_114 ?_
                refine lv_iload_n hx hb dX6_readClause_117 rfl (lv_at hl 3 rfl) ?_
                refine lv_iload hx hb dX6_readClause_118 (lv_at hl 1 rfl) ?_
                refine iv_iast hx hb hG hP hD hS 2 rfl (ltS ft L q) (by omega) (by omega) (by decide) dX6_readClause_120 (fun H locs hP hD hS => ?_)
                have hP : va_P g.1 vwCl [(co, .inr (0, [.ref ch, .ref cg_, .ref cl])), (ch, aI (g.2.1 0) 8 (va_up fh (ltS ft L q) r14)), (cg_, aI (g.2.1 0) 8 (va_up fg (ltS ft L q) r23)), (cl, aI (g.2.1 0) 8 fl), (ht, .inr (6, [.int (iI tl), .ref tb, .int (iI tp27)])), (tb, aI (g.2.1 2) 100 ft)] H := hP
                have hD : va_D A [(co, .inr (0, [.ref ch, .ref cg_, .ref cl])), (ch, aI (g.2.1 0) 8 (va_up fh (ltS ft L q) r14)), (cg_, aI (g.2.1 0) 8 (va_up fg (ltS ft L q) r23)), (cl, aI (g.2.1 0) 8 fl), (ht, .inr (6, [.int (iI tl), .ref tb, .int (iI tp27)])), (tb, aI (g.2.1 2) 100 ft)] := hD
                refine lv_aload_n hx hb dX6_readClause_121 rfl (lv_at hl 5 rfl) ?_
                refine va_get (D := g.1) (ci := 0) (v := .ref cl) hx hb hts kX6_readClause_0 hown hG.1 hP 0 rfl rfl 2 (by decide) (hts _ (List.mem_of_getElem? (i := 4) rfl)) (fun _ h9 => h9) rfl dX6_readClause_122 ?_
                refine lv_iload_n hx hb dX6_readClause_125 rfl (lv_at hl 3 rfl) ?_
                refine lv_iload hx hb dX6_readClause_126 (lv_at hl 0 rfl) ?_
                refine iv_iast hx hb hG hP hD hS 3 rfl (ltS ft L q) (by omega) (by omega) (by decide) dX6_readClause_128 (fun H locs hP hD hS => ?_)
                have hP : va_P g.1 vwCl [(co, .inr (0, [.ref ch, .ref cg_, .ref cl])), (ch, aI (g.2.1 0) 8 (va_up fh (ltS ft L q) r14)), (cg_, aI (g.2.1 0) 8 (va_up fg (ltS ft L q) r23)), (cl, aI (g.2.1 0) 8 (va_up fl (ltS ft L q) 0)), (ht, .inr (6, [.int (iI tl), .ref tb, .int (iI tp27)])), (tb, aI (g.2.1 2) 100 ft)] H := hP
                have hD : va_D A [(co, .inr (0, [.ref ch, .ref cg_, .ref cl])), (ch, aI (g.2.1 0) 8 (va_up fh (ltS ft L q) r14)), (cg_, aI (g.2.1 0) 8 (va_up fg (ltS ft L q) r23)), (cl, aI (g.2.1 0) 8 (va_up fl (ltS ft L q) 0)), (ht, .inr (6, [.int (iI tl), .ref tb, .int (iI tp27)])), (tb, aI (g.2.1 2) 100 ft)] := hD
                refine lv_iconst (v := iI (1)) hx hb dX6_readClause_129 rfl ?_
                exact Ct.zret hx hb hr hlocks (hP.sub [4, 5, 0, 1, 2, 3] rfl) (hD.sub [4, 5, 0, 1, 2, 3] (by decide) rfl) hS ⟨by decide, by decide⟩ dX6_readClause_130 (by decide) ⟨tp27, (va_up fh (ltS ft L q) r14), (va_up fg (ltS ft L q) r23), (va_up fl (ltS ft L q) 0), Or.inl ⟨rfl, by rw [hF] <;> first | rfl | exact hz5⟩, rfl, (by rw [hF] <;> first | assumption | omega), (fun _ => by unfold clS; simp only [hF]; rw [hnp1.2.1, hnp2.2.1, hr5]), (fun z => absurd (show (clF ft L fh q).1 = 1 by rw [hF] <;> first | rfl | exact hz5) z)⟩
            · have hF1 : ¬ nuP ft L 0 99 (cD ft L q) := (by rcases hn2 with z | z; (have z1 := z.1.2.1; have z2 := z.2.1; exfalso; omega); exact z.1)
              have hF : clF ft L fh q = (0, sk ft L (cD ft L q), 0, 0, 0, 0) := clF_4 hnh hp61 hnp1.1 hp47 hF1
              have hpl9 := (hn2.resolve_left (fun z => hF1 z.1)).2.2
              refine lv_iconst (v := iI (0)) hx hb dX6_readClause_77 rfl ?_
              exact Ct.zret hx hb hr hlocks (hP.sub [4, 5, 0, 1, 2, 3] rfl) (hD.sub [4, 5, 0, 1, 2, 3] (by decide) rfl) hS ⟨by decide, by decide⟩ dX6_readClause_78 (by decide) ⟨tp24, fh, fg, fl, Or.inr ⟨rfl, by rw [hF]; show ¬ (0 : Int) = 1; omega⟩, rfl, (by rw [hF]; omega), (fun z => absurd z (by rw [hF]; show ¬ (0 : Int) = 1; omega)), (fun _ => ⟨rfl, rfl, rfl⟩)⟩
          · show W p l e _ s m _ below meth c H locs 0 0 _ (F0 m 58 ls (.int (iI 0) :: []))
            have hb21 : ¬ (psP ft L 47 (cC ft L q)) := hb21
            have hP : va_P g.1 vwCl [(co, .inr (0, [.ref ch, .ref cg_, .ref cl])), (ch, aI (g.2.1 0) 8 fh), (cg_, aI (g.2.1 0) 8 fg), (cl, aI (g.2.1 0) 8 fl), (ht, .inr (6, [.int (iI tl), .ref tb, .int (iI tp18)])), (tb, aI (g.2.1 2) 100 ft)] H := hP
            have hD : va_D A [(co, .inr (0, [.ref ch, .ref cg_, .ref cl])), (ch, aI (g.2.1 0) 8 fh), (cg_, aI (g.2.1 0) 8 fg), (cl, aI (g.2.1 0) 8 fl), (ht, .inr (6, [.int (iI tl), .ref tb, .int (iI tp18)])), (tb, aI (g.2.1 2) 100 ft)] := hD
            have hf19 : psP ft L 47 (cC ft L q) → tp18 = (sk ft L (cC ft L q) : Int) + 1 := hf19
            have hf20 : ¬ psP ft L 47 (cC ft L q) → tp18 = (sk ft L (cC ft L q) : Int) := hf20
            first | have hpl := hf19 (by assumption) | have hpl := hf20 (by assumption)
            refine iv_if_ne (tgt := 63) hx hb dX6_readClause_58 (by decide) (by decide) (fun h => absurd h (by decide)) (fun _ => ?_)
            first | have hF : clF ft L fh q = (0, sk ft L (cB ft L q), 0, 0, 0, 0) := hF | have hF : clF ft L fh q = (0, sk ft L (cC ft L q), 0, 0, 0, 0) := clF_3 hnh hp61 hnp1.1 (by assumption)
            refine lv_iconst (v := iI (0)) hx hb dX6_readClause_61 rfl ?_
            exact Ct.zret hx hb hr hlocks (hP.sub [4, 5, 0, 1, 2, 3] rfl) (hD.sub [4, 5, 0, 1, 2, 3] (by decide) rfl) hS ⟨by decide, by decide⟩ dX6_readClause_62 (by decide) ⟨tp18, fh, fg, fl, Or.inr ⟨rfl, by rw [hF]; show ¬ (0 : Int) = 1; omega⟩, rfl, (by rw [hF]; omega), (fun z => absurd z (by rw [hF]; show ¬ (0 : Int) = 1; omega)), (fun _ => ⟨rfl, rfl, rfl⟩)⟩
      · show W p l e _ s m _ below meth c H locs 0 0 _ (F0 m 35 ls (.int (iI 0) :: []))
        have hb12 : ¬ (psP ft L 61 (cA ft L q)) := hb12
        have hP : va_P g.1 vwCl [(co, .inr (0, [.ref ch, .ref cg_, .ref cl])), (ch, aI (g.2.1 0) 8 fh), (cg_, aI (g.2.1 0) 8 fg), (cl, aI (g.2.1 0) 8 fl), (ht, .inr (6, [.int (iI tl), .ref tb, .int (iI tp9)])), (tb, aI (g.2.1 2) 100 ft)] H := hP
        have hD : va_D A [(co, .inr (0, [.ref ch, .ref cg_, .ref cl])), (ch, aI (g.2.1 0) 8 fh), (cg_, aI (g.2.1 0) 8 fg), (cl, aI (g.2.1 0) 8 fl), (ht, .inr (6, [.int (iI tl), .ref tb, .int (iI tp9)])), (tb, aI (g.2.1 2) 100 ft)] := hD
        have hf10 : psP ft L 61 (cA ft L q) → tp9 = (sk ft L (cA ft L q) : Int) + 1 := hf10
        have hf11 : ¬ psP ft L 61 (cA ft L q) → tp9 = (sk ft L (cA ft L q) : Int) := hf11
        first | have hpl := hf10 (by assumption) | have hpl := hf11 (by assumption)
        refine iv_if_ne (tgt := 40) hx hb dX6_readClause_35 (by decide) (by decide) (fun h => absurd h (by decide)) (fun _ => ?_)
        have hF : clF ft L fh q = (0, sk ft L (cA ft L q), 0, 0, 0, 0) := clF_1 hnh (by assumption)
        refine lv_iconst (v := iI (0)) hx hb dX6_readClause_38 rfl ?_
        exact Ct.zret hx hb hr hlocks (hP.sub [4, 5, 0, 1, 2, 3] rfl) (hD.sub [4, 5, 0, 1, 2, 3] (by decide) rfl) hS ⟨by decide, by decide⟩ dX6_readClause_39 (by decide) ⟨tp9, fh, fg, fl, Or.inr ⟨rfl, by rw [hF]; show ¬ (0 : Int) = 1; omega⟩, rfl, (by rw [hF]; omega), (fun z => absurd z (by rw [hF]; show ¬ (0 : Int) = 1; omega)), (fun _ => ⟨rfl, rfl, rfl⟩)⟩
