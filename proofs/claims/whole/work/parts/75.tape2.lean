theorem kX6_readNumber_6 : ∀ w ∈ u_ws RX6 TX6 3, w ∈ wsX6_readNumber := fun _ h => List.mem_cons_of_mem _ (List.mem_append_right _ h)
abbrev q_X6_readNumber (g : GT) (ht : Nat) (tb : Nat) (tl : Int) (tp : Int) (ft : Nat → Int) (L : Nat) (q : Nat) (lo : Int) (hi_ : Int) : Option Value → va_W → Prop := fun v w => ∃ (r : Int), ∃ (tp' : Int), v = some (.int (iI r)) ∧ w = [(ht, .inr (6, [.int (iI tl), .ref tb, .int (iI tp')])), (tb, aI (g.2.1 2) 100 ft)] ∧ ((nuP ft L lo hi_ q ∧ r = nuV ft L q ∧ tp' = (nuE ft L q : Int)) ∨ (¬ nuP ft L lo hi_ q ∧ r = -1 ∧ tp' = (sk ft L q : Int)))
set_option maxHeartbeats 4000000 in
set_option maxRecDepth 100000 in
theorem c_X6_readNumber (l : Launch) (g : GT) (ht : Nat) (tb : Nat) (tl : Int) (tp : Int) (ft : Nat → Int) (L : Nat) (q : Nat) (lo : Int) (hi_ : Int) (h1 : tl = (L : Int) ∧ L ≤ 100 ∧ tp = (q : Int) ∧ q ≤ L) (hT : ∀ j, j < L → 32 ≤ ft j ∧ ft j ≤ 126) (h2 : 0 ≤ lo ∧ lo ≤ hi_ ∧ hi_ ≤ 99) : Ct l g yX6_readNumber wsX6_readNumber ({ frames := 1, cells := 0, slots := 0, locals := 22 } : Room) [.ref ht, .int (iI lo), .int (iI hi_)] [(ht, .inr (6, [.int (iI tl), .ref tb, .int (iI tp)])), (tb, aI (g.2.1 2) 100 ft)] (q_X6_readNumber g ht tb tl tp ft L q lo hi_) := by
  refine Ct.intro (maxL := 5) (ret := (some .int)) (by decide) rfl (Nat.le_of_ble_eq_true rfl) ?_
  intro p e s m below meth c A ls hx hb hr hml hown hts hlocks hnm hA hG hP hD hS hl
  have hown : s.vm.findClass RX6 = some m.cls := hown
  have hl : lv_has ls 5 [(0, .ref ht), (1, .int (iI lo)), (2, .int (iI hi_))] := hl
  have hP : va_P g.1 vwCl [(ht, .inr (6, [.int (iI tl), .ref tb, .int (iI tp)])), (tb, aI (g.2.1 2) 100 ft)] s.heap := hP
  have hS : va_S A s.heap s.heap [] := hS
  obtain ⟨H, hHe⟩ : ∃ H : Heap, H = s.heap := ⟨_, rfl⟩
  obtain ⟨locs, hLe⟩ : ∃ L : List Loc, L = [] := ⟨_, rfl⟩
  have hP : va_P g.1 vwCl [(ht, .inr (6, [.int (iI tl), .ref tb, .int (iI tp)])), (tb, aI (g.2.1 2) 100 ft)] H := by rw [hHe]; exact hP
  have hS : va_S A s.heap H locs := by rw [hHe, hLe]; exact hS
  suffices hgo : W p l e ({ frames := 1, cells := 0, slots := 0, locals := 22 } : Room) s m [.ref ht, .int (iI lo), .int (iI hi_)].toArray below meth c H locs 0 0 (MQ below (CQ g (q_X6_readNumber g ht tb tl tp ft L q lo hi_) A) [.ref ht, .int (iI lo), .int (iI hi_)].toArray s ({ frames := 1, cells := 0, slots := 0, locals := 22 } : Room).cells ({ frames := 1, cells := 0, slots := 0, locals := 22 } : Room).slots A) (F0 m 0 ls []) by rw [hHe, hLe] at hgo; exact hgo
  clear hHe hLe
  refine lv_aload_n hx hb dX6_readNumber_0 rfl (lv_at hl 0 rfl) ?_
  refine Ct.callV (ci := 6) (q0 := 0) (qc := (RX6, TX6, 3)) (As := []) (rest := []) (wr := []) (c1 := 0) (s1 := 0) ⟨hx, hb, hml, hown, hts⟩ (c_X6_next l g ht tb tl tp ft L q (by omega) (hT)) rfl rfl (cwV 0 hts gX6_readNumber_X6_next rfl rfl rfl (by decide +kernel) ⟨Nat.le_of_ble_eq_true rfl, Nat.le_of_ble_eq_true rfl⟩) hG hP hD hS hA [0, 1] [] rfl rfl (by decide) (by decide) (by decide) rfl hl.1 rfl (Nat.le_of_ble_eq_true rfl) dX6_readNumber_1 ⟨Nat.le_of_ble_eq_true rfl, Nat.le_of_ble_eq_true rfl⟩ rfl rfl (fun v w H locs hv hP hD hS => ?_)
  obtain ⟨r1, tp2, rfl, rfl, hf3, hf4⟩ := hv
  show W p l e _ s m _ below meth c H locs 0 0 _ (F0 m 4 ls (.int (iI r1) :: []))
  have hP : va_P g.1 vwCl [(ht, .inr (6, [.int (iI tl), .ref tb, .int (iI tp2)])), (tb, aI (g.2.1 2) 100 ft)] H := hP
  have hD : va_D A [(ht, .inr (6, [.int (iI tl), .ref tb, .int (iI tp2)])), (tb, aI (g.2.1 2) 100 ft)] := hD
  have hf3 : tp2 = (sk ft L q : Int) := hf3
  have hf4 : r1 = (if sk ft L q < L then ft (sk ft L q) else -1) := hf4
  have hsl := sk_le ft (L := L) (p := q) (by omega)
  refine lv_pop hx hb dX6_readNumber_4 rfl ?_
  refine lv_aload_n hx hb dX6_readNumber_5 rfl (lv_at hl 0 rfl) ?_
  refine va_get (D := g.1) (ci := 6) (v := .int (iI tp2)) hx hb hts kX6_readNumber_6 hown hG.1 hP 0 rfl rfl 2 (by decide) (hts _ (List.mem_of_getElem? (i := 1) rfl)) (fun _ h9 => h9) rfl dX6_readNumber_6 ?_
  refine lv_istore_n (lv' := [(3, .int (iI tp2)), (0, .ref ht), (1, .int (iI lo)), (2, .int (iI hi_))]) hx hb dX6_readNumber_9 rfl hl (by decide) rfl (fun ls hl => ?_)
  refine lv_iconst (v := iI (0)) hx hb dX6_readNumber_10 rfl ?_
  refine lv_istore (lv' := [(4, .int (iI 0)), (3, .int (iI tp2)), (0, .ref ht), (1, .int (iI lo)), (2, .int (iI hi_))]) hx hb dX6_readNumber_11 hl (by decide) rfl (fun ls hl => ?_)
  have hloop13 : ∀ (fuel : Nat) (en : Int) (vl : Int) (p9 : Nat) (hc : en = (p9 : Int) ∧ sk ft L q ≤ p9 ∧ p9 ≤ L ∧ 0 ≤ vl ∧ vl ≤ 10000) (he : dgE ft (L - p9) p9 = nuE ft L q) (hv : dvF ft (L - p9) p9 vl = nuV ft L q) (hd9 : sk ft L q < p9 → (sk ft L q < L ∧ 48 ≤ ft (sk ft L q) ∧ ft (sk ft L q) ≤ 57)) (hmeas : L - p9 < fuel), ∀ (H : Heap) (locs : List Loc) (ls : Array Slot), va_P g.1 vwCl [(ht, .inr (6, [.int (iI tl), .ref tb, .int (iI tp2)])), (tb, aI (g.2.1 2) 100 ft)] H → va_D A [(ht, .inr (6, [.int (iI tl), .ref tb, .int (iI tp2)])), (tb, aI (g.2.1 2) 100 ft)] → va_S A s.heap H locs → lv_has ls 5 [(4, .int (iI vl)), (3, .int (iI en)), (0, .ref ht), (1, .int (iI lo)), (2, .int (iI hi_))] → W p l e ({ frames := 1, cells := 0, slots := 0, locals := 22 } : Room) s m [.ref ht, .int (iI lo), .int (iI hi_)].toArray below meth c H locs 0 0 (MQ below (CQ g (q_X6_readNumber g ht tb tl tp ft L q lo hi_) A) [.ref ht, .int (iI lo), .int (iI hi_)].toArray s ({ frames := 1, cells := 0, slots := 0, locals := 22 } : Room).cells ({ frames := 1, cells := 0, slots := 0, locals := 22 } : Room).slots A) (F0 m 13 ls []) := by
    intro fuel
    induction fuel with
    | zero => intro en vl p9 hc he hv hd9 hmeas; exact absurd hmeas (Nat.not_lt_zero _)
    | succ fuel ih13 =>
      intro en vl p9 hc he hv hd9 hmeas H locs ls hP hD hS hl
      refine lv_iload_n hx hb dX6_readNumber_13 rfl (lv_at hl 1 rfl) ?_
      refine lv_aload_n hx hb dX6_readNumber_14 rfl (lv_at hl 2 rfl) ?_
      refine va_get (D := g.1) (ci := 6) (v := .int (iI tl)) hx hb hts kX6_readNumber_6 hown hG.1 hP 0 rfl rfl 0 (by decide) (hts _ (List.mem_of_getElem? (i := 2) rfl)) (fun _ h9 => h9) rfl dX6_readNumber_15 ?_
      refine iv_icmp_ge (tgt := 66) hx hb dX6_readNumber_18 (by decide) (by omega) (fun hc5 => ?_) (fun hc5 => ?_)
      · have hE : nuE ft L q = p9 := (by rw [← he]; cases hL9 : L - p9 with | zero => rfl | succ f9 => (unfold dgE; rw [if_neg (by omega)]))
        have hV : nuV ft L q = vl := (by rw [← hv]; cases hL9 : L - p9 with | zero => rfl | succ f9 => (unfold dvF; rw [if_neg (by omega)]))
        refine lv_iload_n hx hb dX6_readNumber_66 rfl (lv_at hl 1 rfl) ?_
        refine lv_aload_n hx hb dX6_readNumber_67 rfl (lv_at hl 2 rfl) ?_
        refine va_get (D := g.1) (ci := 6) (v := .int (iI tp2)) hx hb hts kX6_readNumber_6 hown hG.1 hP 0 rfl rfl 2 (by decide) (hts _ (List.mem_of_getElem? (i := 1) rfl)) (fun _ h9 => h9) rfl dX6_readNumber_68 ?_
        refine iv_icmp_eq (tgt := 84) hx hb dX6_readNumber_71 (by decide) (by omega) (fun hc6 => ?_) (fun hc6 => ?_)
        · refine lv_iconst (v := iI (-1)) hx hb dX6_readNumber_84 rfl ?_
          exact Ct.iret hx hb hr hlocks (hP.sub [0, 1] rfl) (hD.sub [0, 1] (by decide) rfl) hS ⟨by decide, by decide⟩ dX6_readNumber_85 ⟨(-1), tp2, rfl, rfl, (Or.inr ⟨fun z => by have z1 := z.1; have z2 := z.2; rw [hV] at z2; first | (exfalso; omega) | (rw [show sk ft L q = p9 from by omega] at z1; omega), rfl, by omega⟩)⟩
        · refine lv_iload hx hb dX6_readNumber_74 (lv_at hl 0 rfl) ?_
          refine lv_iload_n hx hb dX6_readNumber_76 rfl (lv_at hl 3 rfl) ?_
          refine lv_iload_n hx hb dX6_readNumber_77 rfl (lv_at hl 4 rfl) ?_
          refine Ct.callSN (As := [.int (iI vl), .int (iI lo), .int (iI hi_)]) (rest := []) (wr := [(ht, .inr (6, [.int (iI tl), .ref tb, .int (iI tp2)])), (tb, aI (g.2.1 2) 100 ft)]) (c1 := 0) (s1 := 0) ⟨hx, hb, hml, hown, hts⟩ (c_X8_within l g vl lo hi_ (by omega)) ⟨(va_cnB 3 hts gX6_readNumber_X8_within_n63 rfl rfl rfl (hG.2.1.m 14 rfl) (hts _ (List.mem_of_getElem? (i := 14) rfl)) (by decide +kernel) ⟨Nat.le_of_ble_eq_true rfl, Nat.le_of_ble_eq_true rfl⟩), (hts _ (List.mem_of_getElem? (i := 13) rfl)), trivial⟩ hG hP hD hS hA [] [0, 1] rfl rfl (by decide) (by decide) (by decide) rfl hl.1 rfl (Nat.le_of_ble_eq_true rfl) dX6_readNumber_78 ⟨Nat.le_of_ble_eq_true rfl, Nat.le_of_ble_eq_true rfl⟩ rfl rfl (fun v w H locs hv hP hD hS => ?_)
          obtain ⟨⟨rfl, hb7⟩ | ⟨rfl, hb7⟩, rfl⟩ := hv
          · show W p l e _ s m _ below meth c H locs 0 0 _ (F0 m 81 ls (.int (iI 1) :: []))
            have hb7 : lo ≤ vl ∧ vl ≤ hi_ := hb7
            have hP : va_P g.1 vwCl [(ht, .inr (6, [.int (iI tl), .ref tb, .int (iI tp2)])), (tb, aI (g.2.1 2) 100 ft)] H := hP
            have hD : va_D A [(ht, .inr (6, [.int (iI tl), .ref tb, .int (iI tp2)])), (tb, aI (g.2.1 2) 100 ft)] := hD
            refine iv_if_ne (tgt := 86) hx hb dX6_readNumber_81 (by decide) (by decide) (fun _ => ?_) (fun h => absurd h (by decide))
            refine lv_aload_n hx hb dX6_readNumber_86 rfl (lv_at hl 2 rfl) ?_
            refine lv_iload_n hx hb dX6_readNumber_87 rfl (lv_at hl 1 rfl) ?_
            refine va_put (D := g.1) (ci := 6) (v := .int (iI en)) hx hb hts kX6_readNumber_6 tyX6 tyX6_ok nmX6 hown hG.1 hP hD hS 0 rfl rfl 2 (by decide) (hts _ (List.mem_of_getElem? (i := 1) rfl)) (fun _ h9 => h9) rfl (tyX6_ok 2 (by decide)) rfl rfl (Nat.le_of_ble_eq_true rfl) dX6_readNumber_88 (fun H locs hP hD hS => ?_)
            have hP : va_P g.1 vwCl [(ht, .inr (6, [.int (iI tl), .ref tb, .int (iI en)])), (tb, aI (g.2.1 2) 100 ft)] H := hP
            have hD : va_D A [(ht, .inr (6, [.int (iI tl), .ref tb, .int (iI en)])), (tb, aI (g.2.1 2) 100 ft)] := hD
            refine lv_iload hx hb dX6_readNumber_91 (lv_at hl 0 rfl) ?_
            exact Ct.iret hx hb hr hlocks (hP.sub [0, 1] rfl) (hD.sub [0, 1] (by decide) rfl) hS ⟨by decide, by decide⟩ dX6_readNumber_93 ⟨vl, en, rfl, rfl, (Or.inl ⟨⟨hd9 (by omega), by rw [hV]; omega⟩, hV.symm, by rw [hE]; omega⟩)⟩
          · show W p l e _ s m _ below meth c H locs 0 0 _ (F0 m 81 ls (.int (iI 0) :: []))
            have hb7 : ¬ (lo ≤ vl ∧ vl ≤ hi_) := hb7
            have hP : va_P g.1 vwCl [(ht, .inr (6, [.int (iI tl), .ref tb, .int (iI tp2)])), (tb, aI (g.2.1 2) 100 ft)] H := hP
            have hD : va_D A [(ht, .inr (6, [.int (iI tl), .ref tb, .int (iI tp2)])), (tb, aI (g.2.1 2) 100 ft)] := hD
            refine iv_if_ne (tgt := 86) hx hb dX6_readNumber_81 (by decide) (by decide) (fun h => absurd h (by decide)) (fun _ => ?_)
            refine lv_iconst (v := iI (-1)) hx hb dX6_readNumber_84 rfl ?_
            exact Ct.iret hx hb hr hlocks (hP.sub [0, 1] rfl) (hD.sub [0, 1] (by decide) rfl) hS ⟨by decide, by decide⟩ dX6_readNumber_85 ⟨(-1), tp2, rfl, rfl, (Or.inr ⟨fun z => by have z1 := z.1; have z2 := z.2; rw [hV] at z2; first | (exfalso; omega) | (rw [show sk ft L q = p9 from by omega] at z1; omega), rfl, by omega⟩)⟩
      · have hb9 := hT p9 (by omega)
        refine lv_aload_n hx hb dX6_readNumber_21 rfl (lv_at hl 2 rfl) ?_
        refine va_get (D := g.1) (ci := 6) (v := .ref tb) hx hb hts kX6_readNumber_6 hown hG.1 hP 0 rfl rfl 1 (by decide) (hts _ (List.mem_of_getElem? (i := 3) rfl)) (fun _ h9 => h9) rfl dX6_readNumber_22 ?_
        refine lv_iload_n hx hb dX6_readNumber_25 rfl (lv_at hl 1 rfl) ?_
        refine iv_bald hx hb hG hP 1 rfl p9 (by omega) (by omega) (by decide) dX6_readNumber_26 ?_
        refine lv_bipush (v := iI (48)) hx hb dX6_readNumber_27 (by decide) ?_
        refine lv_bipush (v := iI (57)) hx hb dX6_readNumber_29 (by decide) ?_
        refine Ct.callSN (As := [.int (iI (ft p9)), .int (iI 48), .int (iI 57)]) (rest := []) (wr := [(ht, .inr (6, [.int (iI tl), .ref tb, .int (iI tp2)])), (tb, aI (g.2.1 2) 100 ft)]) (c1 := 0) (s1 := 0) ⟨hx, hb, hml, hown, hts⟩ (c_X8_within l g (ft p9) 48 57 (by omega)) ⟨(va_cnB 3 hts gX6_readNumber_X8_within_n63 rfl rfl rfl (hG.2.1.m 14 rfl) (hts _ (List.mem_of_getElem? (i := 14) rfl)) (by decide +kernel) ⟨Nat.le_of_ble_eq_true rfl, Nat.le_of_ble_eq_true rfl⟩), (hts _ (List.mem_of_getElem? (i := 13) rfl)), trivial⟩ hG hP hD hS hA [] [0, 1] rfl rfl (by decide) (by decide) (by decide) rfl hl.1 rfl (Nat.le_of_ble_eq_true rfl) dX6_readNumber_31 ⟨Nat.le_of_ble_eq_true rfl, Nat.le_of_ble_eq_true rfl⟩ rfl rfl (fun v w H locs hv hP hD hS => ?_)
        obtain ⟨⟨rfl, hb10⟩ | ⟨rfl, hb10⟩, rfl⟩ := hv
        · show W p l e _ s m _ below meth c H locs 0 0 _ (F0 m 34 ls (.int (iI 1) :: []))
          have hb10 : 48 ≤ (ft p9) ∧ (ft p9) ≤ 57 := hb10
          have hP : va_P g.1 vwCl [(ht, .inr (6, [.int (iI tl), .ref tb, .int (iI tp2)])), (tb, aI (g.2.1 2) 100 ft)] H := hP
          have hD : va_D A [(ht, .inr (6, [.int (iI tl), .ref tb, .int (iI tp2)])), (tb, aI (g.2.1 2) 100 ft)] := hD
          refine iv_if_eq (tgt := 66) hx hb dX6_readNumber_34 (by decide) (by decide) (fun h => absurd h (by decide)) (fun _ => ?_)
          refine lv_sipush (v := iI (10000)) hx hb dX6_readNumber_37 (by decide) ?_
          refine lv_bipush (v := iI (10)) hx hb dX6_readNumber_40 (by decide) ?_
          refine lv_iload hx hb dX6_readNumber_42 (lv_at hl 0 rfl) ?_
          refine iv_imul hx hb dX6_readNumber_44 ?_
          refine lv_aload_n hx hb dX6_readNumber_45 rfl (lv_at hl 2 rfl) ?_
          refine va_get (D := g.1) (ci := 6) (v := .ref tb) hx hb hts kX6_readNumber_6 hown hG.1 hP 0 rfl rfl 1 (by decide) (hts _ (List.mem_of_getElem? (i := 3) rfl)) (fun _ h9 => h9) rfl dX6_readNumber_46 ?_
          refine lv_iload_n hx hb dX6_readNumber_49 rfl (lv_at hl 1 rfl) ?_
          refine iv_bald hx hb hG hP 1 rfl p9 (by omega) (by omega) (by decide) dX6_readNumber_50 ?_
          refine iv_iadd hx hb dX6_readNumber_51 ?_
          refine lv_bipush (v := iI (48)) hx hb dX6_readNumber_52 (by decide) ?_
          refine iv_isub hx hb dX6_readNumber_54 ?_
          refine iv_min hx hb (by rw [hml]; exact hl.1.symm) hown (hts _ (List.mem_of_getElem? (i := 4) rfl)) (hts _ (List.mem_of_getElem? (i := 5) rfl)) (hts _ (List.mem_of_getElem? (i := 6) rfl)) (hts _ (List.mem_of_getElem? (i := 7) rfl)) (Nat.le_of_ble_eq_true rfl) (Nat.le_of_ble_eq_true rfl) (Nat.le_of_ble_eq_true rfl) (Nat.le_of_ble_eq_true rfl) (by omega) dX6_readNumber_55 ?_
          refine lv_istore (lv' := [(4, .int (iI (min 10000 (((10 * vl) + (ft p9)) - 48)))), (3, .int (iI en)), (0, .ref ht), (1, .int (iI lo)), (2, .int (iI hi_))]) hx hb dX6_readNumber_58 hl (by decide) rfl (fun ls hl => ?_)
          refine iv_iinc (k := 1) (x := en) (lv' := [(3, .int (iI (en + 1))), (4, .int (iI (min 10000 (((10 * vl) + (ft p9)) - 48)))), (0, .ref ht), (1, .int (iI lo)), (2, .int (iI hi_))]) hx hb dX6_readNumber_60 hl rfl (by decide) rfl (fun ls hl => ?_)
          refine lv_goto (tgt := 13) hx hb dX6_readNumber_63 (by decide) ?_
          exact ih13 (en + 1) (min 10000 (((10 * vl) + (ft p9)) - 48)) (p9 + 1) (by omega) (by rw [← he, show L - p9 = (L - (p9 + 1)) + 1 from by omega]; simp only [dgE]; rw [if_pos (by omega)]) (by rw [← hv, show L - p9 = (L - (p9 + 1)) + 1 from by omega]; simp only [dvF]; rw [if_pos (by omega)]) (fun z => if w9 : sk ft L q < p9 then hd9 w9 else (by rw [show sk ft L q = p9 from by omega]; exact ⟨by omega, by omega, by omega⟩)) (by omega) H locs ls (hP.sub [0, 1] rfl) (hD.sub [0, 1] (by decide) rfl) hS (lv_sub hl [1, 0, 2, 3, 4] rfl)
        · show W p l e _ s m _ below meth c H locs 0 0 _ (F0 m 34 ls (.int (iI 0) :: []))
          have hb10 : ¬ (48 ≤ (ft p9) ∧ (ft p9) ≤ 57) := hb10
          have hP : va_P g.1 vwCl [(ht, .inr (6, [.int (iI tl), .ref tb, .int (iI tp2)])), (tb, aI (g.2.1 2) 100 ft)] H := hP
          have hD : va_D A [(ht, .inr (6, [.int (iI tl), .ref tb, .int (iI tp2)])), (tb, aI (g.2.1 2) 100 ft)] := hD
          refine iv_if_eq (tgt := 66) hx hb dX6_readNumber_34 (by decide) (by decide) (fun _ => ?_) (fun h => absurd h (by decide))
          have hE : nuE ft L q = p9 := (by rw [← he]; cases hL9 : L - p9 with | zero => rfl | succ f9 => (unfold dgE; rw [if_neg (by omega)]))
          have hV : nuV ft L q = vl := (by rw [← hv]; cases hL9 : L - p9 with | zero => rfl | succ f9 => (unfold dvF; rw [if_neg (by omega)]))
          refine lv_iload_n hx hb dX6_readNumber_66 rfl (lv_at hl 1 rfl) ?_
          refine lv_aload_n hx hb dX6_readNumber_67 rfl (lv_at hl 2 rfl) ?_
          refine va_get (D := g.1) (ci := 6) (v := .int (iI tp2)) hx hb hts kX6_readNumber_6 hown hG.1 hP 0 rfl rfl 2 (by decide) (hts _ (List.mem_of_getElem? (i := 1) rfl)) (fun _ h9 => h9) rfl dX6_readNumber_68 ?_
          refine iv_icmp_eq (tgt := 84) hx hb dX6_readNumber_71 (by decide) (by omega) (fun hc13 => ?_) (fun hc13 => ?_)
          · refine lv_iconst (v := iI (-1)) hx hb dX6_readNumber_84 rfl ?_
            exact Ct.iret hx hb hr hlocks (hP.sub [0, 1] rfl) (hD.sub [0, 1] (by decide) rfl) hS ⟨by decide, by decide⟩ dX6_readNumber_85 ⟨(-1), tp2, rfl, rfl, (Or.inr ⟨fun z => by have z1 := z.1; have z2 := z.2; rw [hV] at z2; first | (exfalso; omega) | (rw [show sk ft L q = p9 from by omega] at z1; omega), rfl, by omega⟩)⟩
          · refine lv_iload hx hb dX6_readNumber_74 (lv_at hl 0 rfl) ?_
            refine lv_iload_n hx hb dX6_readNumber_76 rfl (lv_at hl 3 rfl) ?_
            refine lv_iload_n hx hb dX6_readNumber_77 rfl (lv_at hl 4 rfl) ?_
            refine Ct.callSN (As := [.int (iI vl), .int (iI lo), .int (iI hi_)]) (rest := []) (wr := [(ht, .inr (6, [.int (iI tl), .ref tb, .int (iI tp2)])), (tb, aI (g.2.1 2) 100 ft)]) (c1 := 0) (s1 := 0) ⟨hx, hb, hml, hown, hts⟩ (c_X8_within l g vl lo hi_ (by omega)) ⟨(va_cnB 3 hts gX6_readNumber_X8_within_n63 rfl rfl rfl (hG.2.1.m 14 rfl) (hts _ (List.mem_of_getElem? (i := 14) rfl)) (by decide +kernel) ⟨Nat.le_of_ble_eq_true rfl, Nat.le_of_ble_eq_true rfl⟩), (hts _ (List.mem_of_getElem? (i := 13) rfl)), trivial⟩ hG hP hD hS hA [] [0, 1] rfl rfl (by decide) (by decide) (by decide) rfl hl.1 rfl (Nat.le_of_ble_eq_true rfl) dX6_readNumber_78 ⟨Nat.le_of_ble_eq_true rfl, Nat.le_of_ble_eq_true rfl⟩ rfl rfl (fun v w H locs hv hP hD hS => ?_)
            obtain ⟨⟨rfl, hb14⟩ | ⟨rfl, hb14⟩, rfl⟩ := hv
            · show W p l e _ s m _ below meth c H locs 0 0 _ (F0 m 81 ls (.int (iI 1) :: []))
              have hb14 : lo ≤ vl ∧ vl ≤ hi_ := hb14
              have hP : va_P g.1 vwCl [(ht, .inr (6, [.int (iI tl), .ref tb, .int (iI tp2)])), (tb, aI (g.2.1 2) 100 ft)] H := hP
              have hD : va_D A [(ht, .inr (6, [.int (iI tl), .ref tb, .int (iI tp2)])), (tb, aI (g.2.1 2) 100 ft)] := hD
              refine iv_if_ne (tgt := 86) hx hb dX6_readNumber_81 (by decide) (by decide) (fun _ => ?_) (fun h => absurd h (by decide))
              refine lv_aload_n hx hb dX6_readNumber_86 rfl (lv_at hl 2 rfl) ?_
              refine lv_iload_n hx hb dX6_readNumber_87 rfl (lv_at hl 1 rfl) ?_
              refine va_put (D := g.1) (ci := 6) (v := .int (iI en)) hx hb hts kX6_readNumber_6 tyX6 tyX6_ok nmX6 hown hG.1 hP hD hS 0 rfl rfl 2 (by decide) (hts _ (List.mem_of_getElem? (i := 1) rfl)) (fun _ h9 => h9) rfl (tyX6_ok 2 (by decide)) rfl rfl (Nat.le_of_ble_eq_true rfl) dX6_readNumber_88 (fun H locs hP hD hS => ?_)
              have hP : va_P g.1 vwCl [(ht, .inr (6, [.int (iI tl), .ref tb, .int (iI en)])), (tb, aI (g.2.1 2) 100 ft)] H := hP
              have hD : va_D A [(ht, .inr (6, [.int (iI tl), .ref tb, .int (iI en)])), (tb, aI (g.2.1 2) 100 ft)] := hD
              refine lv_iload hx hb dX6_readNumber_91 (lv_at hl 0 rfl) ?_
              exact Ct.iret hx hb hr hlocks (hP.sub [0, 1] rfl) (hD.sub [0, 1] (by decide) rfl) hS ⟨by decide, by decide⟩ dX6_readNumber_93 ⟨vl, en, rfl, rfl, (Or.inl ⟨⟨hd9 (by omega), by rw [hV]; omega⟩, hV.symm, by rw [hE]; omega⟩)⟩
            · show W p l e _ s m _ below meth c H locs 0 0 _ (F0 m 81 ls (.int (iI 0) :: []))
              have hb14 : ¬ (lo ≤ vl ∧ vl ≤ hi_) := hb14
              have hP : va_P g.1 vwCl [(ht, .inr (6, [.int (iI tl), .ref tb, .int (iI tp2)])), (tb, aI (g.2.1 2) 100 ft)] H := hP
              have hD : va_D A [(ht, .inr (6, [.int (iI tl), .ref tb, .int (iI tp2)])), (tb, aI (g.2.1 2) 100 ft)] := hD
              refine iv_if_ne (tgt := 86) hx hb dX6_readNumber_81 (by decide) (by decide) (fun h => absurd h (by decide)) (fun _ => ?_)
              refine lv_iconst (v := iI (-1)) hx hb dX6_readNumber_84 rfl ?_
              exact Ct.iret hx hb hr hlocks (hP.sub [0, 1] rfl) (hD.sub [0, 1] (by decide) rfl) hS ⟨by decide, by decide⟩ dX6_readNumber_85 ⟨(-1), tp2, rfl, rfl, (Or.inr ⟨fun z => by have z1 := z.1; have z2 := z.2; rw [hV] at z2; first | (exfalso; omega) | (rw [show sk ft L q = p9 from by omega] at z1; omega), rfl, by omega⟩)⟩
  exact hloop13 _ tp2 0 (sk ft L q) (by omega) (rfl) (rfl) (fun z => absurd z (Nat.lt_irrefl _)) (Nat.lt_succ_self _) H locs ls (hP.sub [0, 1] rfl) (hD.sub [0, 1] (by decide) rfl) hS (lv_sub hl [0, 1, 2, 3, 4] rfl)
