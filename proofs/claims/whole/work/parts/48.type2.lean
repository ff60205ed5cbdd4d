theorem kX8_type_6 : ∀ w ∈ u_ws RX6 TX6 3, w ∈ wsX8_type := fun _ h => List.mem_cons_of_mem _ (List.mem_append_right _ h)
theorem kX8_type_8 : ∀ w ∈ u_ws RX8 TX8 13, w ∈ wsX8_type := fun _ h => List.mem_cons_of_mem _ (List.mem_append_left _ (List.mem_append_right _ h))
abbrev q_X8_type (g : GT) (hd : Nat) (d : Nat → Nat) (i : Nat → Int) (tb : Nat) (tl : Int) (tp : Int) (ft : Nat → Int) (L : Nat) (wl : Int64) (n : Int) : Option Value → va_W → Prop := fun v w => ∃ (r : Int), ∃ (tl' : Int), ∃ (ft' : Nat → Int), v = some (.int (iI r)) ∧ w = [(hd, .inr (8, dF d i)), ((d 8), .inr (6, [.int (iI tl'), .ref tb, .int (iI tp)])), (tb, aI (g.2.1 2) 100 ft')] ∧ (r = typS tl n wl) ∧ (r < 0 → tl' = tl ∧ ft' = ft) ∧ (0 ≤ r → tl' = tl + n ∧ ft' = tyP ft L wl n.toNat n.toNat ∧ tyOK wl n.toNat 0 = 1)
set_option maxHeartbeats 4000000 in
set_option maxRecDepth 100000 in
theorem c_X8_type (l : Launch) (g : GT) (hd : Nat) (d : Nat → Nat) (i : Nat → Int) (tb : Nat) (tl : Int) (tp : Int) (ft : Nat → Int) (L : Nat) (wl : Int64) (n : Int) (h1 : tl = (L : Int) ∧ L ≤ 100 ∧ (-2147483648 ≤ n ∧ n < 2147483648)) : Ct l g yX8_type wsX8_type ({ frames := 1, cells := 0, slots := 0, locals := 22 } : Room) [.ref hd, .long wl, .int (iI n)] [(hd, .inr (8, dF d i)), ((d 8), .inr (6, [.int (iI tl), .ref tb, .int (iI tp)])), (tb, aI (g.2.1 2) 100 ft)] (q_X8_type g hd d i tb tl tp ft L wl n) := by
  refine Ct.intro (maxL := 5) (ret := (some .int)) (by decide) rfl (Nat.le_of_ble_eq_true rfl) ?_
  intro p e s m below meth c A ls hx hb hr hml hown hts hlocks hnm hA hG hP hD hS hl
  have hown : s.vm.findClass RX8 = some m.cls := hown
  have hl : lv_has ls 5 [(0, .ref hd), (1, .long wl), (3, .int (iI n))] := hl
  have hP : va_P g.1 vwCl [(hd, .inr (8, dF d i)), ((d 8), .inr (6, [.int (iI tl), .ref tb, .int (iI tp)])), (tb, aI (g.2.1 2) 100 ft)] s.heap := hP
  have hS : va_S A s.heap s.heap [] := hS
  obtain ⟨H, hHe⟩ : ∃ H : Heap, H = s.heap := ⟨_, rfl⟩
  obtain ⟨locs, hLe⟩ : ∃ L : List Loc, L = [] := ⟨_, rfl⟩
  have hP : va_P g.1 vwCl [(hd, .inr (8, dF d i)), ((d 8), .inr (6, [.int (iI tl), .ref tb, .int (iI tp)])), (tb, aI (g.2.1 2) 100 ft)] H := by rw [hHe]; exact hP
  have hS : va_S A s.heap H locs := by rw [hHe, hLe]; exact hS
  suffices hgo : W p l e ({ frames := 1, cells := 0, slots := 0, locals := 22 } : Room) s m [.ref hd, .long wl, .int (iI n)].toArray below meth c H locs 0 0 (MQ below (CQ g (q_X8_type g hd d i tb tl tp ft L wl n) A) [.ref hd, .long wl, .int (iI n)].toArray s ({ frames := 1, cells := 0, slots := 0, locals := 22 } : Room).cells ({ frames := 1, cells := 0, slots := 0, locals := 22 } : Room).slots A) (F0 m 0 ls []) by rw [hHe, hLe] at hgo; exact hgo
  clear hHe hLe
  refine lv_iload_n hx hb dX8_type_0 rfl (lv_at hl 2 rfl) ?_
  refine lv_iconst (v := iI (1)) hx hb dX8_type_1 rfl ?_
  refine lv_bipush (v := iI (8)) hx hb dX8_type_2 (by decide) ?_
  refine Ct.callS (As := [.int (iI n), .int (iI 1), .int (iI 8)]) (rest := []) (wr := [(hd, .inr (8, dF d i)), ((d 8), .inr (6, [.int (iI tl), .ref tb, .int (iI tp)])), (tb, aI (g.2.1 2) 100 ft)]) (c1 := 0) (s1 := 0) ⟨hx, hb, hml, hown, hts⟩ (c_X8_within l g n 1 8 (by omega)) (va_cwS 3 hts gX8_type_X8_within rfl rfl rfl (by decide +kernel) ⟨Nat.le_of_ble_eq_true rfl, Nat.le_of_ble_eq_true rfl⟩) hG hP hD hS hA [] [0, 1, 2] rfl rfl (by decide) (by decide) (by decide) rfl hl.1 rfl (Nat.le_of_ble_eq_true rfl) dX8_type_4 ⟨Nat.le_of_ble_eq_true rfl, Nat.le_of_ble_eq_true rfl⟩ rfl rfl (fun v w H locs hv hP hD hS => ?_)
  obtain ⟨⟨rfl, hb1⟩ | ⟨rfl, hb1⟩, rfl⟩ := hv
  · show W p l e _ s m _ below meth c H locs 0 0 _ (F0 m 7 ls (.int (iI 1) :: []))
    have hb1 : 1 ≤ n ∧ n ≤ 8 := hb1
    have hP : va_P g.1 vwCl [(hd, .inr (8, dF d i)), ((d 8), .inr (6, [.int (iI tl), .ref tb, .int (iI tp)])), (tb, aI (g.2.1 2) 100 ft)] H := hP
    have hD : va_D A [(hd, .inr (8, dF d i)), ((d 8), .inr (6, [.int (iI tl), .ref tb, .int (iI tp)])), (tb, aI (g.2.1 2) 100 ft)] := hD
    refine iv_if_ne (tgt := 12) hx hb dX8_type_7 (by decide) (by decide) (fun _ => ?_) (fun h => absurd h (by decide))
    refine lv_iconst (v := iI (0)) hx hb dX8_type_12 rfl ?_
    refine lv_istore (lv' := [(4, .int (iI 0)), (0, .ref hd), (1, .long wl), (3, .int (iI n))]) hx hb dX8_type_13 hl (by decide) rfl (fun ls hl => ?_)
    have hloop15 : ∀ (fuel : Nat) (zj : Int) (j : Nat) (hc : zj = (j : Int) ∧ zj ≤ n) (ha : tyOK wl (n.toNat - j) j = tyOK wl n.toNat 0) (hmeas : n.toNat - j < fuel), ∀ (H : Heap) (locs : List Loc) (ls : Array Slot), va_P g.1 vwCl [(hd, .inr (8, dF d i)), ((d 8), .inr (6, [.int (iI tl), .ref tb, .int (iI tp)])), (tb, aI (g.2.1 2) 100 ft)] H → va_D A [(hd, .inr (8, dF d i)), ((d 8), .inr (6, [.int (iI tl), .ref tb, .int (iI tp)])), (tb, aI (g.2.1 2) 100 ft)] → va_S A s.heap H locs → lv_has ls 5 [(4, .int (iI zj)), (0, .ref hd), (1, .long wl), (3, .int (iI n))] → W p l e ({ frames := 1, cells := 0, slots := 0, locals := 22 } : Room) s m [.ref hd, .long wl, .int (iI n)].toArray below meth c H locs 0 0 (MQ below (CQ g (q_X8_type g hd d i tb tl tp ft L wl n) A) [.ref hd, .long wl, .int (iI n)].toArray s ({ frames := 1, cells := 0, slots := 0, locals := 22 } : Room).cells ({ frames := 1, cells := 0, slots := 0, locals := 22 } : Room).slots A) (F0 m 15 ls []) := by
      intro fuel
      induction fuel with
      | zero => intro zj j hc ha hmeas; exact absurd hmeas (Nat.not_lt_zero _)
      | succ fuel ih15 =>
        intro zj j hc ha hmeas H locs ls hP hD hS hl
        refine lv_iload hx hb dX8_type_15 (lv_at hl 0 rfl) ?_
        refine lv_iload_n hx hb dX8_type_17 rfl (lv_at hl 3 rfl) ?_
        refine iv_icmp_ge (tgt := 45) hx hb dX8_type_18 (by decide) (by omega) (fun hc3 => ?_) (fun hc3 => ?_)
        · have hall : tyOK wl n.toNat 0 = 1 := by rw [← ha, show n.toNat - j = 0 from by omega]; rfl
          refine lv_aload_n hx hb dX8_type_45 rfl (lv_at hl 1 rfl) ?_
          refine va_get (D := g.1) (ci := 8) (v := .ref (d 8)) hx hb hts kX8_type_8 hown hG.1 hP 0 rfl rfl 8 (by decide) (hts _ (List.mem_of_getElem? (i := 1) rfl)) (fun _ h9 => h9) rfl dX8_type_46 ?_
          refine va_get (D := g.1) (ci := 6) (v := .int (iI tl)) hx hb hts kX8_type_6 hown hG.1 hP 1 rfl rfl 0 (by decide) (hts _ (List.mem_of_getElem? (i := 2) rfl)) (fun _ h9 => h9) rfl dX8_type_49 ?_
          refine lv_iload_n hx hb dX8_type_52 rfl (lv_at hl 3 rfl) ?_
          refine iv_iadd hx hb dX8_type_53 ?_
          refine lv_bipush (v := iI (100)) hx hb dX8_type_54 (by decide) ?_
          refine iv_icmp_le (tgt := 62) hx hb dX8_type_56 (by decide) (by omega) (fun hc4 => ?_) (fun hc4 => ?_)
          · refine lv_iload_n hx hb dX8_type_62 rfl (lv_at hl 3 rfl) ?_
            refine lv_iconst (v := iI (1)) hx hb dX8_type_63 rfl ?_
            refine iv_isub hx hb dX8_type_64 ?_
            refine lv_istore (lv' := [(4, .int (iI (n - 1))), (0, .ref hd), (1, .long wl), (3, .int (iI n))]) hx hb dX8_type_65 hl (by decide) rfl (fun ls hl => ?_)
            have hloop67 : ∀ (fuel : Nat) (zk : Int) (fb : Nat → Int) (tz : Int) (k : Nat) (hk : zk = n - 1 - (k : Int) ∧ (k : Int) ≤ n ∧ tz = tl + k) (hf : fb = tyP ft L wl n.toNat k) (hmeas : n.toNat - k < fuel), ∀ (H : Heap) (locs : List Loc) (ls : Array Slot), va_P g.1 vwCl [(hd, .inr (8, dF d i)), ((d 8), .inr (6, [.int (iI tz), .ref tb, .int (iI tp)])), (tb, aI (g.2.1 2) 100 fb)] H → va_D A [(hd, .inr (8, dF d i)), ((d 8), .inr (6, [.int (iI tz), .ref tb, .int (iI tp)])), (tb, aI (g.2.1 2) 100 fb)] → va_S A s.heap H locs → lv_has ls 5 [(4, .int (iI zk)), (0, .ref hd), (1, .long wl), (3, .int (iI n))] → W p l e ({ frames := 1, cells := 0, slots := 0, locals := 22 } : Room) s m [.ref hd, .long wl, .int (iI n)].toArray below meth c H locs 0 0 (MQ below (CQ g (q_X8_type g hd d i tb tl tp ft L wl n) A) [.ref hd, .long wl, .int (iI n)].toArray s ({ frames := 1, cells := 0, slots := 0, locals := 22 } : Room).cells ({ frames := 1, cells := 0, slots := 0, locals := 22 } : Room).slots A) (F0 m 67 ls []) := by
              intro fuel
              induction fuel with
              | zero => intro zk fb tz k hk hf hmeas; exact absurd hmeas (Nat.not_lt_zero _)
              | succ fuel ih67 =>
                intro zk fb tz k hk hf hmeas H locs ls hP hD hS hl
                refine lv_iload hx hb dX8_type_67 (lv_at hl 0 rfl) ?_
                refine iv_if_lt (tgt := 91) hx hb dX8_type_69 (by decide) (by omega) (fun hc5 => ?_) (fun hc5 => ?_)
                · refine lv_aload_n hx hb dX8_type_91 rfl (lv_at hl 1 rfl) ?_
                  refine va_get (D := g.1) (ci := 8) (v := .ref (d 8)) hx hb hts kX8_type_8 hown hG.1 hP 0 rfl rfl 8 (by decide) (hts _ (List.mem_of_getElem? (i := 1) rfl)) (fun _ h9 => h9) rfl dX8_type_92 ?_
                  refine va_get (D := g.1) (ci := 6) (v := .int (iI tz)) hx hb hts kX8_type_6 hown hG.1 hP 1 rfl rfl 0 (by decide) (hts _ (List.mem_of_getElem? (i := 2) rfl)) (fun _ h9 => h9) rfl dX8_type_95 ?_
                  exact Ct.iret hx hb hr hlocks (hP.sub [0, 1, 2] rfl) (hD.sub [0, 1, 2] (by decide) rfl) hS ⟨by decide, by decide⟩ dX8_type_98 ⟨tz, tz, fb, rfl, rfl, (by unfold typS; rw [if_neg (by omega), if_neg (by rw [hall]; omega), if_neg (by omega)]; omega), (fun h => absurd h (by omega)), (fun _ => ⟨by omega, by rw [hf, show k = n.toNat from by omega], hall⟩)⟩
                · refine lv_aload_n hx hb dX8_type_72 rfl (lv_at hl 1 rfl) ?_
                  refine va_get (D := g.1) (ci := 8) (v := .ref (d 8)) hx hb hts kX8_type_8 hown hG.1 hP 0 rfl rfl 8 (by decide) (hts _ (List.mem_of_getElem? (i := 1) rfl)) (fun _ h9 => h9) rfl dX8_type_73 ?_
                  refine lv_lload_n hx hb dX8_type_76 rfl (lv_at hl 2 rfl) ?_
                  refine lv_iload hx hb dX8_type_77 (lv_at hl 0 rfl) ?_
                  have hba := tyOK_all _ _ hall (n.toNat - 1 - k) (by omega) (by omega)
                  refine Ct.callS (As := [.long wl, .int (iI zk)]) (rest := [.ref (d 8)]) (wr := [(hd, .inr (8, dF d i)), ((d 8), .inr (6, [.int (iI tz), .ref tb, .int (iI tp)])), (tb, aI (g.2.1 2) 100 fb)]) (c1 := 0) (s1 := 0) ⟨hx, hb, hml, hown, hts⟩ (c_X8_byteOf l g wl zk (n.toNat - 1 - k) (by omega)) (va_cwS 2 hts gX8_type_X8_byteOf rfl rfl rfl (by decide +kernel) ⟨Nat.le_of_ble_eq_true rfl, Nat.le_of_ble_eq_true rfl⟩) hG hP hD hS hA [] [0, 1, 2] rfl rfl (by decide) (by decide) (by decide) rfl hl.1 rfl (Nat.le_of_ble_eq_true rfl) dX8_type_79 ⟨Nat.le_of_ble_eq_true rfl, Nat.le_of_ble_eq_true rfl⟩ rfl rfl (fun v w H locs hv hP hD hS => ?_)
                  obtain ⟨rfl, rfl⟩ := hv
                  show W p l e _ s m _ below meth c H locs 0 0 _ (F0 m 82 ls (.int (iI (bteI wl (n.toNat - 1 - k))) :: [.ref (d 8)]))
                  have hP : va_P g.1 vwCl [(hd, .inr (8, dF d i)), ((d 8), .inr (6, [.int (iI tz), .ref tb, .int (iI tp)])), (tb, aI (g.2.1 2) 100 fb)] H := hP
                  have hD : va_D A [(hd, .inr (8, dF d i)), ((d 8), .inr (6, [.int (iI tz), .ref tb, .int (iI tp)])), (tb, aI (g.2.1 2) 100 fb)] := hD
                  refine Ct.callV (ci := 6) (q0 := 1) (qc := (RX6, TX6, 3)) (As := [.int (iI (bteI wl (n.toNat - 1 - k)))]) (rest := []) (wr := [(hd, .inr (8, dF d i))]) (c1 := 0) (s1 := 0) ⟨hx, hb, hml, hown, hts⟩ (c_X6_append l g (d 8) tb tz tp fb (L + k) (bteI wl (n.toNat - 1 - k)) (by omega)) rfl rfl (cwV 1 hts gX8_type_X6_append rfl rfl rfl (by decide +kernel) ⟨Nat.le_of_ble_eq_true rfl, Nat.le_of_ble_eq_true rfl⟩) hG hP hD hS hA [1, 2] [0] rfl rfl (by decide) (by decide) (by decide) rfl hl.1 rfl (Nat.le_of_ble_eq_true rfl) dX8_type_82 ⟨Nat.le_of_ble_eq_true rfl, Nat.le_of_ble_eq_true rfl⟩ rfl rfl (fun v w H locs hv hP hD hS => ?_)
                  obtain ⟨rfl, rfl⟩ := hv
                  show W p l e _ s m _ below meth c H locs 0 0 _ (F0 m 85 ls [])
                  have hP : va_P g.1 vwCl [(hd, .inr (8, dF d i)), ((d 8), .inr (6, [.int (iI (tz + 1)), .ref tb, .int (iI tp)])), (tb, aI (g.2.1 2) 100 (va_up fb (L + k) (bteI wl (n.toNat - 1 - k))))] H := hP
                  have hD : va_D A [(hd, .inr (8, dF d i)), ((d 8), .inr (6, [.int (iI (tz + 1)), .ref tb, .int (iI tp)])), (tb, aI (g.2.1 2) 100 (va_up fb (L + k) (bteI wl (n.toNat - 1 - k))))] := hD
                  refine iv_iinc (k := 0) (x := zk) (lv' := [(4, .int (iI (zk + (-1)))), (0, .ref hd), (1, .long wl), (3, .int (iI n))]) hx hb dX8_type_85 hl rfl (by decide) rfl (fun ls hl => ?_)
                  refine lv_goto (tgt := 67) hx hb dX8_type_88 (by decide) ?_
                  exact ih67 (zk + (-1)) (va_up fb (L + k) (bteI wl (n.toNat - 1 - k))) (tz + 1) (k + 1) (by omega) (by rw [hf]; rfl) (by omega) H locs ls (hP.sub [0, 1, 2] rfl) (hD.sub [0, 1, 2] (by decide) rfl) hS (lv_sub hl [0, 1, 2, 3] rfl)
            exact hloop67 _ (n - 1) ft tl 0 (by omega) (rfl) (Nat.lt_succ_self _) H locs ls (hP.sub [0, 1, 2] rfl) (hD.sub [0, 1, 2] (by decide) rfl) hS (lv_sub hl [0, 1, 2, 3] rfl)
          · refine lv_bipush (v := iI (-3)) hx hb dX8_type_59 (by decide) ?_
            exact Ct.iret hx hb hr hlocks (hP.sub [0, 1, 2] rfl) (hD.sub [0, 1, 2] (by decide) rfl) hS ⟨by decide, by decide⟩ dX8_type_61 ⟨(-3), tl, ft, rfl, rfl, (by unfold typS; rw [if_neg (by omega), if_neg (by rw [hall]; omega), if_pos (by omega)]), (fun _ => ⟨rfl, rfl⟩), (fun h => absurd h (by omega))⟩
        · refine lv_lload_n hx hb dX8_type_21 rfl (lv_at hl 2 rfl) ?_
          refine lv_iload hx hb dX8_type_22 (lv_at hl 0 rfl) ?_
          have hbr := bteI_rng wl j
          refine Ct.callS (As := [.long wl, .int (iI zj)]) (rest := []) (wr := [(hd, .inr (8, dF d i)), ((d 8), .inr (6, [.int (iI tl), .ref tb, .int (iI tp)])), (tb, aI (g.2.1 2) 100 ft)]) (c1 := 0) (s1 := 0) ⟨hx, hb, hml, hown, hts⟩ (c_X8_byteOf l g wl zj j (by omega)) (va_cwS 2 hts gX8_type_X8_byteOf rfl rfl rfl (by decide +kernel) ⟨Nat.le_of_ble_eq_true rfl, Nat.le_of_ble_eq_true rfl⟩) hG hP hD hS hA [] [0, 1, 2] rfl rfl (by decide) (by decide) (by decide) rfl hl.1 rfl (Nat.le_of_ble_eq_true rfl) dX8_type_24 ⟨Nat.le_of_ble_eq_true rfl, Nat.le_of_ble_eq_true rfl⟩ rfl rfl (fun v w H locs hv hP hD hS => ?_)
          obtain ⟨rfl, rfl⟩ := hv
          show W p l e _ s m _ below meth c H locs 0 0 _ (F0 m 27 ls (.int (iI (bteI wl j)) :: []))
          have hP : va_P g.1 vwCl [(hd, .inr (8, dF d i)), ((d 8), .inr (6, [.int (iI tl), .ref tb, .int (iI tp)])), (tb, aI (g.2.1 2) 100 ft)] H := hP
          have hD : va_D A [(hd, .inr (8, dF d i)), ((d 8), .inr (6, [.int (iI tl), .ref tb, .int (iI tp)])), (tb, aI (g.2.1 2) 100 ft)] := hD
          refine lv_bipush (v := iI (32)) hx hb dX8_type_27 (by decide) ?_
          refine lv_bipush (v := iI (126)) hx hb dX8_type_29 (by decide) ?_
          refine Ct.callS (As := [.int (iI (bteI wl j)), .int (iI 32), .int (iI 126)]) (rest := []) (wr := [(hd, .inr (8, dF d i)), ((d 8), .inr (6, [.int (iI tl), .ref tb, .int (iI tp)])), (tb, aI (g.2.1 2) 100 ft)]) (c1 := 0) (s1 := 0) ⟨hx, hb, hml, hown, hts⟩ (c_X8_within l g (bteI wl j) 32 126 (by omega)) (va_cwS 3 hts gX8_type_X8_within rfl rfl rfl (by decide +kernel) ⟨Nat.le_of_ble_eq_true rfl, Nat.le_of_ble_eq_true rfl⟩) hG hP hD hS hA [] [0, 1, 2] rfl rfl (by decide) (by decide) (by decide) rfl hl.1 rfl (Nat.le_of_ble_eq_true rfl) dX8_type_31 ⟨Nat.le_of_ble_eq_true rfl, Nat.le_of_ble_eq_true rfl⟩ rfl rfl (fun v w H locs hv hP hD hS => ?_)
          obtain ⟨⟨rfl, hb6⟩ | ⟨rfl, hb6⟩, rfl⟩ := hv
          · show W p l e _ s m _ below meth c H locs 0 0 _ (F0 m 34 ls (.int (iI 1) :: []))
            have hb6 : 32 ≤ (bteI wl j) ∧ (bteI wl j) ≤ 126 := hb6
            have hP : va_P g.1 vwCl [(hd, .inr (8, dF d i)), ((d 8), .inr (6, [.int (iI tl), .ref tb, .int (iI tp)])), (tb, aI (g.2.1 2) 100 ft)] H := hP
            have hD : va_D A [(hd, .inr (8, dF d i)), ((d 8), .inr (6, [.int (iI tl), .ref tb, .int (iI tp)])), (tb, aI (g.2.1 2) 100 ft)] := hD
            refine iv_if_ne (tgt := 39) hx hb dX8_type_34 (by decide) (by decide) (fun _ => ?_) (fun h => absurd h (by decide))
            refine iv_iinc (k := 0) (x := zj) (lv' := [(4, .int (iI (zj + 1))), (0, .ref hd), (1, .long wl), (3, .int (iI n))]) hx hb dX8_type_39 hl rfl (by decide) rfl (fun ls hl => ?_)
            refine lv_goto (tgt := 15) hx hb dX8_type_42 (by decide) ?_
            exact ih15 (zj + 1) (j + 1) (by omega) (by rw [← ha, show n.toNat - j = (n.toNat - (j + 1)) + 1 from by omega]; simp only [tyOK]; rw [if_pos (by assumption)]) (by omega) H locs ls (hP.sub [0, 1, 2] rfl) (hD.sub [0, 1, 2] (by decide) rfl) hS (lv_sub hl [0, 1, 2, 3] rfl)
          · show W p l e _ s m _ below meth c H locs 0 0 _ (F0 m 34 ls (.int (iI 0) :: []))
            have hb6 : ¬ (32 ≤ (bteI wl j) ∧ (bteI wl j) ≤ 126) := hb6
            have hP : va_P g.1 vwCl [(hd, .inr (8, dF d i)), ((d 8), .inr (6, [.int (iI tl), .ref tb, .int (iI tp)])), (tb, aI (g.2.1 2) 100 ft)] H := hP
            have hD : va_D A [(hd, .inr (8, dF d i)), ((d 8), .inr (6, [.int (iI tl), .ref tb, .int (iI tp)])), (tb, aI (g.2.1 2) 100 ft)] := hD
            refine iv_if_ne (tgt := 39) hx hb dX8_type_34 (by decide) (by decide) (fun h => absurd h (by decide)) (fun _ => ?_)
            refine lv_iconst (v := iI (-1)) hx hb dX8_type_37 rfl ?_
            exact Ct.iret hx hb hr hlocks (hP.sub [0, 1, 2] rfl) (hD.sub [0, 1, 2] (by decide) rfl) hS ⟨by decide, by decide⟩ dX8_type_38 ⟨(-1), tl, ft, rfl, rfl, (by unfold typS; rw [if_neg (by omega), if_pos (show tyOK wl n.toNat 0 = 0 by rw [← ha, show n.toNat - j = (n.toNat - (j + 1)) + 1 from by omega]; simp only [tyOK]; rw [if_neg (by assumption)])]), (fun _ => ⟨rfl, rfl⟩), (fun h => absurd h (by omega))⟩
    exact hloop15 _ 0 0 (by omega) (rfl) (Nat.lt_succ_self _) H locs ls (hP.sub [0, 1, 2] rfl) (hD.sub [0, 1, 2] (by decide) rfl) hS (lv_sub hl [0, 1, 2, 3] rfl)
  · show W p l e _ s m _ below meth c H locs 0 0 _ (F0 m 7 ls (.int (iI 0) :: []))
    have hb1 : ¬ (1 ≤ n ∧ n ≤ 8) := hb1
    have hP : va_P g.1 vwCl [(hd, .inr (8, dF d i)), ((d 8), .inr (6, [.int (iI tl), .ref tb, .int (iI tp)])), (tb, aI (g.2.1 2) 100 ft)] H := hP
    have hD : va_D A [(hd, .inr (8, dF d i)), ((d 8), .inr (6, [.int (iI tl), .ref tb, .int (iI tp)])), (tb, aI (g.2.1 2) 100 ft)] := hD
    refine iv_if_ne (tgt := 12) hx hb dX8_type_7 (by decide) (by decide) (fun h => absurd h (by decide)) (fun _ => ?_)
    refine lv_iconst (v := iI (-1)) hx hb dX8_type_10 rfl ?_
    exact Ct.iret hx hb hr hlocks (hP.sub [0, 1, 2] rfl) (hD.sub [0, 1, 2] (by decide) rfl) hS ⟨by decide, by decide⟩ dX8_type_11 ⟨(-1), tl, ft, rfl, rfl, (by unfold typS; rw [if_pos (by omega)]), (fun _ => ⟨rfl, rfl⟩), (fun h => absurd h (by omega))⟩
