theorem kX9_type_9 : ∀ w ∈ u_ws RX9 TX9 37, w ∈ wsX9_type := fun _ h => List.mem_cons_of_mem _ (List.mem_append_right _ h)
abbrev q_X9_type (g : GT) (hm : Nat) (a : Nat → Nat) (i : Nat → Int) (ft : Nat → Int) (L : Nat) (wl : Int64) (n : Int) : Option Value → va_W → Prop := fun v w => ∃ (r : Int), ∃ (i' : Nat → Int), ∃ (ft' : Nat → Int), v = some (.int (iI r)) ∧ w = [(hm, .inr (9, mF a i')), ((a 15), aI (g.2.1 0) 100 ft')] ∧ (r = typS (i 16) n wl) ∧ (r < 0 → i' = i ∧ ft' = ft) ∧ (0 ≤ r → i' = va_up i 16 (i 16 + n) ∧ ft' = tyP ft L wl n.toNat n.toNat ∧ tyOK wl n.toNat 0 = 1)
set_option maxHeartbeats 4000000 in
set_option maxRecDepth 100000 in
theorem c_X9_type (l : Launch) (g : GT) (hm : Nat) (a : Nat → Nat) (i : Nat → Int) (ft : Nat → Int) (L : Nat) (wl : Int64) (n : Int) (h1 : i 16 = (L : Int) ∧ L ≤ 100 ∧ (-2147483648 ≤ n ∧ n < 2147483648)) : Ct l g yX9_type wsX9_type ({ frames := 1, cells := 0, slots := 0, locals := 25 } : Room) [.ref hm, .long wl, .int (iI n)] [(hm, .inr (9, mF a i)), ((a 15), aI (g.2.1 0) 100 ft)] (q_X9_type g hm a i ft L wl n) := by
  refine Ct.intro (maxL := 5) (ret := (some .int)) (by decide) rfl (Nat.le_of_ble_eq_true rfl) ?_
  intro p e s m below meth c A ls hx hb hr hml hown hts hlocks hnm hA hG hP hD hS hl
  have hown : s.vm.findClass RX9 = some m.cls := hown
  have hl : lv_has ls 5 [(0, .ref hm), (1, .long wl), (3, .int (iI n))] := hl
  have hP : va_P g.1 vwCl [(hm, .inr (9, mF a i)), ((a 15), aI (g.2.1 0) 100 ft)] s.heap := hP
  have hS : va_S A s.heap s.heap [] := hS
  obtain ⟨H, hHe⟩ : ∃ H : Heap, H = s.heap := ⟨_, rfl⟩
  obtain ⟨locs, hLe⟩ : ∃ L : List Loc, L = [] := ⟨_, rfl⟩
  have hP : va_P g.1 vwCl [(hm, .inr (9, mF a i)), ((a 15), aI (g.2.1 0) 100 ft)] H := by rw [hHe]; exact hP
  have hS : va_S A s.heap H locs := by rw [hHe, hLe]; exact hS
  suffices hgo : W p l e ({ frames := 1, cells := 0, slots := 0, locals := 25 } : Room) s m [.ref hm, .long wl, .int (iI n)].toArray below meth c H locs 0 0 (MQ below (CQ g (q_X9_type g hm a i ft L wl n) A) [.ref hm, .long wl, .int (iI n)].toArray s ({ frames := 1, cells := 0, slots := 0, locals := 25 } : Room).cells ({ frames := 1, cells := 0, slots := 0, locals := 25 } : Room).slots A) (F0 m 0 ls []) by rw [hHe, hLe] at hgo; exact hgo
  clear hHe hLe
  refine lv_iload_n hx hb dX9_type_0 rfl (lv_at hl 2 rfl) ?_
  refine iv_i2l hx hb dX9_type_1 (by omega) ?_
  refine lv_lconst (v := lI (1)) hx hb dX9_type_2 (by decide) ?_
  refine iv_ldc2 (v := 8) (z := 8) hx hb hown (hts _ (List.mem_of_getElem? (i := 1) rfl)) dX9_type_3 (by decide) ?_
  refine Ct.callS (As := [.long (lI n), .long (lI 1), .long (lI 8)]) (rest := []) (wr := [(hm, .inr (9, mF a i)), ((a 15), aI (g.2.1 0) 100 ft)]) (c1 := 0) (s1 := 0) ⟨hx, hb, hml, hown, hts⟩ (c_X9_in l g n 1 8 (by omega)) (va_cwS 3 hts gX9_type_X9_in rfl rfl rfl (by decide +kernel) ⟨Nat.le_of_ble_eq_true rfl, Nat.le_of_ble_eq_true rfl⟩) hG hP hD hS hA [] [0, 1] rfl rfl (by decide) (by decide) (by decide) rfl hl.1 rfl (Nat.le_of_ble_eq_true rfl) dX9_type_6 ⟨Nat.le_of_ble_eq_true rfl, Nat.le_of_ble_eq_true rfl⟩ rfl rfl (fun v w H locs hv hP hD hS => ?_)
  obtain ⟨⟨rfl, hb1⟩ | ⟨rfl, hb1⟩, rfl⟩ := hv
  · show W p l e _ s m _ below meth c H locs 0 0 _ (F0 m 9 ls (.int (iI 1) :: []))
    have hb1 : 1 ≤ n ∧ n ≤ 8 := hb1
    have hP : va_P g.1 vwCl [(hm, .inr (9, mF a i)), ((a 15), aI (g.2.1 0) 100 ft)] H := hP
    have hD : va_D A [(hm, .inr (9, mF a i)), ((a 15), aI (g.2.1 0) 100 ft)] := hD
    refine iv_if_ne (tgt := 14) hx hb dX9_type_9 (by decide) (by decide) (fun _ => ?_) (fun h => absurd h (by decide))
    refine lv_iconst (v := iI (0)) hx hb dX9_type_14 rfl ?_
    refine lv_istore (lv' := [(4, .int (iI 0)), (0, .ref hm), (1, .long wl), (3, .int (iI n))]) hx hb dX9_type_15 hl (by decide) rfl (fun ls hl => ?_)
    have hloop17 : ∀ (fuel : Nat) (zj : Int) (j : Nat) (hc : zj = (j : Int) ∧ zj ≤ n) (ha : tyOK wl (n.toNat - j) j = tyOK wl n.toNat 0) (hmeas : n.toNat - j < fuel), ∀ (H : Heap) (locs : List Loc) (ls : Array Slot), va_P g.1 vwCl [(hm, .inr (9, mF a i)), ((a 15), aI (g.2.1 0) 100 ft)] H → va_D A [(hm, .inr (9, mF a i)), ((a 15), aI (g.2.1 0) 100 ft)] → va_S A s.heap H locs → lv_has ls 5 [(4, .int (iI zj)), (0, .ref hm), (1, .long wl), (3, .int (iI n))] → W p l e ({ frames := 1, cells := 0, slots := 0, locals := 25 } : Room) s m [.ref hm, .long wl, .int (iI n)].toArray below meth c H locs 0 0 (MQ below (CQ g (q_X9_type g hm a i ft L wl n) A) [.ref hm, .long wl, .int (iI n)].toArray s ({ frames := 1, cells := 0, slots := 0, locals := 25 } : Room).cells ({ frames := 1, cells := 0, slots := 0, locals := 25 } : Room).slots A) (F0 m 17 ls []) := by
      intro fuel
      induction fuel with
      | zero => intro zj j hc ha hmeas; exact absurd hmeas (Nat.not_lt_zero _)
      | succ fuel ih17 =>
        intro zj j hc ha hmeas H locs ls hP hD hS hl
        refine lv_iload hx hb dX9_type_17 (lv_at hl 0 rfl) ?_
        refine lv_iload_n hx hb dX9_type_19 rfl (lv_at hl 3 rfl) ?_
        refine iv_icmp_ge (tgt := 54) hx hb dX9_type_20 (by decide) (by omega) (fun hc3 => ?_) (fun hc3 => ?_)
        · have hall : tyOK wl n.toNat 0 = 1 := by rw [← ha, show n.toNat - j = 0 from by omega]; rfl
          refine lv_aload_n hx hb dX9_type_54 rfl (lv_at hl 1 rfl) ?_
          refine va_get (D := g.1) (ci := 9) (v := .int (iI (i 16))) hx hb hts kX9_type_9 hown hG.1 hP 0 rfl rfl 16 (by decide) (hts _ (List.mem_of_getElem? (i := 5) rfl)) (fun _ h9 => h9) rfl dX9_type_55 ?_
          refine lv_iload_n hx hb dX9_type_58 rfl (lv_at hl 3 rfl) ?_
          refine iv_iadd hx hb dX9_type_59 ?_
          refine lv_bipush (v := iI (100)) hx hb dX9_type_60 (by decide) ?_
          refine iv_icmp_le (tgt := 68) hx hb dX9_type_62 (by decide) (by omega) (fun hc4 => ?_) (fun hc4 => ?_)
          · refine lv_iload_n hx hb dX9_type_68 rfl (lv_at hl 3 rfl) ?_
            refine lv_iconst (v := iI (1)) hx hb dX9_type_69 rfl ?_
            refine iv_isub hx hb dX9_type_70 ?_
            refine lv_istore (lv' := [(4, .int (iI (n - 1))), (0, .ref hm), (1, .long wl), (3, .int (iI n))]) hx hb dX9_type_71 hl (by decide) rfl (fun ls hl => ?_)
            have hloop73 : ∀ (fuel : Nat) (zk : Int) (fb : Nat → Int) (tz : Int) (k : Nat) (hk : zk = n - 1 - (k : Int) ∧ (k : Int) ≤ n ∧ tz = i 16 + k) (hf : fb = tyP ft L wl n.toNat k) (hmeas : n.toNat - k < fuel), ∀ (H : Heap) (locs : List Loc) (ls : Array Slot), va_P g.1 vwCl [(hm, .inr (9, mF a (va_up i 16 tz))), ((a 15), aI (g.2.1 0) 100 fb)] H → va_D A [(hm, .inr (9, mF a (va_up i 16 tz))), ((a 15), aI (g.2.1 0) 100 fb)] → va_S A s.heap H locs → lv_has ls 5 [(4, .int (iI zk)), (0, .ref hm), (1, .long wl), (3, .int (iI n))] → W p l e ({ frames := 1, cells := 0, slots := 0, locals := 25 } : Room) s m [.ref hm, .long wl, .int (iI n)].toArray below meth c H locs 0 0 (MQ below (CQ g (q_X9_type g hm a i ft L wl n) A) [.ref hm, .long wl, .int (iI n)].toArray s ({ frames := 1, cells := 0, slots := 0, locals := 25 } : Room).cells ({ frames := 1, cells := 0, slots := 0, locals := 25 } : Room).slots A) (F0 m 73 ls []) := by
              intro fuel
              induction fuel with
              | zero => intro zk fb tz k hk hf hmeas; exact absurd hmeas (Nat.not_lt_zero _)
              | succ fuel ih73 =>
                intro zk fb tz k hk hf hmeas H locs ls hP hD hS hl
                refine lv_iload hx hb dX9_type_73 (lv_at hl 0 rfl) ?_
                refine iv_if_lt (tgt := 115) hx hb dX9_type_75 (by decide) (by omega) (fun hc5 => ?_) (fun hc5 => ?_)
                · refine lv_aload_n hx hb dX9_type_115 rfl (lv_at hl 1 rfl) ?_
                  refine va_get (D := g.1) (ci := 9) (v := .int (iI tz)) hx hb hts kX9_type_9 hown hG.1 hP 0 rfl rfl 16 (by decide) (hts _ (List.mem_of_getElem? (i := 5) rfl)) (fun _ h9 => h9) rfl dX9_type_116 ?_
                  exact Ct.iret hx hb hr hlocks (hP.sub [0, 1] rfl) (hD.sub [0, 1] (by decide) rfl) hS ⟨by decide, by decide⟩ dX9_type_119 ⟨tz, (va_up i 16 tz), fb, rfl, rfl, (by unfold typS; rw [if_neg (by omega), if_neg (by rw [hall]; omega), if_neg (by omega)]; omega), (fun h => absurd h (by omega)), (fun _ => ⟨by rw [show tz = i 16 + n from by omega], by rw [hf, show k = n.toNat from by omega], hall⟩)⟩
                · have hba := bteI_rng wl (n.toNat - 1 - k)
                  refine lv_aload_n hx hb dX9_type_78 rfl (lv_at hl 1 rfl) ?_
                  refine va_get (D := g.1) (ci := 9) (v := .ref (a 15)) hx hb hts kX9_type_9 hown hG.1 hP 0 rfl rfl 15 (by decide) (hts _ (List.mem_of_getElem? (i := 6) rfl)) (fun _ h9 => h9) rfl dX9_type_79 ?_
                  refine lv_aload_n hx hb dX9_type_82 rfl (lv_at hl 1 rfl) ?_
                  refine va_get (D := g.1) (ci := 9) (v := .int (iI tz)) hx hb hts kX9_type_9 hown hG.1 hP 0 rfl rfl 16 (by decide) (hts _ (List.mem_of_getElem? (i := 5) rfl)) (fun _ h9 => h9) rfl dX9_type_83 ?_
                  refine lv_lload_n hx hb dX9_type_86 rfl (lv_at hl 2 rfl) ?_
                  refine lv_bipush (v := iI (8)) hx hb dX9_type_87 (by decide) ?_
                  refine lv_iload hx hb dX9_type_89 (lv_at hl 0 rfl) ?_
                  refine iv_imul hx hb dX9_type_91 ?_
                  refine iv_as (8 * (((n.toNat - 1 - k) : Nat) : Int)) (by omega) ?_
                  refine lv_lshr hx hb dX9_type_92 rfl ?_
                  refine iv_ldc2 (v := 255) (z := 255) hx hb hown (hts _ (List.mem_of_getElem? (i := 2) rfl)) dX9_type_93 (by decide) ?_
                  refine lv_land hx hb dX9_type_96 ?_
                  rw [bteB wl (n.toNat - 1 - k) (by omega)]
                  refine lv_l2i hx hb dX9_type_97 (bteI_l2i wl (n.toNat - 1 - k)) ?_
                  refine iv_iast hx hb hG hP hD hS 1 rfl (L + k) (by omega) (by omega) (by decide) dX9_type_98 (fun H locs hP hD hS => ?_)
                  have hP : va_P g.1 vwCl [(hm, .inr (9, mF a (va_up i 16 tz))), ((a 15), aI (g.2.1 0) 100 (va_up fb (L + k) (bteI wl (n.toNat - 1 - k))))] H := hP
                  have hD : va_D A [(hm, .inr (9, mF a (va_up i 16 tz))), ((a 15), aI (g.2.1 0) 100 (va_up fb (L + k) (bteI wl (n.toNat - 1 - k))))] := hD
                  refine lv_aload_n hx hb dX9_type_99 rfl (lv_at hl 1 rfl) ?_
                  refine lv_dup hx hb dX9_type_100 rfl ?_
                  refine va_get (D := g.1) (ci := 9) (v := .int (iI tz)) hx hb hts kX9_type_9 hown hG.1 hP 0 rfl rfl 16 (by decide) (hts _ (List.mem_of_getElem? (i := 5) rfl)) (fun _ h9 => h9) rfl dX9_type_101 ?_
                  refine lv_iconst (v := iI (1)) hx hb dX9_type_104 rfl ?_
                  refine iv_iadd hx hb dX9_type_105 ?_
                  refine va_put (D := g.1) (ci := 9) (v := .int (iI (tz + 1))) hx hb hts kX9_type_9 tyX9 tyX9_ok nmX9 hown hG.1 hP hD hS 0 rfl rfl 16 (by decide) (hts _ (List.mem_of_getElem? (i := 5) rfl)) (fun _ h9 => h9) rfl (tyX9_ok 16 (by decide)) rfl rfl (Nat.le_of_ble_eq_true rfl) dX9_type_106 (fun H locs hP hD hS => ?_)
                  have hP : va_P g.1 vwCl [(hm, .inr (9, mF a (va_up i 16 (tz + 1)))), ((a 15), aI (g.2.1 0) 100 (va_up fb (L + k) (bteI wl (n.toNat - 1 - k))))] H := hP
                  have hD : va_D A [(hm, .inr (9, mF a (va_up i 16 (tz + 1)))), ((a 15), aI (g.2.1 0) 100 (va_up fb (L + k) (bteI wl (n.toNat - 1 - k))))] := hD
                  refine iv_iinc (k := 0) (x := zk) (lv' := [(4, .int (iI (zk + (-1)))), (0, .ref hm), (1, .long wl), (3, .int (iI n))]) hx hb dX9_type_109 hl rfl (by decide) rfl (fun ls hl => ?_)
                  refine lv_goto (tgt := 73) hx hb dX9_type_112 (by decide) ?_
                  exact ih73 (zk + (-1)) (va_up fb (L + k) (bteI wl (n.toNat - 1 - k))) (tz + 1) (k + 1) (by omega) (by rw [hf]; rfl) (by omega) H locs ls (hP.sub [0, 1] rfl) (hD.sub [0, 1] (by decide) rfl) hS (lv_sub hl [0, 1, 2, 3] rfl)
            exact hloop73 _ (n - 1) ft (i 16) 0 (by omega) (rfl) (Nat.lt_succ_self _) H locs ls (hP.sub [0, 1] rfl) (hD.sub [0, 1] (by decide) rfl) hS (lv_sub hl [0, 1, 2, 3] rfl)
          · refine lv_bipush (v := iI (-3)) hx hb dX9_type_65 (by decide) ?_
            exact Ct.iret hx hb hr hlocks (hP.sub [0, 1] rfl) (hD.sub [0, 1] (by decide) rfl) hS ⟨by decide, by decide⟩ dX9_type_67 ⟨(-3), i, ft, rfl, rfl, (by unfold typS; rw [if_neg (by omega), if_neg (by rw [hall]; omega), if_pos (by omega)]), (fun _ => ⟨rfl, rfl⟩), (fun h => absurd h (by omega))⟩
        · have hbr := bteI_rng wl j
          refine lv_lload_n hx hb dX9_type_23 rfl (lv_at hl 2 rfl) ?_
          refine lv_bipush (v := iI (8)) hx hb dX9_type_24 (by decide) ?_
          refine lv_iload hx hb dX9_type_26 (lv_at hl 0 rfl) ?_
          refine iv_imul hx hb dX9_type_28 ?_
          refine iv_as (8 * ((j : Nat) : Int)) (by omega) ?_
          refine lv_lshr hx hb dX9_type_29 rfl ?_
          refine iv_ldc2 (v := 255) (z := 255) hx hb hown (hts _ (List.mem_of_getElem? (i := 2) rfl)) dX9_type_30 (by decide) ?_
          refine lv_land hx hb dX9_type_33 ?_
          rw [bteB wl j (by omega)]
          refine iv_ldc2 (v := 32) (z := 32) hx hb hown (hts _ (List.mem_of_getElem? (i := 3) rfl)) dX9_type_34 (by decide) ?_
          refine iv_ldc2 (v := 126) (z := 126) hx hb hown (hts _ (List.mem_of_getElem? (i := 4) rfl)) dX9_type_37 (by decide) ?_
          refine Ct.callS (As := [.long (lI (bteI wl j)), .long (lI 32), .long (lI 126)]) (rest := []) (wr := [(hm, .inr (9, mF a i)), ((a 15), aI (g.2.1 0) 100 ft)]) (c1 := 0) (s1 := 0) ⟨hx, hb, hml, hown, hts⟩ (c_X9_in l g (bteI wl j) 32 126 (by omega)) (va_cwS 3 hts gX9_type_X9_in rfl rfl rfl (by decide +kernel) ⟨Nat.le_of_ble_eq_true rfl, Nat.le_of_ble_eq_true rfl⟩) hG hP hD hS hA [] [0, 1] rfl rfl (by decide) (by decide) (by decide) rfl hl.1 rfl (Nat.le_of_ble_eq_true rfl) dX9_type_40 ⟨Nat.le_of_ble_eq_true rfl, Nat.le_of_ble_eq_true rfl⟩ rfl rfl (fun v w H locs hv hP hD hS => ?_)
          obtain ⟨⟨rfl, hb6⟩ | ⟨rfl, hb6⟩, rfl⟩ := hv
          · show W p l e _ s m _ below meth c H locs 0 0 _ (F0 m 43 ls (.int (iI 1) :: []))
            have hb6 : 32 ≤ (bteI wl j) ∧ (bteI wl j) ≤ 126 := hb6
            have hP : va_P g.1 vwCl [(hm, .inr (9, mF a i)), ((a 15), aI (g.2.1 0) 100 ft)] H := hP
            have hD : va_D A [(hm, .inr (9, mF a i)), ((a 15), aI (g.2.1 0) 100 ft)] := hD
            refine iv_if_ne (tgt := 48) hx hb dX9_type_43 (by decide) (by decide) (fun _ => ?_) (fun h => absurd h (by decide))
            refine iv_iinc (k := 0) (x := zj) (lv' := [(4, .int (iI (zj + 1))), (0, .ref hm), (1, .long wl), (3, .int (iI n))]) hx hb dX9_type_48 hl rfl (by decide) rfl (fun ls hl => ?_)
            refine lv_goto (tgt := 17) hx hb dX9_type_51 (by decide) ?_
            exact ih17 (zj + 1) (j + 1) (by omega) (by rw [← ha, show n.toNat - j = (n.toNat - (j + 1)) + 1 from by omega]; simp only [tyOK]; rw [if_pos (by assumption)]) (by omega) H locs ls (hP.sub [0, 1] rfl) (hD.sub [0, 1] (by decide) rfl) hS (lv_sub hl [0, 1, 2, 3] rfl)
          · show W p l e _ s m _ below meth c H locs 0 0 _ (F0 m 43 ls (.int (iI 0) :: []))
            have hb6 : ¬ (32 ≤ (bteI wl j) ∧ (bteI wl j) ≤ 126) := hb6
            have hP : va_P g.1 vwCl [(hm, .inr (9, mF a i)), ((a 15), aI (g.2.1 0) 100 ft)] H := hP
            have hD : va_D A [(hm, .inr (9, mF a i)), ((a 15), aI (g.2.1 0) 100 ft)] := hD
            refine iv_if_ne (tgt := 48) hx hb dX9_type_43 (by decide) (by decide) (fun h => absurd h (by decide)) (fun _ => ?_)
            refine lv_iconst (v := iI (-1)) hx hb dX9_type_46 rfl ?_
            exact Ct.iret hx hb hr hlocks (hP.sub [0, 1] rfl) (hD.sub [0, 1] (by decide) rfl) hS ⟨by decide, by decide⟩ dX9_type_47 ⟨(-1), i, ft, rfl, rfl, (by unfold typS; rw [if_neg (by omega), if_pos (show tyOK wl n.toNat 0 = 0 by rw [← ha, show n.toNat - j = (n.toNat - (j + 1)) + 1 from by omega]; simp only [tyOK]; rw [if_neg (by assumption)])]), (fun _ => ⟨rfl, rfl⟩), (fun h => absurd h (by omega))⟩
    exact hloop17 _ 0 0 (by omega) (rfl) (Nat.lt_succ_self _) H locs ls (hP.sub [0, 1] rfl) (hD.sub [0, 1] (by decide) rfl) hS (lv_sub hl [0, 1, 2, 3] rfl)
  · show W p l e _ s m _ below meth c H locs 0 0 _ (F0 m 9 ls (.int (iI 0) :: []))
    have hb1 : ¬ (1 ≤ n ∧ n ≤ 8) := hb1
    have hP : va_P g.1 vwCl [(hm, .inr (9, mF a i)), ((a 15), aI (g.2.1 0) 100 ft)] H := hP
    have hD : va_D A [(hm, .inr (9, mF a i)), ((a 15), aI (g.2.1 0) 100 ft)] := hD
    refine iv_if_ne (tgt := 14) hx hb dX9_type_9 (by decide) (by decide) (fun h => absurd h (by decide)) (fun _ => ?_)
    refine lv_iconst (v := iI (-1)) hx hb dX9_type_12 rfl ?_
    exact Ct.iret hx hb hr hlocks (hP.sub [0, 1] rfl) (hD.sub [0, 1] (by decide) rfl) hS ⟨by decide, by decide⟩ dX9_type_13 ⟨(-1), i, ft, rfl, rfl, (by unfold typS; rw [if_pos (by omega)]), (fun _ => ⟨rfl, rfl⟩), (fun h => absurd h (by omega))⟩
