theorem kX9_hint_9 : ∀ w ∈ u_ws RX9 TX9 37, w ∈ wsX9_hint := fun _ h => List.mem_cons_of_mem _ (List.mem_append_right _ h)
abbrev q_X9_hint (g : GT) (hm : Nat) (a : Nat → Nat) (i : Nat → Int) (much : Int) (less : Int) (w_ : Int) (k : Int) : Option Value → va_W → Prop := fun v w => ∃ (r : Int), ∃ (i' : Nat → Int), v = some (.int (iI r)) ∧ w = [(hm, .inr (9, mF a i'))] ∧ (r = hintF (if i 13 = much ∧ i 14 = less then 1 else 0) much less w_ k) ∧ ((r = -1 ∧ i' = i) ∨ (r ≠ -1 ∧ TaskP much less ∧ i' = va_up (va_up i 13 much) 14 less))
set_option maxHeartbeats 4000000 in
set_option maxRecDepth 100000 in
theorem c_X9_hint (l : Launch) (g : GT) (hm : Nat) (a : Nat → Nat) (i : Nat → Int) (much : Int) (less : Int) (w_ : Int) (k : Int) (h1 : (-2147483648 ≤ much ∧ much < 2147483648) ∧ (-2147483648 ≤ less ∧ less < 2147483648) ∧ (-2147483648 ≤ w_ ∧ w_ < 2147483648) ∧ (-2147483648 ≤ k ∧ k < 2147483648) ∧ -4 ≤ i 13 ∧ i 13 ≤ 999 ∧ 0 ≤ i 14 ∧ i 14 ≤ 999) : Ct l g yX9_hint wsX9_hint ({ frames := 2, cells := 0, slots := 0, locals := 46 } : Room) [.ref hm, .int (iI much), .int (iI less), .int (iI w_), .int (iI k)] [(hm, .inr (9, mF a i))] (q_X9_hint g hm a i much less w_ k) := by
  refine Ct.intro (maxL := 8) (ret := (some .int)) (by decide) rfl (Nat.le_of_ble_eq_true rfl) ?_
  intro p e s m below meth c A ls hx hb hr hml hown hts hlocks hnm hA hG hP hD hS hl
  have hown : s.vm.findClass RX9 = some m.cls := hown
  have hl : lv_has ls 8 [(0, .ref hm), (1, .int (iI much)), (2, .int (iI less)), (3, .int (iI w_)), (4, .int (iI k))] := hl
  have hP : va_P g.1 vwCl [(hm, .inr (9, mF a i))] s.heap := hP
  have hS : va_S A s.heap s.heap [] := hS
  obtain ⟨H, hHe⟩ : ∃ H : Heap, H = s.heap := ⟨_, rfl⟩
  obtain ⟨locs, hLe⟩ : ∃ L : List Loc, L = [] := ⟨_, rfl⟩
  have hP : va_P g.1 vwCl [(hm, .inr (9, mF a i))] H := by rw [hHe]; exact hP
  have hS : va_S A s.heap H locs := by rw [hHe, hLe]; exact hS
  suffices hgo : W p l e ({ frames := 2, cells := 0, slots := 0, locals := 46 } : Room) s m [.ref hm, .int (iI much), .int (iI less), .int (iI w_), .int (iI k)].toArray below meth c H locs 0 0 (MQ below (CQ g (q_X9_hint g hm a i much less w_ k) A) [.ref hm, .int (iI much), .int (iI less), .int (iI w_), .int (iI k)].toArray s ({ frames := 2, cells := 0, slots := 0, locals := 46 } : Room).cells ({ frames := 2, cells := 0, slots := 0, locals := 46 } : Room).slots A) (F0 m 0 ls []) by rw [hHe, hLe] at hgo; exact hgo
  clear hHe hLe
  refine lv_iload_n hx hb dX9_hint_0 rfl (lv_at hl 1 rfl) ?_
  refine lv_iload_n hx hb dX9_hint_1 rfl (lv_at hl 2 rfl) ?_
  refine Ct.callS (As := [.int (iI much), .int (iI less)]) (rest := []) (wr := [(hm, .inr (9, mF a i))]) (c1 := 0) (s1 := 0) ⟨hx, hb, hml, hown, hts⟩ (c_X9_isTask l g much less (by omega)) (va_cwS 2 hts gX9_hint_X9_isTask rfl rfl rfl (by decide +kernel) ⟨Nat.le_of_ble_eq_true rfl, Nat.le_of_ble_eq_true rfl⟩) hG hP hD hS hA [] [0] rfl rfl (by decide) (by decide) (by decide) rfl hl.1 rfl (Nat.le_of_ble_eq_true rfl) dX9_hint_2 ⟨Nat.le_of_ble_eq_true rfl, Nat.le_of_ble_eq_true rfl⟩ rfl rfl (fun v w H locs hv hP hD hS => ?_)
  obtain ⟨⟨rfl, hb1⟩ | ⟨rfl, hb1⟩, rfl⟩ := hv
  · show W p l e _ s m _ below meth c H locs 0 0 _ (F0 m 5 ls (.int (iI 1) :: []))
    have hb1 : 0 ≤ less ∧ less ≤ much ∧ much ≤ 999 := hb1
    have hP : va_P g.1 vwCl [(hm, .inr (9, mF a i))] H := hP
    have hD : va_D A [(hm, .inr (9, mF a i))] := hD
    refine iv_if_eq (tgt := 54) hx hb dX9_hint_5 (by decide) (by decide) (fun h => absurd h (by decide)) (fun _ => ?_)
    refine lv_iload hx hb dX9_hint_8 (lv_at hl 4 rfl) ?_
    refine iv_i2l hx hb dX9_hint_10 (by omega) ?_
    refine lv_lconst (v := lI (0)) hx hb dX9_hint_11 (by decide) ?_
    refine iv_ldc2 (v := 2) (z := 2) hx hb hown (hts _ (List.mem_of_getElem? (i := 1) rfl)) dX9_hint_12 (by decide) ?_
    refine Ct.callS (As := [.long (lI k), .long (lI 0), .long (lI 2)]) (rest := []) (wr := [(hm, .inr (9, mF a i))]) (c1 := 0) (s1 := 0) ⟨hx, hb, hml, hown, hts⟩ (c_X9_in l g k 0 2 (by omega)) (va_cwS 3 hts gX9_hint_X9_in rfl rfl rfl (by decide +kernel) ⟨Nat.le_of_ble_eq_true rfl, Nat.le_of_ble_eq_true rfl⟩) hG hP hD hS hA [] [0] rfl rfl (by decide) (by decide) (by decide) rfl hl.1 rfl (Nat.le_of_ble_eq_true rfl) dX9_hint_15 ⟨Nat.le_of_ble_eq_true rfl, Nat.le_of_ble_eq_true rfl⟩ rfl rfl (fun v w H locs hv hP hD hS => ?_)
    obtain ⟨⟨rfl, hb3⟩ | ⟨rfl, hb3⟩, rfl⟩ := hv
    · show W p l e _ s m _ below meth c H locs 0 0 _ (F0 m 18 ls (.int (iI 1) :: []))
      have hb3 : 0 ≤ k ∧ k ≤ 2 := hb3
      have hP : va_P g.1 vwCl [(hm, .inr (9, mF a i))] H := hP
      have hD : va_D A [(hm, .inr (9, mF a i))] := hD
      refine iv_if_eq (tgt := 54) hx hb dX9_hint_18 (by decide) (by decide) (fun h => absurd h (by decide)) (fun _ => ?_)
      have htt := tT_v
      refine lv_iload_n hx hb dX9_hint_21 rfl (lv_at hl 3 rfl) ?_
      refine iv_i2l hx hb dX9_hint_22 (by omega) ?_
      refine lv_lconst (v := lI (0)) hx hb dX9_hint_23 (by decide) ?_
      refine lv_iload hx hb dX9_hint_24 (lv_at hl 4 rfl) ?_
      refine iv_if_ne (tgt := 33) hx hb dX9_hint_26 (by decide) (by omega) (fun hc5 => ?_) (fun hc5 => ?_)
      · refine lv_iload hx hb dX9_hint_33 (lv_at hl 4 rfl) ?_
        refine lv_iconst (v := iI (1)) hx hb dX9_hint_35 rfl ?_
        refine iv_icmp_ne (tgt := 45) hx hb dX9_hint_36 (by decide) (by omega) (fun hc6 => ?_) (fun hc6 => ?_)
        · refine iv_ldc2 (v := 99) (z := 99) hx hb hown (hts _ (List.mem_of_getElem? (i := 3) rfl)) dX9_hint_45 (by decide) ?_
          refine Ct.callS (As := [.long (lI w_), .long (lI 0), .long (lI 99)]) (rest := []) (wr := [(hm, .inr (9, mF a i))]) (c1 := 0) (s1 := 0) ⟨hx, hb, hml, hown, hts⟩ (c_X9_in l g w_ 0 99 (by omega)) (va_cwS 3 hts gX9_hint_X9_in rfl rfl rfl (by decide +kernel) ⟨Nat.le_of_ble_eq_true rfl, Nat.le_of_ble_eq_true rfl⟩) hG hP hD hS hA [] [0] rfl rfl (by decide) (by decide) (by decide) rfl hl.1 rfl (Nat.le_of_ble_eq_true rfl) dX9_hint_48 ⟨Nat.le_of_ble_eq_true rfl, Nat.le_of_ble_eq_true rfl⟩ rfl rfl (fun v w H locs hv hP hD hS => ?_)
          obtain ⟨⟨rfl, hb7⟩ | ⟨rfl, hb7⟩, rfl⟩ := hv
          · show W p l e _ s m _ below meth c H locs 0 0 _ (F0 m 51 ls (.int (iI 1) :: []))
            have hb7 : 0 ≤ w_ ∧ w_ ≤ 99 := hb7
            have hP : va_P g.1 vwCl [(hm, .inr (9, mF a i))] H := hP
            have hD : va_D A [(hm, .inr (9, mF a i))] := hD
            refine iv_if_ne (tgt := 56) hx hb dX9_hint_51 (by decide) (by decide) (fun _ => ?_) (fun h => absurd h (by decide))
            have hok : ¬ ¬ (TaskP much less ∧ (0 ≤ k ∧ k ≤ 2) ∧ 0 ≤ w_ ∧ w_ ≤ tT k.toNat - 1) := fun hz => hz ⟨by omega, by omega, by omega, by rcases (show k.toNat = 0 ∨ k.toNat = 1 ∨ k.toNat = 2 by omega) with hq | hq | hq <;> rw [hq] <;> omega⟩
            have hjoin77 : ∀ (sm : Int) (hsm : sm = (if i 13 = much ∧ i 14 = less then 1 else 0)) (hsm2 : sm = 0 ∨ sm = 1), ∀ (H : Heap) (locs : List Loc) (ls : Array Slot), va_P g.1 vwCl [(hm, .inr (9, mF a i))] H → va_D A [(hm, .inr (9, mF a i))] → va_S A s.heap H locs → lv_has ls 8 [(0, .ref hm), (1, .int (iI much)), (2, .int (iI less)), (3, .int (iI w_)), (4, .int (iI k))] → W p l e ({ frames := 2, cells := 0, slots := 0, locals := 46 } : Room) s m [.ref hm, .int (iI much), .int (iI less), .int (iI w_), .int (iI k)].toArray below meth c H locs 0 0 (MQ below (CQ g (q_X9_hint g hm a i much less w_ k) A) [.ref hm, .int (iI much), .int (iI less), .int (iI w_), .int (iI k)].toArray s ({ frames := 2, cells := 0, slots := 0, locals := 46 } : Room).cells ({ frames := 2, cells := 0, slots := 0, locals := 46 } : Room).slots A) (F0 m 77 ls [.int (iI sm)]) := by
              intro sm hsm hsm2 H locs ls hP hD hS hl
              refine lv_istore (lv' := [(5, .int (iI sm)), (0, .ref hm), (1, .int (iI much)), (2, .int (iI less)), (3, .int (iI w_)), (4, .int (iI k))]) hx hb dX9_hint_77 hl (by decide) rfl (fun ls hl => ?_)
              refine lv_aload_n hx hb dX9_hint_79 rfl (lv_at hl 1 rfl) ?_
              refine lv_iload_n hx hb dX9_hint_80 rfl (lv_at hl 2 rfl) ?_
              refine va_put (D := g.1) (ci := 9) (v := .int (iI much)) hx hb hts kX9_hint_9 tyX9 tyX9_ok nmX9 hown hG.1 hP hD hS 0 rfl rfl 13 (by decide) (hts _ (List.mem_of_getElem? (i := 4) rfl)) (fun _ h9 => h9) rfl (tyX9_ok 13 (by decide)) rfl rfl (Nat.le_of_ble_eq_true rfl) dX9_hint_81 (fun H locs hP hD hS => ?_)
              have hP : va_P g.1 vwCl [(hm, .inr (9, mF a (va_up i 13 much)))] H := hP
              have hD : va_D A [(hm, .inr (9, mF a (va_up i 13 much)))] := hD
              refine lv_aload_n hx hb dX9_hint_84 rfl (lv_at hl 1 rfl) ?_
              refine lv_iload_n hx hb dX9_hint_85 rfl (lv_at hl 3 rfl) ?_
              refine va_put (D := g.1) (ci := 9) (v := .int (iI less)) hx hb hts kX9_hint_9 tyX9 tyX9_ok nmX9 hown hG.1 hP hD hS 0 rfl rfl 14 (by decide) (hts _ (List.mem_of_getElem? (i := 5) rfl)) (fun _ h9 => h9) rfl (tyX9_ok 14 (by decide)) rfl rfl (Nat.le_of_ble_eq_true rfl) dX9_hint_86 (fun H locs hP hD hS => ?_)
              have hP : va_P g.1 vwCl [(hm, .inr (9, mF a (va_up (va_up i 13 much) 14 less)))] H := hP
              have hD : va_D A [(hm, .inr (9, mF a (va_up (va_up i 13 much) 14 less)))] := hD
              refine lv_iload_n hx hb dX9_hint_89 rfl (lv_at hl 2 rfl) ?_
              refine lv_iload_n hx hb dX9_hint_90 rfl (lv_at hl 3 rfl) ?_
              refine iv_isub hx hb dX9_hint_91 ?_
              refine lv_istore (lv' := [(6, .int (iI (much - less))), (5, .int (iI sm)), (0, .ref hm), (1, .int (iI much)), (2, .int (iI less)), (3, .int (iI w_)), (4, .int (iI k))]) hx hb dX9_hint_92 hl (by decide) rfl (fun ls hl => ?_)
              have hdgr := dg_rng (much - less) k.toNat
              have hjoin122 : ∀ (lo : Int) (hlo : lo = (much - less) % tT k.toNat ∧ 0 ≤ lo ∧ lo ≤ 99), ∀ (H : Heap) (locs : List Loc) (ls : Array Slot), va_P g.1 vwCl [(hm, .inr (9, mF a (va_up (va_up i 13 much) 14 less)))] H → va_D A [(hm, .inr (9, mF a (va_up (va_up i 13 much) 14 less)))] → va_S A s.heap H locs → lv_has ls 8 [(6, .int (iI (much - less))), (5, .int (iI sm)), (0, .ref hm), (1, .int (iI much)), (2, .int (iI less)), (3, .int (iI w_)), (4, .int (iI k))] → W p l e ({ frames := 2, cells := 0, slots := 0, locals := 46 } : Room) s m [.ref hm, .int (iI much), .int (iI less), .int (iI w_), .int (iI k)].toArray below meth c H locs 0 0 (MQ below (CQ g (q_X9_hint g hm a i much less w_ k) A) [.ref hm, .int (iI much), .int (iI less), .int (iI w_), .int (iI k)].toArray s ({ frames := 2, cells := 0, slots := 0, locals := 46 } : Room).cells ({ frames := 2, cells := 0, slots := 0, locals := 46 } : Room).slots A) (F0 m 122 ls [.int (iI lo)]) := by
                intro lo hlo H locs ls hP hD hS hl
                refine lv_istore (lv' := [(7, .int (iI lo)), (6, .int (iI (much - less))), (5, .int (iI sm)), (0, .ref hm), (1, .int (iI much)), (2, .int (iI less)), (3, .int (iI w_)), (4, .int (iI k))]) hx hb dX9_hint_122 hl (by decide) rfl (fun ls hl => ?_)
                refine lv_iload_n hx hb dX9_hint_124 rfl (lv_at hl 6 rfl) ?_
                refine lv_iload hx hb dX9_hint_125 (lv_at hl 0 rfl) ?_
                refine iv_icmp_eq (tgt := 133) hx hb dX9_hint_127 (by decide) (by omega) (fun hc9 => ?_) (fun hc9 => ?_)
                · refine lv_iload hx hb dX9_hint_133 (lv_at hl 2 rfl) ?_
                  refine iv_if_eq (tgt := 148) hx hb dX9_hint_135 (by decide) (by omega) (fun hc10 => ?_) (fun hc10 => ?_)
                  · refine lv_bipush (v := iI (-5)) hx hb dX9_hint_148 (by decide) ?_
                    exact Ct.iret hx hb hr hlocks (hP.sub [0] rfl) (hD.sub [0] (by decide) rfl) hS ⟨by decide, by decide⟩ dX9_hint_150 ⟨(-5), (va_up (va_up i 13 much) 14 less), rfl, rfl, (by unfold hintF; rw [if_neg hok, if_neg (by omega), ← hsm]; first | (rw [if_pos (by omega)]; assumption) | rw [if_neg (by omega)]), (Or.inr ⟨by omega, by omega, rfl⟩)⟩
                  · refine lv_iload hx hb dX9_hint_138 (lv_at hl 1 rfl) ?_
                    refine lv_iload hx hb dX9_hint_140 (lv_at hl 7 rfl) ?_
                    refine Ct.callS (As := [.int (iI (much - less)), .int (iI k)]) (rest := []) (wr := [(hm, .inr (9, mF a (va_up (va_up i 13 much) 14 less)))]) (c1 := 0) (s1 := 0) ⟨hx, hb, hml, hown, hts⟩ (c_X9_digitOf l g (much - less) k k.toNat (by omega)) (va_cwS 2 hts gX9_hint_X9_digitOf rfl rfl rfl (by decide +kernel) ⟨Nat.le_of_ble_eq_true rfl, Nat.le_of_ble_eq_true rfl⟩) hG hP hD hS hA [] [0] rfl rfl (by decide) (by decide) (by decide) rfl hl.1 rfl (Nat.le_of_ble_eq_true rfl) dX9_hint_142 ⟨Nat.le_of_ble_eq_true rfl, Nat.le_of_ble_eq_true rfl⟩ rfl rfl (fun v w H locs hv hP hD hS => ?_)
                    obtain ⟨r11, rfl, rfl, hf12⟩ := hv
                    show W p l e _ s m _ below meth c H locs 0 0 _ (F0 m 145 ls (.int (iI r11) :: []))
                    have hP : va_P g.1 vwCl [(hm, .inr (9, mF a (va_up (va_up i 13 much) 14 less)))] H := hP
                    have hD : va_D A [(hm, .inr (9, mF a (va_up (va_up i 13 much) 14 less)))] := hD
                    have hf12 : r11 = dg (much - less) k.toNat := hf12
                    refine lv_goto (tgt := 150) hx hb dX9_hint_145 (by decide) ?_
                    exact Ct.iret hx hb hr hlocks (hP.sub [0] rfl) (hD.sub [0] (by decide) rfl) hS ⟨by decide, by decide⟩ dX9_hint_150 ⟨r11, (va_up (va_up i 13 much) 14 less), rfl, rfl, (by unfold hintF; rw [if_neg hok, if_neg (by omega), ← hsm]; first | (rw [if_pos (by omega)]; assumption) | rw [if_neg (by omega)]), (Or.inr ⟨by omega, by omega, rfl⟩)⟩
                · refine lv_bipush (v := iI (-2)) hx hb dX9_hint_130 (by decide) ?_
                  exact Ct.iret hx hb hr hlocks (hP.sub [0] rfl) (hD.sub [0] (by decide) rfl) hS ⟨by decide, by decide⟩ dX9_hint_132 ⟨(-2), (va_up (va_up i 13 much) 14 less), rfl, rfl, (by unfold hintF; rw [if_neg hok, if_pos (by omega)]), (Or.inr ⟨by omega, by omega, rfl⟩)⟩
              refine lv_iload hx hb dX9_hint_94 (lv_at hl 6 rfl) ?_
              refine iv_if_ne (tgt := 103) hx hb dX9_hint_96 (by decide) (by omega) (fun hc13 => ?_) (fun hc13 => ?_)
              · refine lv_iload hx hb dX9_hint_103 (lv_at hl 6 rfl) ?_
                refine lv_iconst (v := iI (1)) hx hb dX9_hint_105 rfl ?_
                refine iv_icmp_ne (tgt := 117) hx hb dX9_hint_106 (by decide) (by omega) (fun hc14 => ?_) (fun hc14 => ?_)
                · refine lv_iload hx hb dX9_hint_117 (lv_at hl 0 rfl) ?_
                  refine lv_bipush (v := iI (100)) hx hb dX9_hint_119 (by decide) ?_
                  refine iv_irem hx hb dX9_hint_121 (by omega) ?_
                  exact hjoin122 ((much - less) % 100) (by rcases (show k.toNat = 0 ∨ k.toNat = 1 ∨ k.toNat = 2 by omega) with hq | hq | hq <;> rw [hq] <;> (first | rw [htt.1] | rw [htt.2.1] | rw [htt.2.2]) <;> omega) H locs ls (hP.sub [0] rfl) (hD.sub [0] (by decide) rfl) hS (lv_sub hl [0, 1, 2, 3, 4, 5, 6] rfl)
                · refine lv_iload hx hb dX9_hint_109 (lv_at hl 0 rfl) ?_
                  refine lv_bipush (v := iI (10)) hx hb dX9_hint_111 (by decide) ?_
                  refine iv_irem hx hb dX9_hint_113 (by omega) ?_
                  refine lv_goto (tgt := 122) hx hb dX9_hint_114 (by decide) ?_
                  exact hjoin122 ((much - less) % 10) (by rcases (show k.toNat = 0 ∨ k.toNat = 1 ∨ k.toNat = 2 by omega) with hq | hq | hq <;> rw [hq] <;> (first | rw [htt.1] | rw [htt.2.1] | rw [htt.2.2]) <;> omega) H locs ls (hP.sub [0] rfl) (hD.sub [0] (by decide) rfl) hS (lv_sub hl [0, 1, 2, 3, 4, 5, 6] rfl)
              · refine lv_iconst (v := iI (0)) hx hb dX9_hint_99 rfl ?_
                refine lv_goto (tgt := 122) hx hb dX9_hint_100 (by decide) ?_
                exact hjoin122 0 (by rcases (show k.toNat = 0 ∨ k.toNat = 1 ∨ k.toNat = 2 by omega) with hq | hq | hq <;> rw [hq] <;> (first | rw [htt.1] | rw [htt.2.1] | rw [htt.2.2]) <;> omega) H locs ls (hP.sub [0] rfl) (hD.sub [0] (by decide) rfl) hS (lv_sub hl [0, 1, 2, 3, 4, 5, 6] rfl)
            refine lv_aload_n hx hb dX9_hint_56 rfl (lv_at hl 0 rfl) ?_
            refine va_get (D := g.1) (ci := 9) (v := .int (iI (i 13))) hx hb hts kX9_hint_9 hown hG.1 hP 0 rfl rfl 13 (by decide) (hts _ (List.mem_of_getElem? (i := 4) rfl)) (fun _ h9 => h9) rfl dX9_hint_57 ?_
            refine lv_iload_n hx hb dX9_hint_60 rfl (lv_at hl 1 rfl) ?_
            refine iv_icmp_ne (tgt := 76) hx hb dX9_hint_61 (by decide) (by omega) (fun hc15 => ?_) (fun hc15 => ?_)
            · refine lv_iconst (v := iI (0)) hx hb dX9_hint_76 rfl ?_
              exact hjoin77 0 (by split <;> omega) (by omega) H locs ls (hP.sub [0] rfl) (hD.sub [0] (by decide) rfl) hS (lv_sub hl [0, 1, 2, 3, 4] rfl)
            · refine lv_aload_n hx hb dX9_hint_64 rfl (lv_at hl 0 rfl) ?_
              refine va_get (D := g.1) (ci := 9) (v := .int (iI (i 14))) hx hb hts kX9_hint_9 hown hG.1 hP 0 rfl rfl 14 (by decide) (hts _ (List.mem_of_getElem? (i := 5) rfl)) (fun _ h9 => h9) rfl dX9_hint_65 ?_
              refine lv_iload_n hx hb dX9_hint_68 rfl (lv_at hl 2 rfl) ?_
              refine iv_icmp_ne (tgt := 76) hx hb dX9_hint_69 (by decide) (by omega) (fun hc16 => ?_) (fun hc16 => ?_)
              · refine lv_iconst (v := iI (0)) hx hb dX9_hint_76 rfl ?_
                exact hjoin77 0 (by split <;> omega) (by omega) H locs ls (hP.sub [0] rfl) (hD.sub [0] (by decide) rfl) hS (lv_sub hl [0, 1, 2, 3, 4] rfl)
              · refine lv_iconst (v := iI (1)) hx hb dX9_hint_72 rfl ?_
                refine lv_goto (tgt := 77) hx hb dX9_hint_73 (by decide) ?_
                exact hjoin77 1 (by split <;> omega) (by omega) H locs ls (hP.sub [0] rfl) (hD.sub [0] (by decide) rfl) hS (lv_sub hl [0, 1, 2, 3, 4] rfl)
          · show W p l e _ s m _ below meth c H locs 0 0 _ (F0 m 51 ls (.int (iI 0) :: []))
            have hb7 : ¬ (0 ≤ w_ ∧ w_ ≤ 99) := hb7
            have hP : va_P g.1 vwCl [(hm, .inr (9, mF a i))] H := hP
            have hD : va_D A [(hm, .inr (9, mF a i))] := hD
            refine iv_if_ne (tgt := 56) hx hb dX9_hint_51 (by decide) (by decide) (fun h => absurd h (by decide)) (fun _ => ?_)
            refine lv_iconst (v := iI (-1)) hx hb dX9_hint_54 rfl ?_
            exact Ct.iret hx hb hr hlocks (hP.sub [0] rfl) (hD.sub [0] (by decide) rfl) hS ⟨by decide, by decide⟩ dX9_hint_55 ⟨(-1), i, rfl, rfl, (by unfold hintF; rw [if_pos (by first | omega | (intro hz; have hz2 := hz.2.2; rcases (show k.toNat = 0 ∨ k.toNat = 1 ∨ k.toNat = 2 by omega) with hq | hq | hq <;> rw [hq] at hz2 <;> omega))]), (Or.inl ⟨rfl, rfl⟩)⟩
        · refine iv_ldc2 (v := 9) (z := 9) hx hb hown (hts _ (List.mem_of_getElem? (i := 2) rfl)) dX9_hint_39 (by decide) ?_
          refine lv_goto (tgt := 48) hx hb dX9_hint_42 (by decide) ?_
          refine Ct.callS (As := [.long (lI w_), .long (lI 0), .long (lI 9)]) (rest := []) (wr := [(hm, .inr (9, mF a i))]) (c1 := 0) (s1 := 0) ⟨hx, hb, hml, hown, hts⟩ (c_X9_in l g w_ 0 9 (by omega)) (va_cwS 3 hts gX9_hint_X9_in rfl rfl rfl (by decide +kernel) ⟨Nat.le_of_ble_eq_true rfl, Nat.le_of_ble_eq_true rfl⟩) hG hP hD hS hA [] [0] rfl rfl (by decide) (by decide) (by decide) rfl hl.1 rfl (Nat.le_of_ble_eq_true rfl) dX9_hint_48 ⟨Nat.le_of_ble_eq_true rfl, Nat.le_of_ble_eq_true rfl⟩ rfl rfl (fun v w H locs hv hP hD hS => ?_)
          obtain ⟨⟨rfl, hb18⟩ | ⟨rfl, hb18⟩, rfl⟩ := hv
          · show W p l e _ s m _ below meth c H locs 0 0 _ (F0 m 51 ls (.int (iI 1) :: []))
            have hb18 : 0 ≤ w_ ∧ w_ ≤ 9 := hb18
            have hP : va_P g.1 vwCl [(hm, .inr (9, mF a i))] H := hP
            have hD : va_D A [(hm, .inr (9, mF a i))] := hD
            refine iv_if_ne (tgt := 56) hx hb dX9_hint_51 (by decide) (by decide) (fun _ => ?_) (fun h => absurd h (by decide))
            have hok : ¬ ¬ (TaskP much less ∧ (0 ≤ k ∧ k ≤ 2) ∧ 0 ≤ w_ ∧ w_ ≤ tT k.toNat - 1) := fun hz => hz ⟨by omega, by omega, by omega, by rcases (show k.toNat = 0 ∨ k.toNat = 1 ∨ k.toNat = 2 by omega) with hq | hq | hq <;> rw [hq] <;> omega⟩
            have hjoin77 : ∀ (sm : Int) (hsm : sm = (if i 13 = much ∧ i 14 = less then 1 else 0)) (hsm2 : sm = 0 ∨ sm = 1), ∀ (H : Heap) (locs : List Loc) (ls : Array Slot), va_P g.1 vwCl [(hm, .inr (9, mF a i))] H → va_D A [(hm, .inr (9, mF a i))] → va_S A s.heap H locs → lv_has ls 8 [(0, .ref hm), (1, .int (iI much)), (2, .int (iI less)), (3, .int (iI w_)), (4, .int (iI k))] → W p l e ({ frames := 2, cells := 0, slots := 0, locals := 46 } : Room) s m [.ref hm, .int (iI much), .int (iI less), .int (iI w_), .int (iI k)].toArray below meth c H locs 0 0 (MQ below (CQ g (q_X9_hint g hm a i much less w_ k) A) [.ref hm, .int (iI much), .int (iI less), .int (iI w_), .int (iI k)].toArray s ({ frames := 2, cells := 0, slots := 0, locals := 46 } : Room).cells ({ frames := 2, cells := 0, slots := 0, locals := 46 } : Room).slots A) (F0 m 77 ls [.int (iI sm)]) := by
              intro sm hsm hsm2 H locs ls hP hD hS hl
              refine lv_istore (lv' := [(5, .int (iI sm)), (0, .ref hm), (1, .int (iI much)), (2, .int (iI less)), (3, .int (iI w_)), (4, .int (iI k))]) hx hb dX9_hint_77 hl (by decide) rfl (fun ls hl => ?_)
              refine lv_aload_n hx hb dX9_hint_79 rfl (lv_at hl 1 rfl) ?_
              refine lv_iload_n hx hb dX9_hint_80 rfl (lv_at hl 2 rfl) ?_
              refine va_put (D := g.1) (ci := 9) (v := .int (iI much)) hx hb hts kX9_hint_9 tyX9 tyX9_ok nmX9 hown hG.1 hP hD hS 0 rfl rfl 13 (by decide) (hts _ (List.mem_of_getElem? (i := 4) rfl)) (fun _ h9 => h9) rfl (tyX9_ok 13 (by decide)) rfl rfl (Nat.le_of_ble_eq_true rfl) dX9_hint_81 (fun H locs hP hD hS => ?_)
              have hP : va_P g.1 vwCl [(hm, .inr (9, mF a (va_up i 13 much)))] H := hP
              have hD : va_D A [(hm, .inr (9, mF a (va_up i 13 much)))] := hD
              refine lv_aload_n hx hb dX9_hint_84 rfl (lv_at hl 1 rfl) ?_
              refine lv_iload_n hx hb dX9_hint_85 rfl (lv_at hl 3 rfl) ?_
              refine va_put (D := g.1) (ci := 9) (v := .int (iI less)) hx hb hts kX9_hint_9 tyX9 tyX9_ok nmX9 hown hG.1 hP hD hS 0 rfl rfl 14 (by decide) (hts _ (List.mem_of_getElem? (i := 5) rfl)) (fun _ h9 => h9) rfl (tyX9_ok 14 (by decide)) rfl rfl (Nat.le_of_ble_eq_true rfl) dX9_hint_86 (fun H locs hP hD hS => ?_)
              have hP : va_P g.1 vwCl [(hm, .inr (9, mF a (va_up (va_up i 13 much) 14 less)))] H := hP
              have hD : va_D A [(hm, .inr (9, mF a (va_up (va_up i 13 much) 14 less)))] := hD
              refine lv_iload_n hx hb dX9_hint_89 rfl (lv_at hl 2 rfl) ?_
              refine lv_iload_n hx hb dX9_hint_90 rfl (lv_at hl 3 rfl) ?_
              refine iv_isub hx hb dX9_hint_91 ?_
              refine lv_istore (lv' := [(6, .int (iI (much - less))), (5, .int (iI sm)), (0, .ref hm), (1, .int (iI much)), (2, .int (iI less)), (3, .int (iI w_)), (4, .int (iI k))]) hx hb dX9_hint_92 hl (by decide) rfl (fun ls hl => ?_)
              have hdgr := dg_rng (much - less) k.toNat
              have hjoin122 : ∀ (lo : Int) (hlo : lo = (much - less) % tT k.toNat ∧ 0 ≤ lo ∧ lo ≤ 99), ∀ (H : Heap) (locs : List Loc) (ls : Array Slot), va_P g.1 vwCl [(hm, .inr (9, mF a (va_up (va_up i 13 much) 14 less)))] H → va_D A [(hm, .inr (9, mF a (va_up (va_up i 13 much) 14 less)))] → va_S A s.heap H locs → lv_has ls 8 [(6, .int (iI (much - less))), (5, .int (iI sm)), (0, .ref hm), (1, .int (iI much)), (2, .int (iI less)), (3, .int (iI w_)), (4, .int (iI k))] → W p l e ({ frames := 2, cells := 0, slots := 0, locals := 46 } : Room) s m [.ref hm, .int (iI much), .int (iI less), .int (iI w_), .int (iI k)].toArray below meth c H locs 0 0 (MQ below (CQ g (q_X9_hint g hm a i much less w_ k) A) [.ref hm, .int (iI much), .int (iI less), .int (iI w_), .int (iI k)].toArray s ({ frames := 2, cells := 0, slots := 0, locals := 46 } : Room).cells ({ frames := 2, cells := 0, slots := 0, locals := 46 } : Room).slots A) (F0 m 122 ls [.int (iI lo)]) := by
                intro lo hlo H locs ls hP hD hS hl
                refine lv_istore (lv' := [(7, .int (iI lo)), (6, .int (iI (much - less))), (5, .int (iI sm)), (0, .ref hm), (1, .int (iI much)), (2, .int (iI less)), (3, .int (iI w_)), (4, .int (iI k))]) hx hb dX9_hint_122 hl (by decide) rfl (fun ls hl => ?_)
                refine lv_iload_n hx hb dX9_hint_124 rfl (lv_at hl 6 rfl) ?_
                refine lv_iload hx hb dX9_hint_125 (lv_at hl 0 rfl) ?_
                refine iv_icmp_eq (tgt := 133) hx hb dX9_hint_127 (by decide) (by omega) (fun hc20 => ?_) (fun hc20 => ?_)
                · refine lv_iload hx hb dX9_hint_133 (lv_at hl 2 rfl) ?_
                  refine iv_if_eq (tgt := 148) hx hb dX9_hint_135 (by decide) (by omega) (fun hc21 => ?_) (fun hc21 => ?_)
                  · refine lv_bipush (v := iI (-5)) hx hb dX9_hint_148 (by decide) ?_
                    exact Ct.iret hx hb hr hlocks (hP.sub [0] rfl) (hD.sub [0] (by decide) rfl) hS ⟨by decide, by decide⟩ dX9_hint_150 ⟨(-5), (va_up (va_up i 13 much) 14 less), rfl, rfl, (by unfold hintF; rw [if_neg hok, if_neg (by omega), ← hsm]; first | (rw [if_pos (by omega)]; assumption) | rw [if_neg (by omega)]), (Or.inr ⟨by omega, by omega, rfl⟩)⟩
                  · refine lv_iload hx hb dX9_hint_138 (lv_at hl 1 rfl) ?_
                    refine lv_iload hx hb dX9_hint_140 (lv_at hl 7 rfl) ?_
                    refine Ct.callS (As := [.int (iI (much - less)), .int (iI k)]) (rest := []) (wr := [(hm, .inr (9, mF a (va_up (va_up i 13 much) 14 less)))]) (c1 := 0) (s1 := 0) ⟨hx, hb, hml, hown, hts⟩ (c_X9_digitOf l g (much - less) k k.toNat (by omega)) (va_cwS 2 hts gX9_hint_X9_digitOf rfl rfl rfl (by decide +kernel) ⟨Nat.le_of_ble_eq_true rfl, Nat.le_of_ble_eq_true rfl⟩) hG hP hD hS hA [] [0] rfl rfl (by decide) (by decide) (by decide) rfl hl.1 rfl (Nat.le_of_ble_eq_true rfl) dX9_hint_142 ⟨Nat.le_of_ble_eq_true rfl, Nat.le_of_ble_eq_true rfl⟩ rfl rfl (fun v w H locs hv hP hD hS => ?_)
                    obtain ⟨r22, rfl, rfl, hf23⟩ := hv
                    show W p l e _ s m _ below meth c H locs 0 0 _ (F0 m 145 ls (.int (iI r22) :: []))
                    have hP : va_P g.1 vwCl [(hm, .inr (9, mF a (va_up (va_up i 13 much) 14 less)))] H := hP
                    have hD : va_D A [(hm, .inr (9, mF a (va_up (va_up i 13 much) 14 less)))] := hD
                    have hf23 : r22 = dg (much - less) k.toNat := hf23
                    refine lv_goto (tgt := 150) hx hb dX9_hint_145 (by decide) ?_
                    exact Ct.iret hx hb hr hlocks (hP.sub [0] rfl) (hD.sub [0] (by decide) rfl) hS ⟨by decide, by decide⟩ dX9_hint_150 ⟨r22, (va_up (va_up i 13 much) 14 less), rfl, rfl, (by unfold hintF; rw [if_neg hok, if_neg (by omega), ← hsm]; first | (rw [if_pos (by omega)]; assumption) | rw [if_neg (by omega)]), (Or.inr ⟨by omega, by omega, rfl⟩)⟩
                · refine lv_bipush (v := iI (-2)) hx hb dX9_hint_130 (by decide) ?_
                  exact Ct.iret hx hb hr hlocks (hP.sub [0] rfl) (hD.sub [0] (by decide) rfl) hS ⟨by decide, by decide⟩ dX9_hint_132 ⟨(-2), (va_up (va_up i 13 much) 14 less), rfl, rfl, (by unfold hintF; rw [if_neg hok, if_pos (by omega)]), (Or.inr ⟨by omega, by omega, rfl⟩)⟩
              refine lv_iload hx hb dX9_hint_94 (lv_at hl 6 rfl) ?_
              refine iv_if_ne (tgt := 103) hx hb dX9_hint_96 (by decide) (by omega) (fun hc24 => ?_) (fun hc24 => ?_)
              · refine lv_iload hx hb dX9_hint_103 (lv_at hl 6 rfl) ?_
                refine lv_iconst (v := iI (1)) hx hb dX9_hint_105 rfl ?_
                refine iv_icmp_ne (tgt := 117) hx hb dX9_hint_106 (by decide) (by omega) (fun hc25 => ?_) (fun hc25 => ?_)
                · refine lv_iload hx hb dX9_hint_117 (lv_at hl 0 rfl) ?_
                  refine lv_bipush (v := iI (100)) hx hb dX9_hint_119 (by decide) ?_
                  refine iv_irem hx hb dX9_hint_121 (by omega) ?_
                  exact hjoin122 ((much - less) % 100) (by rcases (show k.toNat = 0 ∨ k.toNat = 1 ∨ k.toNat = 2 by omega) with hq | hq | hq <;> rw [hq] <;> (first | rw [htt.1] | rw [htt.2.1] | rw [htt.2.2]) <;> omega) H locs ls (hP.sub [0] rfl) (hD.sub [0] (by decide) rfl) hS (lv_sub hl [0, 1, 2, 3, 4, 5, 6] rfl)
                · refine lv_iload hx hb dX9_hint_109 (lv_at hl 0 rfl) ?_
                  refine lv_bipush (v := iI (10)) hx hb dX9_hint_111 (by decide) ?_
                  refine iv_irem hx hb dX9_hint_113 (by omega) ?_
                  refine lv_goto (tgt := 122) hx hb dX9_hint_114 (by decide) ?_
                  exact hjoin122 ((much - less) % 10) (by rcases (show k.toNat = 0 ∨ k.toNat = 1 ∨ k.toNat = 2 by omega) with hq | hq | hq <;> rw [hq] <;> (first | rw [htt.1] | rw [htt.2.1] | rw [htt.2.2]) <;> omega) H locs ls (hP.sub [0] rfl) (hD.sub [0] (by decide) rfl) hS (lv_sub hl [0, 1, 2, 3, 4, 5, 6] rfl)
              · refine lv_iconst (v := iI (0)) hx hb dX9_hint_99 rfl ?_
                refine lv_goto (tgt := 122) hx hb dX9_hint_100 (by decide) ?_
                exact hjoin122 0 (by rcases (show k.toNat = 0 ∨ k.toNat = 1 ∨ k.toNat = 2 by omega) with hq | hq | hq <;> rw [hq] <;> (first | rw [htt.1] | rw [htt.2.1] | rw [htt.2.2]) <;> omega) H locs ls (hP.sub [0] rfl) (hD.sub [0] (by decide) rfl) hS (lv_sub hl [0, 1, 2, 3, 4, 5, 6] rfl)
            refine lv_aload_n hx hb dX9_hint_56 rfl (lv_at hl 0 rfl) ?_
            refine va_get (D := g.1) (ci := 9) (v := .int (iI (i 13))) hx hb hts kX9_hint_9 hown hG.1 hP 0 rfl rfl 13 (by decide) (hts _ (List.mem_of_getElem? (i := 4) rfl)) (fun _ h9 => h9) rfl dX9_hint_57 ?_
            refine lv_iload_n hx hb dX9_hint_60 rfl (lv_at hl 1 rfl) ?_
            refine iv_icmp_ne (tgt := 76) hx hb dX9_hint_61 (by decide) (by omega) (fun hc26 => ?_) (fun hc26 => ?_)
            · refine lv_iconst (v := iI (0)) hx hb dX9_hint_76 rfl ?_
              exact hjoin77 0 (by split <;> omega) (by omega) H locs ls (hP.sub [0] rfl) (hD.sub [0] (by decide) rfl) hS (lv_sub hl [0, 1, 2, 3, 4] rfl)
            · refine lv_aload_n hx hb dX9_hint_64 rfl (lv_at hl 0 rfl) ?_
              refine va_get (D := g.1) (ci := 9) (v := .int (iI (i 14))) hx hb hts kX9_hint_9 hown hG.1 hP 0 rfl rfl 14 (by decide) (hts _ (List.mem_of_getElem? (i := 5) rfl)) (fun _ h9 => h9) rfl dX9_hint_65 ?_
              refine lv_iload_n hx hb dX9_hint_68 rfl (lv_at hl 2 rfl) ?_
              refine iv_icmp_ne (tgt := 76) hx hb dX9_hint_69 (by decide) (by omega) (fun hc27 => ?_) (fun hc27 => ?_)
              · refine lv_iconst (v := iI (0)) hx hb dX9_hint_76 rfl ?_
                exact hjoin77 0 (by split <;> omega) (by omega) H locs ls (hP.sub [0] rfl) (hD.sub [0] (by decide) rfl) hS (lv_sub hl [0, 1, 2, 3, 4] rfl)
              · refine lv_iconst (v := iI (1)) hx hb dX9_hint_72 rfl ?_
                refine lv_goto (tgt := 77) hx hb dX9_hint_73 (by decide) ?_
                exact hjoin77 1 (by split <;> omega) (by omega) H locs ls (hP.sub [0] rfl) (hD.sub [0] (by decide) rfl) hS (lv_sub hl [0, 1, 2, 3, 4] rfl)
          · show W p l e _ s m _ below meth c H locs 0 0 _ (F0 m 51 ls (.int (iI 0) :: []))
            have hb18 : ¬ (0 ≤ w_ ∧ w_ ≤ 9) := hb18
            have hP : va_P g.1 vwCl [(hm, .inr (9, mF a i))] H := hP
            have hD : va_D A [(hm, .inr (9, mF a i))] := hD
            refine iv_if_ne (tgt := 56) hx hb dX9_hint_51 (by decide) (by decide) (fun h => absurd h (by decide)) (fun _ => ?_)
            refine lv_iconst (v := iI (-1)) hx hb dX9_hint_54 rfl ?_
            exact Ct.iret hx hb hr hlocks (hP.sub [0] rfl) (hD.sub [0] (by decide) rfl) hS ⟨by decide, by decide⟩ dX9_hint_55 ⟨(-1), i, rfl, rfl, (by unfold hintF; rw [if_pos (by first | omega | (intro hz; have hz2 := hz.2.2; rcases (show k.toNat = 0 ∨ k.toNat = 1 ∨ k.toNat = 2 by omega) with hq | hq | hq <;> rw [hq] at hz2 <;> omega))]), (Or.inl ⟨rfl, rfl⟩)⟩
      · refine lv_lconst (v := lI (0)) hx hb dX9_hint_29 (by decide) ?_
        refine lv_goto (tgt := 48) hx hb dX9_hint_30 (by decide) ?_
        refine Ct.callS (As := [.long (lI w_), .long (lI 0), .long (lI 0)]) (rest := []) (wr := [(hm, .inr (9, mF a i))]) (c1 := 0) (s1 := 0) ⟨hx, hb, hml, hown, hts⟩ (c_X9_in l g w_ 0 0 (by omega)) (va_cwS 3 hts gX9_hint_X9_in rfl rfl rfl (by decide +kernel) ⟨Nat.le_of_ble_eq_true rfl, Nat.le_of_ble_eq_true rfl⟩) hG hP hD hS hA [] [0] rfl rfl (by decide) (by decide) (by decide) rfl hl.1 rfl (Nat.le_of_ble_eq_true rfl) dX9_hint_48 ⟨Nat.le_of_ble_eq_true rfl, Nat.le_of_ble_eq_true rfl⟩ rfl rfl (fun v w H locs hv hP hD hS => ?_)
        obtain ⟨⟨rfl, hb29⟩ | ⟨rfl, hb29⟩, rfl⟩ := hv
        · show W p l e _ s m _ below meth c H locs 0 0 _ (F0 m 51 ls (.int (iI 1) :: []))
          have hb29 : 0 ≤ w_ ∧ w_ ≤ 0 := hb29
          have hP : va_P g.1 vwCl [(hm, .inr (9, mF a i))] H := hP
          have hD : va_D A [(hm, .inr (9, mF a i))] := hD
          refine iv_if_ne (tgt := 56) hx hb dX9_hint_51 (by decide) (by decide) (fun _ => ?_) (fun h => absurd h (by decide))
          have hok : ¬ ¬ (TaskP much less ∧ (0 ≤ k ∧ k ≤ 2) ∧ 0 ≤ w_ ∧ w_ ≤ tT k.toNat - 1) := fun hz => hz ⟨by omega, by omega, by omega, by rcases (show k.toNat = 0 ∨ k.toNat = 1 ∨ k.toNat = 2 by omega) with hq | hq | hq <;> rw [hq] <;> omega⟩
          have hjoin77 : ∀ (sm : Int) (hsm : sm = (if i 13 = much ∧ i 14 = less then 1 else 0)) (hsm2 : sm = 0 ∨ sm = 1), ∀ (H : Heap) (locs : List Loc) (ls : Array Slot), va_P g.1 vwCl [(hm, .inr (9, mF a i))] H → va_D A [(hm, .inr (9, mF a i))] → va_S A s.heap H locs → lv_has ls 8 [(0, .ref hm), (1, .int (iI much)), (2, .int (iI less)), (3, .int (iI w_)), (4, .int (iI k))] → W p l e ({ frames := 2, cells := 0, slots := 0, locals := 46 } : Room) s m [.ref hm, .int (iI much), .int (iI less), .int (iI w_), .int (iI k)].toArray below meth c H locs 0 0 (MQ below (CQ g (q_X9_hint g hm a i much less w_ k) A) [.ref hm, .int (iI much), .int (iI less), .int (iI w_), .int (iI k)].toArray s ({ frames := 2, cells := 0, slots := 0, locals := 46 } : Room).cells ({ frames := 2, cells := 0, slots := 0, locals := 46 } : Room).slots A) (F0 m 77 ls [.int (iI sm)]) := by
            intro sm hsm hsm2 H locs ls hP hD hS hl
            refine lv_istore (lv' := [(5, .int (iI sm)), (0, .ref hm), (1, .int (iI much)), (2, .int (iI less)), (3, .int (iI w_)), (4, .int (iI k))]) hx hb dX9_hint_77 hl (by decide) rfl (fun ls hl => ?_)
            refine lv_aload_n hx hb dX9_hint_79 rfl (lv_at hl 1 rfl) ?_
            refine lv_iload_n hx hb dX9_hint_80 rfl (lv_at hl 2 rfl) ?_
            refine va_put (D := g.1) (ci := 9) (v := .int (iI much)) hx hb hts kX9_hint_9 tyX9 tyX9_ok nmX9 hown hG.1 hP hD hS 0 rfl rfl 13 (by decide) (hts _ (List.mem_of_getElem? (i := 4) rfl)) (fun _ h9 => h9) rfl (tyX9_ok 13 (by decide)) rfl rfl (Nat.le_of_ble_eq_true rfl) dX9_hint_81 (fun H locs hP hD hS => ?_)
            have hP : va_P g.1 vwCl [(hm, .inr (9, mF a (va_up i 13 much)))] H := hP
            have hD : va_D A [(hm, .inr (9, mF a (va_up i 13 much)))] := hD
            refine lv_aload_n hx hb dX9_hint_84 rfl (lv_at hl 1 rfl) ?_
            refine lv_iload_n hx hb dX9_hint_85 rfl (lv_at hl 3 rfl) ?_
            refine va_put (D := g.1) (ci := 9) (v := .int (iI less)) hx hb hts kX9_hint_9 tyX9 tyX9_ok nmX9 hown hG.1 hP hD hS 0 rfl rfl 14 (by decide) (hts _ (List.mem_of_getElem? (i := 5) rfl)) (fun _ h9 => h9) rfl (tyX9_ok 14 (by decide)) rfl rfl (Nat.le_of_ble_eq_true rfl) dX9_hint_86 (fun H locs hP hD hS => ?_)
            have hP : va_P g.1 vwCl [(hm, .inr (9, mF a (va_up (va_up i 13 much) 14 less)))] H := hP
            have hD : va_D A [(hm, .inr (9, mF a (va_up (va_up i 13 much) 14 less)))] := hD
            refine lv_iload_n hx hb dX9_hint_89 rfl (lv_at hl 2 rfl) ?_
            refine lv_iload_n hx hb dX9_hint_90 rfl (lv_at hl 3 rfl) ?_
            refine iv_isub hx hb dX9_hint_91 ?_
            refine lv_istore (lv' := [(6, .int (iI (much - less))), (5, .int (iI sm)), (0, .ref hm), (1, .int (iI much)), (2, .int (iI less)), (3, .int (iI w_)), (4, .int (iI k))]) hx hb dX9_hint_92 hl (by decide) rfl (fun ls hl => ?_)
            have hdgr := dg_rng (much - less) k.toNat
            have hjoin122 : ∀ (lo : Int) (hlo : lo = (much - less) % tT k.toNat ∧ 0 ≤ lo ∧ lo ≤ 99), ∀ (H : Heap) (locs : List Loc) (ls : Array Slot), va_P g.1 vwCl [(hm, .inr (9, mF a (va_up (va_up i 13 much) 14 less)))] H → va_D A [(hm, .inr (9, mF a (va_up (va_up i 13 much) 14 less)))] → va_S A s.heap H locs → lv_has ls 8 [(6, .int (iI (much - less))), (5, .int (iI sm)), (0, .ref hm), (1, .int (iI much)), (2, .int (iI less)), (3, .int (iI w_)), (4, .int (iI k))] → W p l e ({ frames := 2, cells := 0, slots := 0, locals := 46 } : Room) s m [.ref hm, .int (iI much), .int (iI less), .int (iI w_), .int (iI k)].toArray below meth c H locs 0 0 (MQ below (CQ g (q_X9_hint g hm a i much less w_ k) A) [.ref hm, .int (iI much), .int (iI less), .int (iI w_), .int (iI k)].toArray s ({ frames := 2, cells := 0, slots := 0, locals := 46 } : Room).cells ({ frames := 2, cells := 0, slots := 0, locals := 46 } : Room).slots A) (F0 m 122 ls [.int (iI lo)]) := by
              intro lo hlo H locs ls hP hD hS hl
              refine lv_istore (lv' := [(7, .int (iI lo)), (6, .int (iI (much - less))), (5, .int (iI sm)), (0, .ref hm), (1, .int (iI much)), (2, .int (iI less)), (3, .int (iI w_)), (4, .int (iI k))]) hx hb dX9_hint_122 hl (by decide) rfl (fun ls hl => ?_)
              refine lv_iload_n hx hb dX9_hint_124 rfl (lv_at hl 6 rfl) ?_
              refine lv_iload hx hb dX9_hint_125 (lv_at hl 0 rfl) ?_
              refine iv_icmp_eq (tgt := 133) hx hb dX9_hint_127 (by decide) (by omega) (fun hc31 => ?_) (fun hc31 => ?_)
              · refine lv_iload hx hb dX9_hint_133 (lv_at hl 2 rfl) ?_
                refine iv_if_eq (tgt := 148) hx hb dX9_hint_135 (by decide) (by omega) (fun hc32 => ?_) (fun hc32 => ?_)
                · refine lv_bipush (v := iI (-5)) hx hb dX9_hint_148 (by decide) ?_
                  exact Ct.iret hx hb hr hlocks (hP.sub [0] rfl) (hD.sub [0] (by decide) rfl) hS ⟨by decide, by decide⟩ dX9_hint_150 ⟨(-5), (va_up (va_up i 13 much) 14 less), rfl, rfl, (by unfold hintF; rw [if_neg hok, if_neg (by omega), ← hsm]; first | (rw [if_pos (by omega)]; assumption) | rw [if_neg (by omega)]), (Or.inr ⟨by omega, by omega, rfl⟩)⟩
                · refine lv_iload hx hb dX9_hint_138 (lv_at hl 1 rfl) ?_
                  refine lv_iload hx hb dX9_hint_140 (lv_at hl 7 rfl) ?_
                  refine Ct.callS (As := [.int (iI (much - less)), .int (iI k)]) (rest := []) (wr := [(hm, .inr (9, mF a (va_up (va_up i 13 much) 14 less)))]) (c1 := 0) (s1 := 0) ⟨hx, hb, hml, hown, hts⟩ (c_X9_digitOf l g (much - less) k k.toNat (by omega)) (va_cwS 2 hts gX9_hint_X9_digitOf rfl rfl rfl (by decide +kernel) ⟨Nat.le_of_ble_eq_true rfl, Nat.le_of_ble_eq_true rfl⟩) hG hP hD hS hA [] [0] rfl rfl (by decide) (by decide) (by decide) rfl hl.1 rfl (Nat.le_of_ble_eq_true rfl) dX9_hint_142 ⟨Nat.le_of_ble_eq_true rfl, Nat.le_of_ble_eq_true rfl⟩ rfl rfl (fun v w H locs hv hP hD hS => ?_)
                  obtain ⟨r33, rfl, rfl, hf34⟩ := hv
                  show W p l e _ s m _ below meth c H locs 0 0 _ (F0 m 145 ls (.int (iI r33) :: []))
                  have hP : va_P g.1 vwCl [(hm, .inr (9, mF a (va_up (va_up i 13 much) 14 less)))] H := hP
                  have hD : va_D A [(hm, .inr (9, mF a (va_up (va_up i 13 much) 14 less)))] := hD
                  have hf34 : r33 = dg (much - less) k.toNat := hf34
                  refine lv_goto (tgt := 150) hx hb dX9_hint_145 (by decide) ?_
                  exact Ct.iret hx hb hr hlocks (hP.sub [0] rfl) (hD.sub [0] (by decide) rfl) hS ⟨by decide, by decide⟩ dX9_hint_150 ⟨r33, (va_up (va_up i 13 much) 14 less), rfl, rfl, (by unfold hintF; rw [if_neg hok, if_neg (by omega), ← hsm]; first | (rw [if_pos (by omega)]; assumption) | rw [if_neg (by omega)]), (Or.inr ⟨by omega, by omega, rfl⟩)⟩
              · refine lv_bipush (v := iI (-2)) hx hb dX9_hint_130 (by decide) ?_
                exact Ct.iret hx hb hr hlocks (hP.sub [0] rfl) (hD.sub [0] (by decide) rfl) hS ⟨by decide, by decide⟩ dX9_hint_132 ⟨(-2), (va_up (va_up i 13 much) 14 less), rfl, rfl, (by unfold hintF; rw [if_neg hok, if_pos (by omega)]), (Or.inr ⟨by omega, by omega, rfl⟩)⟩
            refine lv_iload hx hb dX9_hint_94 (lv_at hl 6 rfl) ?_
            refine iv_if_ne (tgt := 103) hx hb dX9_hint_96 (by decide) (by omega) (fun hc35 => ?_) (fun hc35 => ?_)
            · refine lv_iload hx hb dX9_hint_103 (lv_at hl 6 rfl) ?_
              refine lv_iconst (v := iI (1)) hx hb dX9_hint_105 rfl ?_
              refine iv_icmp_ne (tgt := 117) hx hb dX9_hint_106 (by decide) (by omega) (fun hc36 => ?_) (fun hc36 => ?_)
              · refine lv_iload hx hb dX9_hint_117 (lv_at hl 0 rfl) ?_
                refine lv_bipush (v := iI (100)) hx hb dX9_hint_119 (by decide) ?_
                refine iv_irem hx hb dX9_hint_121 (by omega) ?_
                exact hjoin122 ((much - less) % 100) (by rcases (show k.toNat = 0 ∨ k.toNat = 1 ∨ k.toNat = 2 by omega) with hq | hq | hq <;> rw [hq] <;> (first | rw [htt.1] | rw [htt.2.1] | rw [htt.2.2]) <;> omega) H locs ls (hP.sub [0] rfl) (hD.sub [0] (by decide) rfl) hS (lv_sub hl [0, 1, 2, 3, 4, 5, 6] rfl)
              · refine lv_iload hx hb dX9_hint_109 (lv_at hl 0 rfl) ?_
                refine lv_bipush (v := iI (10)) hx hb dX9_hint_111 (by decide) ?_
                refine iv_irem hx hb dX9_hint_113 (by omega) ?_
                refine lv_goto (tgt := 122) hx hb dX9_hint_114 (by decide) ?_
                exact hjoin122 ((much - less) % 10) (by rcases (show k.toNat = 0 ∨ k.toNat = 1 ∨ k.toNat = 2 by omega) with hq | hq | hq <;> rw [hq] <;> (first | rw [htt.1] | rw [htt.2.1] | rw [htt.2.2]) <;> omega) H locs ls (hP.sub [0] rfl) (hD.sub [0] (by decide) rfl) hS (lv_sub hl [0, 1, 2, 3, 4, 5, 6] rfl)
            · refine lv_iconst (v := iI (0)) hx hb dX9_hint_99 rfl ?_
              refine lv_goto (tgt := 122) hx hb dX9_hint_100 (by decide) ?_
              exact hjoin122 0 (by rcases (show k.toNat = 0 ∨ k.toNat = 1 ∨ k.toNat = 2 by omega) with hq | hq | hq <;> rw [hq] <;> (first | rw [htt.1] | rw [htt.2.1] | rw [htt.2.2]) <;> omega) H locs ls (hP.sub [0] rfl) (hD.sub [0] (by decide) rfl) hS (lv_sub hl [0, 1, 2, 3, 4, 5, 6] rfl)
          refine lv_aload_n hx hb dX9_hint_56 rfl (lv_at hl 0 rfl) ?_
          refine va_get (D := g.1) (ci := 9) (v := .int (iI (i 13))) hx hb hts kX9_hint_9 hown hG.1 hP 0 rfl rfl 13 (by decide) (hts _ (List.mem_of_getElem? (i := 4) rfl)) (fun _ h9 => h9) rfl dX9_hint_57 ?_
          refine lv_iload_n hx hb dX9_hint_60 rfl (lv_at hl 1 rfl) ?_
          refine iv_icmp_ne (tgt := 76) hx hb dX9_hint_61 (by decide) (by omega) (fun hc37 => ?_) (fun hc37 => ?_)
          · refine lv_iconst (v := iI (0)) hx hb dX9_hint_76 rfl ?_
            exact hjoin77 0 (by split <;> omega) (by omega) H locs ls (hP.sub [0] rfl) (hD.sub [0] (by decide) rfl) hS (lv_sub hl [0, 1, 2, 3, 4] rfl)
          · refine lv_aload_n hx hb dX9_hint_64 rfl (lv_at hl 0 rfl) ?_
            refine va_get (D := g.1) (ci := 9) (v := .int (iI (i 14))) hx hb hts kX9_hint_9 hown hG.1 hP 0 rfl rfl 14 (by decide) (hts _ (List.mem_of_getElem? (i := 5) rfl)) (fun _ h9 => h9) rfl dX9_hint_65 ?_
            refine lv_iload_n hx hb dX9_hint_68 rfl (lv_at hl 2 rfl) ?_
            refine iv_icmp_ne (tgt := 76) hx hb dX9_hint_69 (by decide) (by omega) (fun hc38 => ?_) (fun hc38 => ?_)
            · refine lv_iconst (v := iI (0)) hx hb dX9_hint_76 rfl ?_
              exact hjoin77 0 (by split <;> omega) (by omega) H locs ls (hP.sub [0] rfl) (hD.sub [0] (by decide) rfl) hS (lv_sub hl [0, 1, 2, 3, 4] rfl)
            · refine lv_iconst (v := iI (1)) hx hb dX9_hint_72 rfl ?_
              refine lv_goto (tgt := 77) hx hb dX9_hint_73 (by decide) ?_
              exact hjoin77 1 (by split <;> omega) (by omega) H locs ls (hP.sub [0] rfl) (hD.sub [0] (by decide) rfl) hS (lv_sub hl [0, 1, 2, 3, 4] rfl)
        · show W p l e _ s m _ below meth c H locs 0 0 _ (F0 m 51 ls (.int (iI 0) :: []))
          have hb29 : ¬ (0 ≤ w_ ∧ w_ ≤ 0) := hb29
          have hP : va_P g.1 vwCl [(hm, .inr (9, mF a i))] H := hP
          have hD : va_D A [(hm, .inr (9, mF a i))] := hD
          refine iv_if_ne (tgt := 56) hx hb dX9_hint_51 (by decide) (by decide) (fun h => absurd h (by decide)) (fun _ => ?_)
          refine lv_iconst (v := iI (-1)) hx hb dX9_hint_54 rfl ?_
          exact Ct.iret hx hb hr hlocks (hP.sub [0] rfl) (hD.sub [0] (by decide) rfl) hS ⟨by decide, by decide⟩ dX9_hint_55 ⟨(-1), i, rfl, rfl, (by unfold hintF; rw [if_pos (by first | omega | (intro hz; have hz2 := hz.2.2; rcases (show k.toNat = 0 ∨ k.toNat = 1 ∨ k.toNat = 2 by omega) with hq | hq | hq <;> rw [hq] at hz2 <;> omega))]), (Or.inl ⟨rfl, rfl⟩)⟩
    · show W p l e _ s m _ below meth c H locs 0 0 _ (F0 m 18 ls (.int (iI 0) :: []))
      have hb3 : ¬ (0 ≤ k ∧ k ≤ 2) := hb3
      have hP : va_P g.1 vwCl [(hm, .inr (9, mF a i))] H := hP
      have hD : va_D A [(hm, .inr (9, mF a i))] := hD
      refine iv_if_eq (tgt := 54) hx hb dX9_hint_18 (by decide) (by decide) (fun _ => ?_) (fun h => absurd h (by decide))
      refine lv_iconst (v := iI (-1)) hx hb dX9_hint_54 rfl ?_
      exact Ct.iret hx hb hr hlocks (hP.sub [0] rfl) (hD.sub [0] (by decide) rfl) hS ⟨by decide, by decide⟩ dX9_hint_55 ⟨(-1), i, rfl, rfl, (by unfold hintF; rw [if_pos (by first | omega | (intro hz; have hz2 := hz.2.2; rcases (show k.toNat = 0 ∨ k.toNat = 1 ∨ k.toNat = 2 by omega) with hq | hq | hq <;> rw [hq] at hz2 <;> omega))]), (Or.inl ⟨rfl, rfl⟩)⟩
  · show W p l e _ s m _ below meth c H locs 0 0 _ (F0 m 5 ls (.int (iI 0) :: []))
    have hb1 : ¬ (0 ≤ less ∧ less ≤ much ∧ much ≤ 999) := hb1
    have hP : va_P g.1 vwCl [(hm, .inr (9, mF a i))] H := hP
    have hD : va_D A [(hm, .inr (9, mF a i))] := hD
    refine iv_if_eq (tgt := 54) hx hb dX9_hint_5 (by decide) (by decide) (fun _ => ?_) (fun h => absurd h (by decide))
    refine lv_iconst (v := iI (-1)) hx hb dX9_hint_54 rfl ?_
    exact Ct.iret hx hb hr hlocks (hP.sub [0] rfl) (hD.sub [0] (by decide) rfl) hS ⟨by decide, by decide⟩ dX9_hint_55 ⟨(-1), i, rfl, rfl, (by unfold hintF; rw [if_pos (by first | omega | (intro hz; have hz2 := hz.2.2; rcases (show k.toNat = 0 ∨ k.toNat = 1 ∨ k.toNat = 2 by omega) with hq | hq | hq <;> rw [hq] at hz2 <;> omega))]), (Or.inl ⟨rfl, rfl⟩)⟩
