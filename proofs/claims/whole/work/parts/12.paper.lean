theorem kX4_note_4 : ∀ w ∈ u_ws RX4 TX4 3, w ∈ wsX4_note := fun _ h => List.mem_cons_of_mem _ (List.mem_append_right _ h)
abbrev q_X4_note (g : GT) (hp : Nat) (ad : Nat) (an : Nat) (aa : Nat) (fd : Nat → Int) (fn : Nat → Int) (fa : Nat → Int) (c_ : Int) (what : Int) (dig : Int) (n : Nat) : Option Value → va_W → Prop := fun v w => v = none ∧ w = [(hp, .inr (4, [.ref ad, .ref an, .ref aa])), (ad, aI (g.2.1 0) 3 (va_up fd n dig)), (an, aI (g.2.1 0) 3 (va_up fn n what)), (aa, aI (g.2.1 0) 3 fa)]
set_option maxHeartbeats 4000000 in
set_option maxRecDepth 100000 in
theorem c_X4_note (l : Launch) (g : GT) (hp : Nat) (ad : Nat) (an : Nat) (aa : Nat) (fd : Nat → Int) (fn : Nat → Int) (fa : Nat → Int) (c_ : Int) (what : Int) (dig : Int) (n : Nat) (h1 : c_ = (n : Int) ∧ n < 3) : Ct l g yX4_note wsX4_note ({ frames := 0, cells := 0, slots := 0, locals := 0 } : Room) [.ref hp, .int (iI c_), .int (iI what), .int (iI dig)] [(hp, .inr (4, [.ref ad, .ref an, .ref aa])), (ad, aI (g.2.1 0) 3 fd), (an, aI (g.2.1 0) 3 fn), (aa, aI (g.2.1 0) 3 fa)] (q_X4_note g hp ad an aa fd fn fa c_ what dig n) := by
  refine Ct.intro (maxL := 4) (ret := none) (by decide) rfl (Nat.le_of_ble_eq_true rfl) ?_
  intro p e s m below meth c A ls hx hb hr hml hown hts hlocks hnm hA hG hP hD hS hl
  have hown : s.vm.findClass RX4 = some m.cls := hown
  have hl : lv_has ls 4 [(0, .ref hp), (1, .int (iI c_)), (2, .int (iI what)), (3, .int (iI dig))] := hl
  have hP : va_P g.1 vwCl [(hp, .inr (4, [.ref ad, .ref an, .ref aa])), (ad, aI (g.2.1 0) 3 fd), (an, aI (g.2.1 0) 3 fn), (aa, aI (g.2.1 0) 3 fa)] s.heap := hP
  have hS : va_S A s.heap s.heap [] := hS
  obtain ⟨H, hHe⟩ : ∃ H : Heap, H = s.heap := ⟨_, rfl⟩
  obtain ⟨locs, hLe⟩ : ∃ L : List Loc, L = [] := ⟨_, rfl⟩
  have hP : va_P g.1 vwCl [(hp, .inr (4, [.ref ad, .ref an, .ref aa])), (ad, aI (g.2.1 0) 3 fd), (an, aI (g.2.1 0) 3 fn), (aa, aI (g.2.1 0) 3 fa)] H := by rw [hHe]; exact hP
  have hS : va_S A s.heap H locs := by rw [hHe, hLe]; exact hS
  suffices hgo : W p l e ({ frames := 0, cells := 0, slots := 0, locals := 0 } : Room) s m [.ref hp, .int (iI c_), .int (iI what), .int (iI dig)].toArray below meth c H locs 0 0 (MQ below (CQ g (q_X4_note g hp ad an aa fd fn fa c_ what dig n) A) [.ref hp, .int (iI c_), .int (iI what), .int (iI dig)].toArray s ({ frames := 0, cells := 0, slots := 0, locals := 0 } : Room).cells ({ frames := 0, cells := 0, slots := 0, locals := 0 } : Room).slots A) (F0 m 0 ls []) by rw [hHe, hLe] at hgo; exact hgo
  clear hHe hLe
  refine lv_aload_n hx hb dX4_note_0 rfl (lv_at hl 0 rfl) ?_
  refine va_get (D := g.1) (ci := 4) (v := .ref an) hx hb hts kX4_note_4 hown hG.1 hP 0 rfl rfl 1 (by decide) (hts _ (List.mem_of_getElem? (i := 1) rfl)) (fun _ h9 => h9) rfl dX4_note_1 ?_
  refine lv_iload_n hx hb dX4_note_4 rfl (lv_at hl 1 rfl) ?_
  refine lv_iload_n hx hb dX4_note_5 rfl (lv_at hl 2 rfl) ?_
  refine iv_iast hx hb hG hP hD hS 2 rfl n (by omega) (by omega) (by decide) dX4_note_6 (fun H locs hP hD hS => ?_)
  have hP : va_P g.1 vwCl [(hp, .inr (4, [.ref ad, .ref an, .ref aa])), (ad, aI (g.2.1 0) 3 fd), (an, aI (g.2.1 0) 3 (va_up fn n what)), (aa, aI (g.2.1 0) 3 fa)] H := hP
  have hD : va_D A [(hp, .inr (4, [.ref ad, .ref an, .ref aa])), (ad, aI (g.2.1 0) 3 fd), (an, aI (g.2.1 0) 3 (va_up fn n what)), (aa, aI (g.2.1 0) 3 fa)] := hD
  refine lv_aload_n hx hb dX4_note_7 rfl (lv_at hl 0 rfl) ?_
  refine va_get (D := g.1) (ci := 4) (v := .ref ad) hx hb hts kX4_note_4 hown hG.1 hP 0 rfl rfl 0 (by decide) (hts _ (List.mem_of_getElem? (i := 2) rfl)) (fun _ h9 => h9) rfl dX4_note_8 ?_
  refine lv_iload_n hx hb dX4_note_11 rfl (lv_at hl 1 rfl) ?_
  refine lv_iload_n hx hb dX4_note_12 rfl (lv_at hl 3 rfl) ?_
  refine iv_iast hx hb hG hP hD hS 1 rfl n (by omega) (by omega) (by decide) dX4_note_13 (fun H locs hP hD hS => ?_)
  have hP : va_P g.1 vwCl [(hp, .inr (4, [.ref ad, .ref an, .ref aa])), (ad, aI (g.2.1 0) 3 (va_up fd n dig)), (an, aI (g.2.1 0) 3 (va_up fn n what)), (aa, aI (g.2.1 0) 3 fa)] H := hP
  have hD : va_D A [(hp, .inr (4, [.ref ad, .ref an, .ref aa])), (ad, aI (g.2.1 0) 3 (va_up fd n dig)), (an, aI (g.2.1 0) 3 (va_up fn n what)), (aa, aI (g.2.1 0) 3 fa)] := hD
  exact Ct.vret hx hb hr hlocks (hP.sub [0, 1, 2, 3] rfl) (hD.sub [0, 1, 2, 3] (by decide) rfl) hS ⟨by decide, by decide⟩ dX4_note_14 ⟨rfl, rfl⟩
theorem kX4_pay_4 : ∀ w ∈ u_ws RX4 TX4 3, w ∈ wsX4_pay := fun _ h => List.mem_cons_of_mem _ (List.mem_append_right _ h)
abbrev q_X4_pay (g : GT) (hp : Nat) (ad : Nat) (an : Nat) (aa : Nat) (fd : Nat → Int) (fn : Nat → Int) (fa : Nat → Int) (from_ : Int) (st : Int) (n0 : Nat) : Option Value → va_W → Prop := fun v w => ∃ (fa' : Nat → Int), v = none ∧ w = [(hp, .inr (4, [.ref ad, .ref an, .ref aa])), (ad, aI (g.2.1 0) 3 fd), (an, aI (g.2.1 0) 3 fn), (aa, aI (g.2.1 0) 3 fa')] ∧ (fa' = payR st (3 - n0) n0 fa)
set_option maxHeartbeats 4000000 in
set_option maxRecDepth 100000 in
theorem c_X4_pay (l : Launch) (g : GT) (hp : Nat) (ad : Nat) (an : Nat) (aa : Nat) (fd : Nat → Int) (fn : Nat → Int) (fa : Nat → Int) (from_ : Int) (st : Int) (n0 : Nat) (h1 : from_ = (n0 : Int) ∧ n0 ≤ 3 ∧ 0 ≤ st ∧ st ≤ 255) (h2 : ∀ j, j < 3 → 0 ≤ fa j ∧ fa j ≤ 9) : Ct l g yX4_pay wsX4_pay ({ frames := 1, cells := 0, slots := 0, locals := 21 } : Room) [.ref hp, .int (iI from_), .int (iI st)] [(hp, .inr (4, [.ref ad, .ref an, .ref aa])), (ad, aI (g.2.1 0) 3 fd), (an, aI (g.2.1 0) 3 fn), (aa, aI (g.2.1 0) 3 fa)] (q_X4_pay g hp ad an aa fd fn fa from_ st n0) := by
  refine Ct.intro (maxL := 4) (ret := none) (by decide) rfl (Nat.le_of_ble_eq_true rfl) ?_
  intro p e s m below meth c A ls hx hb hr hml hown hts hlocks hnm hA hG hP hD hS hl
  have hown : s.vm.findClass RX4 = some m.cls := hown
  have hl : lv_has ls 4 [(0, .ref hp), (1, .int (iI from_)), (2, .int (iI st))] := hl
  have hP : va_P g.1 vwCl [(hp, .inr (4, [.ref ad, .ref an, .ref aa])), (ad, aI (g.2.1 0) 3 fd), (an, aI (g.2.1 0) 3 fn), (aa, aI (g.2.1 0) 3 fa)] s.heap := hP
  have hS : va_S A s.heap s.heap [] := hS
  obtain ⟨H, hHe⟩ : ∃ H : Heap, H = s.heap := ⟨_, rfl⟩
  obtain ⟨locs, hLe⟩ : ∃ L : List Loc, L = [] := ⟨_, rfl⟩
  have hP : va_P g.1 vwCl [(hp, .inr (4, [.ref ad, .ref an, .ref aa])), (ad, aI (g.2.1 0) 3 fd), (an, aI (g.2.1 0) 3 fn), (aa, aI (g.2.1 0) 3 fa)] H := by rw [hHe]; exact hP
  have hS : va_S A s.heap H locs := by rw [hHe, hLe]; exact hS
  suffices hgo : W p l e ({ frames := 1, cells := 0, slots := 0, locals := 21 } : Room) s m [.ref hp, .int (iI from_), .int (iI st)].toArray below meth c H locs 0 0 (MQ below (CQ g (q_X4_pay g hp ad an aa fd fn fa from_ st n0) A) [.ref hp, .int (iI from_), .int (iI st)].toArray s ({ frames := 1, cells := 0, slots := 0, locals := 21 } : Room).cells ({ frames := 1, cells := 0, slots := 0, locals := 21 } : Room).slots A) (F0 m 0 ls []) by rw [hHe, hLe] at hgo; exact hgo
  clear hHe hLe
  refine lv_iload_n hx hb dX4_pay_0 rfl (lv_at hl 1 rfl) ?_
  refine lv_istore_n (lv' := [(3, .int (iI from_)), (0, .ref hp), (1, .int (iI from_)), (2, .int (iI st))]) hx hb dX4_pay_1 rfl hl (by decide) rfl (fun ls hl => ?_)
  have hloop2 : ∀ (fuel : Nat) (c_ : Int) (fb : Nat → Int) (n : Nat) (hc : c_ = (n : Int) ∧ n ≤ 3) (hrg : ∀ j, j < 3 → 0 ≤ fb j ∧ fb j ≤ 9) (he : payR st (3 - n) n fb = payR st (3 - n0) n0 fa) (hmeas : 3 - n < fuel), ∀ (H : Heap) (locs : List Loc) (ls : Array Slot), va_P g.1 vwCl [(hp, .inr (4, [.ref ad, .ref an, .ref aa])), (ad, aI (g.2.1 0) 3 fd), (an, aI (g.2.1 0) 3 fn), (aa, aI (g.2.1 0) 3 fb)] H → va_D A [(hp, .inr (4, [.ref ad, .ref an, .ref aa])), (ad, aI (g.2.1 0) 3 fd), (an, aI (g.2.1 0) 3 fn), (aa, aI (g.2.1 0) 3 fb)] → va_S A s.heap H locs → lv_has ls 4 [(3, .int (iI c_)), (0, .ref hp), (1, .int (iI from_)), (2, .int (iI st))] → W p l e ({ frames := 1, cells := 0, slots := 0, locals := 21 } : Room) s m [.ref hp, .int (iI from_), .int (iI st)].toArray below meth c H locs 0 0 (MQ below (CQ g (q_X4_pay g hp ad an aa fd fn fa from_ st n0) A) [.ref hp, .int (iI from_), .int (iI st)].toArray s ({ frames := 1, cells := 0, slots := 0, locals := 21 } : Room).cells ({ frames := 1, cells := 0, slots := 0, locals := 21 } : Room).slots A) (F0 m 2 ls []) := by
    intro fuel
    induction fuel with
    | zero => intro c_ fb n hc hrg he hmeas; exact absurd hmeas (Nat.not_lt_zero _)
    | succ fuel ih2 =>
      intro c_ fb n hc hrg he hmeas H locs ls hP hD hS hl
      refine lv_iload_n hx hb dX4_pay_2 rfl (lv_at hl 0 rfl) ?_
      refine lv_iconst (v := iI (3)) hx hb dX4_pay_3 rfl ?_
      refine iv_icmp_ge (tgt := 95) hx hb dX4_pay_4 (by decide) (by omega) (fun hc1 => ?_) (fun hc1 => ?_)
      · exact Ct.vret hx hb hr hlocks (hP.sub [0, 1, 2, 3] rfl) (hD.sub [0, 1, 2, 3] (by decide) rfl) hS ⟨by decide, by decide⟩ dX4_pay_95 ⟨fb, rfl, rfl, (by rw [← he, show 3 - n = 0 from by omega]; rfl)⟩
      · have hk := hrg n (by omega)
        refine lv_aload_n hx hb dX4_pay_7 rfl (lv_at hl 1 rfl) ?_
        refine va_get (D := g.1) (ci := 4) (v := .ref aa) hx hb hts kX4_pay_4 hown hG.1 hP 0 rfl rfl 2 (by decide) (hts _ (List.mem_of_getElem? (i := 1) rfl)) (fun _ h9 => h9) rfl dX4_pay_8 ?_
        refine lv_iload_n hx hb dX4_pay_11 rfl (lv_at hl 0 rfl) ?_
        refine iv_iald hx hb hG hP 3 rfl n (by omega) (by omega) (by decide) dX4_pay_12 ?_
        refine iv_if_le (tgt := 56) hx hb dX4_pay_13 (by decide) (by omega) (fun hc2 => ?_) (fun hc2 => ?_)
        · refine lv_iload_n hx hb dX4_pay_56 rfl (lv_at hl 3 rfl) ?_
          refine lv_iconst (v := iI (3)) hx hb dX4_pay_57 rfl ?_
          refine Ct.callS (As := [.int (iI st), .int (iI 3)]) (rest := []) (wr := [(hp, .inr (4, [.ref ad, .ref an, .ref aa])), (ad, aI (g.2.1 0) 3 fd), (an, aI (g.2.1 0) 3 fn), (aa, aI (g.2.1 0) 3 fb)]) (c1 := 0) (s1 := 0) ⟨hx, hb, hml, hown, hts⟩ (c_X4_has l g st 3 (by omega)) (va_cwS 2 hts gX4_pay_X4_has rfl rfl rfl (by decide +kernel) ⟨Nat.le_of_ble_eq_true rfl, Nat.le_of_ble_eq_true rfl⟩) hG hP hD hS hA [] [0, 1, 2, 3] rfl rfl (by decide) (by decide) (by decide) rfl hl.1 rfl (Nat.le_of_ble_eq_true rfl) dX4_pay_58 ⟨Nat.le_of_ble_eq_true rfl, Nat.le_of_ble_eq_true rfl⟩ rfl rfl (fun v w H locs hv hP hD hS => ?_)
          obtain ⟨⟨rfl, hb3⟩ | ⟨rfl, hb3⟩, rfl⟩ := hv
          · show W p l e _ s m _ below meth c H locs 0 0 _ (F0 m 61 ls (.int (iI 1) :: []))
            have hb3 : fs st 3 := hb3
            have hP : va_P g.1 vwCl [(hp, .inr (4, [.ref ad, .ref an, .ref aa])), (ad, aI (g.2.1 0) 3 fd), (an, aI (g.2.1 0) 3 fn), (aa, aI (g.2.1 0) 3 fb)] H := hP
            have hD : va_D A [(hp, .inr (4, [.ref ad, .ref an, .ref aa])), (ad, aI (g.2.1 0) 3 fd), (an, aI (g.2.1 0) 3 fn), (aa, aI (g.2.1 0) 3 fb)] := hD
            refine iv_if_eq (tgt := 73) hx hb dX4_pay_61 (by decide) (by decide) (fun h => absurd h (by decide)) (fun _ => ?_)
            refine lv_aload_n hx hb dX4_pay_64 rfl (lv_at hl 1 rfl) ?_
            refine va_get (D := g.1) (ci := 4) (v := .ref aa) hx hb hts kX4_pay_4 hown hG.1 hP 0 rfl rfl 2 (by decide) (hts _ (List.mem_of_getElem? (i := 1) rfl)) (fun _ h9 => h9) rfl dX4_pay_65 ?_
            refine lv_iload_n hx hb dX4_pay_68 rfl (lv_at hl 0 rfl) ?_
            refine lv_bipush (v := iI (9)) hx hb dX4_pay_69 (by decide) ?_
            refine iv_iast hx hb hG hP hD hS 3 rfl n (by omega) (by omega) (by decide) dX4_pay_71 (fun H locs hP hD hS => ?_)
            have hP : va_P g.1 vwCl [(hp, .inr (4, [.ref ad, .ref an, .ref aa])), (ad, aI (g.2.1 0) 3 fd), (an, aI (g.2.1 0) 3 fn), (aa, aI (g.2.1 0) 3 (va_up fb n 9))] H := hP
            have hD : va_D A [(hp, .inr (4, [.ref ad, .ref an, .ref aa])), (ad, aI (g.2.1 0) 3 fd), (an, aI (g.2.1 0) 3 fn), (aa, aI (g.2.1 0) 3 (va_up fb n 9))] := hD
            exact Ct.vret hx hb hr hlocks (hP.sub [0, 1, 2, 3] rfl) (hD.sub [0, 1, 2, 3] (by decide) rfl) hS ⟨by decide, by decide⟩ dX4_pay_72 ⟨(va_up fb n 9), rfl, rfl, (by rw [← he, show 3 - n = (2 - n) + 1 from by omega]; simp only [payR]; (repeat' split) <;> first | rfl | (exfalso; omega) | (unfold pv; (repeat' split) <;> first | rfl | (exfalso; omega) | (congr 1; omega)))⟩
          · show W p l e _ s m _ below meth c H locs 0 0 _ (F0 m 61 ls (.int (iI 0) :: []))
            have hb3 : ¬ (fs st 3) := hb3
            have hP : va_P g.1 vwCl [(hp, .inr (4, [.ref ad, .ref an, .ref aa])), (ad, aI (g.2.1 0) 3 fd), (an, aI (g.2.1 0) 3 fn), (aa, aI (g.2.1 0) 3 fb)] H := hP
            have hD : va_D A [(hp, .inr (4, [.ref ad, .ref an, .ref aa])), (ad, aI (g.2.1 0) 3 fd), (an, aI (g.2.1 0) 3 fn), (aa, aI (g.2.1 0) 3 fb)] := hD
            refine iv_if_eq (tgt := 73) hx hb dX4_pay_61 (by decide) (by decide) (fun _ => ?_) (fun h => absurd h (by decide))
            refine lv_iload_n hx hb dX4_pay_73 rfl (lv_at hl 3 rfl) ?_
            refine lv_iconst (v := iI (4)) hx hb dX4_pay_74 rfl ?_
            refine Ct.callS (As := [.int (iI st), .int (iI 4)]) (rest := []) (wr := [(hp, .inr (4, [.ref ad, .ref an, .ref aa])), (ad, aI (g.2.1 0) 3 fd), (an, aI (g.2.1 0) 3 fn), (aa, aI (g.2.1 0) 3 fb)]) (c1 := 0) (s1 := 0) ⟨hx, hb, hml, hown, hts⟩ (c_X4_has l g st 4 (by omega)) (va_cwS 2 hts gX4_pay_X4_has rfl rfl rfl (by decide +kernel) ⟨Nat.le_of_ble_eq_true rfl, Nat.le_of_ble_eq_true rfl⟩) hG hP hD hS hA [] [0, 1, 2, 3] rfl rfl (by decide) (by decide) (by decide) rfl hl.1 rfl (Nat.le_of_ble_eq_true rfl) dX4_pay_75 ⟨Nat.le_of_ble_eq_true rfl, Nat.le_of_ble_eq_true rfl⟩ rfl rfl (fun v w H locs hv hP hD hS => ?_)
            obtain ⟨⟨rfl, hb6⟩ | ⟨rfl, hb6⟩, rfl⟩ := hv
            · show W p l e _ s m _ below meth c H locs 0 0 _ (F0 m 78 ls (.int (iI 1) :: []))
              have hb6 : fs st 4 := hb6
              have hP : va_P g.1 vwCl [(hp, .inr (4, [.ref ad, .ref an, .ref aa])), (ad, aI (g.2.1 0) 3 fd), (an, aI (g.2.1 0) 3 fn), (aa, aI (g.2.1 0) 3 fb)] H := hP
              have hD : va_D A [(hp, .inr (4, [.ref ad, .ref an, .ref aa])), (ad, aI (g.2.1 0) 3 fd), (an, aI (g.2.1 0) 3 fn), (aa, aI (g.2.1 0) 3 fb)] := hD
              refine iv_if_ne (tgt := 89) hx hb dX4_pay_78 (by decide) (by decide) (fun _ => ?_) (fun h => absurd h (by decide))
              refine iv_iinc (k := 0) (x := c_) (lv' := [(3, .int (iI (c_ + 1))), (0, .ref hp), (1, .int (iI from_)), (2, .int (iI st))]) hx hb dX4_pay_89 hl rfl (by decide) rfl (fun ls hl => ?_)
              refine lv_goto (tgt := 2) hx hb dX4_pay_92 (by decide) ?_
              exact ih2 (c_ + 1) fb (n + 1) (by omega) (by first | exact hrg | exact up_rng hrg (by omega)) (by rw [← he, show 3 - n = (3 - (n + 1)) + 1 from by omega]; simp only [payR]; (repeat' split) <;> first | rfl | (exfalso; omega)) (by omega) H locs ls (hP.sub [0, 1, 2, 3] rfl) (hD.sub [0, 1, 2, 3] (by decide) rfl) hS (lv_sub hl [0, 1, 2, 3] rfl)
            · show W p l e _ s m _ below meth c H locs 0 0 _ (F0 m 78 ls (.int (iI 0) :: []))
              have hb6 : ¬ (fs st 4) := hb6
              have hP : va_P g.1 vwCl [(hp, .inr (4, [.ref ad, .ref an, .ref aa])), (ad, aI (g.2.1 0) 3 fd), (an, aI (g.2.1 0) 3 fn), (aa, aI (g.2.1 0) 3 fb)] H := hP
              have hD : va_D A [(hp, .inr (4, [.ref ad, .ref an, .ref aa])), (ad, aI (g.2.1 0) 3 fd), (an, aI (g.2.1 0) 3 fn), (aa, aI (g.2.1 0) 3 fb)] := hD
              refine iv_if_ne (tgt := 89) hx hb dX4_pay_78 (by decide) (by decide) (fun h => absurd h (by decide)) (fun _ => ?_)
              refine lv_aload_n hx hb dX4_pay_81 rfl (lv_at hl 1 rfl) ?_
              refine va_get (D := g.1) (ci := 4) (v := .ref aa) hx hb hts kX4_pay_4 hown hG.1 hP 0 rfl rfl 2 (by decide) (hts _ (List.mem_of_getElem? (i := 1) rfl)) (fun _ h9 => h9) rfl dX4_pay_82 ?_
              refine lv_iload_n hx hb dX4_pay_85 rfl (lv_at hl 0 rfl) ?_
              refine lv_bipush (v := iI (9)) hx hb dX4_pay_86 (by decide) ?_
              refine iv_iast hx hb hG hP hD hS 3 rfl n (by omega) (by omega) (by decide) dX4_pay_88 (fun H locs hP hD hS => ?_)
              have hP : va_P g.1 vwCl [(hp, .inr (4, [.ref ad, .ref an, .ref aa])), (ad, aI (g.2.1 0) 3 fd), (an, aI (g.2.1 0) 3 fn), (aa, aI (g.2.1 0) 3 (va_up fb n 9))] H := hP
              have hD : va_D A [(hp, .inr (4, [.ref ad, .ref an, .ref aa])), (ad, aI (g.2.1 0) 3 fd), (an, aI (g.2.1 0) 3 fn), (aa, aI (g.2.1 0) 3 (va_up fb n 9))] := hD
              refine iv_iinc (k := 0) (x := c_) (lv' := [(3, .int (iI (c_ + 1))), (0, .ref hp), (1, .int (iI from_)), (2, .int (iI st))]) hx hb dX4_pay_89 hl rfl (by decide) rfl (fun ls hl => ?_)
              refine lv_goto (tgt := 2) hx hb dX4_pay_92 (by decide) ?_
              exact ih2 (c_ + 1) (va_up fb n 9) (n + 1) (by omega) (by first | exact hrg | exact up_rng hrg (by omega)) (by rw [← he, show 3 - n = (3 - (n + 1)) + 1 from by omega]; simp only [payR]; (repeat' split) <;> first | rfl | (exfalso; omega)) (by omega) H locs ls (hP.sub [0, 1, 2, 3] rfl) (hD.sub [0, 1, 2, 3] (by decide) rfl) hS (lv_sub hl [0, 1, 2, 3] rfl)
        · refine lv_aload_n hx hb dX4_pay_16 rfl (lv_at hl 1 rfl) ?_
          refine va_get (D := g.1) (ci := 4) (v := .ref aa) hx hb hts kX4_pay_4 hown hG.1 hP 0 rfl rfl 2 (by decide) (hts _ (List.mem_of_getElem? (i := 1) rfl)) (fun _ h9 => h9) rfl dX4_pay_17 ?_
          refine lv_iload_n hx hb dX4_pay_20 rfl (lv_at hl 0 rfl) ?_
          refine lv_iload_n hx hb dX4_pay_21 rfl (lv_at hl 3 rfl) ?_
          refine lv_bipush (v := iI (7)) hx hb dX4_pay_22 (by decide) ?_
          refine Ct.callS (As := [.int (iI st), .int (iI 7)]) (rest := [.int (iI c_), .ref aa]) (wr := [(hp, .inr (4, [.ref ad, .ref an, .ref aa])), (ad, aI (g.2.1 0) 3 fd), (an, aI (g.2.1 0) 3 fn), (aa, aI (g.2.1 0) 3 fb)]) (c1 := 0) (s1 := 0) ⟨hx, hb, hml, hown, hts⟩ (c_X4_has l g st 7 (by omega)) (va_cwS 2 hts gX4_pay_X4_has rfl rfl rfl (by decide +kernel) ⟨Nat.le_of_ble_eq_true rfl, Nat.le_of_ble_eq_true rfl⟩) hG hP hD hS hA [] [0, 1, 2, 3] rfl rfl (by decide) (by decide) (by decide) rfl hl.1 rfl (Nat.le_of_ble_eq_true rfl) dX4_pay_24 ⟨Nat.le_of_ble_eq_true rfl, Nat.le_of_ble_eq_true rfl⟩ rfl rfl (fun v w H locs hv hP hD hS => ?_)
          obtain ⟨⟨rfl, hb9⟩ | ⟨rfl, hb9⟩, rfl⟩ := hv
          · show W p l e _ s m _ below meth c H locs 0 0 _ (F0 m 27 ls (.int (iI 1) :: [.int (iI c_), .ref aa]))
            have hb9 : fs st 7 := hb9
            have hP : va_P g.1 vwCl [(hp, .inr (4, [.ref ad, .ref an, .ref aa])), (ad, aI (g.2.1 0) 3 fd), (an, aI (g.2.1 0) 3 fn), (aa, aI (g.2.1 0) 3 fb)] H := hP
            have hD : va_D A [(hp, .inr (4, [.ref ad, .ref an, .ref aa])), (ad, aI (g.2.1 0) 3 fd), (an, aI (g.2.1 0) 3 fn), (aa, aI (g.2.1 0) 3 fb)] := hD
            refine iv_if_eq (tgt := 46) hx hb dX4_pay_27 (by decide) (by decide) (fun h => absurd h (by decide)) (fun _ => ?_)
            refine lv_bipush (v := iI (9)) hx hb dX4_pay_30 (by decide) ?_
            refine lv_aload_n hx hb dX4_pay_32 rfl (lv_at hl 1 rfl) ?_
            refine va_get (D := g.1) (ci := 4) (v := .ref aa) hx hb hts kX4_pay_4 hown hG.1 hP 0 rfl rfl 2 (by decide) (hts _ (List.mem_of_getElem? (i := 1) rfl)) (fun _ h9 => h9) rfl dX4_pay_33 ?_
            refine lv_iload_n hx hb dX4_pay_36 rfl (lv_at hl 0 rfl) ?_
            refine iv_iald hx hb hG hP 3 rfl n (by omega) (by omega) (by decide) dX4_pay_37 ?_
            refine lv_iconst (v := iI (1)) hx hb dX4_pay_38 rfl ?_
            refine iv_iadd hx hb dX4_pay_39 ?_
            refine iv_min hx hb (by rw [hml]; exact hl.1.symm) hown (hts _ (List.mem_of_getElem? (i := 2) rfl)) (hts _ (List.mem_of_getElem? (i := 3) rfl)) (hts _ (List.mem_of_getElem? (i := 4) rfl)) (hts _ (List.mem_of_getElem? (i := 5) rfl)) (Nat.le_of_ble_eq_true rfl) (Nat.le_of_ble_eq_true rfl) (Nat.le_of_ble_eq_true rfl) (Nat.le_of_ble_eq_true rfl) (by omega) dX4_pay_40 ?_
            refine lv_goto (tgt := 54) hx hb dX4_pay_43 (by decide) ?_
            refine iv_iast hx hb hG hP hD hS 3 rfl n (by omega) (by omega) (by decide) dX4_pay_54 (fun H locs hP hD hS => ?_)
            have hP : va_P g.1 vwCl [(hp, .inr (4, [.ref ad, .ref an, .ref aa])), (ad, aI (g.2.1 0) 3 fd), (an, aI (g.2.1 0) 3 fn), (aa, aI (g.2.1 0) 3 (va_up fb n (min 9 ((fb n) + 1))))] H := hP
            have hD : va_D A [(hp, .inr (4, [.ref ad, .ref an, .ref aa])), (ad, aI (g.2.1 0) 3 fd), (an, aI (g.2.1 0) 3 fn), (aa, aI (g.2.1 0) 3 (va_up fb n (min 9 ((fb n) + 1))))] := hD
            exact Ct.vret hx hb hr hlocks (hP.sub [0, 1, 2, 3] rfl) (hD.sub [0, 1, 2, 3] (by decide) rfl) hS ⟨by decide, by decide⟩ dX4_pay_55 ⟨(va_up fb n (min 9 ((fb n) + 1))), rfl, rfl, (by rw [← he, show 3 - n = (2 - n) + 1 from by omega]; simp only [payR]; (repeat' split) <;> first | rfl | (exfalso; omega) | (unfold pv; (repeat' split) <;> first | rfl | (exfalso; omega) | (congr 1; omega)))⟩
          · show W p l e _ s m _ below meth c H locs 0 0 _ (F0 m 27 ls (.int (iI 0) :: [.int (iI c_), .ref aa]))
            have hb9 : ¬ (fs st 7) := hb9
            have hP : va_P g.1 vwCl [(hp, .inr (4, [.ref ad, .ref an, .ref aa])), (ad, aI (g.2.1 0) 3 fd), (an, aI (g.2.1 0) 3 fn), (aa, aI (g.2.1 0) 3 fb)] H := hP
            have hD : va_D A [(hp, .inr (4, [.ref ad, .ref an, .ref aa])), (ad, aI (g.2.1 0) 3 fd), (an, aI (g.2.1 0) 3 fn), (aa, aI (g.2.1 0) 3 fb)] := hD
            refine iv_if_eq (tgt := 46) hx hb dX4_pay_27 (by decide) (by decide) (fun _ => ?_) (fun h => absurd h (by decide))
            refine lv_aload_n hx hb dX4_pay_46 rfl (lv_at hl 1 rfl) ?_
            refine va_get (D := g.1) (ci := 4) (v := .ref aa) hx hb hts kX4_pay_4 hown hG.1 hP 0 rfl rfl 2 (by decide) (hts _ (List.mem_of_getElem? (i := 1) rfl)) (fun _ h9 => h9) rfl dX4_pay_47 ?_
            refine lv_iload_n hx hb dX4_pay_50 rfl (lv_at hl 0 rfl) ?_
            refine iv_iald hx hb hG hP 3 rfl n (by omega) (by omega) (by decide) dX4_pay_51 ?_
            refine lv_iconst (v := iI (1)) hx hb dX4_pay_52 rfl ?_
            refine iv_isub hx hb dX4_pay_53 ?_
            refine iv_iast hx hb hG hP hD hS 3 rfl n (by omega) (by omega) (by decide) dX4_pay_54 (fun H locs hP hD hS => ?_)
            have hP : va_P g.1 vwCl [(hp, .inr (4, [.ref ad, .ref an, .ref aa])), (ad, aI (g.2.1 0) 3 fd), (an, aI (g.2.1 0) 3 fn), (aa, aI (g.2.1 0) 3 (va_up fb n ((fb n) - 1)))] H := hP
            have hD : va_D A [(hp, .inr (4, [.ref ad, .ref an, .ref aa])), (ad, aI (g.2.1 0) 3 fd), (an, aI (g.2.1 0) 3 fn), (aa, aI (g.2.1 0) 3 (va_up fb n ((fb n) - 1)))] := hD
            exact Ct.vret hx hb hr hlocks (hP.sub [0, 1, 2, 3] rfl) (hD.sub [0, 1, 2, 3] (by decide) rfl) hS ⟨by decide, by decide⟩ dX4_pay_55 ⟨(va_up fb n ((fb n) - 1)), rfl, rfl, (by rw [← he, show 3 - n = (2 - n) + 1 from by omega]; simp only [payR]; (repeat' split) <;> first | rfl | (exfalso; omega) | (unfold pv; (repeat' split) <;> first | rfl | (exfalso; omega) | (congr 1; omega)))⟩
  exact hloop2 _ from_ fa n0 (by omega) (h2) (rfl) (Nat.lt_succ_self _) H locs ls (hP.sub [0, 1, 2, 3] rfl) (hD.sub [0, 1, 2, 3] (by decide) rfl) hS (lv_sub hl [0, 1, 2, 3] rfl)
theorem kX4_fillColumn_4 : ∀ w ∈ u_ws RX4 TX4 3, w ∈ wsX4_fillColumn := fun _ h => List.mem_cons_of_mem _ (List.mem_append_right _ h)
abbrev q_X4_fillColumn (g : GT) (hp : Nat) (ad : Nat) (an : Nat) (aa : Nat) (fd : Nat → Int) (fn : Nat → Int) (fa : Nat → Int) (c_ : Int) (low : Int) (b : Int) (st : Int) (n : Nat) : Option Value → va_W → Prop := fun v w => ∃ (fd' : Nat → Int), ∃ (fn' : Nat → Int), ∃ (fa' : Nat → Int), v = none ∧ w = [(hp, .inr (4, [.ref ad, .ref an, .ref aa])), (ad, aI (g.2.1 0) 3 fd'), (an, aI (g.2.1 0) 3 fn'), (aa, aI (g.2.1 0) 3 fa')] ∧ (fd' = va_up fd n (cg st b (fa n) low)) ∧ (fn' = va_up fn n (cd st b (fa n) low)) ∧ (fa' = caF st b low n fa)
set_option maxHeartbeats 4000000 in
set_option maxRecDepth 100000 in
theorem c_X4_fillColumn (l : Launch) (g : GT) (hp : Nat) (ad : Nat) (an : Nat) (aa : Nat) (fd : Nat → Int) (fn : Nat → Int) (fa : Nat → Int) (c_ : Int) (low : Int) (b : Int) (st : Int) (n : Nat) (h1 : c_ = (n : Int) ∧ n < 3 ∧ 0 ≤ st ∧ st ≤ 255 ∧ 0 ≤ low ∧ low ≤ 9 ∧ (b = 0 ∨ b = 1)) (h2 : ∀ j, j < 3 → 0 ≤ fa j ∧ fa j ≤ 9) : Ct l g yX4_fillColumn wsX4_fillColumn ({ frames := 2, cells := 0, slots := 0, locals := 44 } : Room) [.ref hp, .int (iI c_), .int (iI low), .int (iI b), .int (iI st)] [(hp, .inr (4, [.ref ad, .ref an, .ref aa])), (ad, aI (g.2.1 0) 3 fd), (an, aI (g.2.1 0) 3 fn), (aa, aI (g.2.1 0) 3 fa)] (q_X4_fillColumn g hp ad an aa fd fn fa c_ low b st n) := by
  refine Ct.intro (maxL := 6) (ret := none) (by decide) rfl (Nat.le_of_ble_eq_true rfl) ?_
  intro p e s m below meth c A ls hx hb hr hml hown hts hlocks hnm hA hG hP hD hS hl
  have hown : s.vm.findClass RX4 = some m.cls := hown
  have hl : lv_has ls 6 [(0, .ref hp), (1, .int (iI c_)), (2, .int (iI low)), (3, .int (iI b)), (4, .int (iI st))] := hl
  have hP : va_P g.1 vwCl [(hp, .inr (4, [.ref ad, .ref an, .ref aa])), (ad, aI (g.2.1 0) 3 fd), (an, aI (g.2.1 0) 3 fn), (aa, aI (g.2.1 0) 3 fa)] s.heap := hP
  have hS : va_S A s.heap s.heap [] := hS
  have hk := h2 n (by omega)
  obtain ⟨H, hHe⟩ : ∃ H : Heap, H = s.heap := ⟨_, rfl⟩
  obtain ⟨locs, hLe⟩ : ∃ L : List Loc, L = [] := ⟨_, rfl⟩
  have hP : va_P g.1 vwCl [(hp, .inr (4, [.ref ad, .ref an, .ref aa])), (ad, aI (g.2.1 0) 3 fd), (an, aI (g.2.1 0) 3 fn), (aa, aI (g.2.1 0) 3 fa)] H := by rw [hHe]; exact hP
  have hS : va_S A s.heap H locs := by rw [hHe, hLe]; exact hS
  suffices hgo : W p l e ({ frames := 2, cells := 0, slots := 0, locals := 44 } : Room) s m [.ref hp, .int (iI c_), .int (iI low), .int (iI b), .int (iI st)].toArray below meth c H locs 0 0 (MQ below (CQ g (q_X4_fillColumn g hp ad an aa fd fn fa c_ low b st n) A) [.ref hp, .int (iI c_), .int (iI low), .int (iI b), .int (iI st)].toArray s ({ frames := 2, cells := 0, slots := 0, locals := 44 } : Room).cells ({ frames := 2, cells := 0, slots := 0, locals := 44 } : Room).slots A) (F0 m 0 ls []) by rw [hHe, hLe] at hgo; exact hgo
  clear hHe hLe
  refine lv_aload_n hx hb dX4_fillColumn_0 rfl (lv_at hl 0 rfl) ?_
  refine va_get (D := g.1) (ci := 4) (v := .ref aa) hx hb hts kX4_fillColumn_4 hown hG.1 hP 0 rfl rfl 2 (by decide) (hts _ (List.mem_of_getElem? (i := 1) rfl)) (fun _ h9 => h9) rfl dX4_fillColumn_1 ?_
  refine lv_iload_n hx hb dX4_fillColumn_4 rfl (lv_at hl 1 rfl) ?_
  refine iv_iald hx hb hG hP 3 rfl n (by omega) (by omega) (by decide) dX4_fillColumn_5 ?_
  refine lv_istore (lv' := [(5, .int (iI (fa n))), (0, .ref hp), (1, .int (iI c_)), (2, .int (iI low)), (3, .int (iI b)), (4, .int (iI st))]) hx hb dX4_fillColumn_6 hl (by decide) rfl (fun ls hl => ?_)
  have hjoin83 : ∀ (hj1 : ¬ (b = 1 ∧ fs st 6)) (hj2 : ¬ (low = 0 ∧ fs st 5)) (hj3 : ¬ (fa n = 0 ∧ 0 < low ∧ fs st 2)), ∀ (H : Heap) (locs : List Loc) (ls : Array Slot), va_P g.1 vwCl [(hp, .inr (4, [.ref ad, .ref an, .ref aa])), (ad, aI (g.2.1 0) 3 fd), (an, aI (g.2.1 0) 3 fn), (aa, aI (g.2.1 0) 3 fa)] H → va_D A [(hp, .inr (4, [.ref ad, .ref an, .ref aa])), (ad, aI (g.2.1 0) 3 fd), (an, aI (g.2.1 0) 3 fn), (aa, aI (g.2.1 0) 3 fa)] → va_S A s.heap H locs → lv_has ls 6 [(5, .int (iI (fa n))), (0, .ref hp), (1, .int (iI c_)), (2, .int (iI low)), (3, .int (iI b)), (4, .int (iI st))] → W p l e ({ frames := 2, cells := 0, slots := 0, locals := 44 } : Room) s m [.ref hp, .int (iI c_), .int (iI low), .int (iI b), .int (iI st)].toArray below meth c H locs 0 0 (MQ below (CQ g (q_X4_fillColumn g hp ad an aa fd fn fa c_ low b st n) A) [.ref hp, .int (iI c_), .int (iI low), .int (iI b), .int (iI st)].toArray s ({ frames := 2, cells := 0, slots := 0, locals := 44 } : Room).cells ({ frames := 2, cells := 0, slots := 0, locals := 44 } : Room).slots A) (F0 m 83 ls []) := by
    intro  hj1 hj2 hj3 H locs ls hP hD hS hl
    refine lv_iload hx hb dX4_fillColumn_83 (lv_at hl 0 rfl) ?_
    refine lv_iload_n hx hb dX4_fillColumn_85 rfl (lv_at hl 3 rfl) ?_
    refine iv_icmp_lt (tgt := 102) hx hb dX4_fillColumn_86 (by decide) (by omega) (fun hc1 => ?_) (fun hc1 => ?_)
    · refine lv_iload hx hb dX4_fillColumn_102 (lv_at hl 5 rfl) ?_
      refine lv_iconst (v := iI (0)) hx hb dX4_fillColumn_104 rfl ?_
      refine Ct.callS (As := [.int (iI st), .int (iI 0)]) (rest := []) (wr := [(hp, .inr (4, [.ref ad, .ref an, .ref aa])), (ad, aI (g.2.1 0) 3 fd), (an, aI (g.2.1 0) 3 fn), (aa, aI (g.2.1 0) 3 fa)]) (c1 := 0) (s1 := 0) ⟨hx, hb, hml, hown, hts⟩ (c_X4_has l g st 0 (by omega)) (va_cwS 2 hts gX4_fillColumn_X4_has rfl rfl rfl (by decide +kernel) ⟨Nat.le_of_ble_eq_true rfl, Nat.le_of_ble_eq_true rfl⟩) hG hP hD hS hA [] [0, 1, 2, 3] rfl rfl (by decide) (by decide) (by decide) rfl hl.1 rfl (Nat.le_of_ble_eq_true rfl) dX4_fillColumn_105 ⟨Nat.le_of_ble_eq_true rfl, Nat.le_of_ble_eq_true rfl⟩ rfl rfl (fun v w H locs hv hP hD hS => ?_)
      obtain ⟨⟨rfl, hb2⟩ | ⟨rfl, hb2⟩, rfl⟩ := hv
      · show W p l e _ s m _ below meth c H locs 0 0 _ (F0 m 108 ls (.int (iI 1) :: []))
        have hb2 : fs st 0 := hb2
        have hP : va_P g.1 vwCl [(hp, .inr (4, [.ref ad, .ref an, .ref aa])), (ad, aI (g.2.1 0) 3 fd), (an, aI (g.2.1 0) 3 fn), (aa, aI (g.2.1 0) 3 fa)] H := hP
        have hD : va_D A [(hp, .inr (4, [.ref ad, .ref an, .ref aa])), (ad, aI (g.2.1 0) 3 fd), (an, aI (g.2.1 0) 3 fn), (aa, aI (g.2.1 0) 3 fa)] := hD
        refine iv_if_eq (tgt := 124) hx hb dX4_fillColumn_108 (by decide) (by decide) (fun h => absurd h (by decide)) (fun _ => ?_)
        refine lv_aload_n hx hb dX4_fillColumn_111 rfl (lv_at hl 1 rfl) ?_
        refine lv_iload_n hx hb dX4_fillColumn_112 rfl (lv_at hl 2 rfl) ?_
        refine lv_iconst (v := iI (4)) hx hb dX4_fillColumn_113 rfl ?_
        refine lv_iload_n hx hb dX4_fillColumn_114 rfl (lv_at hl 3 rfl) ?_
        refine lv_iload hx hb dX4_fillColumn_115 (lv_at hl 0 rfl) ?_
        refine iv_isub hx hb dX4_fillColumn_117 ?_
        refine Ct.callV (ci := 4) (q0 := 0) (qc := (RX4, TX4, 3)) (As := [.int (iI c_), .int (iI 4), .int (iI (low - (fa n)))]) (rest := []) (wr := []) (c1 := 0) (s1 := 0) ⟨hx, hb, hml, hown, hts⟩ (c_X4_note l g hp ad an aa fd fn fa c_ 4 (low - (fa n)) n (by omega)) rfl rfl (cwV 3 hts gX4_fillColumn_X4_note rfl rfl rfl (by decide +kernel) ⟨Nat.le_of_ble_eq_true rfl, Nat.le_of_ble_eq_true rfl⟩) hG hP hD hS hA [0, 1, 2, 3] [] rfl rfl (by decide) (by decide) (by decide) rfl hl.1 rfl (Nat.le_of_ble_eq_true rfl) dX4_fillColumn_118 ⟨Nat.le_of_ble_eq_true rfl, Nat.le_of_ble_eq_true rfl⟩ rfl rfl (fun v w H locs hv hP hD hS => ?_)
        obtain ⟨rfl, rfl⟩ := hv
        show W p l e _ s m _ below meth c H locs 0 0 _ (F0 m 121 ls [])
        have hP : va_P g.1 vwCl [(hp, .inr (4, [.ref ad, .ref an, .ref aa])), (ad, aI (g.2.1 0) 3 (va_up fd n (low - (fa n)))), (an, aI (g.2.1 0) 3 (va_up fn n 4)), (aa, aI (g.2.1 0) 3 fa)] H := hP
        have hD : va_D A [(hp, .inr (4, [.ref ad, .ref an, .ref aa])), (ad, aI (g.2.1 0) 3 (va_up fd n (low - (fa n)))), (an, aI (g.2.1 0) 3 (va_up fn n 4)), (aa, aI (g.2.1 0) 3 fa)] := hD
        refine lv_goto (tgt := 155) hx hb dX4_fillColumn_121 (by decide) ?_
        exact Ct.vret hx hb hr hlocks (hP.sub [0, 1, 2, 3] rfl) (hD.sub [0, 1, 2, 3] (by decide) rfl) hS ⟨by decide, by decide⟩ dX4_fillColumn_155 ⟨(va_up fd n (low - (fa n))), (va_up fn n 4), fa, rfl, rfl, (congrArg (va_up fd n) (by unfold cg; (repeat' split) <;> omega)), (congrArg (va_up fn n) (by unfold cd; (repeat' split) <;> omega)), (by unfold caF; (repeat' split) <;> first | rfl | (exfalso; omega) | (rw [show 2 - n = 3 - (n + 1) from by omega]; assumption))⟩
      · show W p l e _ s m _ below meth c H locs 0 0 _ (F0 m 108 ls (.int (iI 0) :: []))
        have hb2 : ¬ (fs st 0) := hb2
        have hP : va_P g.1 vwCl [(hp, .inr (4, [.ref ad, .ref an, .ref aa])), (ad, aI (g.2.1 0) 3 fd), (an, aI (g.2.1 0) 3 fn), (aa, aI (g.2.1 0) 3 fa)] H := hP
        have hD : va_D A [(hp, .inr (4, [.ref ad, .ref an, .ref aa])), (ad, aI (g.2.1 0) 3 fd), (an, aI (g.2.1 0) 3 fn), (aa, aI (g.2.1 0) 3 fa)] := hD
        refine iv_if_eq (tgt := 124) hx hb dX4_fillColumn_108 (by decide) (by decide) (fun _ => ?_) (fun h => absurd h (by decide))
        refine lv_aload_n hx hb dX4_fillColumn_124 rfl (lv_at hl 1 rfl) ?_
        refine lv_iload_n hx hb dX4_fillColumn_125 rfl (lv_at hl 2 rfl) ?_
        refine lv_iconst (v := iI (5)) hx hb dX4_fillColumn_126 rfl ?_
        refine lv_bipush (v := iI (10)) hx hb dX4_fillColumn_127 (by decide) ?_
        refine lv_iload hx hb dX4_fillColumn_129 (lv_at hl 0 rfl) ?_
        refine iv_iadd hx hb dX4_fillColumn_131 ?_
        refine lv_iload_n hx hb dX4_fillColumn_132 rfl (lv_at hl 3 rfl) ?_
        refine iv_isub hx hb dX4_fillColumn_133 ?_
        refine Ct.callV (ci := 4) (q0 := 0) (qc := (RX4, TX4, 3)) (As := [.int (iI c_), .int (iI 5), .int (iI ((10 + (fa n)) - low))]) (rest := []) (wr := []) (c1 := 0) (s1 := 0) ⟨hx, hb, hml, hown, hts⟩ (c_X4_note l g hp ad an aa fd fn fa c_ 5 ((10 + (fa n)) - low) n (by omega)) rfl rfl (cwV 3 hts gX4_fillColumn_X4_note rfl rfl rfl (by decide +kernel) ⟨Nat.le_of_ble_eq_true rfl, Nat.le_of_ble_eq_true rfl⟩) hG hP hD hS hA [0, 1, 2, 3] [] rfl rfl (by decide) (by decide) (by decide) rfl hl.1 rfl (Nat.le_of_ble_eq_true rfl) dX4_fillColumn_134 ⟨Nat.le_of_ble_eq_true rfl, Nat.le_of_ble_eq_true rfl⟩ rfl rfl (fun v w H locs hv hP hD hS => ?_)
        obtain ⟨rfl, rfl⟩ := hv
        show W p l e _ s m _ below meth c H locs 0 0 _ (F0 m 137 ls [])
        have hP : va_P g.1 vwCl [(hp, .inr (4, [.ref ad, .ref an, .ref aa])), (ad, aI (g.2.1 0) 3 (va_up fd n ((10 + (fa n)) - low))), (an, aI (g.2.1 0) 3 (va_up fn n 5)), (aa, aI (g.2.1 0) 3 fa)] H := hP
        have hD : va_D A [(hp, .inr (4, [.ref ad, .ref an, .ref aa])), (ad, aI (g.2.1 0) 3 (va_up fd n ((10 + (fa n)) - low))), (an, aI (g.2.1 0) 3 (va_up fn n 5)), (aa, aI (g.2.1 0) 3 fa)] := hD
        refine lv_iload hx hb dX4_fillColumn_137 (lv_at hl 5 rfl) ?_
        refine lv_iconst (v := iI (1)) hx hb dX4_fillColumn_139 rfl ?_
        refine Ct.callS (As := [.int (iI st), .int (iI 1)]) (rest := []) (wr := [(hp, .inr (4, [.ref ad, .ref an, .ref aa])), (ad, aI (g.2.1 0) 3 (va_up fd n ((10 + (fa n)) - low))), (an, aI (g.2.1 0) 3 (va_up fn n 5)), (aa, aI (g.2.1 0) 3 fa)]) (c1 := 0) (s1 := 0) ⟨hx, hb, hml, hown, hts⟩ (c_X4_has l g st 1 (by omega)) (va_cwS 2 hts gX4_fillColumn_X4_has rfl rfl rfl (by decide +kernel) ⟨Nat.le_of_ble_eq_true rfl, Nat.le_of_ble_eq_true rfl⟩) hG hP hD hS hA [] [0, 1, 2, 3] rfl rfl (by decide) (by decide) (by decide) rfl hl.1 rfl (Nat.le_of_ble_eq_true rfl) dX4_fillColumn_140 ⟨Nat.le_of_ble_eq_true rfl, Nat.le_of_ble_eq_true rfl⟩ rfl rfl (fun v w H locs hv hP hD hS => ?_)
        obtain ⟨⟨rfl, hb5⟩ | ⟨rfl, hb5⟩, rfl⟩ := hv
        · show W p l e _ s m _ below meth c H locs 0 0 _ (F0 m 143 ls (.int (iI 1) :: []))
          have hb5 : fs st 1 := hb5
          have hP : va_P g.1 vwCl [(hp, .inr (4, [.ref ad, .ref an, .ref aa])), (ad, aI (g.2.1 0) 3 (va_up fd n ((10 + (fa n)) - low))), (an, aI (g.2.1 0) 3 (va_up fn n 5)), (aa, aI (g.2.1 0) 3 fa)] H := hP
          have hD : va_D A [(hp, .inr (4, [.ref ad, .ref an, .ref aa])), (ad, aI (g.2.1 0) 3 (va_up fd n ((10 + (fa n)) - low))), (an, aI (g.2.1 0) 3 (va_up fn n 5)), (aa, aI (g.2.1 0) 3 fa)] := hD
          refine iv_if_ne (tgt := 155) hx hb dX4_fillColumn_143 (by decide) (by decide) (fun _ => ?_) (fun h => absurd h (by decide))
          exact Ct.vret hx hb hr hlocks (hP.sub [0, 1, 2, 3] rfl) (hD.sub [0, 1, 2, 3] (by decide) rfl) hS ⟨by decide, by decide⟩ dX4_fillColumn_155 ⟨(va_up fd n ((10 + (fa n)) - low)), (va_up fn n 5), fa, rfl, rfl, (congrArg (va_up fd n) (by unfold cg; (repeat' split) <;> omega)), (congrArg (va_up fn n) (by unfold cd; (repeat' split) <;> omega)), (by unfold caF; (repeat' split) <;> first | rfl | (exfalso; omega) | (rw [show 2 - n = 3 - (n + 1) from by omega]; assumption))⟩
        · show W p l e _ s m _ below meth c H locs 0 0 _ (F0 m 143 ls (.int (iI 0) :: []))
          have hb5 : ¬ (fs st 1) := hb5
          have hP : va_P g.1 vwCl [(hp, .inr (4, [.ref ad, .ref an, .ref aa])), (ad, aI (g.2.1 0) 3 (va_up fd n ((10 + (fa n)) - low))), (an, aI (g.2.1 0) 3 (va_up fn n 5)), (aa, aI (g.2.1 0) 3 fa)] H := hP
          have hD : va_D A [(hp, .inr (4, [.ref ad, .ref an, .ref aa])), (ad, aI (g.2.1 0) 3 (va_up fd n ((10 + (fa n)) - low))), (an, aI (g.2.1 0) 3 (va_up fn n 5)), (aa, aI (g.2.1 0) 3 fa)] := hD
          refine iv_if_ne (tgt := 155) hx hb dX4_fillColumn_143 (by decide) (by decide) (fun h => absurd h (by decide)) (fun _ => ?_)
          refine lv_aload_n hx hb dX4_fillColumn_146 rfl (lv_at hl 1 rfl) ?_
          refine lv_iload_n hx hb dX4_fillColumn_147 rfl (lv_at hl 2 rfl) ?_
          refine lv_iconst (v := iI (1)) hx hb dX4_fillColumn_148 rfl ?_
          refine iv_iadd hx hb dX4_fillColumn_149 ?_
          refine lv_iload hx hb dX4_fillColumn_150 (lv_at hl 5 rfl) ?_
          refine Ct.callV (ci := 4) (q0 := 0) (qc := (RX4, TX4, 3)) (As := [.int (iI (c_ + 1)), .int (iI st)]) (rest := []) (wr := []) (c1 := 0) (s1 := 0) ⟨hx, hb, hml, hown, hts⟩ (c_X4_pay l g hp ad an aa (va_up fd n ((10 + (fa n)) - low)) (va_up fn n 5) fa (c_ + 1) st (n + 1) (by omega) (h2)) rfl rfl (cwV 2 hts gX4_fillColumn_X4_pay rfl rfl rfl (by decide +kernel) ⟨Nat.le_of_ble_eq_true rfl, Nat.le_of_ble_eq_true rfl⟩) hG hP hD hS hA [0, 1, 2, 3] [] rfl rfl (by decide) (by decide) (by decide) rfl hl.1 rfl (Nat.le_of_ble_eq_true rfl) dX4_fillColumn_152 ⟨Nat.le_of_ble_eq_true rfl, Nat.le_of_ble_eq_true rfl⟩ rfl rfl (fun v w H locs hv hP hD hS => ?_)
          obtain ⟨fa8, rfl, rfl, hf9⟩ := hv
          show W p l e _ s m _ below meth c H locs 0 0 _ (F0 m 155 ls [])
          have hP : va_P g.1 vwCl [(hp, .inr (4, [.ref ad, .ref an, .ref aa])), (ad, aI (g.2.1 0) 3 (va_up fd n ((10 + (fa n)) - low))), (an, aI (g.2.1 0) 3 (va_up fn n 5)), (aa, aI (g.2.1 0) 3 fa8)] H := hP
          have hD : va_D A [(hp, .inr (4, [.ref ad, .ref an, .ref aa])), (ad, aI (g.2.1 0) 3 (va_up fd n ((10 + (fa n)) - low))), (an, aI (g.2.1 0) 3 (va_up fn n 5)), (aa, aI (g.2.1 0) 3 fa8)] := hD
          have hf9 : fa8 = payR st (3 - (n + 1)) (n + 1) fa := hf9
          exact Ct.vret hx hb hr hlocks (hP.sub [0, 1, 2, 3] rfl) (hD.sub [0, 1, 2, 3] (by decide) rfl) hS ⟨by decide, by decide⟩ dX4_fillColumn_155 ⟨(va_up fd n ((10 + (fa n)) - low)), (va_up fn n 5), fa8, rfl, rfl, (congrArg (va_up fd n) (by unfold cg; (repeat' split) <;> omega)), (congrArg (va_up fn n) (by unfold cd; (repeat' split) <;> omega)), (by unfold caF; (repeat' split) <;> first | rfl | (exfalso; omega) | (rw [show 2 - n = 3 - (n + 1) from by omega]; assumption))⟩
    · refine lv_aload_n hx hb dX4_fillColumn_89 rfl (lv_at hl 1 rfl) ?_
      refine lv_iload_n hx hb dX4_fillColumn_90 rfl (lv_at hl 2 rfl) ?_
      refine lv_iconst (v := iI (3)) hx hb dX4_fillColumn_91 rfl ?_
      refine lv_iload hx hb dX4_fillColumn_92 (lv_at hl 0 rfl) ?_
      refine lv_iload_n hx hb dX4_fillColumn_94 rfl (lv_at hl 3 rfl) ?_
      refine iv_isub hx hb dX4_fillColumn_95 ?_
      refine Ct.callV (ci := 4) (q0 := 0) (qc := (RX4, TX4, 3)) (As := [.int (iI c_), .int (iI 3), .int (iI ((fa n) - low))]) (rest := []) (wr := []) (c1 := 0) (s1 := 0) ⟨hx, hb, hml, hown, hts⟩ (c_X4_note l g hp ad an aa fd fn fa c_ 3 ((fa n) - low) n (by omega)) rfl rfl (cwV 3 hts gX4_fillColumn_X4_note rfl rfl rfl (by decide +kernel) ⟨Nat.le_of_ble_eq_true rfl, Nat.le_of_ble_eq_true rfl⟩) hG hP hD hS hA [0, 1, 2, 3] [] rfl rfl (by decide) (by decide) (by decide) rfl hl.1 rfl (Nat.le_of_ble_eq_true rfl) dX4_fillColumn_96 ⟨Nat.le_of_ble_eq_true rfl, Nat.le_of_ble_eq_true rfl⟩ rfl rfl (fun v w H locs hv hP hD hS => ?_)
      obtain ⟨rfl, rfl⟩ := hv
      show W p l e _ s m _ below meth c H locs 0 0 _ (F0 m 99 ls [])
      have hP : va_P g.1 vwCl [(hp, .inr (4, [.ref ad, .ref an, .ref aa])), (ad, aI (g.2.1 0) 3 (va_up fd n ((fa n) - low))), (an, aI (g.2.1 0) 3 (va_up fn n 3)), (aa, aI (g.2.1 0) 3 fa)] H := hP
      have hD : va_D A [(hp, .inr (4, [.ref ad, .ref an, .ref aa])), (ad, aI (g.2.1 0) 3 (va_up fd n ((fa n) - low))), (an, aI (g.2.1 0) 3 (va_up fn n 3)), (aa, aI (g.2.1 0) 3 fa)] := hD
      refine lv_goto (tgt := 155) hx hb dX4_fillColumn_99 (by decide) ?_
      exact Ct.vret hx hb hr hlocks (hP.sub [0, 1, 2, 3] rfl) (hD.sub [0, 1, 2, 3] (by decide) rfl) hS ⟨by decide, by decide⟩ dX4_fillColumn_155 ⟨(va_up fd n ((fa n) - low)), (va_up fn n 3), fa, rfl, rfl, (congrArg (va_up fd n) (by unfold cg; (repeat' split) <;> omega)), (congrArg (va_up fn n) (by unfold cd; (repeat' split) <;> omega)), (by unfold caF; (repeat' split) <;> first | rfl | (exfalso; omega) | (rw [show 2 - n = 3 - (n + 1) from by omega]; assumption))⟩
  have hjoin55 : ∀ (hj1 : ¬ (b = 1 ∧ fs st 6)) (hj2 : ¬ (low = 0 ∧ fs st 5)), ∀ (H : Heap) (locs : List Loc) (ls : Array Slot), va_P g.1 vwCl [(hp, .inr (4, [.ref ad, .ref an, .ref aa])), (ad, aI (g.2.1 0) 3 fd), (an, aI (g.2.1 0) 3 fn), (aa, aI (g.2.1 0) 3 fa)] H → va_D A [(hp, .inr (4, [.ref ad, .ref an, .ref aa])), (ad, aI (g.2.1 0) 3 fd), (an, aI (g.2.1 0) 3 fn), (aa, aI (g.2.1 0) 3 fa)] → va_S A s.heap H locs → lv_has ls 6 [(5, .int (iI (fa n))), (0, .ref hp), (1, .int (iI c_)), (2, .int (iI low)), (3, .int (iI b)), (4, .int (iI st))] → W p l e ({ frames := 2, cells := 0, slots := 0, locals := 44 } : Room) s m [.ref hp, .int (iI c_), .int (iI low), .int (iI b), .int (iI st)].toArray below meth c H locs 0 0 (MQ below (CQ g (q_X4_fillColumn g hp ad an aa fd fn fa c_ low b st n) A) [.ref hp, .int (iI c_), .int (iI low), .int (iI b), .int (iI st)].toArray s ({ frames := 2, cells := 0, slots := 0, locals := 44 } : Room).cells ({ frames := 2, cells := 0, slots := 0, locals := 44 } : Room).slots A) (F0 m 55 ls []) := by
    intro  hj1 hj2 H locs ls hP hD hS hl
    refine lv_iload hx hb dX4_fillColumn_55 (lv_at hl 0 rfl) ?_
    refine iv_if_ne (tgt := 83) hx hb dX4_fillColumn_57 (by decide) (by omega) (fun hc10 => ?_) (fun hc10 => ?_)
    · exact hjoin83  (by omega) (by omega) (by omega) H locs ls (hP.sub [0, 1, 2, 3] rfl) (hD.sub [0, 1, 2, 3] (by decide) rfl) hS (lv_sub hl [0, 1, 2, 3, 4, 5] rfl)
    · refine lv_iload_n hx hb dX4_fillColumn_60 rfl (lv_at hl 3 rfl) ?_
      refine iv_if_le (tgt := 83) hx hb dX4_fillColumn_61 (by decide) (by omega) (fun hc11 => ?_) (fun hc11 => ?_)
      · exact hjoin83  (by omega) (by omega) (by omega) H locs ls (hP.sub [0, 1, 2, 3] rfl) (hD.sub [0, 1, 2, 3] (by decide) rfl) hS (lv_sub hl [0, 1, 2, 3, 4, 5] rfl)
      · refine lv_iload hx hb dX4_fillColumn_64 (lv_at hl 5 rfl) ?_
        refine lv_iconst (v := iI (2)) hx hb dX4_fillColumn_66 rfl ?_
        refine Ct.callS (As := [.int (iI st), .int (iI 2)]) (rest := []) (wr := [(hp, .inr (4, [.ref ad, .ref an, .ref aa])), (ad, aI (g.2.1 0) 3 fd), (an, aI (g.2.1 0) 3 fn), (aa, aI (g.2.1 0) 3 fa)]) (c1 := 0) (s1 := 0) ⟨hx, hb, hml, hown, hts⟩ (c_X4_has l g st 2 (by omega)) (va_cwS 2 hts gX4_fillColumn_X4_has rfl rfl rfl (by decide +kernel) ⟨Nat.le_of_ble_eq_true rfl, Nat.le_of_ble_eq_true rfl⟩) hG hP hD hS hA [] [0, 1, 2, 3] rfl rfl (by decide) (by decide) (by decide) rfl hl.1 rfl (Nat.le_of_ble_eq_true rfl) dX4_fillColumn_67 ⟨Nat.le_of_ble_eq_true rfl, Nat.le_of_ble_eq_true rfl⟩ rfl rfl (fun v w H locs hv hP hD hS => ?_)
        obtain ⟨⟨rfl, hb12⟩ | ⟨rfl, hb12⟩, rfl⟩ := hv
        · show W p l e _ s m _ below meth c H locs 0 0 _ (F0 m 70 ls (.int (iI 1) :: []))
          have hb12 : fs st 2 := hb12
          have hP : va_P g.1 vwCl [(hp, .inr (4, [.ref ad, .ref an, .ref aa])), (ad, aI (g.2.1 0) 3 fd), (an, aI (g.2.1 0) 3 fn), (aa, aI (g.2.1 0) 3 fa)] H := hP
          have hD : va_D A [(hp, .inr (4, [.ref ad, .ref an, .ref aa])), (ad, aI (g.2.1 0) 3 fd), (an, aI (g.2.1 0) 3 fn), (aa, aI (g.2.1 0) 3 fa)] := hD
          refine iv_if_eq (tgt := 83) hx hb dX4_fillColumn_70 (by decide) (by decide) (fun h => absurd h (by decide)) (fun _ => ?_)
          refine lv_aload_n hx hb dX4_fillColumn_73 rfl (lv_at hl 1 rfl) ?_
          refine lv_iload_n hx hb dX4_fillColumn_74 rfl (lv_at hl 2 rfl) ?_
          refine lv_iconst (v := iI (2)) hx hb dX4_fillColumn_75 rfl ?_
          refine lv_iload_n hx hb dX4_fillColumn_76 rfl (lv_at hl 3 rfl) ?_
          refine Ct.callV (ci := 4) (q0 := 0) (qc := (RX4, TX4, 3)) (As := [.int (iI c_), .int (iI 2), .int (iI low)]) (rest := []) (wr := []) (c1 := 0) (s1 := 0) ⟨hx, hb, hml, hown, hts⟩ (c_X4_note l g hp ad an aa fd fn fa c_ 2 low n (by omega)) rfl rfl (cwV 3 hts gX4_fillColumn_X4_note rfl rfl rfl (by decide +kernel) ⟨Nat.le_of_ble_eq_true rfl, Nat.le_of_ble_eq_true rfl⟩) hG hP hD hS hA [0, 1, 2, 3] [] rfl rfl (by decide) (by decide) (by decide) rfl hl.1 rfl (Nat.le_of_ble_eq_true rfl) dX4_fillColumn_77 ⟨Nat.le_of_ble_eq_true rfl, Nat.le_of_ble_eq_true rfl⟩ rfl rfl (fun v w H locs hv hP hD hS => ?_)
          obtain ⟨rfl, rfl⟩ := hv
          show W p l e _ s m _ below meth c H locs 0 0 _ (F0 m 80 ls [])
          have hP : va_P g.1 vwCl [(hp, .inr (4, [.ref ad, .ref an, .ref aa])), (ad, aI (g.2.1 0) 3 (va_up fd n low)), (an, aI (g.2.1 0) 3 (va_up fn n 2)), (aa, aI (g.2.1 0) 3 fa)] H := hP
          have hD : va_D A [(hp, .inr (4, [.ref ad, .ref an, .ref aa])), (ad, aI (g.2.1 0) 3 (va_up fd n low)), (an, aI (g.2.1 0) 3 (va_up fn n 2)), (aa, aI (g.2.1 0) 3 fa)] := hD
          refine lv_goto (tgt := 155) hx hb dX4_fillColumn_80 (by decide) ?_
          exact Ct.vret hx hb hr hlocks (hP.sub [0, 1, 2, 3] rfl) (hD.sub [0, 1, 2, 3] (by decide) rfl) hS ⟨by decide, by decide⟩ dX4_fillColumn_155 ⟨(va_up fd n low), (va_up fn n 2), fa, rfl, rfl, (congrArg (va_up fd n) (by unfold cg; (repeat' split) <;> omega)), (congrArg (va_up fn n) (by unfold cd; (repeat' split) <;> omega)), (by unfold caF; (repeat' split) <;> first | rfl | (exfalso; omega) | (rw [show 2 - n = 3 - (n + 1) from by omega]; assumption))⟩
        · show W p l e _ s m _ below meth c H locs 0 0 _ (F0 m 70 ls (.int (iI 0) :: []))
          have hb12 : ¬ (fs st 2) := hb12
          have hP : va_P g.1 vwCl [(hp, .inr (4, [.ref ad, .ref an, .ref aa])), (ad, aI (g.2.1 0) 3 fd), (an, aI (g.2.1 0) 3 fn), (aa, aI (g.2.1 0) 3 fa)] H := hP
          have hD : va_D A [(hp, .inr (4, [.ref ad, .ref an, .ref aa])), (ad, aI (g.2.1 0) 3 fd), (an, aI (g.2.1 0) 3 fn), (aa, aI (g.2.1 0) 3 fa)] := hD
          refine iv_if_eq (tgt := 83) hx hb dX4_fillColumn_70 (by decide) (by decide) (fun _ => ?_) (fun h => absurd h (by decide))
          exact hjoin83  (by omega) (by omega) (by omega) H locs ls (hP.sub [0, 1, 2, 3] rfl) (hD.sub [0, 1, 2, 3] (by decide) rfl) hS (lv_sub hl [0, 1, 2, 3, 4, 5] rfl)
  have hjoin32 : ∀ (hj1 : ¬ (b = 1 ∧ fs st 6)), ∀ (H : Heap) (locs : List Loc) (ls : Array Slot), va_P g.1 vwCl [(hp, .inr (4, [.ref ad, .ref an, .ref aa])), (ad, aI (g.2.1 0) 3 fd), (an, aI (g.2.1 0) 3 fn), (aa, aI (g.2.1 0) 3 fa)] H → va_D A [(hp, .inr (4, [.ref ad, .ref an, .ref aa])), (ad, aI (g.2.1 0) 3 fd), (an, aI (g.2.1 0) 3 fn), (aa, aI (g.2.1 0) 3 fa)] → va_S A s.heap H locs → lv_has ls 6 [(5, .int (iI (fa n))), (0, .ref hp), (1, .int (iI c_)), (2, .int (iI low)), (3, .int (iI b)), (4, .int (iI st))] → W p l e ({ frames := 2, cells := 0, slots := 0, locals := 44 } : Room) s m [.ref hp, .int (iI c_), .int (iI low), .int (iI b), .int (iI st)].toArray below meth c H locs 0 0 (MQ below (CQ g (q_X4_fillColumn g hp ad an aa fd fn fa c_ low b st n) A) [.ref hp, .int (iI c_), .int (iI low), .int (iI b), .int (iI st)].toArray s ({ frames := 2, cells := 0, slots := 0, locals := 44 } : Room).cells ({ frames := 2, cells := 0, slots := 0, locals := 44 } : Room).slots A) (F0 m 32 ls []) := by
    intro  hj1 H locs ls hP hD hS hl
    refine lv_iload_n hx hb dX4_fillColumn_32 rfl (lv_at hl 3 rfl) ?_
    refine iv_if_ne (tgt := 55) hx hb dX4_fillColumn_33 (by decide) (by omega) (fun hc15 => ?_) (fun hc15 => ?_)
    · exact hjoin55  (by omega) (by omega) H locs ls (hP.sub [0, 1, 2, 3] rfl) (hD.sub [0, 1, 2, 3] (by decide) rfl) hS (lv_sub hl [0, 1, 2, 3, 4, 5] rfl)
    · refine lv_iload hx hb dX4_fillColumn_36 (lv_at hl 5 rfl) ?_
      refine lv_iconst (v := iI (5)) hx hb dX4_fillColumn_38 rfl ?_
      refine Ct.callS (As := [.int (iI st), .int (iI 5)]) (rest := []) (wr := [(hp, .inr (4, [.ref ad, .ref an, .ref aa])), (ad, aI (g.2.1 0) 3 fd), (an, aI (g.2.1 0) 3 fn), (aa, aI (g.2.1 0) 3 fa)]) (c1 := 0) (s1 := 0) ⟨hx, hb, hml, hown, hts⟩ (c_X4_has l g st 5 (by omega)) (va_cwS 2 hts gX4_fillColumn_X4_has rfl rfl rfl (by decide +kernel) ⟨Nat.le_of_ble_eq_true rfl, Nat.le_of_ble_eq_true rfl⟩) hG hP hD hS hA [] [0, 1, 2, 3] rfl rfl (by decide) (by decide) (by decide) rfl hl.1 rfl (Nat.le_of_ble_eq_true rfl) dX4_fillColumn_39 ⟨Nat.le_of_ble_eq_true rfl, Nat.le_of_ble_eq_true rfl⟩ rfl rfl (fun v w H locs hv hP hD hS => ?_)
      obtain ⟨⟨rfl, hb16⟩ | ⟨rfl, hb16⟩, rfl⟩ := hv
      · show W p l e _ s m _ below meth c H locs 0 0 _ (F0 m 42 ls (.int (iI 1) :: []))
        have hb16 : fs st 5 := hb16
        have hP : va_P g.1 vwCl [(hp, .inr (4, [.ref ad, .ref an, .ref aa])), (ad, aI (g.2.1 0) 3 fd), (an, aI (g.2.1 0) 3 fn), (aa, aI (g.2.1 0) 3 fa)] H := hP
        have hD : va_D A [(hp, .inr (4, [.ref ad, .ref an, .ref aa])), (ad, aI (g.2.1 0) 3 fd), (an, aI (g.2.1 0) 3 fn), (aa, aI (g.2.1 0) 3 fa)] := hD
        refine iv_if_eq (tgt := 55) hx hb dX4_fillColumn_42 (by decide) (by decide) (fun h => absurd h (by decide)) (fun _ => ?_)
        refine lv_aload_n hx hb dX4_fillColumn_45 rfl (lv_at hl 1 rfl) ?_
        refine lv_iload_n hx hb dX4_fillColumn_46 rfl (lv_at hl 2 rfl) ?_
        refine lv_iconst (v := iI (1)) hx hb dX4_fillColumn_47 rfl ?_
        refine lv_iconst (v := iI (0)) hx hb dX4_fillColumn_48 rfl ?_
        refine Ct.callV (ci := 4) (q0 := 0) (qc := (RX4, TX4, 3)) (As := [.int (iI c_), .int (iI 1), .int (iI 0)]) (rest := []) (wr := []) (c1 := 0) (s1 := 0) ⟨hx, hb, hml, hown, hts⟩ (c_X4_note l g hp ad an aa fd fn fa c_ 1 0 n (by omega)) rfl rfl (cwV 3 hts gX4_fillColumn_X4_note rfl rfl rfl (by decide +kernel) ⟨Nat.le_of_ble_eq_true rfl, Nat.le_of_ble_eq_true rfl⟩) hG hP hD hS hA [0, 1, 2, 3] [] rfl rfl (by decide) (by decide) (by decide) rfl hl.1 rfl (Nat.le_of_ble_eq_true rfl) dX4_fillColumn_49 ⟨Nat.le_of_ble_eq_true rfl, Nat.le_of_ble_eq_true rfl⟩ rfl rfl (fun v w H locs hv hP hD hS => ?_)
        obtain ⟨rfl, rfl⟩ := hv
        show W p l e _ s m _ below meth c H locs 0 0 _ (F0 m 52 ls [])
        have hP : va_P g.1 vwCl [(hp, .inr (4, [.ref ad, .ref an, .ref aa])), (ad, aI (g.2.1 0) 3 (va_up fd n 0)), (an, aI (g.2.1 0) 3 (va_up fn n 1)), (aa, aI (g.2.1 0) 3 fa)] H := hP
        have hD : va_D A [(hp, .inr (4, [.ref ad, .ref an, .ref aa])), (ad, aI (g.2.1 0) 3 (va_up fd n 0)), (an, aI (g.2.1 0) 3 (va_up fn n 1)), (aa, aI (g.2.1 0) 3 fa)] := hD
        refine lv_goto (tgt := 155) hx hb dX4_fillColumn_52 (by decide) ?_
        exact Ct.vret hx hb hr hlocks (hP.sub [0, 1, 2, 3] rfl) (hD.sub [0, 1, 2, 3] (by decide) rfl) hS ⟨by decide, by decide⟩ dX4_fillColumn_155 ⟨(va_up fd n 0), (va_up fn n 1), fa, rfl, rfl, (congrArg (va_up fd n) (by unfold cg; (repeat' split) <;> omega)), (congrArg (va_up fn n) (by unfold cd; (repeat' split) <;> omega)), (by unfold caF; (repeat' split) <;> first | rfl | (exfalso; omega) | (rw [show 2 - n = 3 - (n + 1) from by omega]; assumption))⟩
      · show W p l e _ s m _ below meth c H locs 0 0 _ (F0 m 42 ls (.int (iI 0) :: []))
        have hb16 : ¬ (fs st 5) := hb16
        have hP : va_P g.1 vwCl [(hp, .inr (4, [.ref ad, .ref an, .ref aa])), (ad, aI (g.2.1 0) 3 fd), (an, aI (g.2.1 0) 3 fn), (aa, aI (g.2.1 0) 3 fa)] H := hP
        have hD : va_D A [(hp, .inr (4, [.ref ad, .ref an, .ref aa])), (ad, aI (g.2.1 0) 3 fd), (an, aI (g.2.1 0) 3 fn), (aa, aI (g.2.1 0) 3 fa)] := hD
        refine iv_if_eq (tgt := 55) hx hb dX4_fillColumn_42 (by decide) (by decide) (fun _ => ?_) (fun h => absurd h (by decide))
        exact hjoin55  (by omega) (by omega) H locs ls (hP.sub [0, 1, 2, 3] rfl) (hD.sub [0, 1, 2, 3] (by decide) rfl) hS (lv_sub hl [0, 1, 2, 3, 4, 5] rfl)
  refine lv_iload_n hx hb dX4_fillColumn_8 rfl (lv_at hl 4 rfl) ?_
  refine iv_if_eq (tgt := 32) hx hb dX4_fillColumn_9 (by decide) (by omega) (fun hc19 => ?_) (fun hc19 => ?_)
  · exact hjoin32  (by omega) H locs ls (hP.sub [0, 1, 2, 3] rfl) (hD.sub [0, 1, 2, 3] (by decide) rfl) hS (lv_sub hl [0, 1, 2, 3, 4, 5] rfl)
  · refine lv_iload hx hb dX4_fillColumn_12 (lv_at hl 5 rfl) ?_
    refine lv_bipush (v := iI (6)) hx hb dX4_fillColumn_14 (by decide) ?_
    refine Ct.callS (As := [.int (iI st), .int (iI 6)]) (rest := []) (wr := [(hp, .inr (4, [.ref ad, .ref an, .ref aa])), (ad, aI (g.2.1 0) 3 fd), (an, aI (g.2.1 0) 3 fn), (aa, aI (g.2.1 0) 3 fa)]) (c1 := 0) (s1 := 0) ⟨hx, hb, hml, hown, hts⟩ (c_X4_has l g st 6 (by omega)) (va_cwS 2 hts gX4_fillColumn_X4_has rfl rfl rfl (by decide +kernel) ⟨Nat.le_of_ble_eq_true rfl, Nat.le_of_ble_eq_true rfl⟩) hG hP hD hS hA [] [0, 1, 2, 3] rfl rfl (by decide) (by decide) (by decide) rfl hl.1 rfl (Nat.le_of_ble_eq_true rfl) dX4_fillColumn_16 ⟨Nat.le_of_ble_eq_true rfl, Nat.le_of_ble_eq_true rfl⟩ rfl rfl (fun v w H locs hv hP hD hS => ?_)
    obtain ⟨⟨rfl, hb20⟩ | ⟨rfl, hb20⟩, rfl⟩ := hv
    · show W p l e _ s m _ below meth c H locs 0 0 _ (F0 m 19 ls (.int (iI 1) :: []))
      have hb20 : fs st 6 := hb20
      have hP : va_P g.1 vwCl [(hp, .inr (4, [.ref ad, .ref an, .ref aa])), (ad, aI (g.2.1 0) 3 fd), (an, aI (g.2.1 0) 3 fn), (aa, aI (g.2.1 0) 3 fa)] H := hP
      have hD : va_D A [(hp, .inr (4, [.ref ad, .ref an, .ref aa])), (ad, aI (g.2.1 0) 3 fd), (an, aI (g.2.1 0) 3 fn), (aa, aI (g.2.1 0) 3 fa)] := hD
      refine iv_if_eq (tgt := 32) hx hb dX4_fillColumn_19 (by decide) (by decide) (fun h => absurd h (by decide)) (fun _ => ?_)
      refine lv_aload_n hx hb dX4_fillColumn_22 rfl (lv_at hl 1 rfl) ?_
      refine lv_iload_n hx hb dX4_fillColumn_23 rfl (lv_at hl 2 rfl) ?_
      refine lv_iconst (v := iI (0)) hx hb dX4_fillColumn_24 rfl ?_
      refine lv_iconst (v := iI (0)) hx hb dX4_fillColumn_25 rfl ?_
      refine Ct.callV (ci := 4) (q0 := 0) (qc := (RX4, TX4, 3)) (As := [.int (iI c_), .int (iI 0), .int (iI 0)]) (rest := []) (wr := []) (c1 := 0) (s1 := 0) ⟨hx, hb, hml, hown, hts⟩ (c_X4_note l g hp ad an aa fd fn fa c_ 0 0 n (by omega)) rfl rfl (cwV 3 hts gX4_fillColumn_X4_note rfl rfl rfl (by decide +kernel) ⟨Nat.le_of_ble_eq_true rfl, Nat.le_of_ble_eq_true rfl⟩) hG hP hD hS hA [0, 1, 2, 3] [] rfl rfl (by decide) (by decide) (by decide) rfl hl.1 rfl (Nat.le_of_ble_eq_true rfl) dX4_fillColumn_26 ⟨Nat.le_of_ble_eq_true rfl, Nat.le_of_ble_eq_true rfl⟩ rfl rfl (fun v w H locs hv hP hD hS => ?_)
      obtain ⟨rfl, rfl⟩ := hv
      show W p l e _ s m _ below meth c H locs 0 0 _ (F0 m 29 ls [])
      have hP : va_P g.1 vwCl [(hp, .inr (4, [.ref ad, .ref an, .ref aa])), (ad, aI (g.2.1 0) 3 (va_up fd n 0)), (an, aI (g.2.1 0) 3 (va_up fn n 0)), (aa, aI (g.2.1 0) 3 fa)] H := hP
      have hD : va_D A [(hp, .inr (4, [.ref ad, .ref an, .ref aa])), (ad, aI (g.2.1 0) 3 (va_up fd n 0)), (an, aI (g.2.1 0) 3 (va_up fn n 0)), (aa, aI (g.2.1 0) 3 fa)] := hD
      refine lv_goto (tgt := 155) hx hb dX4_fillColumn_29 (by decide) ?_
      exact Ct.vret hx hb hr hlocks (hP.sub [0, 1, 2, 3] rfl) (hD.sub [0, 1, 2, 3] (by decide) rfl) hS ⟨by decide, by decide⟩ dX4_fillColumn_155 ⟨(va_up fd n 0), (va_up fn n 0), fa, rfl, rfl, (congrArg (va_up fd n) (by unfold cg; (repeat' split) <;> omega)), (congrArg (va_up fn n) (by unfold cd; (repeat' split) <;> omega)), (by unfold caF; (repeat' split) <;> first | rfl | (exfalso; omega) | (rw [show 2 - n = 3 - (n + 1) from by omega]; assumption))⟩
    · show W p l e _ s m _ below meth c H locs 0 0 _ (F0 m 19 ls (.int (iI 0) :: []))
      have hb20 : ¬ (fs st 6) := hb20
      have hP : va_P g.1 vwCl [(hp, .inr (4, [.ref ad, .ref an, .ref aa])), (ad, aI (g.2.1 0) 3 fd), (an, aI (g.2.1 0) 3 fn), (aa, aI (g.2.1 0) 3 fa)] H := hP
      have hD : va_D A [(hp, .inr (4, [.ref ad, .ref an, .ref aa])), (ad, aI (g.2.1 0) 3 fd), (an, aI (g.2.1 0) 3 fn), (aa, aI (g.2.1 0) 3 fa)] := hD
      refine iv_if_eq (tgt := 32) hx hb dX4_fillColumn_19 (by decide) (by decide) (fun _ => ?_) (fun h => absurd h (by decide))
      exact hjoin32  (by omega) H locs ls (hP.sub [0, 1, 2, 3] rfl) (hD.sub [0, 1, 2, 3] (by decide) rfl) hS (lv_sub hl [0, 1, 2, 3, 4, 5] rfl)
theorem kX4_fill_4 : ∀ w ∈ u_ws RX4 TX4 3, w ∈ wsX4_fill := fun _ h => List.mem_cons_of_mem _ (List.mem_append_right _ h)
abbrev q_X4_fill (g : GT) (hp : Nat) (ad : Nat) (an : Nat) (aa : Nat) (fd : Nat → Int) (fn : Nat → Int) (fa : Nat → Int) (much : Int) (less : Int) (st : Int) : Option Value → va_W → Prop := fun v w => ∃ (fd' : Nat → Int), ∃ (fn' : Nat → Int), ∃ (fa' : Nat → Int), v = some (.int (iI (wk much less st))) ∧ w = [(hp, .inr (4, [.ref ad, .ref an, .ref aa])), (ad, aI (g.2.1 0) 3 fd'), (an, aI (g.2.1 0) 3 fn'), (aa, aI (g.2.1 0) 3 fa')] ∧ (∀ j, j < 3 → fd' j = wkG st much less j) ∧ (∀ j, j < 3 → fn' j = wkD st much less j)
set_option maxHeartbeats 4000000 in
set_option maxRecDepth 100000 in
theorem c_X4_fill (l : Launch) (g : GT) (hp : Nat) (ad : Nat) (an : Nat) (aa : Nat) (fd : Nat → Int) (fn : Nat → Int) (fa : Nat → Int) (much : Int) (less : Int) (st : Int) (h1 : 0 ≤ less ∧ less ≤ much ∧ much ≤ 999 ∧ 0 ≤ st ∧ st ≤ 255) : Ct l g yX4_fill wsX4_fill ({ frames := 3, cells := 0, slots := 0, locals := 69 } : Room) [.ref hp, .int (iI much), .int (iI less), .int (iI st)] [(hp, .inr (4, [.ref ad, .ref an, .ref aa])), (ad, aI (g.2.1 0) 3 fd), (an, aI (g.2.1 0) 3 fn), (aa, aI (g.2.1 0) 3 fa)] (q_X4_fill g hp ad an aa fd fn fa much less st) := by
  refine Ct.intro (maxL := 7) (ret := (some .int)) (by decide) rfl (Nat.le_of_ble_eq_true rfl) ?_
  intro p e s m below meth c A ls hx hb hr hml hown hts hlocks hnm hA hG hP hD hS hl
  have hown : s.vm.findClass RX4 = some m.cls := hown
  have hl : lv_has ls 7 [(0, .ref hp), (1, .int (iI much)), (2, .int (iI less)), (3, .int (iI st))] := hl
  have hP : va_P g.1 vwCl [(hp, .inr (4, [.ref ad, .ref an, .ref aa])), (ad, aI (g.2.1 0) 3 fd), (an, aI (g.2.1 0) 3 fn), (aa, aI (g.2.1 0) 3 fa)] s.heap := hP
  have hS : va_S A s.heap s.heap [] := hS
  obtain ⟨H, hHe⟩ : ∃ H : Heap, H = s.heap := ⟨_, rfl⟩
  obtain ⟨locs, hLe⟩ : ∃ L : List Loc, L = [] := ⟨_, rfl⟩
  have hP : va_P g.1 vwCl [(hp, .inr (4, [.ref ad, .ref an, .ref aa])), (ad, aI (g.2.1 0) 3 fd), (an, aI (g.2.1 0) 3 fn), (aa, aI (g.2.1 0) 3 fa)] H := by rw [hHe]; exact hP
  have hS : va_S A s.heap H locs := by rw [hHe, hLe]; exact hS
  suffices hgo : W p l e ({ frames := 3, cells := 0, slots := 0, locals := 69 } : Room) s m [.ref hp, .int (iI much), .int (iI less), .int (iI st)].toArray below meth c H locs 0 0 (MQ below (CQ g (q_X4_fill g hp ad an aa fd fn fa much less st) A) [.ref hp, .int (iI much), .int (iI less), .int (iI st)].toArray s ({ frames := 3, cells := 0, slots := 0, locals := 69 } : Room).cells ({ frames := 3, cells := 0, slots := 0, locals := 69 } : Room).slots A) (F0 m 0 ls []) by rw [hHe, hLe] at hgo; exact hgo
  clear hHe hLe
  refine lv_aload_n hx hb dX4_fill_0 rfl (lv_at hl 0 rfl) ?_
  refine va_get (D := g.1) (ci := 4) (v := .ref aa) hx hb hts kX4_fill_4 hown hG.1 hP 0 rfl rfl 2 (by decide) (hts _ (List.mem_of_getElem? (i := 1) rfl)) (fun _ h9 => h9) rfl dX4_fill_1 ?_
  refine lv_iconst (v := iI (0)) hx hb dX4_fill_4 rfl ?_
  refine lv_iload_n hx hb dX4_fill_5 rfl (lv_at hl 1 rfl) ?_
  refine lv_bipush (v := iI (10)) hx hb dX4_fill_6 (by decide) ?_
  refine iv_irem hx hb dX4_fill_8 (by omega) ?_
  refine iv_iast hx hb hG hP hD hS 3 rfl 0 (rfl) (by decide) (by decide) dX4_fill_9 (fun H locs hP hD hS => ?_)
  have hP : va_P g.1 vwCl [(hp, .inr (4, [.ref ad, .ref an, .ref aa])), (ad, aI (g.2.1 0) 3 fd), (an, aI (g.2.1 0) 3 fn), (aa, aI (g.2.1 0) 3 (va_up fa 0 (much % 10)))] H := hP
  have hD : va_D A [(hp, .inr (4, [.ref ad, .ref an, .ref aa])), (ad, aI (g.2.1 0) 3 fd), (an, aI (g.2.1 0) 3 fn), (aa, aI (g.2.1 0) 3 (va_up fa 0 (much % 10)))] := hD
  refine lv_aload_n hx hb dX4_fill_10 rfl (lv_at hl 0 rfl) ?_
  refine va_get (D := g.1) (ci := 4) (v := .ref aa) hx hb hts kX4_fill_4 hown hG.1 hP 0 rfl rfl 2 (by decide) (hts _ (List.mem_of_getElem? (i := 1) rfl)) (fun _ h9 => h9) rfl dX4_fill_11 ?_
  refine lv_iconst (v := iI (1)) hx hb dX4_fill_14 rfl ?_
  refine lv_iload_n hx hb dX4_fill_15 rfl (lv_at hl 1 rfl) ?_
  refine lv_bipush (v := iI (10)) hx hb dX4_fill_16 (by decide) ?_
  refine iv_idiv hx hb dX4_fill_18 (by omega) ?_
  refine lv_bipush (v := iI (10)) hx hb dX4_fill_19 (by decide) ?_
  refine iv_irem hx hb dX4_fill_21 (by omega) ?_
  refine iv_iast hx hb hG hP hD hS 3 rfl 1 (rfl) (by decide) (by decide) dX4_fill_22 (fun H locs hP hD hS => ?_)
  have hP : va_P g.1 vwCl [(hp, .inr (4, [.ref ad, .ref an, .ref aa])), (ad, aI (g.2.1 0) 3 fd), (an, aI (g.2.1 0) 3 fn), (aa, aI (g.2.1 0) 3 (va_up (va_up fa 0 (much % 10)) 1 ((much / 10) % 10)))] H := hP
  have hD : va_D A [(hp, .inr (4, [.ref ad, .ref an, .ref aa])), (ad, aI (g.2.1 0) 3 fd), (an, aI (g.2.1 0) 3 fn), (aa, aI (g.2.1 0) 3 (va_up (va_up fa 0 (much % 10)) 1 ((much / 10) % 10)))] := hD
  refine lv_aload_n hx hb dX4_fill_23 rfl (lv_at hl 0 rfl) ?_
  refine va_get (D := g.1) (ci := 4) (v := .ref aa) hx hb hts kX4_fill_4 hown hG.1 hP 0 rfl rfl 2 (by decide) (hts _ (List.mem_of_getElem? (i := 1) rfl)) (fun _ h9 => h9) rfl dX4_fill_24 ?_
  refine lv_iconst (v := iI (2)) hx hb dX4_fill_27 rfl ?_
  refine lv_iload_n hx hb dX4_fill_28 rfl (lv_at hl 1 rfl) ?_
  refine lv_bipush (v := iI (100)) hx hb dX4_fill_29 (by decide) ?_
  refine iv_idiv hx hb dX4_fill_31 (by omega) ?_
  refine lv_bipush (v := iI (10)) hx hb dX4_fill_32 (by decide) ?_
  refine iv_irem hx hb dX4_fill_34 (by omega) ?_
  refine iv_iast hx hb hG hP hD hS 3 rfl 2 (rfl) (by decide) (by decide) dX4_fill_35 (fun H locs hP hD hS => ?_)
  have hP : va_P g.1 vwCl [(hp, .inr (4, [.ref ad, .ref an, .ref aa])), (ad, aI (g.2.1 0) 3 fd), (an, aI (g.2.1 0) 3 fn), (aa, aI (g.2.1 0) 3 (va_up (va_up (va_up fa 0 (much % 10)) 1 ((much / 10) % 10)) 2 ((much / 100) % 10)))] H := hP
  have hD : va_D A [(hp, .inr (4, [.ref ad, .ref an, .ref aa])), (ad, aI (g.2.1 0) 3 fd), (an, aI (g.2.1 0) 3 fn), (aa, aI (g.2.1 0) 3 (va_up (va_up (va_up fa 0 (much % 10)) 1 ((much / 10) % 10)) 2 ((much / 100) % 10)))] := hD
  refine lv_iload_n hx hb dX4_fill_36 rfl (lv_at hl 2 rfl) ?_
  refine lv_istore (lv' := [(4, .int (iI less)), (0, .ref hp), (1, .int (iI much)), (2, .int (iI less)), (3, .int (iI st))]) hx hb dX4_fill_37 hl (by decide) rfl (fun ls hl => ?_)
  refine lv_iconst (v := iI (0)) hx hb dX4_fill_39 rfl ?_
  refine lv_istore (lv' := [(5, .int (iI 0)), (4, .int (iI less)), (0, .ref hp), (1, .int (iI much)), (2, .int (iI less)), (3, .int (iI st))]) hx hb dX4_fill_40 hl (by decide) rfl (fun ls hl => ?_)
  have hloop42 : ∀ (fuel : Nat) (rs : Int) (c_ : Int) (fx : Nat → Int) (fy : Nat → Int) (fz : Nat → Int) (n : Nat) (hc : c_ = (n : Int) ∧ n ≤ 3) (hrs : rs = less / 10 ^ n) (hz : ∀ j, j < 3 → fz j = wkA st much less n j) (hg1 : ∀ j, j < n → fx j = wkG st much less j) (hg2 : ∀ j, j < n → fy j = wkD st much less j) (hmeas : 3 - n < fuel), ∀ (H : Heap) (locs : List Loc) (ls : Array Slot), va_P g.1 vwCl [(hp, .inr (4, [.ref ad, .ref an, .ref aa])), (ad, aI (g.2.1 0) 3 fx), (an, aI (g.2.1 0) 3 fy), (aa, aI (g.2.1 0) 3 fz)] H → va_D A [(hp, .inr (4, [.ref ad, .ref an, .ref aa])), (ad, aI (g.2.1 0) 3 fx), (an, aI (g.2.1 0) 3 fy), (aa, aI (g.2.1 0) 3 fz)] → va_S A s.heap H locs → lv_has ls 7 [(5, .int (iI c_)), (4, .int (iI rs)), (0, .ref hp), (1, .int (iI much)), (2, .int (iI less)), (3, .int (iI st))] → W p l e ({ frames := 3, cells := 0, slots := 0, locals := 69 } : Room) s m [.ref hp, .int (iI much), .int (iI less), .int (iI st)].toArray below meth c H locs 0 0 (MQ below (CQ g (q_X4_fill g hp ad an aa fd fn fa much less st) A) [.ref hp, .int (iI much), .int (iI less), .int (iI st)].toArray s ({ frames := 3, cells := 0, slots := 0, locals := 69 } : Room).cells ({ frames := 3, cells := 0, slots := 0, locals := 69 } : Room).slots A) (F0 m 42 ls []) := by
    intro fuel
    induction fuel with
    | zero => intro rs c_ fx fy fz n hc hrs hz hg1 hg2 hmeas; exact absurd hmeas (Nat.not_lt_zero _)
    | succ fuel ih42 =>
      intro rs c_ fx fy fz n hc hrs hz hg1 hg2 hmeas H locs ls hP hD hS hl
      refine lv_iload hx hb dX4_fill_42 (lv_at hl 0 rfl) ?_
      refine lv_iconst (v := iI (3)) hx hb dX4_fill_44 rfl ?_
      refine iv_icmp_ge (tgt := 92) hx hb dX4_fill_45 (by decide) (by omega) (fun hc1 => ?_) (fun hc1 => ?_)
      · refine lv_bipush (v := iI (100)) hx hb dX4_fill_92 (by decide) ?_
        refine lv_aload_n hx hb dX4_fill_94 rfl (lv_at hl 2 rfl) ?_
        refine va_get (D := g.1) (ci := 4) (v := .ref ad) hx hb hts kX4_fill_4 hown hG.1 hP 0 rfl rfl 0 (by decide) (hts _ (List.mem_of_getElem? (i := 2) rfl)) (fun _ h9 => h9) rfl dX4_fill_95 ?_
        refine lv_iconst (v := iI (2)) hx hb dX4_fill_98 rfl ?_
        refine iv_iald hx hb hG hP 1 rfl 2 (rfl) (by decide) (by decide) dX4_fill_99 ?_
        refine iv_imul hx hb dX4_fill_100 ?_
        refine lv_bipush (v := iI (10)) hx hb dX4_fill_101 (by decide) ?_
        refine lv_aload_n hx hb dX4_fill_103 rfl (lv_at hl 2 rfl) ?_
        refine va_get (D := g.1) (ci := 4) (v := .ref ad) hx hb hts kX4_fill_4 hown hG.1 hP 0 rfl rfl 0 (by decide) (hts _ (List.mem_of_getElem? (i := 2) rfl)) (fun _ h9 => h9) rfl dX4_fill_104 ?_
        refine lv_iconst (v := iI (1)) hx hb dX4_fill_107 rfl ?_
        refine iv_iald hx hb hG hP 1 rfl 1 (rfl) (by decide) (by decide) dX4_fill_108 ?_
        refine iv_imul hx hb dX4_fill_109 ?_
        refine iv_iadd hx hb dX4_fill_110 ?_
        refine lv_aload_n hx hb dX4_fill_111 rfl (lv_at hl 2 rfl) ?_
        refine va_get (D := g.1) (ci := 4) (v := .ref ad) hx hb hts kX4_fill_4 hown hG.1 hP 0 rfl rfl 0 (by decide) (hts _ (List.mem_of_getElem? (i := 2) rfl)) (fun _ h9 => h9) rfl dX4_fill_112 ?_
        refine lv_iconst (v := iI (0)) hx hb dX4_fill_115 rfl ?_
        refine iv_iald hx hb hG hP 1 rfl 0 (rfl) (by decide) (by decide) dX4_fill_116 ?_
        refine iv_iadd hx hb dX4_fill_117 ?_
        exact Ct.iret hx hb hr hlocks (hP.sub [0, 1, 2, 3] rfl) (hD.sub [0, 1, 2, 3] (by decide) rfl) hS ⟨by decide, by decide⟩ dX4_fill_118 ⟨fx, fy, fz, (by rw [hg1 2 (by omega), hg1 1 (by omega), hg1 0 (by omega)]; rfl), rfl, (fun j hj => hg1 j (by omega)), (fun j hj => hg2 j (by omega))⟩
      · have hn3 : n < 3 := by omega
        have hq1 : 0 ≤ less / 10 ^ n ∧ less / 10 ^ n ≤ less := ⟨Int.ediv_nonneg (by omega) (Int.pow_nonneg (by omega)), Int.ediv_le_self _ (by omega)⟩
        have hjoin63 : ∀ (b : Int) (hbe : b = bey less n), ∀ (H : Heap) (locs : List Loc) (ls : Array Slot), va_P g.1 vwCl [(hp, .inr (4, [.ref ad, .ref an, .ref aa])), (ad, aI (g.2.1 0) 3 fx), (an, aI (g.2.1 0) 3 fy), (aa, aI (g.2.1 0) 3 fz)] H → va_D A [(hp, .inr (4, [.ref ad, .ref an, .ref aa])), (ad, aI (g.2.1 0) 3 fx), (an, aI (g.2.1 0) 3 fy), (aa, aI (g.2.1 0) 3 fz)] → va_S A s.heap H locs → lv_has ls 7 [(5, .int (iI c_)), (4, .int (iI rs)), (0, .ref hp), (1, .int (iI much)), (2, .int (iI less)), (3, .int (iI st))] → W p l e ({ frames := 3, cells := 0, slots := 0, locals := 69 } : Room) s m [.ref hp, .int (iI much), .int (iI less), .int (iI st)].toArray below meth c H locs 0 0 (MQ below (CQ g (q_X4_fill g hp ad an aa fd fn fa much less st) A) [.ref hp, .int (iI much), .int (iI less), .int (iI st)].toArray s ({ frames := 3, cells := 0, slots := 0, locals := 69 } : Room).cells ({ frames := 3, cells := 0, slots := 0, locals := 69 } : Room).slots A) (F0 m 63 ls [.int (iI b)]) := by
          intro b hbe H locs ls hP hD hS hl
          refine lv_istore (lv' := [(6, .int (iI b)), (5, .int (iI c_)), (4, .int (iI rs)), (0, .ref hp), (1, .int (iI much)), (2, .int (iI less)), (3, .int (iI st))]) hx hb dX4_fill_63 hl (by decide) rfl (fun ls hl => ?_)
          refine lv_aload_n hx hb dX4_fill_65 rfl (lv_at hl 3 rfl) ?_
          refine lv_iload hx hb dX4_fill_66 (lv_at hl 1 rfl) ?_
          refine lv_iload hx hb dX4_fill_68 (lv_at hl 2 rfl) ?_
          refine lv_bipush (v := iI (10)) hx hb dX4_fill_70 (by decide) ?_
          refine iv_irem hx hb dX4_fill_72 (by omega) ?_
          refine lv_iload hx hb dX4_fill_73 (lv_at hl 0 rfl) ?_
          refine lv_iload_n hx hb dX4_fill_75 rfl (lv_at hl 6 rfl) ?_
          have hbb := bey_rng less n
          have hdg : rs % 10 = dg less n := by rw [hrs]; rfl
          have hr9 : ∀ j, j < 3 → 0 ≤ fz j ∧ fz j ≤ 9 := fun j hj => by rw [hz j hj]; exact wkA_rng st much less n (by omega) j hj
          refine Ct.callV (ci := 4) (q0 := 0) (qc := (RX4, TX4, 3)) (As := [.int (iI c_), .int (iI (rs % 10)), .int (iI b), .int (iI st)]) (rest := []) (wr := []) (c1 := 0) (s1 := 0) ⟨hx, hb, hml, hown, hts⟩ (c_X4_fillColumn l g hp ad an aa fx fy fz c_ (rs % 10) b st n (by omega) (hr9)) rfl rfl (cwV 4 hts gX4_fill_X4_fillColumn rfl rfl rfl (by decide +kernel) ⟨Nat.le_of_ble_eq_true rfl, Nat.le_of_ble_eq_true rfl⟩) hG hP hD hS hA [0, 1, 2, 3] [] rfl rfl (by decide) (by decide) (by decide) rfl hl.1 rfl (Nat.le_of_ble_eq_true rfl) dX4_fill_76 ⟨Nat.le_of_ble_eq_true rfl, Nat.le_of_ble_eq_true rfl⟩ rfl rfl (fun v w H locs hv hP hD hS => ?_)
          obtain ⟨fd2, fn3, fa4, rfl, rfl, hf5, hf6, hf7⟩ := hv
          show W p l e _ s m _ below meth c H locs 0 0 _ (F0 m 79 ls [])
          have hP : va_P g.1 vwCl [(hp, .inr (4, [.ref ad, .ref an, .ref aa])), (ad, aI (g.2.1 0) 3 fd2), (an, aI (g.2.1 0) 3 fn3), (aa, aI (g.2.1 0) 3 fa4)] H := hP
          have hD : va_D A [(hp, .inr (4, [.ref ad, .ref an, .ref aa])), (ad, aI (g.2.1 0) 3 fd2), (an, aI (g.2.1 0) 3 fn3), (aa, aI (g.2.1 0) 3 fa4)] := hD
          have hf5 : fd2 = va_up fx n (cg st b (fz n) (rs % 10)) := hf5
          have hf6 : fn3 = va_up fy n (cd st b (fz n) (rs % 10)) := hf6
          have hf7 : fa4 = caF st b (rs % 10) n fz := hf7
          have hz2 : ∀ j, j < 3 → fa4 j = wkA st much less (n + 1) j := fun j hj => by rw [hf7]; show caF st b (rs % 10) n fz j = caF st (bey less n) (dg less n) n (wkA st much less n) j; rw [hdg, hbe]; exact caF_congr st _ _ n hn3 _ _ hz j hj
          have hg3 : ∀ j, j < n + 1 → fd2 j = wkG st much less j := by rw [hf5]; exact up_le (by rw [hdg, hbe, hz n hn3]; rfl) hg1
          have hg4 : ∀ j, j < n + 1 → fn3 j = wkD st much less j := by rw [hf6]; exact up_le (by rw [hdg, hbe, hz n hn3]; rfl) hg2
          refine lv_iload hx hb dX4_fill_79 (lv_at hl 2 rfl) ?_
          refine lv_bipush (v := iI (10)) hx hb dX4_fill_81 (by decide) ?_
          refine iv_idiv hx hb dX4_fill_83 (by omega) ?_
          refine lv_istore (lv' := [(4, .int (iI (rs / 10))), (6, .int (iI b)), (5, .int (iI c_)), (0, .ref hp), (1, .int (iI much)), (2, .int (iI less)), (3, .int (iI st))]) hx hb dX4_fill_84 hl (by decide) rfl (fun ls hl => ?_)
          refine iv_iinc (k := 2) (x := c_) (lv' := [(5, .int (iI (c_ + 1))), (4, .int (iI (rs / 10))), (6, .int (iI b)), (0, .ref hp), (1, .int (iI much)), (2, .int (iI less)), (3, .int (iI st))]) hx hb dX4_fill_86 hl rfl (by decide) rfl (fun ls hl => ?_)
          refine lv_goto (tgt := 42) hx hb dX4_fill_89 (by decide) ?_
          exact ih42 (rs / 10) (c_ + 1) fd2 fn3 fa4 (n + 1) (by omega) (by rw [hrs, dv_10]) (hz2) (hg3) (hg4) (by omega) H locs ls (hP.sub [0, 1, 2, 3] rfl) (hD.sub [0, 1, 2, 3] (by decide) rfl) hS (lv_sub hl [0, 1, 3, 4, 5, 6] rfl)
        refine lv_iload hx hb dX4_fill_48 (lv_at hl 0 rfl) ?_
        refine iv_if_le (tgt := 62) hx hb dX4_fill_50 (by decide) (by omega) (fun hc8 => ?_) (fun hc8 => ?_)
        · refine lv_iconst (v := iI (0)) hx hb dX4_fill_62 rfl ?_
          exact hjoin63 0 (by unfold bey; split <;> omega) H locs ls (hP.sub [0, 1, 2, 3] rfl) (hD.sub [0, 1, 2, 3] (by decide) rfl) hS (lv_sub hl [0, 1, 2, 3, 4, 5] rfl)
        · refine lv_iload hx hb dX4_fill_53 (lv_at hl 1 rfl) ?_
          refine iv_if_ne (tgt := 62) hx hb dX4_fill_55 (by decide) (by omega) (fun hc9 => ?_) (fun hc9 => ?_)
          · refine lv_iconst (v := iI (0)) hx hb dX4_fill_62 rfl ?_
            exact hjoin63 0 (by unfold bey; split <;> omega) H locs ls (hP.sub [0, 1, 2, 3] rfl) (hD.sub [0, 1, 2, 3] (by decide) rfl) hS (lv_sub hl [0, 1, 2, 3, 4, 5] rfl)
          · refine lv_iconst (v := iI (1)) hx hb dX4_fill_58 rfl ?_
            refine lv_goto (tgt := 63) hx hb dX4_fill_59 (by decide) ?_
            exact hjoin63 1 (by unfold bey; split <;> omega) H locs ls (hP.sub [0, 1, 2, 3] rfl) (hD.sub [0, 1, 2, 3] (by decide) rfl) hS (lv_sub hl [0, 1, 2, 3, 4, 5] rfl)
  exact hloop42 _ less 0 fd fn (va_up (va_up (va_up fa 0 (much % 10)) 1 ((much / 10) % 10)) 2 ((much / 100) % 10)) 0 (by omega) (by simp) (by refine lt3 ?_ ?_ ?_ <;> simp [va_up, wkA, dg_0, dg_1, dg_2]) (fun j hj => absurd hj (Nat.not_lt_zero j)) (fun j hj => absurd hj (Nat.not_lt_zero j)) (Nat.lt_succ_self _) H locs ls (hP.sub [0, 1, 2, 3] rfl) (hD.sub [0, 1, 2, 3] (by decide) rfl) hS (lv_sub hl [0, 1, 2, 3, 4, 5] rfl)
