theorem kX9_pays_9 : ∀ w ∈ u_ws RX9 TX9 37, w ∈ wsX9_pays := fun _ h => List.mem_cons_of_mem _ (List.mem_append_right _ h)
abbrev q_X9_pays (g : GT) (hm : Nat) (a : Nat → Nat) (i : Nat → Int) (fa : Nat → Int) (from_ : Int) (st : Int) (n0 : Nat) : Option Value → va_W → Prop := fun v w => ∃ (fa' : Nat → Int), v = none ∧ w = [(hm, .inr (9, mF a i)), ((a 1), aI (g.2.1 0) 3 fa')] ∧ (fa' = payR st (3 - n0) n0 fa)
set_option maxHeartbeats 4000000 in
set_option maxRecDepth 100000 in
theorem c_X9_pays (l : Launch) (g : GT) (hm : Nat) (a : Nat → Nat) (i : Nat → Int) (fa : Nat → Int) (from_ : Int) (st : Int) (n0 : Nat) (h1 : from_ = (n0 : Int) ∧ n0 ≤ 3 ∧ 0 ≤ st ∧ st ≤ 255) (h2 : ∀ j, j < 3 → 0 ≤ fa j ∧ fa j ≤ 9) : Ct l g yX9_pays wsX9_pays ({ frames := 0, cells := 0, slots := 0, locals := 0 } : Room) [.ref hm, .int (iI from_), .int (iI st)] [(hm, .inr (9, mF a i)), ((a 1), aI (g.2.1 0) 3 fa)] (q_X9_pays g hm a i fa from_ st n0) := by
  refine Ct.intro (maxL := 5) (ret := none) (by decide) rfl (Nat.le_of_ble_eq_true rfl) ?_
  intro p e s m below meth c A ls hx hb hr hml hown hts hlocks hnm hA hG hP hD hS hl
  have hown : s.vm.findClass RX9 = some m.cls := hown
  have hl : lv_has ls 5 [(0, .ref hm), (1, .int (iI from_)), (2, .int (iI st))] := hl
  have hP : va_P g.1 vwCl [(hm, .inr (9, mF a i)), ((a 1), aI (g.2.1 0) 3 fa)] s.heap := hP
  have hS : va_S A s.heap s.heap [] := hS
  obtain ⟨H, hHe⟩ : ∃ H : Heap, H = s.heap := ⟨_, rfl⟩
  obtain ⟨locs, hLe⟩ : ∃ L : List Loc, L = [] := ⟨_, rfl⟩
  have hP : va_P g.1 vwCl [(hm, .inr (9, mF a i)), ((a 1), aI (g.2.1 0) 3 fa)] H := by rw [hHe]; exact hP
  have hS : va_S A s.heap H locs := by rw [hHe, hLe]; exact hS
  suffices hgo : W p l e ({ frames := 0, cells := 0, slots := 0, locals := 0 } : Room) s m [.ref hm, .int (iI from_), .int (iI st)].toArray below meth c H locs 0 0 (MQ below (CQ g (q_X9_pays g hm a i fa from_ st n0) A) [.ref hm, .int (iI from_), .int (iI st)].toArray s ({ frames := 0, cells := 0, slots := 0, locals := 0 } : Room).cells ({ frames := 0, cells := 0, slots := 0, locals := 0 } : Room).slots A) (F0 m 0 ls []) by rw [hHe, hLe] at hgo; exact hgo
  clear hHe hLe
  refine lv_iload_n hx hb dX9_pays_0 rfl (lv_at hl 1 rfl) ?_
  refine lv_istore_n (lv' := [(3, .int (iI from_)), (0, .ref hm), (1, .int (iI from_)), (2, .int (iI st))]) hx hb dX9_pays_1 rfl hl (by decide) rfl (fun ls hl => ?_)
  have hloop2 : ∀ (fuel : Nat) (c_ : Int) (fb : Nat → Int) (n : Nat) (hc : c_ = (n : Int) ∧ n ≤ 3) (hrg : ∀ j, j < 3 → 0 ≤ fb j ∧ fb j ≤ 9) (he : payR st (3 - n) n fb = payR st (3 - n0) n0 fa) (hmeas : 3 - n < fuel), ∀ (H : Heap) (locs : List Loc) (ls : Array Slot), va_P g.1 vwCl [(hm, .inr (9, mF a i)), ((a 1), aI (g.2.1 0) 3 fb)] H → va_D A [(hm, .inr (9, mF a i)), ((a 1), aI (g.2.1 0) 3 fb)] → va_S A s.heap H locs → lv_has ls 5 [(3, .int (iI c_)), (0, .ref hm), (1, .int (iI from_)), (2, .int (iI st))] → W p l e ({ frames := 0, cells := 0, slots := 0, locals := 0 } : Room) s m [.ref hm, .int (iI from_), .int (iI st)].toArray below meth c H locs 0 0 (MQ below (CQ g (q_X9_pays g hm a i fa from_ st n0) A) [.ref hm, .int (iI from_), .int (iI st)].toArray s ({ frames := 0, cells := 0, slots := 0, locals := 0 } : Room).cells ({ frames := 0, cells := 0, slots := 0, locals := 0 } : Room).slots A) (F0 m 2 ls []) := by
    intro fuel
    induction fuel with
    | zero => intro c_ fb n hc hrg he hmeas; exact absurd hmeas (Nat.not_lt_zero _)
    | succ fuel ih2 =>
      intro c_ fb n hc hrg he hmeas H locs ls hP hD hS hl
      refine lv_iload_n hx hb dX9_pays_2 rfl (lv_at hl 0 rfl) ?_
      refine lv_iconst (v := iI (3)) hx hb dX9_pays_3 rfl ?_
      refine iv_icmp_ge (tgt := 137) hx hb dX9_pays_4 (by decide) (by omega) (fun hc1 => ?_) (fun hc1 => ?_)
      · exact Ct.vret hx hb hr hlocks (hP.sub [0, 1] rfl) (hD.sub [0, 1] (by decide) rfl) hS ⟨by decide, by decide⟩ dX9_pays_137 ⟨fb, rfl, rfl, (by rw [← he, show 3 - n = 0 from by omega]; rfl)⟩
      · have hk := hrg n (by omega)
        refine lv_aload_n hx hb dX9_pays_7 rfl (lv_at hl 1 rfl) ?_
        refine va_get (D := g.1) (ci := 9) (v := .ref (a 1)) hx hb hts kX9_pays_9 hown hG.1 hP 0 rfl rfl 1 (by decide) (hts _ (List.mem_of_getElem? (i := 1) rfl)) (fun _ h9 => h9) rfl dX9_pays_8 ?_
        refine lv_iload_n hx hb dX9_pays_11 rfl (lv_at hl 0 rfl) ?_
        refine iv_iald hx hb hG hP 1 rfl n (by omega) (by omega) (by decide) dX9_pays_12 ?_
        refine iv_if_le (tgt := 80) hx hb dX9_pays_13 (by decide) (by omega) (fun hc2 => ?_) (fun hc2 => ?_)
        · refine lv_iload_n hx hb dX9_pays_80 rfl (lv_at hl 3 rfl) ?_
          refine lv_iconst (v := iI (4)) hx hb dX9_pays_81 rfl ?_
          refine iv_ishr hx hb dX9_pays_82 (by omega) ?_
          refine iv_as (st / 16) rfl ?_
          refine lv_iconst (v := iI (1)) hx hb dX9_pays_83 rfl ?_
          refine iv_and1 hx hb dX9_pays_84 (by omega) ?_
          refine lv_iconst (v := iI (1)) hx hb dX9_pays_85 rfl ?_
          refine iv_icmp_ne (tgt := 101) hx hb dX9_pays_86 (by decide) (by omega) (fun hc3 => ?_) (fun hc3 => ?_)
          · have hx4 : ¬ fs st 4 := hc3
            refine lv_iconst (v := iI (0)) hx hb dX9_pays_101 rfl ?_
            refine lv_istore (lv' := [(4, .int (iI 0)), (3, .int (iI c_)), (0, .ref hm), (1, .int (iI from_)), (2, .int (iI st))]) hx hb dX9_pays_102 hl (by decide) rfl (fun ls hl => ?_)
            refine lv_aload_n hx hb dX9_pays_104 rfl (lv_at hl 2 rfl) ?_
            refine va_get (D := g.1) (ci := 9) (v := .ref (a 1)) hx hb hts kX9_pays_9 hown hG.1 hP 0 rfl rfl 1 (by decide) (hts _ (List.mem_of_getElem? (i := 1) rfl)) (fun _ h9 => h9) rfl dX9_pays_105 ?_
            refine lv_iload_n hx hb dX9_pays_108 rfl (lv_at hl 1 rfl) ?_
            refine lv_iload hx hb dX9_pays_109 (lv_at hl 0 rfl) ?_
            refine iv_if_eq (tgt := 118) hx hb dX9_pays_111 (by decide) (by decide) (fun _ => ?_) (fun h => absurd h (by decide))
            refine lv_bipush (v := iI (9)) hx hb dX9_pays_118 (by decide) ?_
            refine iv_iast hx hb hG hP hD hS 1 rfl n (by omega) (by omega) (by decide) dX9_pays_120 (fun H locs hP hD hS => ?_)
            have hP : va_P g.1 vwCl [(hm, .inr (9, mF a i)), ((a 1), aI (g.2.1 0) 3 (va_up fb n 9))] H := hP
            have hD : va_D A [(hm, .inr (9, mF a i)), ((a 1), aI (g.2.1 0) 3 (va_up fb n 9))] := hD
            refine lv_iload_n hx hb dX9_pays_121 rfl (lv_at hl 4 rfl) ?_
            refine lv_iconst (v := iI (3)) hx hb dX9_pays_122 rfl ?_
            refine iv_ishr hx hb dX9_pays_123 (by omega) ?_
            refine iv_as (st / 8) rfl ?_
            refine lv_iconst (v := iI (1)) hx hb dX9_pays_124 rfl ?_
            refine iv_and1 hx hb dX9_pays_125 (by omega) ?_
            refine lv_iconst (v := iI (1)) hx hb dX9_pays_126 rfl ?_
            refine iv_icmp_ne (tgt := 131) hx hb dX9_pays_127 (by decide) (by omega) (fun hc5 => ?_) (fun hc5 => ?_)
            · have hx3 : ¬ fs st 3 := hc5
              refine iv_iinc (k := 1) (x := c_) (lv' := [(3, .int (iI (c_ + 1))), (4, .int (iI 0)), (0, .ref hm), (1, .int (iI from_)), (2, .int (iI st))]) hx hb dX9_pays_131 hl rfl (by decide) rfl (fun ls hl => ?_)
              refine lv_goto (tgt := 2) hx hb dX9_pays_134 (by decide) ?_
              exact ih2 (c_ + 1) (va_up fb n 9) (n + 1) (by omega) (up_rng hrg (by omega)) (by rw [← he, show 3 - n = (3 - (n + 1)) + 1 from by omega]; simp only [payR]; (repeat' split) <;> first | rfl | (exfalso; omega) | (rw [up_id (show fb n = 0 by omega)])) (by omega) H locs ls (hP.sub [0, 1] rfl) (hD.sub [0, 1] (by decide) rfl) hS (lv_sub hl [0, 2, 3, 4] rfl)
            · have hx3 : fs st 3 := hc5
              exact Ct.vret hx hb hr hlocks (hP.sub [0, 1] rfl) (hD.sub [0, 1] (by decide) rfl) hS ⟨by decide, by decide⟩ dX9_pays_130 ⟨(va_up fb n 9), rfl, rfl, (by rw [← he, show 3 - n = (2 - n) + 1 from by omega]; simp only [payR]; (repeat' split) <;> first | rfl | (exfalso; omega) | (unfold pv; (repeat' split) <;> first | rfl | (exfalso; omega) | (congr 1; omega)))⟩
          · have hx4 : fs st 4 := hc3
            refine lv_iload_n hx hb dX9_pays_89 rfl (lv_at hl 3 rfl) ?_
            refine lv_iconst (v := iI (3)) hx hb dX9_pays_90 rfl ?_
            refine iv_ishr hx hb dX9_pays_91 (by omega) ?_
            refine iv_as (st / 8) rfl ?_
            refine lv_iconst (v := iI (1)) hx hb dX9_pays_92 rfl ?_
            refine iv_and1 hx hb dX9_pays_93 (by omega) ?_
            refine iv_if_ne (tgt := 101) hx hb dX9_pays_94 (by decide) (by omega) (fun hc6 => ?_) (fun hc6 => ?_)
            · have hx3 : fs st 3 := show st / 8 % 2 = 1 by omega
              refine lv_iconst (v := iI (0)) hx hb dX9_pays_101 rfl ?_
              refine lv_istore (lv' := [(4, .int (iI 0)), (3, .int (iI c_)), (0, .ref hm), (1, .int (iI from_)), (2, .int (iI st))]) hx hb dX9_pays_102 hl (by decide) rfl (fun ls hl => ?_)
              refine lv_aload_n hx hb dX9_pays_104 rfl (lv_at hl 2 rfl) ?_
              refine va_get (D := g.1) (ci := 9) (v := .ref (a 1)) hx hb hts kX9_pays_9 hown hG.1 hP 0 rfl rfl 1 (by decide) (hts _ (List.mem_of_getElem? (i := 1) rfl)) (fun _ h9 => h9) rfl dX9_pays_105 ?_
              refine lv_iload_n hx hb dX9_pays_108 rfl (lv_at hl 1 rfl) ?_
              refine lv_iload hx hb dX9_pays_109 (lv_at hl 0 rfl) ?_
              refine iv_if_eq (tgt := 118) hx hb dX9_pays_111 (by decide) (by decide) (fun _ => ?_) (fun h => absurd h (by decide))
              refine lv_bipush (v := iI (9)) hx hb dX9_pays_118 (by decide) ?_
              refine iv_iast hx hb hG hP hD hS 1 rfl n (by omega) (by omega) (by decide) dX9_pays_120 (fun H locs hP hD hS => ?_)
              have hP : va_P g.1 vwCl [(hm, .inr (9, mF a i)), ((a 1), aI (g.2.1 0) 3 (va_up fb n 9))] H := hP
              have hD : va_D A [(hm, .inr (9, mF a i)), ((a 1), aI (g.2.1 0) 3 (va_up fb n 9))] := hD
              refine lv_iload_n hx hb dX9_pays_121 rfl (lv_at hl 4 rfl) ?_
              refine lv_iconst (v := iI (3)) hx hb dX9_pays_122 rfl ?_
              refine iv_ishr hx hb dX9_pays_123 (by omega) ?_
              refine iv_as (st / 8) rfl ?_
              refine lv_iconst (v := iI (1)) hx hb dX9_pays_124 rfl ?_
              refine iv_and1 hx hb dX9_pays_125 (by omega) ?_
              refine lv_iconst (v := iI (1)) hx hb dX9_pays_126 rfl ?_
              refine iv_icmp_ne (tgt := 131) hx hb dX9_pays_127 (by decide) (by omega) (fun hc8 => ?_) (fun hc8 => ?_)
              · have hx3 : ¬ fs st 3 := hc8
                refine iv_iinc (k := 1) (x := c_) (lv' := [(3, .int (iI (c_ + 1))), (4, .int (iI 0)), (0, .ref hm), (1, .int (iI from_)), (2, .int (iI st))]) hx hb dX9_pays_131 hl rfl (by decide) rfl (fun ls hl => ?_)
                refine lv_goto (tgt := 2) hx hb dX9_pays_134 (by decide) ?_
                exact ih2 (c_ + 1) (va_up fb n 9) (n + 1) (by omega) (up_rng hrg (by omega)) (by rw [← he, show 3 - n = (3 - (n + 1)) + 1 from by omega]; simp only [payR]; (repeat' split) <;> first | rfl | (exfalso; omega) | (rw [up_id (show fb n = 0 by omega)])) (by omega) H locs ls (hP.sub [0, 1] rfl) (hD.sub [0, 1] (by decide) rfl) hS (lv_sub hl [0, 2, 3, 4] rfl)
              · have hx3 : fs st 3 := hc8
                exact Ct.vret hx hb hr hlocks (hP.sub [0, 1] rfl) (hD.sub [0, 1] (by decide) rfl) hS ⟨by decide, by decide⟩ dX9_pays_130 ⟨(va_up fb n 9), rfl, rfl, (by rw [← he, show 3 - n = (2 - n) + 1 from by omega]; simp only [payR]; (repeat' split) <;> first | rfl | (exfalso; omega) | (unfold pv; (repeat' split) <;> first | rfl | (exfalso; omega) | (congr 1; omega)))⟩
            · have hx3 : ¬ fs st 3 := show ¬ st / 8 % 2 = 1 by omega
              refine lv_iconst (v := iI (1)) hx hb dX9_pays_97 rfl ?_
              refine lv_goto (tgt := 102) hx hb dX9_pays_98 (by decide) ?_
              refine lv_istore (lv' := [(4, .int (iI 1)), (3, .int (iI c_)), (0, .ref hm), (1, .int (iI from_)), (2, .int (iI st))]) hx hb dX9_pays_102 hl (by decide) rfl (fun ls hl => ?_)
              refine lv_aload_n hx hb dX9_pays_104 rfl (lv_at hl 2 rfl) ?_
              refine va_get (D := g.1) (ci := 9) (v := .ref (a 1)) hx hb hts kX9_pays_9 hown hG.1 hP 0 rfl rfl 1 (by decide) (hts _ (List.mem_of_getElem? (i := 1) rfl)) (fun _ h9 => h9) rfl dX9_pays_105 ?_
              refine lv_iload_n hx hb dX9_pays_108 rfl (lv_at hl 1 rfl) ?_
              refine lv_iload hx hb dX9_pays_109 (lv_at hl 0 rfl) ?_
              refine iv_if_eq (tgt := 118) hx hb dX9_pays_111 (by decide) (by decide) (fun h => absurd h (by decide)) (fun _ => ?_)
              refine lv_iconst (v := iI (0)) hx hb dX9_pays_114 rfl ?_
              refine lv_goto (tgt := 120) hx hb dX9_pays_115 (by decide) ?_
              refine iv_iast hx hb hG hP hD hS 1 rfl n (by omega) (by omega) (by decide) dX9_pays_120 (fun H locs hP hD hS => ?_)
              have hP : va_P g.1 vwCl [(hm, .inr (9, mF a i)), ((a 1), aI (g.2.1 0) 3 (va_up fb n 0))] H := hP
              have hD : va_D A [(hm, .inr (9, mF a i)), ((a 1), aI (g.2.1 0) 3 (va_up fb n 0))] := hD
              refine lv_iload_n hx hb dX9_pays_121 rfl (lv_at hl 4 rfl) ?_
              refine lv_iconst (v := iI (3)) hx hb dX9_pays_122 rfl ?_
              refine iv_ishr hx hb dX9_pays_123 (by omega) ?_
              refine iv_as (st / 8) rfl ?_
              refine lv_iconst (v := iI (1)) hx hb dX9_pays_124 rfl ?_
              refine iv_and1 hx hb dX9_pays_125 (by omega) ?_
              refine lv_iconst (v := iI (1)) hx hb dX9_pays_126 rfl ?_
              refine iv_icmp_ne (tgt := 131) hx hb dX9_pays_127 (by decide) (by omega) (fun hc10 => ?_) (fun hc10 => ?_)
              · have hx3 : ¬ fs st 3 := hc10
                refine iv_iinc (k := 1) (x := c_) (lv' := [(3, .int (iI (c_ + 1))), (4, .int (iI 1)), (0, .ref hm), (1, .int (iI from_)), (2, .int (iI st))]) hx hb dX9_pays_131 hl rfl (by decide) rfl (fun ls hl => ?_)
                refine lv_goto (tgt := 2) hx hb dX9_pays_134 (by decide) ?_
                exact ih2 (c_ + 1) (va_up fb n 0) (n + 1) (by omega) (up_rng hrg (by omega)) (by rw [← he, show 3 - n = (3 - (n + 1)) + 1 from by omega]; simp only [payR]; (repeat' split) <;> first | rfl | (exfalso; omega) | (rw [up_id (show fb n = 0 by omega)])) (by omega) H locs ls (hP.sub [0, 1] rfl) (hD.sub [0, 1] (by decide) rfl) hS (lv_sub hl [0, 2, 3, 4] rfl)
              · have hx3 : fs st 3 := hc10
                exact Ct.vret hx hb hr hlocks (hP.sub [0, 1] rfl) (hD.sub [0, 1] (by decide) rfl) hS ⟨by decide, by decide⟩ dX9_pays_130 ⟨(va_up fb n 0), rfl, rfl, (by rw [← he, show 3 - n = (2 - n) + 1 from by omega]; simp only [payR]; (repeat' split) <;> first | rfl | (exfalso; omega) | (unfold pv; (repeat' split) <;> first | rfl | (exfalso; omega) | (congr 1; omega)))⟩
        · refine lv_iload_n hx hb dX9_pays_16 rfl (lv_at hl 3 rfl) ?_
          refine lv_bipush (v := iI (7)) hx hb dX9_pays_17 (by decide) ?_
          refine iv_ishr hx hb dX9_pays_19 (by omega) ?_
          refine iv_as (st / 128) rfl ?_
          refine lv_iconst (v := iI (1)) hx hb dX9_pays_20 rfl ?_
          refine iv_and1 hx hb dX9_pays_21 (by omega) ?_
          refine lv_iconst (v := iI (1)) hx hb dX9_pays_22 rfl ?_
          refine iv_icmp_ne (tgt := 30) hx hb dX9_pays_23 (by decide) (by omega) (fun hc11 => ?_) (fun hc11 => ?_)
          · have hx7 : ¬ fs st 7 := hc11
            refine lv_iconst (v := iI (0)) hx hb dX9_pays_30 rfl ?_
            refine lv_istore (lv' := [(4, .int (iI 0)), (3, .int (iI c_)), (0, .ref hm), (1, .int (iI from_)), (2, .int (iI st))]) hx hb dX9_pays_31 hl (by decide) rfl (fun ls hl => ?_)
            refine lv_aload_n hx hb dX9_pays_33 rfl (lv_at hl 2 rfl) ?_
            refine va_get (D := g.1) (ci := 9) (v := .ref (a 1)) hx hb hts kX9_pays_9 hown hG.1 hP 0 rfl rfl 1 (by decide) (hts _ (List.mem_of_getElem? (i := 1) rfl)) (fun _ h9 => h9) rfl dX9_pays_34 ?_
            refine lv_iload_n hx hb dX9_pays_37 rfl (lv_at hl 1 rfl) ?_
            refine lv_iload hx hb dX9_pays_38 (lv_at hl 0 rfl) ?_
            refine iv_if_ne (tgt := 54) hx hb dX9_pays_40 (by decide) (by decide) (fun h => absurd h (by decide)) (fun _ => ?_)
            refine lv_aload_n hx hb dX9_pays_43 rfl (lv_at hl 2 rfl) ?_
            refine va_get (D := g.1) (ci := 9) (v := .ref (a 1)) hx hb hts kX9_pays_9 hown hG.1 hP 0 rfl rfl 1 (by decide) (hts _ (List.mem_of_getElem? (i := 1) rfl)) (fun _ h9 => h9) rfl dX9_pays_44 ?_
            refine lv_iload_n hx hb dX9_pays_47 rfl (lv_at hl 1 rfl) ?_
            refine iv_iald hx hb hG hP 1 rfl n (by omega) (by omega) (by decide) dX9_pays_48 ?_
            refine lv_iconst (v := iI (1)) hx hb dX9_pays_49 rfl ?_
            refine iv_isub hx hb dX9_pays_50 ?_
            refine lv_goto (tgt := 78) hx hb dX9_pays_51 (by decide) ?_
            refine iv_iast hx hb hG hP hD hS 1 rfl n (by omega) (by omega) (by decide) dX9_pays_78 (fun H locs hP hD hS => ?_)
            have hP : va_P g.1 vwCl [(hm, .inr (9, mF a i)), ((a 1), aI (g.2.1 0) 3 (va_up fb n ((fb n) - 1)))] H := hP
            have hD : va_D A [(hm, .inr (9, mF a i)), ((a 1), aI (g.2.1 0) 3 (va_up fb n ((fb n) - 1)))] := hD
            exact Ct.vret hx hb hr hlocks (hP.sub [0, 1] rfl) (hD.sub [0, 1] (by decide) rfl) hS ⟨by decide, by decide⟩ dX9_pays_79 ⟨(va_up fb n ((fb n) - 1)), rfl, rfl, (by rw [← he, show 3 - n = (2 - n) + 1 from by omega]; simp only [payR]; (repeat' split) <;> first | rfl | (exfalso; omega) | (unfold pv; (repeat' split) <;> first | rfl | (exfalso; omega) | (congr 1; omega)))⟩
          · have hx7 : fs st 7 := hc11
            refine lv_iconst (v := iI (1)) hx hb dX9_pays_26 rfl ?_
            refine lv_goto (tgt := 31) hx hb dX9_pays_27 (by decide) ?_
            refine lv_istore (lv' := [(4, .int (iI 1)), (3, .int (iI c_)), (0, .ref hm), (1, .int (iI from_)), (2, .int (iI st))]) hx hb dX9_pays_31 hl (by decide) rfl (fun ls hl => ?_)
            refine lv_aload_n hx hb dX9_pays_33 rfl (lv_at hl 2 rfl) ?_
            refine va_get (D := g.1) (ci := 9) (v := .ref (a 1)) hx hb hts kX9_pays_9 hown hG.1 hP 0 rfl rfl 1 (by decide) (hts _ (List.mem_of_getElem? (i := 1) rfl)) (fun _ h9 => h9) rfl dX9_pays_34 ?_
            refine lv_iload_n hx hb dX9_pays_37 rfl (lv_at hl 1 rfl) ?_
            refine lv_iload hx hb dX9_pays_38 (lv_at hl 0 rfl) ?_
            refine iv_if_ne (tgt := 54) hx hb dX9_pays_40 (by decide) (by decide) (fun _ => ?_) (fun h => absurd h (by decide))
            refine lv_aload_n hx hb dX9_pays_54 rfl (lv_at hl 2 rfl) ?_
            refine va_get (D := g.1) (ci := 9) (v := .ref (a 1)) hx hb hts kX9_pays_9 hown hG.1 hP 0 rfl rfl 1 (by decide) (hts _ (List.mem_of_getElem? (i := 1) rfl)) (fun _ h9 => h9) rfl dX9_pays_55 ?_
            refine lv_iload_n hx hb dX9_pays_58 rfl (lv_at hl 1 rfl) ?_
            refine iv_iald hx hb hG hP 1 rfl n (by omega) (by omega) (by decide) dX9_pays_59 ?_
            refine lv_bipush (v := iI (9)) hx hb dX9_pays_60 (by decide) ?_
            refine iv_icmp_ge (tgt := 76) hx hb dX9_pays_62 (by decide) (by omega) (fun hc14 => ?_) (fun hc14 => ?_)
            · refine lv_bipush (v := iI (9)) hx hb dX9_pays_76 (by decide) ?_
              refine iv_iast hx hb hG hP hD hS 1 rfl n (by omega) (by omega) (by decide) dX9_pays_78 (fun H locs hP hD hS => ?_)
              have hP : va_P g.1 vwCl [(hm, .inr (9, mF a i)), ((a 1), aI (g.2.1 0) 3 (va_up fb n 9))] H := hP
              have hD : va_D A [(hm, .inr (9, mF a i)), ((a 1), aI (g.2.1 0) 3 (va_up fb n 9))] := hD
              exact Ct.vret hx hb hr hlocks (hP.sub [0, 1] rfl) (hD.sub [0, 1] (by decide) rfl) hS ⟨by decide, by decide⟩ dX9_pays_79 ⟨(va_up fb n 9), rfl, rfl, (by rw [← he, show 3 - n = (2 - n) + 1 from by omega]; simp only [payR]; (repeat' split) <;> first | rfl | (exfalso; omega) | (unfold pv; (repeat' split) <;> first | rfl | (exfalso; omega) | (congr 1; omega)))⟩
            · refine lv_aload_n hx hb dX9_pays_65 rfl (lv_at hl 2 rfl) ?_
              refine va_get (D := g.1) (ci := 9) (v := .ref (a 1)) hx hb hts kX9_pays_9 hown hG.1 hP 0 rfl rfl 1 (by decide) (hts _ (List.mem_of_getElem? (i := 1) rfl)) (fun _ h9 => h9) rfl dX9_pays_66 ?_
              refine lv_iload_n hx hb dX9_pays_69 rfl (lv_at hl 1 rfl) ?_
              refine iv_iald hx hb hG hP 1 rfl n (by omega) (by omega) (by decide) dX9_pays_70 ?_
              refine lv_iconst (v := iI (1)) hx hb dX9_pays_71 rfl ?_
              refine iv_iadd hx hb dX9_pays_72 ?_
              refine lv_goto (tgt := 78) hx hb dX9_pays_73 (by decide) ?_
              refine iv_iast hx hb hG hP hD hS 1 rfl n (by omega) (by omega) (by decide) dX9_pays_78 (fun H locs hP hD hS => ?_)
              have hP : va_P g.1 vwCl [(hm, .inr (9, mF a i)), ((a 1), aI (g.2.1 0) 3 (va_up fb n ((fb n) + 1)))] H := hP
              have hD : va_D A [(hm, .inr (9, mF a i)), ((a 1), aI (g.2.1 0) 3 (va_up fb n ((fb n) + 1)))] := hD
              exact Ct.vret hx hb hr hlocks (hP.sub [0, 1] rfl) (hD.sub [0, 1] (by decide) rfl) hS ⟨by decide, by decide⟩ dX9_pays_79 ⟨(va_up fb n ((fb n) + 1)), rfl, rfl, (by rw [← he, show 3 - n = (2 - n) + 1 from by omega]; simp only [payR]; (repeat' split) <;> first | rfl | (exfalso; omega) | (unfold pv; (repeat' split) <;> first | rfl | (exfalso; omega) | (congr 1; omega)))⟩
  exact hloop2 _ from_ fa n0 (by omega) (h2) (rfl) (Nat.lt_succ_self _) H locs ls (hP.sub [0, 1] rfl) (hD.sub [0, 1] (by decide) rfl) hS (lv_sub hl [0, 1, 2, 3] rfl)
