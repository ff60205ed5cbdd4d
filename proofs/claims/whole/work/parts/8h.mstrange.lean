theorem kX9_strange_9 : ∀ w ∈ u_ws RX9 TX9 37, w ∈ wsX9_strange := fun _ h => List.mem_cons_of_mem _ (List.mem_append_right _ h)
abbrev q_X9_strange (g : GT) (hm : Nat) (a : Nat → Nat) (i : Nat → Int) (qm : Nat → Int) (qu : Nat → Int) (ql : Nat → Int) (qg : Nat → Int) (qa : Nat → Int) (fa : Nat → Int) (fd : Nat → Int) (fn : Nat → Int) (kw : Nat → Int) (what : Int) : Option Value → va_W → Prop := fun v w => ∃ (r : Int), ∃ (fa' : Nat → Int), ∃ (fd' : Nat → Int), ∃ (fn' : Nat → Int), v = some (.int (iI r)) ∧ w = [(hm, .inr (9, mF a i)), ((a 6), aI (g.2.1 0) 12 qm), ((a 7), aI (g.2.1 0) 480 qu), ((a 8), aI (g.2.1 0) 480 ql), ((a 9), aI (g.2.1 0) 480 qg), ((a 10), aI (g.2.1 1) 480 qa), ((a 1), aI (g.2.1 0) 3 fa'), ((a 2), aI (g.2.1 0) 3 fd'), ((a 3), aI (g.2.1 0) 3 fn'), ((a 0), aI (g.2.1 0) 93 kw)] ∧ ((¬ (0 ≤ what ∧ what ≤ 3) ∧ r = -1) ∨ ((0 ≤ what ∧ what ≤ 3) ∧ ∃ bs ms : Int, SgI qm qa (cqv qu ql qg) (i 5) 480 bs ms ∧ r = sgR what bs ms qu ql qg))
set_option maxHeartbeats 4000000 in
set_option maxRecDepth 100000 in
theorem c_X9_strange (l : Launch) (g : GT) (hm : Nat) (a : Nat → Nat) (i : Nat → Int) (qm : Nat → Int) (qu : Nat → Int) (ql : Nat → Int) (qg : Nat → Int) (qa : Nat → Int) (fa : Nat → Int) (fd : Nat → Int) (fn : Nat → Int) (kw : Nat → Int) (what : Int) (h1 : (-2147483648 ≤ what ∧ what < 2147483648)) (h5 : 0 ≤ i 5 ∧ i 5 ≤ 12) (hm_ : ∀ j, j < 12 → 0 ≤ qm j ∧ qm j ≤ 40) (ha_ : ∀ k, k < 480 → vdP qm (i 5) k → AnOK qu ql qg qa k) (hk_ : ∀ p, p < 93 → kw p = oT p) : Ct l g yX9_strange wsX9_strange ({ frames := 3, cells := 0, slots := 0, locals := 74 } : Room) [.ref hm, .int (iI what)] [(hm, .inr (9, mF a i)), ((a 6), aI (g.2.1 0) 12 qm), ((a 7), aI (g.2.1 0) 480 qu), ((a 8), aI (g.2.1 0) 480 ql), ((a 9), aI (g.2.1 0) 480 qg), ((a 10), aI (g.2.1 1) 480 qa), ((a 1), aI (g.2.1 0) 3 fa), ((a 2), aI (g.2.1 0) 3 fd), ((a 3), aI (g.2.1 0) 3 fn), ((a 0), aI (g.2.1 0) 93 kw)] (q_X9_strange g hm a i qm qu ql qg qa fa fd fn kw what) := by
  refine Ct.intro (maxL := 8) (ret := (some .int)) (by decide) rfl (Nat.le_of_ble_eq_true rfl) ?_
  intro p e s m below meth c A ls hx hb hr hml hown hts hlocks hnm hA hG hP hD hS hl
  have hown : s.vm.findClass RX9 = some m.cls := hown
  have hl : lv_has ls 8 [(0, .ref hm), (1, .int (iI what))] := hl
  have hP : va_P g.1 vwCl [(hm, .inr (9, mF a i)), ((a 6), aI (g.2.1 0) 12 qm), ((a 7), aI (g.2.1 0) 480 qu), ((a 8), aI (g.2.1 0) 480 ql), ((a 9), aI (g.2.1 0) 480 qg), ((a 10), aI (g.2.1 1) 480 qa), ((a 1), aI (g.2.1 0) 3 fa), ((a 2), aI (g.2.1 0) 3 fd), ((a 3), aI (g.2.1 0) 3 fn), ((a 0), aI (g.2.1 0) 93 kw)] s.heap := hP
  have hS : va_S A s.heap s.heap [] := hS
  obtain ⟨H, hHe⟩ : ∃ H : Heap, H = s.heap := ⟨_, rfl⟩
  obtain ⟨locs, hLe⟩ : ∃ L : List Loc, L = [] := ⟨_, rfl⟩
  have hP : va_P g.1 vwCl [(hm, .inr (9, mF a i)), ((a 6), aI (g.2.1 0) 12 qm), ((a 7), aI (g.2.1 0) 480 qu), ((a 8), aI (g.2.1 0) 480 ql), ((a 9), aI (g.2.1 0) 480 qg), ((a 10), aI (g.2.1 1) 480 qa), ((a 1), aI (g.2.1 0) 3 fa), ((a 2), aI (g.2.1 0) 3 fd), ((a 3), aI (g.2.1 0) 3 fn), ((a 0), aI (g.2.1 0) 93 kw)] H := by rw [hHe]; exact hP
  have hS : va_S A s.heap H locs := by rw [hHe, hLe]; exact hS
  suffices hgo : W p l e ({ frames := 3, cells := 0, slots := 0, locals := 74 } : Room) s m [.ref hm, .int (iI what)].toArray below meth c H locs 0 0 (MQ below (CQ g (q_X9_strange g hm a i qm qu ql qg qa fa fd fn kw what) A) [.ref hm, .int (iI what)].toArray s ({ frames := 3, cells := 0, slots := 0, locals := 74 } : Room).cells ({ frames := 3, cells := 0, slots := 0, locals := 74 } : Room).slots A) (F0 m 0 ls []) by rw [hHe, hLe] at hgo; exact hgo
  clear hHe hLe
  refine lv_iload_n hx hb dX9_strange_0 rfl (lv_at hl 1 rfl) ?_
  refine iv_i2l hx hb dX9_strange_1 (by omega) ?_
  refine lv_lconst (v := lI (0)) hx hb dX9_strange_2 (by decide) ?_
  refine iv_ldc2 (v := 3) (z := 3) hx hb hown (hts _ (List.mem_of_getElem? (i := 1) rfl)) dX9_strange_3 (by decide) ?_
  refine Ct.callS (As := [.long (lI what), .long (lI 0), .long (lI 3)]) (rest := []) (wr := [(hm, .inr (9, mF a i)), ((a 6), aI (g.2.1 0) 12 qm), ((a 7), aI (g.2.1 0) 480 qu), ((a 8), aI (g.2.1 0) 480 ql), ((a 9), aI (g.2.1 0) 480 qg), ((a 10), aI (g.2.1 1) 480 qa), ((a 1), aI (g.2.1 0) 3 fa), ((a 2), aI (g.2.1 0) 3 fd), ((a 3), aI (g.2.1 0) 3 fn), ((a 0), aI (g.2.1 0) 93 kw)]) (c1 := 0) (s1 := 0) ⟨hx, hb, hml, hown, hts⟩ (c_X9_in l g what 0 3 (by omega)) (va_cwS 3 hts gX9_strange_X9_in rfl rfl rfl (by decide +kernel) ⟨Nat.le_of_ble_eq_true rfl, Nat.le_of_ble_eq_true rfl⟩) hG hP hD hS hA [] [0, 1, 2, 3, 4, 5, 6, 7, 8, 9] rfl rfl (by decide) (by decide) (by decide) rfl hl.1 rfl (Nat.le_of_ble_eq_true rfl) dX9_strange_6 ⟨Nat.le_of_ble_eq_true rfl, Nat.le_of_ble_eq_true rfl⟩ rfl rfl (fun v w H locs hv hP hD hS => ?_)
  obtain ⟨⟨rfl, hb1⟩ | ⟨rfl, hb1⟩, rfl⟩ := hv
  · show W p l e _ s m _ below meth c H locs 0 0 _ (F0 m 9 ls (.int (iI 1) :: []))
    have hb1 : 0 ≤ what ∧ what ≤ 3 := hb1
    have hP : va_P g.1 vwCl [(hm, .inr (9, mF a i)), ((a 6), aI (g.2.1 0) 12 qm), ((a 7), aI (g.2.1 0) 480 qu), ((a 8), aI (g.2.1 0) 480 ql), ((a 9), aI (g.2.1 0) 480 qg), ((a 10), aI (g.2.1 1) 480 qa), ((a 1), aI (g.2.1 0) 3 fa), ((a 2), aI (g.2.1 0) 3 fd), ((a 3), aI (g.2.1 0) 3 fn), ((a 0), aI (g.2.1 0) 93 kw)] H := hP
    have hD : va_D A [(hm, .inr (9, mF a i)), ((a 6), aI (g.2.1 0) 12 qm), ((a 7), aI (g.2.1 0) 480 qu), ((a 8), aI (g.2.1 0) 480 ql), ((a 9), aI (g.2.1 0) 480 qg), ((a 10), aI (g.2.1 1) 480 qa), ((a 1), aI (g.2.1 0) 3 fa), ((a 2), aI (g.2.1 0) 3 fd), ((a 3), aI (g.2.1 0) 3 fn), ((a 0), aI (g.2.1 0) 93 kw)] := hD
    refine iv_if_ne (tgt := 14) hx hb dX9_strange_9 (by decide) (by decide) (fun _ => ?_) (fun h => absurd h (by decide))
    refine lv_bipush (v := iI (-4)) hx hb dX9_strange_14 (by decide) ?_
    refine lv_istore_n (lv' := [(2, .int (iI (-4))), (0, .ref hm), (1, .int (iI what))]) hx hb dX9_strange_16 rfl hl (by decide) rfl (fun ls hl => ?_)
    refine lv_iconst (v := iI (0)) hx hb dX9_strange_17 rfl ?_
    refine lv_istore_n (lv' := [(3, .int (iI 0)), (2, .int (iI (-4))), (0, .ref hm), (1, .int (iI what))]) hx hb dX9_strange_18 rfl hl (by decide) rfl (fun ls hl => ?_)
    refine lv_iconst (v := iI (0)) hx hb dX9_strange_19 rfl ?_
    refine lv_istore (lv' := [(4, .int (iI 0)), (3, .int (iI 0)), (2, .int (iI (-4))), (0, .ref hm), (1, .int (iI what))]) hx hb dX9_strange_20 hl (by decide) rfl (fun ls hl => ?_)
    have hloop22 : ∀ (fuel : Nat) (bs : Int) (ms : Int) (zk : Int) (g1 : Nat → Int) (g2 : Nat → Int) (g3 : Nat → Int) (k9 : Nat) (hc : zk = (k9 : Int) ∧ k9 ≤ 480 ∧ -4 ≤ bs ∧ bs < 480 ∧ 0 ≤ ms ∧ ms ≤ 480) (hSg : SgI qm qa (cqv qu ql qg) (i 5) k9 bs ms) (hmeas : 480 - k9 < fuel), ∀ (H : Heap) (locs : List Loc) (ls : Array Slot), va_P g.1 vwCl [(hm, .inr (9, mF a i)), ((a 6), aI (g.2.1 0) 12 qm), ((a 7), aI (g.2.1 0) 480 qu), ((a 8), aI (g.2.1 0) 480 ql), ((a 9), aI (g.2.1 0) 480 qg), ((a 10), aI (g.2.1 1) 480 qa), ((a 1), aI (g.2.1 0) 3 g1), ((a 2), aI (g.2.1 0) 3 g2), ((a 3), aI (g.2.1 0) 3 g3), ((a 0), aI (g.2.1 0) 93 kw)] H → va_D A [(hm, .inr (9, mF a i)), ((a 6), aI (g.2.1 0) 12 qm), ((a 7), aI (g.2.1 0) 480 qu), ((a 8), aI (g.2.1 0) 480 ql), ((a 9), aI (g.2.1 0) 480 qg), ((a 10), aI (g.2.1 1) 480 qa), ((a 1), aI (g.2.1 0) 3 g1), ((a 2), aI (g.2.1 0) 3 g2), ((a 3), aI (g.2.1 0) 3 g3), ((a 0), aI (g.2.1 0) 93 kw)] → va_S A s.heap H locs → lv_has ls 8 [(4, .int (iI zk)), (3, .int (iI ms)), (2, .int (iI bs)), (0, .ref hm), (1, .int (iI what))] → W p l e ({ frames := 3, cells := 0, slots := 0, locals := 74 } : Room) s m [.ref hm, .int (iI what)].toArray below meth c H locs 0 0 (MQ below (CQ g (q_X9_strange g hm a i qm qu ql qg qa fa fd fn kw what) A) [.ref hm, .int (iI what)].toArray s ({ frames := 3, cells := 0, slots := 0, locals := 74 } : Room).cells ({ frames := 3, cells := 0, slots := 0, locals := 74 } : Room).slots A) (F0 m 22 ls []) := by
      intro fuel
      induction fuel with
      | zero => intro bs ms zk g1 g2 g3 k9 hc hSg hmeas; exact absurd hmeas (Nat.not_lt_zero _)
      | succ fuel ih22 =>
        intro bs ms zk g1 g2 g3 k9 hc hSg hmeas H locs ls hP hD hS hl
        refine lv_iload hx hb dX9_strange_22 (lv_at hl 0 rfl) ?_
        refine lv_sipush (v := iI (480)) hx hb dX9_strange_24 (by decide) ?_
        refine iv_icmp_ge (tgt := 237) hx hb dX9_strange_27 (by decide) (by omega) (fun hc3 => ?_) (fun hc3 => ?_)
        · rw [show k9 = 480 from by omega] at hSg
          refine lv_iload_n hx hb dX9_strange_237 rfl (lv_at hl 2 rfl) ?_
          refine iv_if_ge (tgt := 244) hx hb dX9_strange_238 (by decide) (by omega) (fun hc4 => ?_) (fun hc4 => ?_)
          · have hSb : 0 ≤ bs ∧ sgP qm qa (cqv qu ql qg) (i 5) bs.toNat := (by rcases hSg with z | z; (exfalso; omega); exact ⟨z.2.1, z.2.2.2.1⟩)
            have hvb : AnOK qu ql qg qa bs.toNat := ha_ bs.toNat (by omega) hSb.2.1
            refine lv_iload_n hx hb dX9_strange_244 rfl (lv_at hl 4 rfl) ?_
            refine iv_if_ne (tgt := 252) hx hb dX9_strange_245 (by decide) (by omega) (fun hc5 => ?_) (fun hc5 => ?_)
            · refine lv_iload_n hx hb dX9_strange_252 rfl (lv_at hl 4 rfl) ?_
              refine lv_iconst (v := iI (1)) hx hb dX9_strange_253 rfl ?_
              refine iv_icmp_ne (tgt := 266) hx hb dX9_strange_254 (by decide) (by omega) (fun hc6 => ?_) (fun hc6 => ?_)
              · refine lv_iload_n hx hb dX9_strange_266 rfl (lv_at hl 4 rfl) ?_
                refine lv_iconst (v := iI (2)) hx hb dX9_strange_267 rfl ?_
                refine iv_icmp_ne (tgt := 280) hx hb dX9_strange_268 (by decide) (by omega) (fun hc7 => ?_) (fun hc7 => ?_)
                · refine lv_aload_n hx hb dX9_strange_280 rfl (lv_at hl 3 rfl) ?_
                  refine va_get (D := g.1) (ci := 9) (v := .ref (a 9)) hx hb hts kX9_strange_9 hown hG.1 hP 0 rfl rfl 9 (by decide) (hts _ (List.mem_of_getElem? (i := 7) rfl)) (fun _ h9 => h9) rfl dX9_strange_281 ?_
                  refine lv_iload_n hx hb dX9_strange_284 rfl (lv_at hl 2 rfl) ?_
                  refine iv_iald hx hb hG hP 4 rfl bs.toNat (by omega) (by omega) (by decide) dX9_strange_285 ?_
                  exact Ct.iret hx hb hr hlocks (hP.sub [0, 1, 2, 3, 4, 5, 6, 7, 8, 9] rfl) (hD.sub [0, 1, 2, 3, 4, 5, 6, 7, 8, 9] (by decide) rfl) hS ⟨by decide, by decide⟩ dX9_strange_286 ⟨(qg bs.toNat), g1, g2, g3, rfl, rfl, (Or.inr ⟨by omega, bs, ms, hSg, by unfold sgR; rw [if_neg (by omega)]; first | (rw [if_pos (by omega)]) | (rw [if_neg (by omega), if_pos (by omega)]) | (rw [if_neg (by omega), if_neg (by omega), if_pos (by omega)]) | (rw [if_neg (by omega), if_neg (by omega), if_neg (by omega)])⟩)⟩
                · refine lv_aload_n hx hb dX9_strange_271 rfl (lv_at hl 3 rfl) ?_
                  refine va_get (D := g.1) (ci := 9) (v := .ref (a 8)) hx hb hts kX9_strange_9 hown hG.1 hP 0 rfl rfl 8 (by decide) (hts _ (List.mem_of_getElem? (i := 6) rfl)) (fun _ h9 => h9) rfl dX9_strange_272 ?_
                  refine lv_iload_n hx hb dX9_strange_275 rfl (lv_at hl 2 rfl) ?_
                  refine iv_iald hx hb hG hP 3 rfl bs.toNat (by omega) (by omega) (by decide) dX9_strange_276 ?_
                  refine lv_goto (tgt := 286) hx hb dX9_strange_277 (by decide) ?_
                  exact Ct.iret hx hb hr hlocks (hP.sub [0, 1, 2, 3, 4, 5, 6, 7, 8, 9] rfl) (hD.sub [0, 1, 2, 3, 4, 5, 6, 7, 8, 9] (by decide) rfl) hS ⟨by decide, by decide⟩ dX9_strange_286 ⟨(ql bs.toNat), g1, g2, g3, rfl, rfl, (Or.inr ⟨by omega, bs, ms, hSg, by unfold sgR; rw [if_neg (by omega)]; first | (rw [if_pos (by omega)]) | (rw [if_neg (by omega), if_pos (by omega)]) | (rw [if_neg (by omega), if_neg (by omega), if_pos (by omega)]) | (rw [if_neg (by omega), if_neg (by omega), if_neg (by omega)])⟩)⟩
              · refine lv_aload_n hx hb dX9_strange_257 rfl (lv_at hl 3 rfl) ?_
                refine va_get (D := g.1) (ci := 9) (v := .ref (a 7)) hx hb hts kX9_strange_9 hown hG.1 hP 0 rfl rfl 7 (by decide) (hts _ (List.mem_of_getElem? (i := 5) rfl)) (fun _ h9 => h9) rfl dX9_strange_258 ?_
                refine lv_iload_n hx hb dX9_strange_261 rfl (lv_at hl 2 rfl) ?_
                refine iv_iald hx hb hG hP 2 rfl bs.toNat (by omega) (by omega) (by decide) dX9_strange_262 ?_
                refine lv_goto (tgt := 286) hx hb dX9_strange_263 (by decide) ?_
                exact Ct.iret hx hb hr hlocks (hP.sub [0, 1, 2, 3, 4, 5, 6, 7, 8, 9] rfl) (hD.sub [0, 1, 2, 3, 4, 5, 6, 7, 8, 9] (by decide) rfl) hS ⟨by decide, by decide⟩ dX9_strange_286 ⟨(qu bs.toNat), g1, g2, g3, rfl, rfl, (Or.inr ⟨by omega, bs, ms, hSg, by unfold sgR; rw [if_neg (by omega)]; first | (rw [if_pos (by omega)]) | (rw [if_neg (by omega), if_pos (by omega)]) | (rw [if_neg (by omega), if_neg (by omega), if_pos (by omega)]) | (rw [if_neg (by omega), if_neg (by omega), if_neg (by omega)])⟩)⟩
            · refine lv_iload_n hx hb dX9_strange_248 rfl (lv_at hl 1 rfl) ?_
              refine lv_goto (tgt := 286) hx hb dX9_strange_249 (by decide) ?_
              exact Ct.iret hx hb hr hlocks (hP.sub [0, 1, 2, 3, 4, 5, 6, 7, 8, 9] rfl) (hD.sub [0, 1, 2, 3, 4, 5, 6, 7, 8, 9] (by decide) rfl) hS ⟨by decide, by decide⟩ dX9_strange_286 ⟨ms, g1, g2, g3, rfl, rfl, (Or.inr ⟨by omega, bs, ms, hSg, by unfold sgR; rw [if_neg (by omega)]; first | (rw [if_pos (by omega)]) | (rw [if_neg (by omega), if_pos (by omega)]) | (rw [if_neg (by omega), if_neg (by omega), if_pos (by omega)]) | (rw [if_neg (by omega), if_neg (by omega), if_neg (by omega)])⟩)⟩
          · refine lv_bipush (v := iI (-4)) hx hb dX9_strange_241 (by decide) ?_
            exact Ct.iret hx hb hr hlocks (hP.sub [0, 1, 2, 3, 4, 5, 6, 7, 8, 9] rfl) (hD.sub [0, 1, 2, 3, 4, 5, 6, 7, 8, 9] (by decide) rfl) hS ⟨by decide, by decide⟩ dX9_strange_243 ⟨(-4), g1, g2, g3, rfl, rfl, (Or.inr ⟨by omega, bs, ms, hSg, by unfold sgR; rw [if_pos (by omega)]⟩)⟩
        · refine lv_iconst (v := iI (0)) hx hb dX9_strange_30 rfl ?_
          refine lv_istore (lv' := [(5, .int (iI 0)), (4, .int (iI zk)), (3, .int (iI ms)), (2, .int (iI bs)), (0, .ref hm), (1, .int (iI what))]) hx hb dX9_strange_31 hl (by decide) rfl (fun ls hl => ?_)
          have hmk := hm_ (k9 / 40) (by omega)
          have hjoin79 : ∀ (is : Int) (g4 : Nat → Int) (g5 : Nat → Int) (g6 : Nat → Int) (his : (is = 1 ∧ sgP qm qa (cqv qu ql qg) (i 5) k9) ∨ (is = 0 ∧ ¬ sgP qm qa (cqv qu ql qg) (i 5) k9)), ∀ (H : Heap) (locs : List Loc) (ls : Array Slot), va_P g.1 vwCl [(hm, .inr (9, mF a i)), ((a 6), aI (g.2.1 0) 12 qm), ((a 7), aI (g.2.1 0) 480 qu), ((a 8), aI (g.2.1 0) 480 ql), ((a 9), aI (g.2.1 0) 480 qg), ((a 10), aI (g.2.1 1) 480 qa), ((a 1), aI (g.2.1 0) 3 g4), ((a 2), aI (g.2.1 0) 3 g5), ((a 3), aI (g.2.1 0) 3 g6), ((a 0), aI (g.2.1 0) 93 kw)] H → va_D A [(hm, .inr (9, mF a i)), ((a 6), aI (g.2.1 0) 12 qm), ((a 7), aI (g.2.1 0) 480 qu), ((a 8), aI (g.2.1 0) 480 ql), ((a 9), aI (g.2.1 0) 480 qg), ((a 10), aI (g.2.1 1) 480 qa), ((a 1), aI (g.2.1 0) 3 g4), ((a 2), aI (g.2.1 0) 3 g5), ((a 3), aI (g.2.1 0) 3 g6), ((a 0), aI (g.2.1 0) 93 kw)] → va_S A s.heap H locs → lv_has ls 8 [(6, .int (iI is)), (5, .int (iI 0)), (4, .int (iI zk)), (3, .int (iI ms)), (2, .int (iI bs)), (0, .ref hm), (1, .int (iI what))] → W p l e ({ frames := 3, cells := 0, slots := 0, locals := 74 } : Room) s m [.ref hm, .int (iI what)].toArray below meth c H locs 0 0 (MQ below (CQ g (q_X9_strange g hm a i qm qu ql qg qa fa fd fn kw what) A) [.ref hm, .int (iI what)].toArray s ({ frames := 3, cells := 0, slots := 0, locals := 74 } : Room).cells ({ frames := 3, cells := 0, slots := 0, locals := 74 } : Room).slots A) (F0 m 79 ls []) := by
            intro is g4 g5 g6 his H locs ls hP hD hS hl
            refine lv_iconst (v := iI (0)) hx hb dX9_strange_79 rfl ?_
            refine lv_istore (lv' := [(7, .int (iI 0)), (6, .int (iI is)), (5, .int (iI 0)), (4, .int (iI zk)), (3, .int (iI ms)), (2, .int (iI bs)), (0, .ref hm), (1, .int (iI what))]) hx hb dX9_strange_80 hl (by decide) rfl (fun ls hl => ?_)
            have hloop82 : ∀ (fuel : Nat) (n_ : Int) (zj : Int) (j : Nat) (hj : zj = (j : Int) ∧ j ≤ 480 ∧ 0 ≤ n_ ∧ n_ ≤ j) (hn : (is = 1 ∧ n_ = ckF qm qa (cqv qu ql qg) (i 5) ((cqv qu ql qg) k9) j) ∨ (is = 0 ∧ n_ = 0)) (hmeas : 480 - j < fuel), ∀ (H : Heap) (locs : List Loc) (ls : Array Slot), va_P g.1 vwCl [(hm, .inr (9, mF a i)), ((a 6), aI (g.2.1 0) 12 qm), ((a 7), aI (g.2.1 0) 480 qu), ((a 8), aI (g.2.1 0) 480 ql), ((a 9), aI (g.2.1 0) 480 qg), ((a 10), aI (g.2.1 1) 480 qa), ((a 1), aI (g.2.1 0) 3 g4), ((a 2), aI (g.2.1 0) 3 g5), ((a 3), aI (g.2.1 0) 3 g6), ((a 0), aI (g.2.1 0) 93 kw)] H → va_D A [(hm, .inr (9, mF a i)), ((a 6), aI (g.2.1 0) 12 qm), ((a 7), aI (g.2.1 0) 480 qu), ((a 8), aI (g.2.1 0) 480 ql), ((a 9), aI (g.2.1 0) 480 qg), ((a 10), aI (g.2.1 1) 480 qa), ((a 1), aI (g.2.1 0) 3 g4), ((a 2), aI (g.2.1 0) 3 g5), ((a 3), aI (g.2.1 0) 3 g6), ((a 0), aI (g.2.1 0) 93 kw)] → va_S A s.heap H locs → lv_has ls 8 [(7, .int (iI zj)), (6, .int (iI is)), (5, .int (iI n_)), (4, .int (iI zk)), (3, .int (iI ms)), (2, .int (iI bs)), (0, .ref hm), (1, .int (iI what))] → W p l e ({ frames := 3, cells := 0, slots := 0, locals := 74 } : Room) s m [.ref hm, .int (iI what)].toArray below meth c H locs 0 0 (MQ below (CQ g (q_X9_strange g hm a i qm qu ql qg qa fa fd fn kw what) A) [.ref hm, .int (iI what)].toArray s ({ frames := 3, cells := 0, slots := 0, locals := 74 } : Room).cells ({ frames := 3, cells := 0, slots := 0, locals := 74 } : Room).slots A) (F0 m 82 ls []) := by
              intro fuel
              induction fuel with
              | zero => intro n_ zj j hj hn hmeas; exact absurd hmeas (Nat.not_lt_zero _)
              | succ fuel ih82 =>
                intro n_ zj j hj hn hmeas H locs ls hP hD hS hl
                refine lv_iload hx hb dX9_strange_82 (lv_at hl 0 rfl) ?_
                refine lv_sipush (v := iI (480)) hx hb dX9_strange_84 (by decide) ?_
                refine iv_icmp_ge (tgt := 167) hx hb dX9_strange_87 (by decide) (by omega) (fun hc8 => ?_) (fun hc8 => ?_)
                · have hN : (is = 1 ∧ sgP qm qa (cqv qu ql qg) (i 5) k9 ∧ n_ = ckF qm qa (cqv qu ql qg) (i 5) ((cqv qu ql qg) k9) 480 ∧ 0 < n_) ∨ (is = 0 ∧ ¬ sgP qm qa (cqv qu ql qg) (i 5) k9 ∧ n_ = 0) := (by rcases his with z | z; (refine Or.inl ⟨z.1, z.2, ?_⟩; have h9 : n_ = ckF qm qa (cqv qu ql qg) (i 5) ((cqv qu ql qg) k9) 480 := (by rw [← show j = 480 from by omega]; omega); exact ⟨h9, by rw [h9]; exact ckF_self ⟨z.2.1, z.2.2.1⟩ 480 (by omega)⟩); exact Or.inr ⟨z.1, z.2, by omega⟩)
                  refine lv_iload hx hb dX9_strange_167 (lv_at hl 2 rfl) ?_
                  refine lv_iload_n hx hb dX9_strange_169 rfl (lv_at hl 4 rfl) ?_
                  refine iv_icmp_gt (tgt := 199) hx hb dX9_strange_170 (by decide) (by omega) (fun hc9 => ?_) (fun hc9 => ?_)
                  · have hTK : SgI qm qa (cqv qu ql qg) (i 5) (k9 + 1) (k9 : Int) n_ := (by rcases hN with z | z; (have z9 := SgI.take hSg z.2.1 (by omega) (by first | exact Or.inl (by omega) | exact Or.inr ⟨by omega, by omega⟩); rw [← z.2.2.1] at z9; exact z9); exfalso; omega)
                    refine lv_iconst (v := iI (1)) hx hb dX9_strange_199 rfl ?_
                    refine lv_goto (tgt := 204) hx hb dX9_strange_200 (by decide) ?_
                    refine lv_istore (lv' := [(7, .int (iI 1)), (6, .int (iI is)), (5, .int (iI n_)), (4, .int (iI zk)), (3, .int (iI ms)), (2, .int (iI bs)), (0, .ref hm), (1, .int (iI what))]) hx hb dX9_strange_204 hl (by decide) rfl (fun ls hl => ?_)
                    refine lv_iload hx hb dX9_strange_206 (lv_at hl 0 rfl) ?_
                    refine iv_if_eq (tgt := 216) hx hb dX9_strange_208 (by decide) (by decide) (fun h => absurd h (by decide)) (fun _ => ?_)
                    refine lv_iload hx hb dX9_strange_211 (lv_at hl 3 rfl) ?_
                    refine lv_goto (tgt := 217) hx hb dX9_strange_213 (by decide) ?_
                    refine lv_istore_n (lv' := [(2, .int (iI zk)), (7, .int (iI 1)), (6, .int (iI is)), (5, .int (iI n_)), (4, .int (iI zk)), (3, .int (iI ms)), (0, .ref hm), (1, .int (iI what))]) hx hb dX9_strange_217 rfl hl (by decide) rfl (fun ls hl => ?_)
                    refine lv_iload hx hb dX9_strange_218 (lv_at hl 3 rfl) ?_
                    refine lv_iload_n hx hb dX9_strange_220 rfl (lv_at hl 5 rfl) ?_
                    refine iv_icmp_le (tgt := 229) hx hb dX9_strange_221 (by decide) (by omega) (fun hc11 => ?_) (fun hc11 => ?_)
                    · refine lv_iload_n hx hb dX9_strange_229 rfl (lv_at hl 5 rfl) ?_
                      refine lv_istore_n (lv' := [(3, .int (iI ms)), (2, .int (iI zk)), (7, .int (iI 1)), (6, .int (iI is)), (5, .int (iI n_)), (4, .int (iI zk)), (0, .ref hm), (1, .int (iI what))]) hx hb dX9_strange_230 rfl hl (by decide) rfl (fun ls hl => ?_)
                      refine iv_iinc (k := 5) (x := zk) (lv' := [(4, .int (iI (zk + 1))), (3, .int (iI ms)), (2, .int (iI zk)), (7, .int (iI 1)), (6, .int (iI is)), (5, .int (iI n_)), (0, .ref hm), (1, .int (iI what))]) hx hb dX9_strange_231 hl rfl (by decide) rfl (fun ls hl => ?_)
                      refine lv_goto (tgt := 22) hx hb dX9_strange_234 (by decide) ?_
                      exact ih22 zk ms (zk + 1) g4 g5 g6 (k9 + 1) (by omega) (by first | (exfalso; omega) | exact hKP | (rw [hc.1]; exact hTK) | (rw [hc.1, show ms = n_ from by omega]; exact hTK)) (by omega) H locs ls (hP.sub [0, 1, 2, 3, 4, 5, 6, 7, 8, 9] rfl) (hD.sub [0, 1, 2, 3, 4, 5, 6, 7, 8, 9] (by decide) rfl) hS (lv_sub hl [0, 1, 2, 6, 7] rfl)
                    · refine lv_iload hx hb dX9_strange_224 (lv_at hl 3 rfl) ?_
                      refine lv_goto (tgt := 230) hx hb dX9_strange_226 (by decide) ?_
                      refine lv_istore_n (lv' := [(3, .int (iI n_)), (2, .int (iI zk)), (7, .int (iI 1)), (6, .int (iI is)), (5, .int (iI n_)), (4, .int (iI zk)), (0, .ref hm), (1, .int (iI what))]) hx hb dX9_strange_230 rfl hl (by decide) rfl (fun ls hl => ?_)
                      refine iv_iinc (k := 5) (x := zk) (lv' := [(4, .int (iI (zk + 1))), (3, .int (iI n_)), (2, .int (iI zk)), (7, .int (iI 1)), (6, .int (iI is)), (5, .int (iI n_)), (0, .ref hm), (1, .int (iI what))]) hx hb dX9_strange_231 hl rfl (by decide) rfl (fun ls hl => ?_)
                      refine lv_goto (tgt := 22) hx hb dX9_strange_234 (by decide) ?_
                      exact ih22 zk n_ (zk + 1) g4 g5 g6 (k9 + 1) (by omega) (by first | (exfalso; omega) | exact hKP | (rw [hc.1]; exact hTK) | (rw [hc.1, show ms = n_ from by omega]; exact hTK)) (by omega) H locs ls (hP.sub [0, 1, 2, 3, 4, 5, 6, 7, 8, 9] rfl) (hD.sub [0, 1, 2, 3, 4, 5, 6, 7, 8, 9] (by decide) rfl) hS (lv_sub hl [0, 1, 2, 6, 7] rfl)
                  · refine lv_iload hx hb dX9_strange_173 (lv_at hl 2 rfl) ?_
                    refine lv_iload_n hx hb dX9_strange_175 rfl (lv_at hl 4 rfl) ?_
                    refine iv_icmp_ne (tgt := 203) hx hb dX9_strange_176 (by decide) (by omega) (fun hc12 => ?_) (fun hc12 => ?_)
                    · have hKP : SgI qm qa (cqv qu ql qg) (i 5) (k9 + 1) bs ms := (by rcases hN with z | z; exact SgI.keep hSg (by omega) (by omega) (by omega); exact SgI.skip hSg z.2.1)
                      refine lv_iconst (v := iI (0)) hx hb dX9_strange_203 rfl ?_
                      refine lv_istore (lv' := [(7, .int (iI 0)), (6, .int (iI is)), (5, .int (iI n_)), (4, .int (iI zk)), (3, .int (iI ms)), (2, .int (iI bs)), (0, .ref hm), (1, .int (iI what))]) hx hb dX9_strange_204 hl (by decide) rfl (fun ls hl => ?_)
                      refine lv_iload hx hb dX9_strange_206 (lv_at hl 0 rfl) ?_
                      refine iv_if_eq (tgt := 216) hx hb dX9_strange_208 (by decide) (by decide) (fun _ => ?_) (fun h => absurd h (by decide))
                      refine lv_iload_n hx hb dX9_strange_216 rfl (lv_at hl 5 rfl) ?_
                      refine lv_istore_n (lv' := [(2, .int (iI bs)), (7, .int (iI 0)), (6, .int (iI is)), (5, .int (iI n_)), (4, .int (iI zk)), (3, .int (iI ms)), (0, .ref hm), (1, .int (iI what))]) hx hb dX9_strange_217 rfl hl (by decide) rfl (fun ls hl => ?_)
                      refine lv_iload hx hb dX9_strange_218 (lv_at hl 3 rfl) ?_
                      refine lv_iload_n hx hb dX9_strange_220 rfl (lv_at hl 5 rfl) ?_
                      refine iv_icmp_le (tgt := 229) hx hb dX9_strange_221 (by decide) (by omega) (fun hc14 => ?_) (fun hc14 => ?_)
                      · refine lv_iload_n hx hb dX9_strange_229 rfl (lv_at hl 5 rfl) ?_
                        refine lv_istore_n (lv' := [(3, .int (iI ms)), (2, .int (iI bs)), (7, .int (iI 0)), (6, .int (iI is)), (5, .int (iI n_)), (4, .int (iI zk)), (0, .ref hm), (1, .int (iI what))]) hx hb dX9_strange_230 rfl hl (by decide) rfl (fun ls hl => ?_)
                        refine iv_iinc (k := 5) (x := zk) (lv' := [(4, .int (iI (zk + 1))), (3, .int (iI ms)), (2, .int (iI bs)), (7, .int (iI 0)), (6, .int (iI is)), (5, .int (iI n_)), (0, .ref hm), (1, .int (iI what))]) hx hb dX9_strange_231 hl rfl (by decide) rfl (fun ls hl => ?_)
                        refine lv_goto (tgt := 22) hx hb dX9_strange_234 (by decide) ?_
                        exact ih22 bs ms (zk + 1) g4 g5 g6 (k9 + 1) (by omega) (by first | (exfalso; omega) | exact hKP | (rw [hc.1]; exact hTK) | (rw [hc.1, show ms = n_ from by omega]; exact hTK)) (by omega) H locs ls (hP.sub [0, 1, 2, 3, 4, 5, 6, 7, 8, 9] rfl) (hD.sub [0, 1, 2, 3, 4, 5, 6, 7, 8, 9] (by decide) rfl) hS (lv_sub hl [0, 1, 2, 6, 7] rfl)
                      · refine lv_iload hx hb dX9_strange_224 (lv_at hl 3 rfl) ?_
                        refine lv_goto (tgt := 230) hx hb dX9_strange_226 (by decide) ?_
                        refine lv_istore_n (lv' := [(3, .int (iI n_)), (2, .int (iI bs)), (7, .int (iI 0)), (6, .int (iI is)), (5, .int (iI n_)), (4, .int (iI zk)), (0, .ref hm), (1, .int (iI what))]) hx hb dX9_strange_230 rfl hl (by decide) rfl (fun ls hl => ?_)
                        refine iv_iinc (k := 5) (x := zk) (lv' := [(4, .int (iI (zk + 1))), (3, .int (iI n_)), (2, .int (iI bs)), (7, .int (iI 0)), (6, .int (iI is)), (5, .int (iI n_)), (0, .ref hm), (1, .int (iI what))]) hx hb dX9_strange_231 hl rfl (by decide) rfl (fun ls hl => ?_)
                        refine lv_goto (tgt := 22) hx hb dX9_strange_234 (by decide) ?_
                        exact ih22 bs n_ (zk + 1) g4 g5 g6 (k9 + 1) (by omega) (by first | (exfalso; omega) | exact hKP | (rw [hc.1]; exact hTK) | (rw [hc.1, show ms = n_ from by omega]; exact hTK)) (by omega) H locs ls (hP.sub [0, 1, 2, 3, 4, 5, 6, 7, 8, 9] rfl) (hD.sub [0, 1, 2, 3, 4, 5, 6, 7, 8, 9] (by decide) rfl) hS (lv_sub hl [0, 1, 2, 6, 7] rfl)
                    · refine lv_iload hx hb dX9_strange_179 (lv_at hl 2 rfl) ?_
                      refine iv_if_le (tgt := 203) hx hb dX9_strange_181 (by decide) (by omega) (fun hc15 => ?_) (fun hc15 => ?_)
                      · have hKP : SgI qm qa (cqv qu ql qg) (i 5) (k9 + 1) bs ms := (by rcases hN with z | z; exact SgI.keep hSg (by omega) (by omega) (by omega); exact SgI.skip hSg z.2.1)
                        refine lv_iconst (v := iI (0)) hx hb dX9_strange_203 rfl ?_
                        refine lv_istore (lv' := [(7, .int (iI 0)), (6, .int (iI is)), (5, .int (iI n_)), (4, .int (iI zk)), (3, .int (iI ms)), (2, .int (iI bs)), (0, .ref hm), (1, .int (iI what))]) hx hb dX9_strange_204 hl (by decide) rfl (fun ls hl => ?_)
                        refine lv_iload hx hb dX9_strange_206 (lv_at hl 0 rfl) ?_
                        refine iv_if_eq (tgt := 216) hx hb dX9_strange_208 (by decide) (by decide) (fun _ => ?_) (fun h => absurd h (by decide))
                        refine lv_iload_n hx hb dX9_strange_216 rfl (lv_at hl 5 rfl) ?_
                        refine lv_istore_n (lv' := [(2, .int (iI bs)), (7, .int (iI 0)), (6, .int (iI is)), (5, .int (iI n_)), (4, .int (iI zk)), (3, .int (iI ms)), (0, .ref hm), (1, .int (iI what))]) hx hb dX9_strange_217 rfl hl (by decide) rfl (fun ls hl => ?_)
                        refine lv_iload hx hb dX9_strange_218 (lv_at hl 3 rfl) ?_
                        refine lv_iload_n hx hb dX9_strange_220 rfl (lv_at hl 5 rfl) ?_
                        refine iv_icmp_le (tgt := 229) hx hb dX9_strange_221 (by decide) (by omega) (fun hc17 => ?_) (fun hc17 => ?_)
                        · refine lv_iload_n hx hb dX9_strange_229 rfl (lv_at hl 5 rfl) ?_
                          refine lv_istore_n (lv' := [(3, .int (iI ms)), (2, .int (iI bs)), (7, .int (iI 0)), (6, .int (iI is)), (5, .int (iI n_)), (4, .int (iI zk)), (0, .ref hm), (1, .int (iI what))]) hx hb dX9_strange_230 rfl hl (by decide) rfl (fun ls hl => ?_)
                          refine iv_iinc (k := 5) (x := zk) (lv' := [(4, .int (iI (zk + 1))), (3, .int (iI ms)), (2, .int (iI bs)), (7, .int (iI 0)), (6, .int (iI is)), (5, .int (iI n_)), (0, .ref hm), (1, .int (iI what))]) hx hb dX9_strange_231 hl rfl (by decide) rfl (fun ls hl => ?_)
                          refine lv_goto (tgt := 22) hx hb dX9_strange_234 (by decide) ?_
                          exact ih22 bs ms (zk + 1) g4 g5 g6 (k9 + 1) (by omega) (by first | (exfalso; omega) | exact hKP | (rw [hc.1]; exact hTK) | (rw [hc.1, show ms = n_ from by omega]; exact hTK)) (by omega) H locs ls (hP.sub [0, 1, 2, 3, 4, 5, 6, 7, 8, 9] rfl) (hD.sub [0, 1, 2, 3, 4, 5, 6, 7, 8, 9] (by decide) rfl) hS (lv_sub hl [0, 1, 2, 6, 7] rfl)
                        · refine lv_iload hx hb dX9_strange_224 (lv_at hl 3 rfl) ?_
                          refine lv_goto (tgt := 230) hx hb dX9_strange_226 (by decide) ?_
                          refine lv_istore_n (lv' := [(3, .int (iI n_)), (2, .int (iI bs)), (7, .int (iI 0)), (6, .int (iI is)), (5, .int (iI n_)), (4, .int (iI zk)), (0, .ref hm), (1, .int (iI what))]) hx hb dX9_strange_230 rfl hl (by decide) rfl (fun ls hl => ?_)
                          refine iv_iinc (k := 5) (x := zk) (lv' := [(4, .int (iI (zk + 1))), (3, .int (iI n_)), (2, .int (iI bs)), (7, .int (iI 0)), (6, .int (iI is)), (5, .int (iI n_)), (0, .ref hm), (1, .int (iI what))]) hx hb dX9_strange_231 hl rfl (by decide) rfl (fun ls hl => ?_)
                          refine lv_goto (tgt := 22) hx hb dX9_strange_234 (by decide) ?_
                          exact ih22 bs n_ (zk + 1) g4 g5 g6 (k9 + 1) (by omega) (by first | (exfalso; omega) | exact hKP | (rw [hc.1]; exact hTK) | (rw [hc.1, show ms = n_ from by omega]; exact hTK)) (by omega) H locs ls (hP.sub [0, 1, 2, 3, 4, 5, 6, 7, 8, 9] rfl) (hD.sub [0, 1, 2, 3, 4, 5, 6, 7, 8, 9] (by decide) rfl) hS (lv_sub hl [0, 1, 2, 6, 7] rfl)
                      · have hsk : sgP qm qa (cqv qu ql qg) (i 5) k9 := (by rcases hN with z | z; exact z.2.1; exfalso; omega)
                        have hvk : AnOK qu ql qg qa k9 := ha_ k9 (by omega) hsk.1
                        have hSb : 0 ≤ bs ∧ sgP qm qa (cqv qu ql qg) (i 5) bs.toNat := (by rcases hSg with z | z; (exfalso; omega); exact ⟨z.2.1, z.2.2.2.1⟩)
                        have hvb : AnOK qu ql qg qa bs.toNat := ha_ bs.toNat (by omega) hSb.2.1
                        have hrk : 0 ≤ cqv qu ql qg k9 ∧ cqv qu ql qg k9 < 1000000000 := by unfold cqv; omega
                        have hrb : 0 ≤ cqv qu ql qg bs.toNat ∧ cqv qu ql qg bs.toNat < 1000000000 := by unfold cqv; omega
                        refine lv_aload_n hx hb dX9_strange_184 rfl (lv_at hl 6 rfl) ?_
                        refine lv_iload hx hb dX9_strange_185 (lv_at hl 3 rfl) ?_
                        refine Ct.callV (ci := 9) (q0 := 0) (qc := (RX9, TX9, 37)) (As := [.int (iI zk)]) (rest := []) (wr := [((a 6), aI (g.2.1 0) 12 qm), ((a 10), aI (g.2.1 1) 480 qa), ((a 1), aI (g.2.1 0) 3 g4), ((a 2), aI (g.2.1 0) 3 g5), ((a 3), aI (g.2.1 0) 3 g6), ((a 0), aI (g.2.1 0) 93 kw)]) (c1 := 0) (s1 := 0) ⟨hx, hb, hml, hown, hts⟩ (c_X9_keyOf l g hm a i qu ql qg zk k9 (by omega) (by omega)) rfl rfl (cwV 1 hts gX9_strange_X9_keyOf rfl rfl rfl (by decide +kernel) ⟨Nat.le_of_ble_eq_true rfl, Nat.le_of_ble_eq_true rfl⟩) hG hP hD hS hA [0, 2, 3, 4] [1, 5, 6, 7, 8, 9] rfl rfl (by decide) (by decide) (by decide) rfl hl.1 rfl (Nat.le_of_ble_eq_true rfl) dX9_strange_187 ⟨Nat.le_of_ble_eq_true rfl, Nat.le_of_ble_eq_true rfl⟩ rfl rfl (fun v w H locs hv hP hD hS => ?_)
                        obtain ⟨rfl, rfl⟩ := hv
                        show W p l e _ s m _ below meth c H locs 0 0 _ (F0 m 190 ls (.long (lI ((cqv qu ql qg) k9)) :: []))
                        have hP : va_P g.1 vwCl [((a 6), aI (g.2.1 0) 12 qm), ((a 10), aI (g.2.1 1) 480 qa), ((a 1), aI (g.2.1 0) 3 g4), ((a 2), aI (g.2.1 0) 3 g5), ((a 3), aI (g.2.1 0) 3 g6), ((a 0), aI (g.2.1 0) 93 kw), (hm, .inr (9, mF a i)), ((a 7), aI (g.2.1 0) 480 qu), ((a 8), aI (g.2.1 0) 480 ql), ((a 9), aI (g.2.1 0) 480 qg)] H := hP
                        have hD : va_D A [((a 6), aI (g.2.1 0) 12 qm), ((a 10), aI (g.2.1 1) 480 qa), ((a 1), aI (g.2.1 0) 3 g4), ((a 2), aI (g.2.1 0) 3 g5), ((a 3), aI (g.2.1 0) 3 g6), ((a 0), aI (g.2.1 0) 93 kw), (hm, .inr (9, mF a i)), ((a 7), aI (g.2.1 0) 480 qu), ((a 8), aI (g.2.1 0) 480 ql), ((a 9), aI (g.2.1 0) 480 qg)] := hD
                        refine lv_aload_n hx hb dX9_strange_190 rfl (lv_at hl 6 rfl) ?_
                        refine lv_iload_n hx hb dX9_strange_191 rfl (lv_at hl 5 rfl) ?_
                        refine Ct.callV (ci := 9) (q0 := 6) (qc := (RX9, TX9, 37)) (As := [.int (iI bs)]) (rest := [.long (lI ((cqv qu ql qg) k9))]) (wr := [((a 6), aI (g.2.1 0) 12 qm), ((a 10), aI (g.2.1 1) 480 qa), ((a 1), aI (g.2.1 0) 3 g4), ((a 2), aI (g.2.1 0) 3 g5), ((a 3), aI (g.2.1 0) 3 g6), ((a 0), aI (g.2.1 0) 93 kw)]) (c1 := 0) (s1 := 0) ⟨hx, hb, hml, hown, hts⟩ (c_X9_keyOf l g hm a i qu ql qg bs bs.toNat (by omega) (by omega)) rfl rfl (cwV 1 hts gX9_strange_X9_keyOf rfl rfl rfl (by decide +kernel) ⟨Nat.le_of_ble_eq_true rfl, Nat.le_of_ble_eq_true rfl⟩) hG hP hD hS hA [6, 7, 8, 9] [0, 1, 2, 3, 4, 5] rfl rfl (by decide) (by decide) (by decide) rfl hl.1 rfl (Nat.le_of_ble_eq_true rfl) dX9_strange_192 ⟨Nat.le_of_ble_eq_true rfl, Nat.le_of_ble_eq_true rfl⟩ rfl rfl (fun v w H locs hv hP hD hS => ?_)
                        obtain ⟨rfl, rfl⟩ := hv
                        show W p l e _ s m _ below meth c H locs 0 0 _ (F0 m 195 ls (.long (lI ((cqv qu ql qg) bs.toNat)) :: [.long (lI ((cqv qu ql qg) k9))]))
                        have hP : va_P g.1 vwCl [((a 6), aI (g.2.1 0) 12 qm), ((a 10), aI (g.2.1 1) 480 qa), ((a 1), aI (g.2.1 0) 3 g4), ((a 2), aI (g.2.1 0) 3 g5), ((a 3), aI (g.2.1 0) 3 g6), ((a 0), aI (g.2.1 0) 93 kw), (hm, .inr (9, mF a i)), ((a 7), aI (g.2.1 0) 480 qu), ((a 8), aI (g.2.1 0) 480 ql), ((a 9), aI (g.2.1 0) 480 qg)] H := hP
                        have hD : va_D A [((a 6), aI (g.2.1 0) 12 qm), ((a 10), aI (g.2.1 1) 480 qa), ((a 1), aI (g.2.1 0) 3 g4), ((a 2), aI (g.2.1 0) 3 g5), ((a 3), aI (g.2.1 0) 3 g6), ((a 0), aI (g.2.1 0) 93 kw), (hm, .inr (9, mF a i)), ((a 7), aI (g.2.1 0) 480 qu), ((a 8), aI (g.2.1 0) 480 ql), ((a 9), aI (g.2.1 0) 480 qg)] := hD
                        refine iv_lcmp hx hb dX9_strange_195 (by omega) (fun hc18 => ?_) (fun hc18 => ?_) (fun hc18 => ?_)
                        · refine iv_if_ge (tgt := 203) hx hb dX9_strange_196 (by decide) (by decide) (fun h => absurd h (by decide)) (fun _ => ?_)
                          have hTK : SgI qm qa (cqv qu ql qg) (i 5) (k9 + 1) (k9 : Int) n_ := (by rcases hN with z | z; (have z9 := SgI.take hSg z.2.1 (by omega) (by first | exact Or.inl (by omega) | exact Or.inr ⟨by omega, by omega⟩); rw [← z.2.2.1] at z9; exact z9); exfalso; omega)
                          refine lv_iconst (v := iI (1)) hx hb dX9_strange_199 rfl ?_
                          refine lv_goto (tgt := 204) hx hb dX9_strange_200 (by decide) ?_
                          refine lv_istore (lv' := [(7, .int (iI 1)), (6, .int (iI is)), (5, .int (iI n_)), (4, .int (iI zk)), (3, .int (iI ms)), (2, .int (iI bs)), (0, .ref hm), (1, .int (iI what))]) hx hb dX9_strange_204 hl (by decide) rfl (fun ls hl => ?_)
                          refine lv_iload hx hb dX9_strange_206 (lv_at hl 0 rfl) ?_
                          refine iv_if_eq (tgt := 216) hx hb dX9_strange_208 (by decide) (by decide) (fun h => absurd h (by decide)) (fun _ => ?_)
                          refine lv_iload hx hb dX9_strange_211 (lv_at hl 3 rfl) ?_
                          refine lv_goto (tgt := 217) hx hb dX9_strange_213 (by decide) ?_
                          refine lv_istore_n (lv' := [(2, .int (iI zk)), (7, .int (iI 1)), (6, .int (iI is)), (5, .int (iI n_)), (4, .int (iI zk)), (3, .int (iI ms)), (0, .ref hm), (1, .int (iI what))]) hx hb dX9_strange_217 rfl hl (by decide) rfl (fun ls hl => ?_)
                          refine lv_iload hx hb dX9_strange_218 (lv_at hl 3 rfl) ?_
                          refine lv_iload_n hx hb dX9_strange_220 rfl (lv_at hl 5 rfl) ?_
                          refine iv_icmp_le (tgt := 229) hx hb dX9_strange_221 (by decide) (by omega) (fun hc21 => ?_) (fun hc21 => ?_)
                          · refine lv_iload_n hx hb dX9_strange_229 rfl (lv_at hl 5 rfl) ?_
                            refine lv_istore_n (lv' := [(3, .int (iI ms)), (2, .int (iI zk)), (7, .int (iI 1)), (6, .int (iI is)), (5, .int (iI n_)), (4, .int (iI zk)), (0, .ref hm), (1, .int (iI what))]) hx hb dX9_strange_230 rfl hl (by decide) rfl (fun ls hl => ?_)
                            refine iv_iinc (k := 5) (x := zk) (lv' := [(4, .int (iI (zk + 1))), (3, .int (iI ms)), (2, .int (iI zk)), (7, .int (iI 1)), (6, .int (iI is)), (5, .int (iI n_)), (0, .ref hm), (1, .int (iI what))]) hx hb dX9_strange_231 hl rfl (by decide) rfl (fun ls hl => ?_)
                            refine lv_goto (tgt := 22) hx hb dX9_strange_234 (by decide) ?_
                            exact ih22 zk ms (zk + 1) g4 g5 g6 (k9 + 1) (by omega) (by first | (exfalso; omega) | exact hKP | (rw [hc.1]; exact hTK) | (rw [hc.1, show ms = n_ from by omega]; exact hTK)) (by omega) H locs ls (hP.sub [6, 0, 7, 8, 9, 1, 2, 3, 4, 5] rfl) (hD.sub [6, 0, 7, 8, 9, 1, 2, 3, 4, 5] (by decide) rfl) hS (lv_sub hl [0, 1, 2, 6, 7] rfl)
                          · refine lv_iload hx hb dX9_strange_224 (lv_at hl 3 rfl) ?_
                            refine lv_goto (tgt := 230) hx hb dX9_strange_226 (by decide) ?_
                            refine lv_istore_n (lv' := [(3, .int (iI n_)), (2, .int (iI zk)), (7, .int (iI 1)), (6, .int (iI is)), (5, .int (iI n_)), (4, .int (iI zk)), (0, .ref hm), (1, .int (iI what))]) hx hb dX9_strange_230 rfl hl (by decide) rfl (fun ls hl => ?_)
                            refine iv_iinc (k := 5) (x := zk) (lv' := [(4, .int (iI (zk + 1))), (3, .int (iI n_)), (2, .int (iI zk)), (7, .int (iI 1)), (6, .int (iI is)), (5, .int (iI n_)), (0, .ref hm), (1, .int (iI what))]) hx hb dX9_strange_231 hl rfl (by decide) rfl (fun ls hl => ?_)
                            refine lv_goto (tgt := 22) hx hb dX9_strange_234 (by decide) ?_
                            exact ih22 zk n_ (zk + 1) g4 g5 g6 (k9 + 1) (by omega) (by first | (exfalso; omega) | exact hKP | (rw [hc.1]; exact hTK) | (rw [hc.1, show ms = n_ from by omega]; exact hTK)) (by omega) H locs ls (hP.sub [6, 0, 7, 8, 9, 1, 2, 3, 4, 5] rfl) (hD.sub [6, 0, 7, 8, 9, 1, 2, 3, 4, 5] (by decide) rfl) hS (lv_sub hl [0, 1, 2, 6, 7] rfl)
                        · refine iv_if_ge (tgt := 203) hx hb dX9_strange_196 (by decide) (by decide) (fun _ => ?_) (fun h => absurd h (by decide))
                          have hKP : SgI qm qa (cqv qu ql qg) (i 5) (k9 + 1) bs ms := (by rcases hN with z | z; exact SgI.keep hSg (by omega) (by omega) (by omega); exact SgI.skip hSg z.2.1)
                          refine lv_iconst (v := iI (0)) hx hb dX9_strange_203 rfl ?_
                          refine lv_istore (lv' := [(7, .int (iI 0)), (6, .int (iI is)), (5, .int (iI n_)), (4, .int (iI zk)), (3, .int (iI ms)), (2, .int (iI bs)), (0, .ref hm), (1, .int (iI what))]) hx hb dX9_strange_204 hl (by decide) rfl (fun ls hl => ?_)
                          refine lv_iload hx hb dX9_strange_206 (lv_at hl 0 rfl) ?_
                          refine iv_if_eq (tgt := 216) hx hb dX9_strange_208 (by decide) (by decide) (fun _ => ?_) (fun h => absurd h (by decide))
                          refine lv_iload_n hx hb dX9_strange_216 rfl (lv_at hl 5 rfl) ?_
                          refine lv_istore_n (lv' := [(2, .int (iI bs)), (7, .int (iI 0)), (6, .int (iI is)), (5, .int (iI n_)), (4, .int (iI zk)), (3, .int (iI ms)), (0, .ref hm), (1, .int (iI what))]) hx hb dX9_strange_217 rfl hl (by decide) rfl (fun ls hl => ?_)
                          refine lv_iload hx hb dX9_strange_218 (lv_at hl 3 rfl) ?_
                          refine lv_iload_n hx hb dX9_strange_220 rfl (lv_at hl 5 rfl) ?_
                          refine iv_icmp_le (tgt := 229) hx hb dX9_strange_221 (by decide) (by omega) (fun hc24 => ?_) (fun hc24 => ?_)
                          · refine lv_iload_n hx hb dX9_strange_229 rfl (lv_at hl 5 rfl) ?_
                            refine lv_istore_n (lv' := [(3, .int (iI ms)), (2, .int (iI bs)), (7, .int (iI 0)), (6, .int (iI is)), (5, .int (iI n_)), (4, .int (iI zk)), (0, .ref hm), (1, .int (iI what))]) hx hb dX9_strange_230 rfl hl (by decide) rfl (fun ls hl => ?_)
                            refine iv_iinc (k := 5) (x := zk) (lv' := [(4, .int (iI (zk + 1))), (3, .int (iI ms)), (2, .int (iI bs)), (7, .int (iI 0)), (6, .int (iI is)), (5, .int (iI n_)), (0, .ref hm), (1, .int (iI what))]) hx hb dX9_strange_231 hl rfl (by decide) rfl (fun ls hl => ?_)
                            refine lv_goto (tgt := 22) hx hb dX9_strange_234 (by decide) ?_
                            exact ih22 bs ms (zk + 1) g4 g5 g6 (k9 + 1) (by omega) (by first | (exfalso; omega) | exact hKP | (rw [hc.1]; exact hTK) | (rw [hc.1, show ms = n_ from by omega]; exact hTK)) (by omega) H locs ls (hP.sub [6, 0, 7, 8, 9, 1, 2, 3, 4, 5] rfl) (hD.sub [6, 0, 7, 8, 9, 1, 2, 3, 4, 5] (by decide) rfl) hS (lv_sub hl [0, 1, 2, 6, 7] rfl)
                          · refine lv_iload hx hb dX9_strange_224 (lv_at hl 3 rfl) ?_
                            refine lv_goto (tgt := 230) hx hb dX9_strange_226 (by decide) ?_
                            refine lv_istore_n (lv' := [(3, .int (iI n_)), (2, .int (iI bs)), (7, .int (iI 0)), (6, .int (iI is)), (5, .int (iI n_)), (4, .int (iI zk)), (0, .ref hm), (1, .int (iI what))]) hx hb dX9_strange_230 rfl hl (by decide) rfl (fun ls hl => ?_)
                            refine iv_iinc (k := 5) (x := zk) (lv' := [(4, .int (iI (zk + 1))), (3, .int (iI n_)), (2, .int (iI bs)), (7, .int (iI 0)), (6, .int (iI is)), (5, .int (iI n_)), (0, .ref hm), (1, .int (iI what))]) hx hb dX9_strange_231 hl rfl (by decide) rfl (fun ls hl => ?_)
                            refine lv_goto (tgt := 22) hx hb dX9_strange_234 (by decide) ?_
                            exact ih22 bs n_ (zk + 1) g4 g5 g6 (k9 + 1) (by omega) (by first | (exfalso; omega) | exact hKP | (rw [hc.1]; exact hTK) | (rw [hc.1, show ms = n_ from by omega]; exact hTK)) (by omega) H locs ls (hP.sub [6, 0, 7, 8, 9, 1, 2, 3, 4, 5] rfl) (hD.sub [6, 0, 7, 8, 9, 1, 2, 3, 4, 5] (by decide) rfl) hS (lv_sub hl [0, 1, 2, 6, 7] rfl)
                        · refine iv_if_ge (tgt := 203) hx hb dX9_strange_196 (by decide) (by decide) (fun _ => ?_) (fun h => absurd h (by decide))
                          have hKP : SgI qm qa (cqv qu ql qg) (i 5) (k9 + 1) bs ms := (by rcases hN with z | z; exact SgI.keep hSg (by omega) (by omega) (by omega); exact SgI.skip hSg z.2.1)
                          refine lv_iconst (v := iI (0)) hx hb dX9_strange_203 rfl ?_
                          refine lv_istore (lv' := [(7, .int (iI 0)), (6, .int (iI is)), (5, .int (iI n_)), (4, .int (iI zk)), (3, .int (iI ms)), (2, .int (iI bs)), (0, .ref hm), (1, .int (iI what))]) hx hb dX9_strange_204 hl (by decide) rfl (fun ls hl => ?_)
                          refine lv_iload hx hb dX9_strange_206 (lv_at hl 0 rfl) ?_
                          refine iv_if_eq (tgt := 216) hx hb dX9_strange_208 (by decide) (by decide) (fun _ => ?_) (fun h => absurd h (by decide))
                          refine lv_iload_n hx hb dX9_strange_216 rfl (lv_at hl 5 rfl) ?_
                          refine lv_istore_n (lv' := [(2, .int (iI bs)), (7, .int (iI 0)), (6, .int (iI is)), (5, .int (iI n_)), (4, .int (iI zk)), (3, .int (iI ms)), (0, .ref hm), (1, .int (iI what))]) hx hb dX9_strange_217 rfl hl (by decide) rfl (fun ls hl => ?_)
                          refine lv_iload hx hb dX9_strange_218 (lv_at hl 3 rfl) ?_
                          refine lv_iload_n hx hb dX9_strange_220 rfl (lv_at hl 5 rfl) ?_
                          refine iv_icmp_le (tgt := 229) hx hb dX9_strange_221 (by decide) (by omega) (fun hc27 => ?_) (fun hc27 => ?_)
                          · refine lv_iload_n hx hb dX9_strange_229 rfl (lv_at hl 5 rfl) ?_
                            refine lv_istore_n (lv' := [(3, .int (iI ms)), (2, .int (iI bs)), (7, .int (iI 0)), (6, .int (iI is)), (5, .int (iI n_)), (4, .int (iI zk)), (0, .ref hm), (1, .int (iI what))]) hx hb dX9_strange_230 rfl hl (by decide) rfl (fun ls hl => ?_)
                            refine iv_iinc (k := 5) (x := zk) (lv' := [(4, .int (iI (zk + 1))), (3, .int (iI ms)), (2, .int (iI bs)), (7, .int (iI 0)), (6, .int (iI is)), (5, .int (iI n_)), (0, .ref hm), (1, .int (iI what))]) hx hb dX9_strange_231 hl rfl (by decide) rfl (fun ls hl => ?_)
                            refine lv_goto (tgt := 22) hx hb dX9_strange_234 (by decide) ?_
                            exact ih22 bs ms (zk + 1) g4 g5 g6 (k9 + 1) (by omega) (by first | (exfalso; omega) | exact hKP | (rw [hc.1]; exact hTK) | (rw [hc.1, show ms = n_ from by omega]; exact hTK)) (by omega) H locs ls (hP.sub [6, 0, 7, 8, 9, 1, 2, 3, 4, 5] rfl) (hD.sub [6, 0, 7, 8, 9, 1, 2, 3, 4, 5] (by decide) rfl) hS (lv_sub hl [0, 1, 2, 6, 7] rfl)
                          · refine lv_iload hx hb dX9_strange_224 (lv_at hl 3 rfl) ?_
                            refine lv_goto (tgt := 230) hx hb dX9_strange_226 (by decide) ?_
                            refine lv_istore_n (lv' := [(3, .int (iI n_)), (2, .int (iI bs)), (7, .int (iI 0)), (6, .int (iI is)), (5, .int (iI n_)), (4, .int (iI zk)), (0, .ref hm), (1, .int (iI what))]) hx hb dX9_strange_230 rfl hl (by decide) rfl (fun ls hl => ?_)
                            refine iv_iinc (k := 5) (x := zk) (lv' := [(4, .int (iI (zk + 1))), (3, .int (iI n_)), (2, .int (iI bs)), (7, .int (iI 0)), (6, .int (iI is)), (5, .int (iI n_)), (0, .ref hm), (1, .int (iI what))]) hx hb dX9_strange_231 hl rfl (by decide) rfl (fun ls hl => ?_)
                            refine lv_goto (tgt := 22) hx hb dX9_strange_234 (by decide) ?_
                            exact ih22 bs n_ (zk + 1) g4 g5 g6 (k9 + 1) (by omega) (by first | (exfalso; omega) | exact hKP | (rw [hc.1]; exact hTK) | (rw [hc.1, show ms = n_ from by omega]; exact hTK)) (by omega) H locs ls (hP.sub [6, 0, 7, 8, 9, 1, 2, 3, 4, 5] rfl) (hD.sub [6, 0, 7, 8, 9, 1, 2, 3, 4, 5] (by decide) rfl) hS (lv_sub hl [0, 1, 2, 6, 7] rfl)
                · refine lv_iload hx hb dX9_strange_90 (lv_at hl 1 rfl) ?_
                  refine iv_if_eq (tgt := 167) hx hb dX9_strange_92 (by decide) (by omega) (fun hc28 => ?_) (fun hc28 => ?_)
                  · have hN : (is = 1 ∧ sgP qm qa (cqv qu ql qg) (i 5) k9 ∧ n_ = ckF qm qa (cqv qu ql qg) (i 5) ((cqv qu ql qg) k9) 480 ∧ 0 < n_) ∨ (is = 0 ∧ ¬ sgP qm qa (cqv qu ql qg) (i 5) k9 ∧ n_ = 0) := (by rcases his with z | z; (refine Or.inl ⟨z.1, z.2, ?_⟩; have h9 : n_ = ckF qm qa (cqv qu ql qg) (i 5) ((cqv qu ql qg) k9) 480 := (by rw [← show j = 480 from by omega]; omega); exact ⟨h9, by rw [h9]; exact ckF_self ⟨z.2.1, z.2.2.1⟩ 480 (by omega)⟩); exact Or.inr ⟨z.1, z.2, by omega⟩)
                    refine lv_iload hx hb dX9_strange_167 (lv_at hl 2 rfl) ?_
                    refine lv_iload_n hx hb dX9_strange_169 rfl (lv_at hl 4 rfl) ?_
                    refine iv_icmp_gt (tgt := 199) hx hb dX9_strange_170 (by decide) (by omega) (fun hc29 => ?_) (fun hc29 => ?_)
                    · have hTK : SgI qm qa (cqv qu ql qg) (i 5) (k9 + 1) (k9 : Int) n_ := (by rcases hN with z | z; (have z9 := SgI.take hSg z.2.1 (by omega) (by first | exact Or.inl (by omega) | exact Or.inr ⟨by omega, by omega⟩); rw [← z.2.2.1] at z9; exact z9); exfalso; omega)
                      refine lv_iconst (v := iI (1)) hx hb dX9_strange_199 rfl ?_
                      refine lv_goto (tgt := 204) hx hb dX9_strange_200 (by decide) ?_
                      refine lv_istore (lv' := [(7, .int (iI 1)), (6, .int (iI is)), (5, .int (iI n_)), (4, .int (iI zk)), (3, .int (iI ms)), (2, .int (iI bs)), (0, .ref hm), (1, .int (iI what))]) hx hb dX9_strange_204 hl (by decide) rfl (fun ls hl => ?_)
                      refine lv_iload hx hb dX9_strange_206 (lv_at hl 0 rfl) ?_
                      refine iv_if_eq (tgt := 216) hx hb dX9_strange_208 (by decide) (by decide) (fun h => absurd h (by decide)) (fun _ => ?_)
                      refine lv_iload hx hb dX9_strange_211 (lv_at hl 3 rfl) ?_
                      refine lv_goto (tgt := 217) hx hb dX9_strange_213 (by decide) ?_
                      refine lv_istore_n (lv' := [(2, .int (iI zk)), (7, .int (iI 1)), (6, .int (iI is)), (5, .int (iI n_)), (4, .int (iI zk)), (3, .int (iI ms)), (0, .ref hm), (1, .int (iI what))]) hx hb dX9_strange_217 rfl hl (by decide) rfl (fun ls hl => ?_)
                      refine lv_iload hx hb dX9_strange_218 (lv_at hl 3 rfl) ?_
                      refine lv_iload_n hx hb dX9_strange_220 rfl (lv_at hl 5 rfl) ?_
                      refine iv_icmp_le (tgt := 229) hx hb dX9_strange_221 (by decide) (by omega) (fun hc31 => ?_) (fun hc31 => ?_)
                      · refine lv_iload_n hx hb dX9_strange_229 rfl (lv_at hl 5 rfl) ?_
                        refine lv_istore_n (lv' := [(3, .int (iI ms)), (2, .int (iI zk)), (7, .int (iI 1)), (6, .int (iI is)), (5, .int (iI n_)), (4, .int (iI zk)), (0, .ref hm), (1, .int (iI what))]) hx hb dX9_strange_230 rfl hl (by decide) rfl (fun ls hl => ?_)
                        refine iv_iinc (k := 5) (x := zk) (lv' := [(4, .int (iI (zk + 1))), (3, .int (iI ms)), (2, .int (iI zk)), (7, .int (iI 1)), (6, .int (iI is)), (5, .int (iI n_)), (0, .ref hm), (1, .int (iI what))]) hx hb dX9_strange_231 hl rfl (by decide) rfl (fun ls hl => ?_)
                        refine lv_goto (tgt := 22) hx hb dX9_strange_234 (by decide) ?_
                        exact ih22 zk ms (zk + 1) g4 g5 g6 (k9 + 1) (by omega) (by first | (exfalso; omega) | exact hKP | (rw [hc.1]; exact hTK) | (rw [hc.1, show ms = n_ from by omega]; exact hTK)) (by omega) H locs ls (hP.sub [0, 1, 2, 3, 4, 5, 6, 7, 8, 9] rfl) (hD.sub [0, 1, 2, 3, 4, 5, 6, 7, 8, 9] (by decide) rfl) hS (lv_sub hl [0, 1, 2, 6, 7] rfl)
                      · refine lv_iload hx hb dX9_strange_224 (lv_at hl 3 rfl) ?_
                        refine lv_goto (tgt := 230) hx hb dX9_strange_226 (by decide) ?_
                        refine lv_istore_n (lv' := [(3, .int (iI n_)), (2, .int (iI zk)), (7, .int (iI 1)), (6, .int (iI is)), (5, .int (iI n_)), (4, .int (iI zk)), (0, .ref hm), (1, .int (iI what))]) hx hb dX9_strange_230 rfl hl (by decide) rfl (fun ls hl => ?_)
                        refine iv_iinc (k := 5) (x := zk) (lv' := [(4, .int (iI (zk + 1))), (3, .int (iI n_)), (2, .int (iI zk)), (7, .int (iI 1)), (6, .int (iI is)), (5, .int (iI n_)), (0, .ref hm), (1, .int (iI what))]) hx hb dX9_strange_231 hl rfl (by decide) rfl (fun ls hl => ?_)
                        refine lv_goto (tgt := 22) hx hb dX9_strange_234 (by decide) ?_
                        exact ih22 zk n_ (zk + 1) g4 g5 g6 (k9 + 1) (by omega) (by first | (exfalso; omega) | exact hKP | (rw [hc.1]; exact hTK) | (rw [hc.1, show ms = n_ from by omega]; exact hTK)) (by omega) H locs ls (hP.sub [0, 1, 2, 3, 4, 5, 6, 7, 8, 9] rfl) (hD.sub [0, 1, 2, 3, 4, 5, 6, 7, 8, 9] (by decide) rfl) hS (lv_sub hl [0, 1, 2, 6, 7] rfl)
                    · refine lv_iload hx hb dX9_strange_173 (lv_at hl 2 rfl) ?_
                      refine lv_iload_n hx hb dX9_strange_175 rfl (lv_at hl 4 rfl) ?_
                      refine iv_icmp_ne (tgt := 203) hx hb dX9_strange_176 (by decide) (by omega) (fun hc32 => ?_) (fun hc32 => ?_)
                      · have hKP : SgI qm qa (cqv qu ql qg) (i 5) (k9 + 1) bs ms := (by rcases hN with z | z; exact SgI.keep hSg (by omega) (by omega) (by omega); exact SgI.skip hSg z.2.1)
                        refine lv_iconst (v := iI (0)) hx hb dX9_strange_203 rfl ?_
                        refine lv_istore (lv' := [(7, .int (iI 0)), (6, .int (iI is)), (5, .int (iI n_)), (4, .int (iI zk)), (3, .int (iI ms)), (2, .int (iI bs)), (0, .ref hm), (1, .int (iI what))]) hx hb dX9_strange_204 hl (by decide) rfl (fun ls hl => ?_)
                        refine lv_iload hx hb dX9_strange_206 (lv_at hl 0 rfl) ?_
                        refine iv_if_eq (tgt := 216) hx hb dX9_strange_208 (by decide) (by decide) (fun _ => ?_) (fun h => absurd h (by decide))
                        refine lv_iload_n hx hb dX9_strange_216 rfl (lv_at hl 5 rfl) ?_
                        refine lv_istore_n (lv' := [(2, .int (iI bs)), (7, .int (iI 0)), (6, .int (iI is)), (5, .int (iI n_)), (4, .int (iI zk)), (3, .int (iI ms)), (0, .ref hm), (1, .int (iI what))]) hx hb dX9_strange_217 rfl hl (by decide) rfl (fun ls hl => ?_)
                        refine lv_iload hx hb dX9_strange_218 (lv_at hl 3 rfl) ?_
                        refine lv_iload_n hx hb dX9_strange_220 rfl (lv_at hl 5 rfl) ?_
                        refine iv_icmp_le (tgt := 229) hx hb dX9_strange_221 (by decide) (by omega) (fun hc34 => ?_) (fun hc34 => ?_)
                        · refine lv_iload_n hx hb dX9_strange_229 rfl (lv_at hl 5 rfl) ?_
                          refine lv_istore_n (lv' := [(3, .int (iI ms)), (2, .int (iI bs)), (7, .int (iI 0)), (6, .int (iI is)), (5, .int (iI n_)), (4, .int (iI zk)), (0, .ref hm), (1, .int (iI what))]) hx hb dX9_strange_230 rfl hl (by decide) rfl (fun ls hl => ?_)
                          refine iv_iinc (k := 5) (x := zk) (lv' := [(4, .int (iI (zk + 1))), (3, .int (iI ms)), (2, .int (iI bs)), (7, .int (iI 0)), (6, .int (iI is)), (5, .int (iI n_)), (0, .ref hm), (1, .int (iI what))]) hx hb dX9_strange_231 hl rfl (by decide) rfl (fun ls hl => ?_)
                          refine lv_goto (tgt := 22) hx hb dX9_strange_234 (by decide) ?_
                          exact ih22 bs ms (zk + 1) g4 g5 g6 (k9 + 1) (by omega) (by first | (exfalso; omega) | exact hKP | (rw [hc.1]; exact hTK) | (rw [hc.1, show ms = n_ from by omega]; exact hTK)) (by omega) H locs ls (hP.sub [0, 1, 2, 3, 4, 5, 6, 7, 8, 9] rfl) (hD.sub [0, 1, 2, 3, 4, 5, 6, 7, 8, 9] (by decide) rfl) hS (lv_sub hl [0, 1, 2, 6, 7] rfl)
                        · refine lv_iload hx hb dX9_strange_224 (lv_at hl 3 rfl) ?_
                          refine lv_goto (tgt := 230) hx hb dX9_strange_226 (by decide) ?_
                          refine lv_istore_n (lv' := [(3, .int (iI n_)), (2, .int (iI bs)), (7, .int (iI 0)), (6, .int (iI is)), (5, .int (iI n_)), (4, .int (iI zk)), (0, .ref hm), (1, .int (iI what))]) hx hb dX9_strange_230 rfl hl (by decide) rfl (fun ls hl => ?_)
                          refine iv_iinc (k := 5) (x := zk) (lv' := [(4, .int (iI (zk + 1))), (3, .int (iI n_)), (2, .int (iI bs)), (7, .int (iI 0)), (6, .int (iI is)), (5, .int (iI n_)), (0, .ref hm), (1, .int (iI what))]) hx hb dX9_strange_231 hl rfl (by decide) rfl (fun ls hl => ?_)
                          refine lv_goto (tgt := 22) hx hb dX9_strange_234 (by decide) ?_
                          exact ih22 bs n_ (zk + 1) g4 g5 g6 (k9 + 1) (by omega) (by first | (exfalso; omega) | exact hKP | (rw [hc.1]; exact hTK) | (rw [hc.1, show ms = n_ from by omega]; exact hTK)) (by omega) H locs ls (hP.sub [0, 1, 2, 3, 4, 5, 6, 7, 8, 9] rfl) (hD.sub [0, 1, 2, 3, 4, 5, 6, 7, 8, 9] (by decide) rfl) hS (lv_sub hl [0, 1, 2, 6, 7] rfl)
                      · refine lv_iload hx hb dX9_strange_179 (lv_at hl 2 rfl) ?_
                        refine iv_if_le (tgt := 203) hx hb dX9_strange_181 (by decide) (by omega) (fun hc35 => ?_) (fun hc35 => ?_)
                        · have hKP : SgI qm qa (cqv qu ql qg) (i 5) (k9 + 1) bs ms := (by rcases hN with z | z; exact SgI.keep hSg (by omega) (by omega) (by omega); exact SgI.skip hSg z.2.1)
                          refine lv_iconst (v := iI (0)) hx hb dX9_strange_203 rfl ?_
                          refine lv_istore (lv' := [(7, .int (iI 0)), (6, .int (iI is)), (5, .int (iI n_)), (4, .int (iI zk)), (3, .int (iI ms)), (2, .int (iI bs)), (0, .ref hm), (1, .int (iI what))]) hx hb dX9_strange_204 hl (by decide) rfl (fun ls hl => ?_)
                          refine lv_iload hx hb dX9_strange_206 (lv_at hl 0 rfl) ?_
                          refine iv_if_eq (tgt := 216) hx hb dX9_strange_208 (by decide) (by decide) (fun _ => ?_) (fun h => absurd h (by decide))
                          refine lv_iload_n hx hb dX9_strange_216 rfl (lv_at hl 5 rfl) ?_
                          refine lv_istore_n (lv' := [(2, .int (iI bs)), (7, .int (iI 0)), (6, .int (iI is)), (5, .int (iI n_)), (4, .int (iI zk)), (3, .int (iI ms)), (0, .ref hm), (1, .int (iI what))]) hx hb dX9_strange_217 rfl hl (by decide) rfl (fun ls hl => ?_)
                          refine lv_iload hx hb dX9_strange_218 (lv_at hl 3 rfl) ?_
                          refine lv_iload_n hx hb dX9_strange_220 rfl (lv_at hl 5 rfl) ?_
                          refine iv_icmp_le (tgt := 229) hx hb dX9_strange_221 (by decide) (by omega) (fun hc37 => ?_) (fun hc37 => ?_)
                          · refine lv_iload_n hx hb dX9_strange_229 rfl (lv_at hl 5 rfl) ?_
                            refine lv_istore_n (lv' := [(3, .int (iI ms)), (2, .int (iI bs)), (7, .int (iI 0)), (6, .int (iI is)), (5, .int (iI n_)), (4, .int (iI zk)), (0, .ref hm), (1, .int (iI what))]) hx hb dX9_strange_230 rfl hl (by decide) rfl (fun ls hl => ?_)
                            refine iv_iinc (k := 5) (x := zk) (lv' := [(4, .int (iI (zk + 1))), (3, .int (iI ms)), (2, .int (iI bs)), (7, .int (iI 0)), (6, .int (iI is)), (5, .int (iI n_)), (0, .ref hm), (1, .int (iI what))]) hx hb dX9_strange_231 hl rfl (by decide) rfl (fun ls hl => ?_)
                            refine lv_goto (tgt := 22) hx hb dX9_strange_234 (by decide) ?_
                            exact ih22 bs ms (zk + 1) g4 g5 g6 (k9 + 1) (by omega) (by first | (exfalso; omega) | exact hKP | (rw [hc.1]; exact hTK) | (rw [hc.1, show ms = n_ from by omega]; exact hTK)) (by omega) H locs ls (hP.sub [0, 1, 2, 3, 4, 5, 6, 7, 8, 9] rfl) (hD.sub [0, 1, 2, 3, 4, 5, 6, 7, 8, 9] (by decide) rfl) hS (lv_sub hl [0, 1, 2, 6, 7] rfl)
                          · refine lv_iload hx hb dX9_strange_224 (lv_at hl 3 rfl) ?_
                            refine lv_goto (tgt := 230) hx hb dX9_strange_226 (by decide) ?_
                            refine lv_istore_n (lv' := [(3, .int (iI n_)), (2, .int (iI bs)), (7, .int (iI 0)), (6, .int (iI is)), (5, .int (iI n_)), (4, .int (iI zk)), (0, .ref hm), (1, .int (iI what))]) hx hb dX9_strange_230 rfl hl (by decide) rfl (fun ls hl => ?_)
                            refine iv_iinc (k := 5) (x := zk) (lv' := [(4, .int (iI (zk + 1))), (3, .int (iI n_)), (2, .int (iI bs)), (7, .int (iI 0)), (6, .int (iI is)), (5, .int (iI n_)), (0, .ref hm), (1, .int (iI what))]) hx hb dX9_strange_231 hl rfl (by decide) rfl (fun ls hl => ?_)
                            refine lv_goto (tgt := 22) hx hb dX9_strange_234 (by decide) ?_
                            exact ih22 bs n_ (zk + 1) g4 g5 g6 (k9 + 1) (by omega) (by first | (exfalso; omega) | exact hKP | (rw [hc.1]; exact hTK) | (rw [hc.1, show ms = n_ from by omega]; exact hTK)) (by omega) H locs ls (hP.sub [0, 1, 2, 3, 4, 5, 6, 7, 8, 9] rfl) (hD.sub [0, 1, 2, 3, 4, 5, 6, 7, 8, 9] (by decide) rfl) hS (lv_sub hl [0, 1, 2, 6, 7] rfl)
                        · have hsk : sgP qm qa (cqv qu ql qg) (i 5) k9 := (by rcases hN with z | z; exact z.2.1; exfalso; omega)
                          have hvk : AnOK qu ql qg qa k9 := ha_ k9 (by omega) hsk.1
                          have hSb : 0 ≤ bs ∧ sgP qm qa (cqv qu ql qg) (i 5) bs.toNat := (by rcases hSg with z | z; (exfalso; omega); exact ⟨z.2.1, z.2.2.2.1⟩)
                          have hvb : AnOK qu ql qg qa bs.toNat := ha_ bs.toNat (by omega) hSb.2.1
                          have hrk : 0 ≤ cqv qu ql qg k9 ∧ cqv qu ql qg k9 < 1000000000 := by unfold cqv; omega
                          have hrb : 0 ≤ cqv qu ql qg bs.toNat ∧ cqv qu ql qg bs.toNat < 1000000000 := by unfold cqv; omega
                          refine lv_aload_n hx hb dX9_strange_184 rfl (lv_at hl 6 rfl) ?_
                          refine lv_iload hx hb dX9_strange_185 (lv_at hl 3 rfl) ?_
                          refine Ct.callV (ci := 9) (q0 := 0) (qc := (RX9, TX9, 37)) (As := [.int (iI zk)]) (rest := []) (wr := [((a 6), aI (g.2.1 0) 12 qm), ((a 10), aI (g.2.1 1) 480 qa), ((a 1), aI (g.2.1 0) 3 g4), ((a 2), aI (g.2.1 0) 3 g5), ((a 3), aI (g.2.1 0) 3 g6), ((a 0), aI (g.2.1 0) 93 kw)]) (c1 := 0) (s1 := 0) ⟨hx, hb, hml, hown, hts⟩ (c_X9_keyOf l g hm a i qu ql qg zk k9 (by omega) (by omega)) rfl rfl (cwV 1 hts gX9_strange_X9_keyOf rfl rfl rfl (by decide +kernel) ⟨Nat.le_of_ble_eq_true rfl, Nat.le_of_ble_eq_true rfl⟩) hG hP hD hS hA [0, 2, 3, 4] [1, 5, 6, 7, 8, 9] rfl rfl (by decide) (by decide) (by decide) rfl hl.1 rfl (Nat.le_of_ble_eq_true rfl) dX9_strange_187 ⟨Nat.le_of_ble_eq_true rfl, Nat.le_of_ble_eq_true rfl⟩ rfl rfl (fun v w H locs hv hP hD hS => ?_)
                          obtain ⟨rfl, rfl⟩ := hv
                          show W p l e _ s m _ below meth c H locs 0 0 _ (F0 m 190 ls (.long (lI ((cqv qu ql qg) k9)) :: []))
                          have hP : va_P g.1 vwCl [((a 6), aI (g.2.1 0) 12 qm), ((a 10), aI (g.2.1 1) 480 qa), ((a 1), aI (g.2.1 0) 3 g4), ((a 2), aI (g.2.1 0) 3 g5), ((a 3), aI (g.2.1 0) 3 g6), ((a 0), aI (g.2.1 0) 93 kw), (hm, .inr (9, mF a i)), ((a 7), aI (g.2.1 0) 480 qu), ((a 8), aI (g.2.1 0) 480 ql), ((a 9), aI (g.2.1 0) 480 qg)] H := hP
                          have hD : va_D A [((a 6), aI (g.2.1 0) 12 qm), ((a 10), aI (g.2.1 1) 480 qa), ((a 1), aI (g.2.1 0) 3 g4), ((a 2), aI (g.2.1 0) 3 g5), ((a 3), aI (g.2.1 0) 3 g6), ((a 0), aI (g.2.1 0) 93 kw), (hm, .inr (9, mF a i)), ((a 7), aI (g.2.1 0) 480 qu), ((a 8), aI (g.2.1 0) 480 ql), ((a 9), aI (g.2.1 0) 480 qg)] := hD
                          refine lv_aload_n hx hb dX9_strange_190 rfl (lv_at hl 6 rfl) ?_
                          refine lv_iload_n hx hb dX9_strange_191 rfl (lv_at hl 5 rfl) ?_
                          refine Ct.callV (ci := 9) (q0 := 6) (qc := (RX9, TX9, 37)) (As := [.int (iI bs)]) (rest := [.long (lI ((cqv qu ql qg) k9))]) (wr := [((a 6), aI (g.2.1 0) 12 qm), ((a 10), aI (g.2.1 1) 480 qa), ((a 1), aI (g.2.1 0) 3 g4), ((a 2), aI (g.2.1 0) 3 g5), ((a 3), aI (g.2.1 0) 3 g6), ((a 0), aI (g.2.1 0) 93 kw)]) (c1 := 0) (s1 := 0) ⟨hx, hb, hml, hown, hts⟩ (c_X9_keyOf l g hm a i qu ql qg bs bs.toNat (by omega) (by omega)) rfl rfl (cwV 1 hts gX9_strange_X9_keyOf rfl rfl rfl (by decide +kernel) ⟨Nat.le_of_ble_eq_true rfl, Nat.le_of_ble_eq_true rfl⟩) hG hP hD hS hA [6, 7, 8, 9] [0, 1, 2, 3, 4, 5] rfl rfl (by decide) (by decide) (by decide) rfl hl.1 rfl (Nat.le_of_ble_eq_true rfl) dX9_strange_192 ⟨Nat.le_of_ble_eq_true rfl, Nat.le_of_ble_eq_true rfl⟩ rfl rfl (fun v w H locs hv hP hD hS => ?_)
                          obtain ⟨rfl, rfl⟩ := hv
                          show W p l e _ s m _ below meth c H locs 0 0 _ (F0 m 195 ls (.long (lI ((cqv qu ql qg) bs.toNat)) :: [.long (lI ((cqv qu ql qg) k9))]))
                          have hP : va_P g.1 vwCl [((a 6), aI (g.2.1 0) 12 qm), ((a 10), aI (g.2.1 1) 480 qa), ((a 1), aI (g.2.1 0) 3 g4), ((a 2), aI (g.2.1 0) 3 g5), ((a 3), aI (g.2.1 0) 3 g6), ((a 0), aI (g.2.1 0) 93 kw), (hm, .inr (9, mF a i)), ((a 7), aI (g.2.1 0) 480 qu), ((a 8), aI (g.2.1 0) 480 ql), ((a 9), aI (g.2.1 0) 480 qg)] H := hP
                          have hD : va_D A [((a 6), aI (g.2.1 0) 12 qm), ((a 10), aI (g.2.1 1) 480 qa), ((a 1), aI (g.2.1 0) 3 g4), ((a 2), aI (g.2.1 0) 3 g5), ((a 3), aI (g.2.1 0) 3 g6), ((a 0), aI (g.2.1 0) 93 kw), (hm, .inr (9, mF a i)), ((a 7), aI (g.2.1 0) 480 qu), ((a 8), aI (g.2.1 0) 480 ql), ((a 9), aI (g.2.1 0) 480 qg)] := hD
                          refine iv_lcmp hx hb dX9_strange_195 (by omega) (fun hc38 => ?_) (fun hc38 => ?_) (fun hc38 => ?_)
                          · refine iv_if_ge (tgt := 203) hx hb dX9_strange_196 (by decide) (by decide) (fun h => absurd h (by decide)) (fun _ => ?_)
                            have hTK : SgI qm qa (cqv qu ql qg) (i 5) (k9 + 1) (k9 : Int) n_ := (by rcases hN with z | z; (have z9 := SgI.take hSg z.2.1 (by omega) (by first | exact Or.inl (by omega) | exact Or.inr ⟨by omega, by omega⟩); rw [← z.2.2.1] at z9; exact z9); exfalso; omega)
                            refine lv_iconst (v := iI (1)) hx hb dX9_strange_199 rfl ?_
                            refine lv_goto (tgt := 204) hx hb dX9_strange_200 (by decide) ?_
                            refine lv_istore (lv' := [(7, .int (iI 1)), (6, .int (iI is)), (5, .int (iI n_)), (4, .int (iI zk)), (3, .int (iI ms)), (2, .int (iI bs)), (0, .ref hm), (1, .int (iI what))]) hx hb dX9_strange_204 hl (by decide) rfl (fun ls hl => ?_)
                            refine lv_iload hx hb dX9_strange_206 (lv_at hl 0 rfl) ?_
                            refine iv_if_eq (tgt := 216) hx hb dX9_strange_208 (by decide) (by decide) (fun h => absurd h (by decide)) (fun _ => ?_)
                            refine lv_iload hx hb dX9_strange_211 (lv_at hl 3 rfl) ?_
                            refine lv_goto (tgt := 217) hx hb dX9_strange_213 (by decide) ?_
                            refine lv_istore_n (lv' := [(2, .int (iI zk)), (7, .int (iI 1)), (6, .int (iI is)), (5, .int (iI n_)), (4, .int (iI zk)), (3, .int (iI ms)), (0, .ref hm), (1, .int (iI what))]) hx hb dX9_strange_217 rfl hl (by decide) rfl (fun ls hl => ?_)
                            refine lv_iload hx hb dX9_strange_218 (lv_at hl 3 rfl) ?_
                            refine lv_iload_n hx hb dX9_strange_220 rfl (lv_at hl 5 rfl) ?_
                            refine iv_icmp_le (tgt := 229) hx hb dX9_strange_221 (by decide) (by omega) (fun hc41 => ?_) (fun hc41 => ?_)
                            · refine lv_iload_n hx hb dX9_strange_229 rfl (lv_at hl 5 rfl) ?_
                              refine lv_istore_n (lv' := [(3, .int (iI ms)), (2, .int (iI zk)), (7, .int (iI 1)), (6, .int (iI is)), (5, .int (iI n_)), (4, .int (iI zk)), (0, .ref hm), (1, .int (iI what))]) hx hb dX9_strange_230 rfl hl (by decide) rfl (fun ls hl => ?_)
                              refine iv_iinc (k := 5) (x := zk) (lv' := [(4, .int (iI (zk + 1))), (3, .int (iI ms)), (2, .int (iI zk)), (7, .int (iI 1)), (6, .int (iI is)), (5, .int (iI n_)), (0, .ref hm), (1, .int (iI what))]) hx hb dX9_strange_231 hl rfl (by decide) rfl (fun ls hl => ?_)
                              refine lv_goto (tgt := 22) hx hb dX9_strange_234 (by decide) ?_
                              exact ih22 zk ms (zk + 1) g4 g5 g6 (k9 + 1) (by omega) (by first | (exfalso; omega) | exact hKP | (rw [hc.1]; exact hTK) | (rw [hc.1, show ms = n_ from by omega]; exact hTK)) (by omega) H locs ls (hP.sub [6, 0, 7, 8, 9, 1, 2, 3, 4, 5] rfl) (hD.sub [6, 0, 7, 8, 9, 1, 2, 3, 4, 5] (by decide) rfl) hS (lv_sub hl [0, 1, 2, 6, 7] rfl)
                            · refine lv_iload hx hb dX9_strange_224 (lv_at hl 3 rfl) ?_
                              refine lv_goto (tgt := 230) hx hb dX9_strange_226 (by decide) ?_
                              refine lv_istore_n (lv' := [(3, .int (iI n_)), (2, .int (iI zk)), (7, .int (iI 1)), (6, .int (iI is)), (5, .int (iI n_)), (4, .int (iI zk)), (0, .ref hm), (1, .int (iI what))]) hx hb dX9_strange_230 rfl hl (by decide) rfl (fun ls hl => ?_)
                              refine iv_iinc (k := 5) (x := zk) (lv' := [(4, .int (iI (zk + 1))), (3, .int (iI n_)), (2, .int (iI zk)), (7, .int (iI 1)), (6, .int (iI is)), (5, .int (iI n_)), (0, .ref hm), (1, .int (iI what))]) hx hb dX9_strange_231 hl rfl (by decide) rfl (fun ls hl => ?_)
                              refine lv_goto (tgt := 22) hx hb dX9_strange_234 (by decide) ?_
                              exact ih22 zk n_ (zk + 1) g4 g5 g6 (k9 + 1) (by omega) (by first | (exfalso; omega) | exact hKP | (rw [hc.1]; exact hTK) | (rw [hc.1, show ms = n_ from by omega]; exact hTK)) (by omega) H locs ls (hP.sub [6, 0, 7, 8, 9, 1, 2, 3, 4, 5] rfl) (hD.sub [6, 0, 7, 8, 9, 1, 2, 3, 4, 5] (by decide) rfl) hS (lv_sub hl [0, 1, 2, 6, 7] rfl)
                          · refine iv_if_ge (tgt := 203) hx hb dX9_strange_196 (by decide) (by decide) (fun _ => ?_) (fun h => absurd h (by decide))
                            have hKP : SgI qm qa (cqv qu ql qg) (i 5) (k9 + 1) bs ms := (by rcases hN with z | z; exact SgI.keep hSg (by omega) (by omega) (by omega); exact SgI.skip hSg z.2.1)
                            refine lv_iconst (v := iI (0)) hx hb dX9_strange_203 rfl ?_
                            refine lv_istore (lv' := [(7, .int (iI 0)), (6, .int (iI is)), (5, .int (iI n_)), (4, .int (iI zk)), (3, .int (iI ms)), (2, .int (iI bs)), (0, .ref hm), (1, .int (iI what))]) hx hb dX9_strange_204 hl (by decide) rfl (fun ls hl => ?_)
                            refine lv_iload hx hb dX9_strange_206 (lv_at hl 0 rfl) ?_
                            refine iv_if_eq (tgt := 216) hx hb dX9_strange_208 (by decide) (by decide) (fun _ => ?_) (fun h => absurd h (by decide))
                            refine lv_iload_n hx hb dX9_strange_216 rfl (lv_at hl 5 rfl) ?_
                            refine lv_istore_n (lv' := [(2, .int (iI bs)), (7, .int (iI 0)), (6, .int (iI is)), (5, .int (iI n_)), (4, .int (iI zk)), (3, .int (iI ms)), (0, .ref hm), (1, .int (iI what))]) hx hb dX9_strange_217 rfl hl (by decide) rfl (fun ls hl => ?_)
                            refine lv_iload hx hb dX9_strange_218 (lv_at hl 3 rfl) ?_
                            refine lv_iload_n hx hb dX9_strange_220 rfl (lv_at hl 5 rfl) ?_
                            refine iv_icmp_le (tgt := 229) hx hb dX9_strange_221 (by decide) (by omega) (fun hc44 => ?_) (fun hc44 => ?_)
                            · refine lv_iload_n hx hb dX9_strange_229 rfl (lv_at hl 5 rfl) ?_
                              refine lv_istore_n (lv' := [(3, .int (iI ms)), (2, .int (iI bs)), (7, .int (iI 0)), (6, .int (iI is)), (5, .int (iI n_)), (4, .int (iI zk)), (0, .ref hm), (1, .int (iI what))]) hx hb dX9_strange_230 rfl hl (by decide) rfl (fun ls hl => ?_)
                              refine iv_iinc (k := 5) (x := zk) (lv' := [(4, .int (iI (zk + 1))), (3, .int (iI ms)), (2, .int (iI bs)), (7, .int (iI 0)), (6, .int (iI is)), (5, .int (iI n_)), (0, .ref hm), (1, .int (iI what))]) hx hb dX9_strange_231 hl rfl (by decide) rfl (fun ls hl => ?_)
                              refine lv_goto (tgt := 22) hx hb dX9_strange_234 (by decide) ?_
                              exact ih22 bs ms (zk + 1) g4 g5 g6 (k9 + 1) (by omega) (by first | (exfalso; omega) | exact hKP | (rw [hc.1]; exact hTK) | (rw [hc.1, show ms = n_ from by omega]; exact hTK)) (by omega) H locs ls (hP.sub [6, 0, 7, 8, 9, 1, 2, 3, 4, 5] rfl) (hD.sub [6, 0, 7, 8, 9, 1, 2, 3, 4, 5] (by decide) rfl) hS (lv_sub hl [0, 1, 2, 6, 7] rfl)
                            · refine lv_iload hx hb dX9_strange_224 (lv_at hl 3 rfl) ?_
                              refine lv_goto (tgt := 230) hx hb dX9_strange_226 (by decide) ?_
                              refine lv_istore_n (lv' := [(3, .int (iI n_)), (2, .int (iI bs)), (7, .int (iI 0)), (6, .int (iI is)), (5, .int (iI n_)), (4, .int (iI zk)), (0, .ref hm), (1, .int (iI what))]) hx hb dX9_strange_230 rfl hl (by decide) rfl (fun ls hl => ?_)
                              refine iv_iinc (k := 5) (x := zk) (lv' := [(4, .int (iI (zk + 1))), (3, .int (iI n_)), (2, .int (iI bs)), (7, .int (iI 0)), (6, .int (iI is)), (5, .int (iI n_)), (0, .ref hm), (1, .int (iI what))]) hx hb dX9_strange_231 hl rfl (by decide) rfl (fun ls hl => ?_)
                              refine lv_goto (tgt := 22) hx hb dX9_strange_234 (by decide) ?_
                              exact ih22 bs n_ (zk + 1) g4 g5 g6 (k9 + 1) (by omega) (by first | (exfalso; omega) | exact hKP | (rw [hc.1]; exact hTK) | (rw [hc.1, show ms = n_ from by omega]; exact hTK)) (by omega) H locs ls (hP.sub [6, 0, 7, 8, 9, 1, 2, 3, 4, 5] rfl) (hD.sub [6, 0, 7, 8, 9, 1, 2, 3, 4, 5] (by decide) rfl) hS (lv_sub hl [0, 1, 2, 6, 7] rfl)
                          · refine iv_if_ge (tgt := 203) hx hb dX9_strange_196 (by decide) (by decide) (fun _ => ?_) (fun h => absurd h (by decide))
                            have hKP : SgI qm qa (cqv qu ql qg) (i 5) (k9 + 1) bs ms := (by rcases hN with z | z; exact SgI.keep hSg (by omega) (by omega) (by omega); exact SgI.skip hSg z.2.1)
                            refine lv_iconst (v := iI (0)) hx hb dX9_strange_203 rfl ?_
                            refine lv_istore (lv' := [(7, .int (iI 0)), (6, .int (iI is)), (5, .int (iI n_)), (4, .int (iI zk)), (3, .int (iI ms)), (2, .int (iI bs)), (0, .ref hm), (1, .int (iI what))]) hx hb dX9_strange_204 hl (by decide) rfl (fun ls hl => ?_)
                            refine lv_iload hx hb dX9_strange_206 (lv_at hl 0 rfl) ?_
                            refine iv_if_eq (tgt := 216) hx hb dX9_strange_208 (by decide) (by decide) (fun _ => ?_) (fun h => absurd h (by decide))
                            refine lv_iload_n hx hb dX9_strange_216 rfl (lv_at hl 5 rfl) ?_
                            refine lv_istore_n (lv' := [(2, .int (iI bs)), (7, .int (iI 0)), (6, .int (iI is)), (5, .int (iI n_)), (4, .int (iI zk)), (3, .int (iI ms)), (0, .ref hm), (1, .int (iI what))]) hx hb dX9_strange_217 rfl hl (by decide) rfl (fun ls hl => ?_)
                            refine lv_iload hx hb dX9_strange_218 (lv_at hl 3 rfl) ?_
                            refine lv_iload_n hx hb dX9_strange_220 rfl (lv_at hl 5 rfl) ?_
                            refine iv_icmp_le (tgt := 229) hx hb dX9_strange_221 (by decide) (by omega) (fun hc47 => ?_) (fun hc47 => ?_)
                            · refine lv_iload_n hx hb dX9_strange_229 rfl (lv_at hl 5 rfl) ?_
                              refine lv_istore_n (lv' := [(3, .int (iI ms)), (2, .int (iI bs)), (7, .int (iI 0)), (6, .int (iI is)), (5, .int (iI n_)), (4, .int (iI zk)), (0, .ref hm), (1, .int (iI what))]) hx hb dX9_strange_230 rfl hl (by decide) rfl (fun ls hl => ?_)
                              refine iv_iinc (k := 5) (x := zk) (lv' := [(4, .int (iI (zk + 1))), (3, .int (iI ms)), (2, .int (iI bs)), (7, .int (iI 0)), (6, .int (iI is)), (5, .int (iI n_)), (0, .ref hm), (1, .int (iI what))]) hx hb dX9_strange_231 hl rfl (by decide) rfl (fun ls hl => ?_)
                              refine lv_goto (tgt := 22) hx hb dX9_strange_234 (by decide) ?_
                              exact ih22 bs ms (zk + 1) g4 g5 g6 (k9 + 1) (by omega) (by first | (exfalso; omega) | exact hKP | (rw [hc.1]; exact hTK) | (rw [hc.1, show ms = n_ from by omega]; exact hTK)) (by omega) H locs ls (hP.sub [6, 0, 7, 8, 9, 1, 2, 3, 4, 5] rfl) (hD.sub [6, 0, 7, 8, 9, 1, 2, 3, 4, 5] (by decide) rfl) hS (lv_sub hl [0, 1, 2, 6, 7] rfl)
                            · refine lv_iload hx hb dX9_strange_224 (lv_at hl 3 rfl) ?_
                              refine lv_goto (tgt := 230) hx hb dX9_strange_226 (by decide) ?_
                              refine lv_istore_n (lv' := [(3, .int (iI n_)), (2, .int (iI bs)), (7, .int (iI 0)), (6, .int (iI is)), (5, .int (iI n_)), (4, .int (iI zk)), (0, .ref hm), (1, .int (iI what))]) hx hb dX9_strange_230 rfl hl (by decide) rfl (fun ls hl => ?_)
                              refine iv_iinc (k := 5) (x := zk) (lv' := [(4, .int (iI (zk + 1))), (3, .int (iI n_)), (2, .int (iI bs)), (7, .int (iI 0)), (6, .int (iI is)), (5, .int (iI n_)), (0, .ref hm), (1, .int (iI what))]) hx hb dX9_strange_231 hl rfl (by decide) rfl (fun ls hl => ?_)
                              refine lv_goto (tgt := 22) hx hb dX9_strange_234 (by decide) ?_
                              exact ih22 bs n_ (zk + 1) g4 g5 g6 (k9 + 1) (by omega) (by first | (exfalso; omega) | exact hKP | (rw [hc.1]; exact hTK) | (rw [hc.1, show ms = n_ from by omega]; exact hTK)) (by omega) H locs ls (hP.sub [6, 0, 7, 8, 9, 1, 2, 3, 4, 5] rfl) (hD.sub [6, 0, 7, 8, 9, 1, 2, 3, 4, 5] (by decide) rfl) hS (lv_sub hl [0, 1, 2, 6, 7] rfl)
                  · have hmj := hm_ (j / 40) (by omega)
                    have hsk : sgP qm qa (cqv qu ql qg) (i 5) k9 := (by rcases his with z | z; exact z.2; exfalso; omega)
                    have hvk : AnOK qu ql qg qa k9 := ha_ k9 (by omega) hsk.1
                    refine lv_iload hx hb dX9_strange_95 (lv_at hl 2 rfl) ?_
                    refine lv_iload hx hb dX9_strange_97 (lv_at hl 0 rfl) ?_
                    refine lv_bipush (v := iI (40)) hx hb dX9_strange_99 (by decide) ?_
                    refine iv_irem hx hb dX9_strange_101 (by omega) ?_
                    refine lv_aload_n hx hb dX9_strange_102 rfl (lv_at hl 6 rfl) ?_
                    refine va_get (D := g.1) (ci := 9) (v := .ref (a 6)) hx hb hts kX9_strange_9 hown hG.1 hP 0 rfl rfl 6 (by decide) (hts _ (List.mem_of_getElem? (i := 2) rfl)) (fun _ h9 => h9) rfl dX9_strange_103 ?_
                    refine lv_iload hx hb dX9_strange_106 (lv_at hl 0 rfl) ?_
                    refine lv_bipush (v := iI (40)) hx hb dX9_strange_108 (by decide) ?_
                    refine iv_idiv hx hb dX9_strange_110 (by omega) ?_
                    refine iv_iald hx hb hG hP 1 rfl (j / 40) (by omega) (by omega) (by decide) dX9_strange_111 ?_
                    refine iv_icmp_ge (tgt := 157) hx hb dX9_strange_112 (by decide) (by omega) (fun hc48 => ?_) (fun hc48 => ?_)
                    · refine lv_iconst (v := iI (0)) hx hb dX9_strange_157 rfl ?_
                      refine iv_iadd hx hb dX9_strange_158 ?_
                      refine lv_istore (lv' := [(5, .int (iI (n_ + 0))), (7, .int (iI zj)), (6, .int (iI is)), (4, .int (iI zk)), (3, .int (iI ms)), (2, .int (iI bs)), (0, .ref hm), (1, .int (iI what))]) hx hb dX9_strange_159 hl (by decide) rfl (fun ls hl => ?_)
                      refine iv_iinc (k := 1) (x := zj) (lv' := [(7, .int (iI (zj + 1))), (5, .int (iI (n_ + 0))), (6, .int (iI is)), (4, .int (iI zk)), (3, .int (iI ms)), (2, .int (iI bs)), (0, .ref hm), (1, .int (iI what))]) hx hb dX9_strange_161 hl rfl (by decide) rfl (fun ls hl => ?_)
                      refine lv_goto (tgt := 82) hx hb dX9_strange_164 (by decide) ?_
                      exact ih82 (n_ + 0) (zj + 1) (j + 1) (by omega) (by refine Or.inl ⟨by omega, ?_⟩; simp only [ckF]; first | (exfalso; omega) | (rw [if_pos ⟨⟨by omega, by omega⟩, by omega, by assumption⟩]; omega) | (rw [if_neg (fun z => by omega)]; omega)) (by omega) H locs ls (hP.sub [0, 1, 2, 3, 4, 5, 6, 7, 8, 9] rfl) (hD.sub [0, 1, 2, 3, 4, 5, 6, 7, 8, 9] (by decide) rfl) hS (lv_sub hl [0, 2, 1, 3, 4, 5, 6, 7] rfl)
                    · refine lv_iload hx hb dX9_strange_115 (lv_at hl 0 rfl) ?_
                      refine lv_bipush (v := iI (40)) hx hb dX9_strange_117 (by decide) ?_
                      refine iv_idiv hx hb dX9_strange_119 (by omega) ?_
                      refine lv_aload_n hx hb dX9_strange_120 rfl (lv_at hl 6 rfl) ?_
                      refine va_get (D := g.1) (ci := 9) (v := .int (iI (i 5))) hx hb hts kX9_strange_9 hown hG.1 hP 0 rfl rfl 5 (by decide) (hts _ (List.mem_of_getElem? (i := 3) rfl)) (fun _ h9 => h9) rfl dX9_strange_121 ?_
                      refine iv_icmp_ge (tgt := 157) hx hb dX9_strange_124 (by decide) (by omega) (fun hc49 => ?_) (fun hc49 => ?_)
                      · refine lv_iconst (v := iI (0)) hx hb dX9_strange_157 rfl ?_
                        refine iv_iadd hx hb dX9_strange_158 ?_
                        refine lv_istore (lv' := [(5, .int (iI (n_ + 0))), (7, .int (iI zj)), (6, .int (iI is)), (4, .int (iI zk)), (3, .int (iI ms)), (2, .int (iI bs)), (0, .ref hm), (1, .int (iI what))]) hx hb dX9_strange_159 hl (by decide) rfl (fun ls hl => ?_)
                        refine iv_iinc (k := 1) (x := zj) (lv' := [(7, .int (iI (zj + 1))), (5, .int (iI (n_ + 0))), (6, .int (iI is)), (4, .int (iI zk)), (3, .int (iI ms)), (2, .int (iI bs)), (0, .ref hm), (1, .int (iI what))]) hx hb dX9_strange_161 hl rfl (by decide) rfl (fun ls hl => ?_)
                        refine lv_goto (tgt := 82) hx hb dX9_strange_164 (by decide) ?_
                        exact ih82 (n_ + 0) (zj + 1) (j + 1) (by omega) (by refine Or.inl ⟨by omega, ?_⟩; simp only [ckF]; first | (exfalso; omega) | (rw [if_pos ⟨⟨by omega, by omega⟩, by omega, by assumption⟩]; omega) | (rw [if_neg (fun z => by omega)]; omega)) (by omega) H locs ls (hP.sub [0, 1, 2, 3, 4, 5, 6, 7, 8, 9] rfl) (hD.sub [0, 1, 2, 3, 4, 5, 6, 7, 8, 9] (by decide) rfl) hS (lv_sub hl [0, 2, 1, 3, 4, 5, 6, 7] rfl)
                      · have hvj : AnOK qu ql qg qa j := ha_ j (by omega) ⟨by omega, by omega⟩
                        refine lv_aload_n hx hb dX9_strange_127 rfl (lv_at hl 6 rfl) ?_
                        refine va_get (D := g.1) (ci := 9) (v := .ref (a 10)) hx hb hts kX9_strange_9 hown hG.1 hP 0 rfl rfl 10 (by decide) (hts _ (List.mem_of_getElem? (i := 4) rfl)) (fun _ h9 => h9) rfl dX9_strange_128 ?_
                        refine lv_iload hx hb dX9_strange_131 (lv_at hl 0 rfl) ?_
                        refine iv_zald hx hb hG hP 5 rfl j (by omega) (by omega) (by decide) dX9_strange_133 ?_
                        refine iv_if_ne (tgt := 157) hx hb dX9_strange_134 (by decide) (by omega) (fun hc50 => ?_) (fun hc50 => ?_)
                        · refine lv_iconst (v := iI (0)) hx hb dX9_strange_157 rfl ?_
                          refine iv_iadd hx hb dX9_strange_158 ?_
                          refine lv_istore (lv' := [(5, .int (iI (n_ + 0))), (7, .int (iI zj)), (6, .int (iI is)), (4, .int (iI zk)), (3, .int (iI ms)), (2, .int (iI bs)), (0, .ref hm), (1, .int (iI what))]) hx hb dX9_strange_159 hl (by decide) rfl (fun ls hl => ?_)
                          refine iv_iinc (k := 1) (x := zj) (lv' := [(7, .int (iI (zj + 1))), (5, .int (iI (n_ + 0))), (6, .int (iI is)), (4, .int (iI zk)), (3, .int (iI ms)), (2, .int (iI bs)), (0, .ref hm), (1, .int (iI what))]) hx hb dX9_strange_161 hl rfl (by decide) rfl (fun ls hl => ?_)
                          refine lv_goto (tgt := 82) hx hb dX9_strange_164 (by decide) ?_
                          exact ih82 (n_ + 0) (zj + 1) (j + 1) (by omega) (by refine Or.inl ⟨by omega, ?_⟩; simp only [ckF]; first | (exfalso; omega) | (rw [if_pos ⟨⟨by omega, by omega⟩, by omega, by assumption⟩]; omega) | (rw [if_neg (fun z => by omega)]; omega)) (by omega) H locs ls (hP.sub [0, 1, 2, 3, 4, 5, 6, 7, 8, 9] rfl) (hD.sub [0, 1, 2, 3, 4, 5, 6, 7, 8, 9] (by decide) rfl) hS (lv_sub hl [0, 2, 1, 3, 4, 5, 6, 7] rfl)
                        · have hrk : 0 ≤ cqv qu ql qg k9 ∧ cqv qu ql qg k9 < 1000000000 := by unfold cqv; omega
                          have hrj : 0 ≤ cqv qu ql qg j ∧ cqv qu ql qg j < 1000000000 := by unfold cqv; omega
                          refine lv_aload_n hx hb dX9_strange_137 rfl (lv_at hl 6 rfl) ?_
                          refine lv_iload hx hb dX9_strange_138 (lv_at hl 0 rfl) ?_
                          refine Ct.callV (ci := 9) (q0 := 0) (qc := (RX9, TX9, 37)) (As := [.int (iI zj)]) (rest := [.int (iI n_)]) (wr := [((a 6), aI (g.2.1 0) 12 qm), ((a 10), aI (g.2.1 1) 480 qa), ((a 1), aI (g.2.1 0) 3 g4), ((a 2), aI (g.2.1 0) 3 g5), ((a 3), aI (g.2.1 0) 3 g6), ((a 0), aI (g.2.1 0) 93 kw)]) (c1 := 0) (s1 := 0) ⟨hx, hb, hml, hown, hts⟩ (c_X9_keyOf l g hm a i qu ql qg zj j (by omega) (by omega)) rfl rfl (cwV 1 hts gX9_strange_X9_keyOf rfl rfl rfl (by decide +kernel) ⟨Nat.le_of_ble_eq_true rfl, Nat.le_of_ble_eq_true rfl⟩) hG hP hD hS hA [0, 2, 3, 4] [1, 5, 6, 7, 8, 9] rfl rfl (by decide) (by decide) (by decide) rfl hl.1 rfl (Nat.le_of_ble_eq_true rfl) dX9_strange_140 ⟨Nat.le_of_ble_eq_true rfl, Nat.le_of_ble_eq_true rfl⟩ rfl rfl (fun v w H locs hv hP hD hS => ?_)
                          obtain ⟨rfl, rfl⟩ := hv
                          show W p l e _ s m _ below meth c H locs 0 0 _ (F0 m 143 ls (.long (lI ((cqv qu ql qg) j)) :: [.int (iI n_)]))
                          have hP : va_P g.1 vwCl [((a 6), aI (g.2.1 0) 12 qm), ((a 10), aI (g.2.1 1) 480 qa), ((a 1), aI (g.2.1 0) 3 g4), ((a 2), aI (g.2.1 0) 3 g5), ((a 3), aI (g.2.1 0) 3 g6), ((a 0), aI (g.2.1 0) 93 kw), (hm, .inr (9, mF a i)), ((a 7), aI (g.2.1 0) 480 qu), ((a 8), aI (g.2.1 0) 480 ql), ((a 9), aI (g.2.1 0) 480 qg)] H := hP
                          have hD : va_D A [((a 6), aI (g.2.1 0) 12 qm), ((a 10), aI (g.2.1 1) 480 qa), ((a 1), aI (g.2.1 0) 3 g4), ((a 2), aI (g.2.1 0) 3 g5), ((a 3), aI (g.2.1 0) 3 g6), ((a 0), aI (g.2.1 0) 93 kw), (hm, .inr (9, mF a i)), ((a 7), aI (g.2.1 0) 480 qu), ((a 8), aI (g.2.1 0) 480 ql), ((a 9), aI (g.2.1 0) 480 qg)] := hD
                          refine lv_aload_n hx hb dX9_strange_143 rfl (lv_at hl 6 rfl) ?_
                          refine lv_iload hx hb dX9_strange_144 (lv_at hl 3 rfl) ?_
                          refine Ct.callV (ci := 9) (q0 := 6) (qc := (RX9, TX9, 37)) (As := [.int (iI zk)]) (rest := [.long (lI ((cqv qu ql qg) j)), .int (iI n_)]) (wr := [((a 6), aI (g.2.1 0) 12 qm), ((a 10), aI (g.2.1 1) 480 qa), ((a 1), aI (g.2.1 0) 3 g4), ((a 2), aI (g.2.1 0) 3 g5), ((a 3), aI (g.2.1 0) 3 g6), ((a 0), aI (g.2.1 0) 93 kw)]) (c1 := 0) (s1 := 0) ⟨hx, hb, hml, hown, hts⟩ (c_X9_keyOf l g hm a i qu ql qg zk k9 (by omega) (by omega)) rfl rfl (cwV 1 hts gX9_strange_X9_keyOf rfl rfl rfl (by decide +kernel) ⟨Nat.le_of_ble_eq_true rfl, Nat.le_of_ble_eq_true rfl⟩) hG hP hD hS hA [6, 7, 8, 9] [0, 1, 2, 3, 4, 5] rfl rfl (by decide) (by decide) (by decide) rfl hl.1 rfl (Nat.le_of_ble_eq_true rfl) dX9_strange_146 ⟨Nat.le_of_ble_eq_true rfl, Nat.le_of_ble_eq_true rfl⟩ rfl rfl (fun v w H locs hv hP hD hS => ?_)
                          obtain ⟨rfl, rfl⟩ := hv
                          show W p l e _ s m _ below meth c H locs 0 0 _ (F0 m 149 ls (.long (lI ((cqv qu ql qg) k9)) :: [.long (lI ((cqv qu ql qg) j)), .int (iI n_)]))
                          have hP : va_P g.1 vwCl [((a 6), aI (g.2.1 0) 12 qm), ((a 10), aI (g.2.1 1) 480 qa), ((a 1), aI (g.2.1 0) 3 g4), ((a 2), aI (g.2.1 0) 3 g5), ((a 3), aI (g.2.1 0) 3 g6), ((a 0), aI (g.2.1 0) 93 kw), (hm, .inr (9, mF a i)), ((a 7), aI (g.2.1 0) 480 qu), ((a 8), aI (g.2.1 0) 480 ql), ((a 9), aI (g.2.1 0) 480 qg)] H := hP
                          have hD : va_D A [((a 6), aI (g.2.1 0) 12 qm), ((a 10), aI (g.2.1 1) 480 qa), ((a 1), aI (g.2.1 0) 3 g4), ((a 2), aI (g.2.1 0) 3 g5), ((a 3), aI (g.2.1 0) 3 g6), ((a 0), aI (g.2.1 0) 93 kw), (hm, .inr (9, mF a i)), ((a 7), aI (g.2.1 0) 480 qu), ((a 8), aI (g.2.1 0) 480 ql), ((a 9), aI (g.2.1 0) 480 qg)] := hD
                          refine iv_lcmp hx hb dX9_strange_149 (by omega) (fun hc51 => ?_) (fun hc51 => ?_) (fun hc51 => ?_)
                          · refine iv_if_ne (tgt := 157) hx hb dX9_strange_150 (by decide) (by decide) (fun _ => ?_) (fun h => absurd h (by decide))
                            refine lv_iconst (v := iI (0)) hx hb dX9_strange_157 rfl ?_
                            refine iv_iadd hx hb dX9_strange_158 ?_
                            refine lv_istore (lv' := [(5, .int (iI (n_ + 0))), (7, .int (iI zj)), (6, .int (iI is)), (4, .int (iI zk)), (3, .int (iI ms)), (2, .int (iI bs)), (0, .ref hm), (1, .int (iI what))]) hx hb dX9_strange_159 hl (by decide) rfl (fun ls hl => ?_)
                            refine iv_iinc (k := 1) (x := zj) (lv' := [(7, .int (iI (zj + 1))), (5, .int (iI (n_ + 0))), (6, .int (iI is)), (4, .int (iI zk)), (3, .int (iI ms)), (2, .int (iI bs)), (0, .ref hm), (1, .int (iI what))]) hx hb dX9_strange_161 hl rfl (by decide) rfl (fun ls hl => ?_)
                            refine lv_goto (tgt := 82) hx hb dX9_strange_164 (by decide) ?_
                            exact ih82 (n_ + 0) (zj + 1) (j + 1) (by omega) (by refine Or.inl ⟨by omega, ?_⟩; simp only [ckF]; first | (exfalso; omega) | (rw [if_pos ⟨⟨by omega, by omega⟩, by omega, by assumption⟩]; omega) | (rw [if_neg (fun z => by omega)]; omega)) (by omega) H locs ls (hP.sub [6, 0, 7, 8, 9, 1, 2, 3, 4, 5] rfl) (hD.sub [6, 0, 7, 8, 9, 1, 2, 3, 4, 5] (by decide) rfl) hS (lv_sub hl [0, 2, 1, 3, 4, 5, 6, 7] rfl)
                          · refine iv_if_ne (tgt := 157) hx hb dX9_strange_150 (by decide) (by decide) (fun h => absurd h (by decide)) (fun _ => ?_)
                            refine lv_iconst (v := iI (1)) hx hb dX9_strange_153 rfl ?_
                            refine lv_goto (tgt := 158) hx hb dX9_strange_154 (by decide) ?_
                            refine iv_iadd hx hb dX9_strange_158 ?_
                            refine lv_istore (lv' := [(5, .int (iI (n_ + 1))), (7, .int (iI zj)), (6, .int (iI is)), (4, .int (iI zk)), (3, .int (iI ms)), (2, .int (iI bs)), (0, .ref hm), (1, .int (iI what))]) hx hb dX9_strange_159 hl (by decide) rfl (fun ls hl => ?_)
                            refine iv_iinc (k := 1) (x := zj) (lv' := [(7, .int (iI (zj + 1))), (5, .int (iI (n_ + 1))), (6, .int (iI is)), (4, .int (iI zk)), (3, .int (iI ms)), (2, .int (iI bs)), (0, .ref hm), (1, .int (iI what))]) hx hb dX9_strange_161 hl rfl (by decide) rfl (fun ls hl => ?_)
                            refine lv_goto (tgt := 82) hx hb dX9_strange_164 (by decide) ?_
                            exact ih82 (n_ + 1) (zj + 1) (j + 1) (by omega) (by refine Or.inl ⟨by omega, ?_⟩; simp only [ckF]; first | (exfalso; omega) | (rw [if_pos ⟨⟨by omega, by omega⟩, by omega, by assumption⟩]; omega) | (rw [if_neg (fun z => by omega)]; omega)) (by omega) H locs ls (hP.sub [6, 0, 7, 8, 9, 1, 2, 3, 4, 5] rfl) (hD.sub [6, 0, 7, 8, 9, 1, 2, 3, 4, 5] (by decide) rfl) hS (lv_sub hl [0, 2, 1, 3, 4, 5, 6, 7] rfl)
                          · refine iv_if_ne (tgt := 157) hx hb dX9_strange_150 (by decide) (by decide) (fun _ => ?_) (fun h => absurd h (by decide))
                            refine lv_iconst (v := iI (0)) hx hb dX9_strange_157 rfl ?_
                            refine iv_iadd hx hb dX9_strange_158 ?_
                            refine lv_istore (lv' := [(5, .int (iI (n_ + 0))), (7, .int (iI zj)), (6, .int (iI is)), (4, .int (iI zk)), (3, .int (iI ms)), (2, .int (iI bs)), (0, .ref hm), (1, .int (iI what))]) hx hb dX9_strange_159 hl (by decide) rfl (fun ls hl => ?_)
                            refine iv_iinc (k := 1) (x := zj) (lv' := [(7, .int (iI (zj + 1))), (5, .int (iI (n_ + 0))), (6, .int (iI is)), (4, .int (iI zk)), (3, .int (iI ms)), (2, .int (iI bs)), (0, .ref hm), (1, .int (iI what))]) hx hb dX9_strange_161 hl rfl (by decide) rfl (fun ls hl => ?_)
                            refine lv_goto (tgt := 82) hx hb dX9_strange_164 (by decide) ?_
                            exact ih82 (n_ + 0) (zj + 1) (j + 1) (by omega) (by refine Or.inl ⟨by omega, ?_⟩; simp only [ckF]; first | (exfalso; omega) | (rw [if_pos ⟨⟨by omega, by omega⟩, by omega, by assumption⟩]; omega) | (rw [if_neg (fun z => by omega)]; omega)) (by omega) H locs ls (hP.sub [6, 0, 7, 8, 9, 1, 2, 3, 4, 5] rfl) (hD.sub [6, 0, 7, 8, 9, 1, 2, 3, 4, 5] (by decide) rfl) hS (lv_sub hl [0, 2, 1, 3, 4, 5, 6, 7] rfl)
            exact hloop82 _ 0 0 0 (by omega) (by rcases his with z | z; exact Or.inl ⟨z.1, rfl⟩; exact Or.inr ⟨z.1, rfl⟩) (Nat.lt_succ_self _) H locs ls (hP.sub [0, 1, 2, 3, 4, 5, 6, 7, 8, 9] rfl) (hD.sub [0, 1, 2, 3, 4, 5, 6, 7, 8, 9] (by decide) rfl) hS (lv_sub hl [0, 1, 2, 3, 4, 5, 6, 7] rfl)
          refine lv_iload hx hb dX9_strange_33 (lv_at hl 1 rfl) ?_
          refine lv_bipush (v := iI (40)) hx hb dX9_strange_35 (by decide) ?_
          refine iv_irem hx hb dX9_strange_37 (by omega) ?_
          refine lv_aload_n hx hb dX9_strange_38 rfl (lv_at hl 4 rfl) ?_
          refine va_get (D := g.1) (ci := 9) (v := .ref (a 6)) hx hb hts kX9_strange_9 hown hG.1 hP 0 rfl rfl 6 (by decide) (hts _ (List.mem_of_getElem? (i := 2) rfl)) (fun _ h9 => h9) rfl dX9_strange_39 ?_
          refine lv_iload hx hb dX9_strange_42 (lv_at hl 1 rfl) ?_
          refine lv_bipush (v := iI (40)) hx hb dX9_strange_44 (by decide) ?_
          refine iv_idiv hx hb dX9_strange_46 (by omega) ?_
          refine iv_iald hx hb hG hP 1 rfl (k9 / 40) (by omega) (by omega) (by decide) dX9_strange_47 ?_
          refine iv_icmp_ge (tgt := 76) hx hb dX9_strange_48 (by decide) (by omega) (fun hc55 => ?_) (fun hc55 => ?_)
          · refine lv_iconst (v := iI (0)) hx hb dX9_strange_76 rfl ?_
            refine lv_istore (lv' := [(6, .int (iI 0)), (5, .int (iI 0)), (4, .int (iI zk)), (3, .int (iI ms)), (2, .int (iI bs)), (0, .ref hm), (1, .int (iI what))]) hx hb dX9_strange_77 hl (by decide) rfl (fun ls hl => ?_)
            exact hjoin79 0 g1 g2 g3 (by first | exact Or.inl ⟨rfl, ⟨by omega, by omega⟩, by assumption⟩ | exact Or.inr ⟨rfl, fun z => absurd z.2 (by assumption)⟩ | exact Or.inr ⟨rfl, fun z => absurd z.1 (by omega)⟩) H locs ls (hP.sub [0, 1, 2, 3, 4, 5, 6, 7, 8, 9] rfl) (hD.sub [0, 1, 2, 3, 4, 5, 6, 7, 8, 9] (by decide) rfl) hS (lv_sub hl [0, 1, 2, 3, 4, 5, 6] rfl)
          · refine lv_iload hx hb dX9_strange_51 (lv_at hl 1 rfl) ?_
            refine lv_bipush (v := iI (40)) hx hb dX9_strange_53 (by decide) ?_
            refine iv_idiv hx hb dX9_strange_55 (by omega) ?_
            refine lv_aload_n hx hb dX9_strange_56 rfl (lv_at hl 4 rfl) ?_
            refine va_get (D := g.1) (ci := 9) (v := .int (iI (i 5))) hx hb hts kX9_strange_9 hown hG.1 hP 0 rfl rfl 5 (by decide) (hts _ (List.mem_of_getElem? (i := 3) rfl)) (fun _ h9 => h9) rfl dX9_strange_57 ?_
            refine iv_icmp_ge (tgt := 76) hx hb dX9_strange_60 (by decide) (by omega) (fun hc56 => ?_) (fun hc56 => ?_)
            · refine lv_iconst (v := iI (0)) hx hb dX9_strange_76 rfl ?_
              refine lv_istore (lv' := [(6, .int (iI 0)), (5, .int (iI 0)), (4, .int (iI zk)), (3, .int (iI ms)), (2, .int (iI bs)), (0, .ref hm), (1, .int (iI what))]) hx hb dX9_strange_77 hl (by decide) rfl (fun ls hl => ?_)
              exact hjoin79 0 g1 g2 g3 (by first | exact Or.inl ⟨rfl, ⟨by omega, by omega⟩, by assumption⟩ | exact Or.inr ⟨rfl, fun z => absurd z.2 (by assumption)⟩ | exact Or.inr ⟨rfl, fun z => absurd z.1 (by omega)⟩) H locs ls (hP.sub [0, 1, 2, 3, 4, 5, 6, 7, 8, 9] rfl) (hD.sub [0, 1, 2, 3, 4, 5, 6, 7, 8, 9] (by decide) rfl) hS (lv_sub hl [0, 1, 2, 3, 4, 5, 6] rfl)
            · have hvk : AnOK qu ql qg qa k9 := ha_ k9 (by omega) ⟨by omega, by omega⟩
              refine lv_aload_n hx hb dX9_strange_63 rfl (lv_at hl 4 rfl) ?_
              refine lv_iload hx hb dX9_strange_64 (lv_at hl 1 rfl) ?_
              refine Ct.callV (ci := 9) (q0 := 0) (qc := (RX9, TX9, 37)) (As := [.int (iI zk)]) (rest := []) (wr := []) (c1 := 0) (s1 := 0) ⟨hx, hb, hml, hown, hts⟩ (c_X9_isStrange l g hm a i qm qu ql qg qa g1 g2 g3 kw zk k9 (by omega) (hvk) (hk_)) rfl rfl (cwV 1 hts gX9_strange_X9_isStrange rfl rfl rfl (by decide +kernel) ⟨Nat.le_of_ble_eq_true rfl, Nat.le_of_ble_eq_true rfl⟩) hG hP hD hS hA [0, 1, 2, 3, 4, 5, 6, 7, 8, 9] [] rfl rfl (by decide) (by decide) (by decide) rfl hl.1 rfl (Nat.le_of_ble_eq_true rfl) dX9_strange_66 ⟨Nat.le_of_ble_eq_true rfl, Nat.le_of_ble_eq_true rfl⟩ rfl rfl (fun v w H locs hv hP hD hS => ?_)
              obtain ⟨fa57, fd58, fn59, ⟨rfl, hb60⟩ | ⟨rfl, hb60⟩, rfl⟩ := hv
              · show W p l e _ s m _ below meth c H locs 0 0 _ (F0 m 69 ls (.int (iI 1) :: []))
                have hb60 : qa k9 = 0 ∧ anyH ((cqv qu ql qg) k9) 93 = 0 := hb60
                have hP : va_P g.1 vwCl [(hm, .inr (9, mF a i)), ((a 6), aI (g.2.1 0) 12 qm), ((a 7), aI (g.2.1 0) 480 qu), ((a 8), aI (g.2.1 0) 480 ql), ((a 9), aI (g.2.1 0) 480 qg), ((a 10), aI (g.2.1 1) 480 qa), ((a 1), aI (g.2.1 0) 3 fa57), ((a 2), aI (g.2.1 0) 3 fd58), ((a 3), aI (g.2.1 0) 3 fn59), ((a 0), aI (g.2.1 0) 93 kw)] H := hP
                have hD : va_D A [(hm, .inr (9, mF a i)), ((a 6), aI (g.2.1 0) 12 qm), ((a 7), aI (g.2.1 0) 480 qu), ((a 8), aI (g.2.1 0) 480 ql), ((a 9), aI (g.2.1 0) 480 qg), ((a 10), aI (g.2.1 1) 480 qa), ((a 1), aI (g.2.1 0) 3 fa57), ((a 2), aI (g.2.1 0) 3 fd58), ((a 3), aI (g.2.1 0) 3 fn59), ((a 0), aI (g.2.1 0) 93 kw)] := hD
                refine iv_if_eq (tgt := 76) hx hb dX9_strange_69 (by decide) (by decide) (fun h => absurd h (by decide)) (fun _ => ?_)
                refine lv_iconst (v := iI (1)) hx hb dX9_strange_72 rfl ?_
                refine lv_goto (tgt := 77) hx hb dX9_strange_73 (by decide) ?_
                refine lv_istore (lv' := [(6, .int (iI 1)), (5, .int (iI 0)), (4, .int (iI zk)), (3, .int (iI ms)), (2, .int (iI bs)), (0, .ref hm), (1, .int (iI what))]) hx hb dX9_strange_77 hl (by decide) rfl (fun ls hl => ?_)
                exact hjoin79 1 fa57 fd58 fn59 (by first | exact Or.inl ⟨rfl, ⟨by omega, by omega⟩, by assumption⟩ | exact Or.inr ⟨rfl, fun z => absurd z.2 (by assumption)⟩ | exact Or.inr ⟨rfl, fun z => absurd z.1 (by omega)⟩) H locs ls (hP.sub [0, 1, 2, 3, 4, 5, 6, 7, 8, 9] rfl) (hD.sub [0, 1, 2, 3, 4, 5, 6, 7, 8, 9] (by decide) rfl) hS (lv_sub hl [0, 1, 2, 3, 4, 5, 6] rfl)
              · show W p l e _ s m _ below meth c H locs 0 0 _ (F0 m 69 ls (.int (iI 0) :: []))
                have hb60 : ¬ (qa k9 = 0 ∧ anyH ((cqv qu ql qg) k9) 93 = 0) := hb60
                have hP : va_P g.1 vwCl [(hm, .inr (9, mF a i)), ((a 6), aI (g.2.1 0) 12 qm), ((a 7), aI (g.2.1 0) 480 qu), ((a 8), aI (g.2.1 0) 480 ql), ((a 9), aI (g.2.1 0) 480 qg), ((a 10), aI (g.2.1 1) 480 qa), ((a 1), aI (g.2.1 0) 3 fa57), ((a 2), aI (g.2.1 0) 3 fd58), ((a 3), aI (g.2.1 0) 3 fn59), ((a 0), aI (g.2.1 0) 93 kw)] H := hP
                have hD : va_D A [(hm, .inr (9, mF a i)), ((a 6), aI (g.2.1 0) 12 qm), ((a 7), aI (g.2.1 0) 480 qu), ((a 8), aI (g.2.1 0) 480 ql), ((a 9), aI (g.2.1 0) 480 qg), ((a 10), aI (g.2.1 1) 480 qa), ((a 1), aI (g.2.1 0) 3 fa57), ((a 2), aI (g.2.1 0) 3 fd58), ((a 3), aI (g.2.1 0) 3 fn59), ((a 0), aI (g.2.1 0) 93 kw)] := hD
                refine iv_if_eq (tgt := 76) hx hb dX9_strange_69 (by decide) (by decide) (fun _ => ?_) (fun h => absurd h (by decide))
                refine lv_iconst (v := iI (0)) hx hb dX9_strange_76 rfl ?_
                refine lv_istore (lv' := [(6, .int (iI 0)), (5, .int (iI 0)), (4, .int (iI zk)), (3, .int (iI ms)), (2, .int (iI bs)), (0, .ref hm), (1, .int (iI what))]) hx hb dX9_strange_77 hl (by decide) rfl (fun ls hl => ?_)
                exact hjoin79 0 fa57 fd58 fn59 (by first | exact Or.inl ⟨rfl, ⟨by omega, by omega⟩, by assumption⟩ | exact Or.inr ⟨rfl, fun z => absurd z.2 (by assumption)⟩ | exact Or.inr ⟨rfl, fun z => absurd z.1 (by omega)⟩) H locs ls (hP.sub [0, 1, 2, 3, 4, 5, 6, 7, 8, 9] rfl) (hD.sub [0, 1, 2, 3, 4, 5, 6, 7, 8, 9] (by decide) rfl) hS (lv_sub hl [0, 1, 2, 3, 4, 5, 6] rfl)
    exact hloop22 _ (-4) 0 0 fa fd fn 0 (by omega) (SgI.zero _ _ _ _) (Nat.lt_succ_self _) H locs ls (hP.sub [0, 1, 2, 3, 4, 5, 6, 7, 8, 9] rfl) (hD.sub [0, 1, 2, 3, 4, 5, 6, 7, 8, 9] (by decide) rfl) hS (lv_sub hl [0, 1, 2, 3, 4] rfl)
  · show W p l e _ s m _ below meth c H locs 0 0 _ (F0 m 9 ls (.int (iI 0) :: []))
    have hb1 : ¬ (0 ≤ what ∧ what ≤ 3) := hb1
    have hP : va_P g.1 vwCl [(hm, .inr (9, mF a i)), ((a 6), aI (g.2.1 0) 12 qm), ((a 7), aI (g.2.1 0) 480 qu), ((a 8), aI (g.2.1 0) 480 ql), ((a 9), aI (g.2.1 0) 480 qg), ((a 10), aI (g.2.1 1) 480 qa), ((a 1), aI (g.2.1 0) 3 fa), ((a 2), aI (g.2.1 0) 3 fd), ((a 3), aI (g.2.1 0) 3 fn), ((a 0), aI (g.2.1 0) 93 kw)] H := hP
    have hD : va_D A [(hm, .inr (9, mF a i)), ((a 6), aI (g.2.1 0) 12 qm), ((a 7), aI (g.2.1 0) 480 qu), ((a 8), aI (g.2.1 0) 480 ql), ((a 9), aI (g.2.1 0) 480 qg), ((a 10), aI (g.2.1 1) 480 qa), ((a 1), aI (g.2.1 0) 3 fa), ((a 2), aI (g.2.1 0) 3 fd), ((a 3), aI (g.2.1 0) 3 fn), ((a 0), aI (g.2.1 0) 93 kw)] := hD
    refine iv_if_ne (tgt := 14) hx hb dX9_strange_9 (by decide) (by decide) (fun h => absurd h (by decide)) (fun _ => ?_)
    refine lv_iconst (v := iI (-1)) hx hb dX9_strange_12 rfl ?_
    exact Ct.iret hx hb hr hlocks (hP.sub [0, 1, 2, 3, 4, 5, 6, 7, 8, 9] rfl) (hD.sub [0, 1, 2, 3, 4, 5, 6, 7, 8, 9] (by decide) rfl) hS ⟨by decide, by decide⟩ dX9_strange_13 ⟨(-1), fa, fd, fn, rfl, rfl, (Or.inl ⟨by omega, rfl⟩)⟩
