theorem kX9_count_9 : ∀ w ∈ u_ws RX9 TX9 37, w ∈ wsX9_count := fun _ h => List.mem_cons_of_mem _ (List.mem_append_right _ h)
abbrev q_X9_count (g : GT) (hm : Nat) (a : Nat → Nat) (i : Nat → Int) (qm : Nat → Int) (qu : Nat → Int) (ql : Nat → Int) (qg : Nat → Int) (qa : Nat → Int) (fa : Nat → Int) (fd : Nat → Int) (fn : Nat → Int) (kw : Nat → Int) (x : Int) (what : Int) : Option Value → va_W → Prop := fun v w => ∃ (r : Int), ∃ (fa' : Nat → Int), ∃ (fd' : Nat → Int), ∃ (fn' : Nat → Int), v = some (.int (iI r)) ∧ w = [(hm, .inr (9, mF a i)), ((a 6), aI (g.2.1 0) 12 qm), ((a 7), aI (g.2.1 0) 480 qu), ((a 8), aI (g.2.1 0) 480 ql), ((a 9), aI (g.2.1 0) 480 qg), ((a 10), aI (g.2.1 1) 480 qa), ((a 1), aI (g.2.1 0) 3 fa'), ((a 2), aI (g.2.1 0) 3 fd'), ((a 3), aI (g.2.1 0) 3 fn'), ((a 0), aI (g.2.1 0) 93 kw)] ∧ (r = (if ¬ ((0 ≤ x ∧ x < i 5) ∧ 0 ≤ what ∧ what ≤ 3) then -1 else cnM qu ql qg qa (40 * x.toNat) what (qm x.toNat).toNat))
set_option maxHeartbeats 4000000 in
set_option maxRecDepth 100000 in
theorem c_X9_count (l : Launch) (g : GT) (hm : Nat) (a : Nat → Nat) (i : Nat → Int) (qm : Nat → Int) (qu : Nat → Int) (ql : Nat → Int) (qg : Nat → Int) (qa : Nat → Int) (fa : Nat → Int) (fd : Nat → Int) (fn : Nat → Int) (kw : Nat → Int) (x : Int) (what : Int) (h1 : (-2147483648 ≤ x ∧ x < 2147483648) ∧ (-2147483648 ≤ what ∧ what < 2147483648)) (h5 : 0 ≤ i 5 ∧ i 5 ≤ 12) (hm_ : ∀ j, j < 12 → 0 ≤ qm j ∧ qm j ≤ 40) (ha_ : ∀ k, k < 480 → vdP qm (i 5) k → AnOK qu ql qg qa k) (hk_ : ∀ p, p < 93 → kw p = oT p) : Ct l g yX9_count wsX9_count ({ frames := 3, cells := 0, slots := 0, locals := 74 } : Room) [.ref hm, .int (iI x), .int (iI what)] [(hm, .inr (9, mF a i)), ((a 6), aI (g.2.1 0) 12 qm), ((a 7), aI (g.2.1 0) 480 qu), ((a 8), aI (g.2.1 0) 480 ql), ((a 9), aI (g.2.1 0) 480 qg), ((a 10), aI (g.2.1 1) 480 qa), ((a 1), aI (g.2.1 0) 3 fa), ((a 2), aI (g.2.1 0) 3 fd), ((a 3), aI (g.2.1 0) 3 fn), ((a 0), aI (g.2.1 0) 93 kw)] (q_X9_count g hm a i qm qu ql qg qa fa fd fn kw x what) := by
  refine Ct.intro (maxL := 6) (ret := (some .int)) (by decide) rfl (Nat.le_of_ble_eq_true rfl) ?_
  intro p e s m below meth c A ls hx hb hr hml hown hts hlocks hnm hA hG hP hD hS hl
  have hown : s.vm.findClass RX9 = some m.cls := hown
  have hl : lv_has ls 6 [(0, .ref hm), (1, .int (iI x)), (2, .int (iI what))] := hl
  have hP : va_P g.1 vwCl [(hm, .inr (9, mF a i)), ((a 6), aI (g.2.1 0) 12 qm), ((a 7), aI (g.2.1 0) 480 qu), ((a 8), aI (g.2.1 0) 480 ql), ((a 9), aI (g.2.1 0) 480 qg), ((a 10), aI (g.2.1 1) 480 qa), ((a 1), aI (g.2.1 0) 3 fa), ((a 2), aI (g.2.1 0) 3 fd), ((a 3), aI (g.2.1 0) 3 fn), ((a 0), aI (g.2.1 0) 93 kw)] s.heap := hP
  have hS : va_S A s.heap s.heap [] := hS
  obtain ⟨H, hHe⟩ : ∃ H : Heap, H = s.heap := ⟨_, rfl⟩
  obtain ⟨locs, hLe⟩ : ∃ L : List Loc, L = [] := ⟨_, rfl⟩
  have hP : va_P g.1 vwCl [(hm, .inr (9, mF a i)), ((a 6), aI (g.2.1 0) 12 qm), ((a 7), aI (g.2.1 0) 480 qu), ((a 8), aI (g.2.1 0) 480 ql), ((a 9), aI (g.2.1 0) 480 qg), ((a 10), aI (g.2.1 1) 480 qa), ((a 1), aI (g.2.1 0) 3 fa), ((a 2), aI (g.2.1 0) 3 fd), ((a 3), aI (g.2.1 0) 3 fn), ((a 0), aI (g.2.1 0) 93 kw)] H := by rw [hHe]; exact hP
  have hS : va_S A s.heap H locs := by rw [hHe, hLe]; exact hS
  suffices hgo : W p l e ({ frames := 3, cells := 0, slots := 0, locals := 74 } : Room) s m [.ref hm, .int (iI x), .int (iI what)].toArray below meth c H locs 0 0 (MQ below (CQ g (q_X9_count g hm a i qm qu ql qg qa fa fd fn kw x what) A) [.ref hm, .int (iI x), .int (iI what)].toArray s ({ frames := 3, cells := 0, slots := 0, locals := 74 } : Room).cells ({ frames := 3, cells := 0, slots := 0, locals := 74 } : Room).slots A) (F0 m 0 ls []) by rw [hHe, hLe] at hgo; exact hgo
  clear hHe hLe
  refine lv_aload_n hx hb dX9_count_0 rfl (lv_at hl 0 rfl) ?_
  refine lv_iload_n hx hb dX9_count_1 rfl (lv_at hl 1 rfl) ?_
  refine Ct.callV (ci := 9) (q0 := 0) (qc := (RX9, TX9, 37)) (As := [.int (iI x)]) (rest := []) (wr := [((a 6), aI (g.2.1 0) 12 qm), ((a 7), aI (g.2.1 0) 480 qu), ((a 8), aI (g.2.1 0) 480 ql), ((a 9), aI (g.2.1 0) 480 qg), ((a 10), aI (g.2.1 1) 480 qa), ((a 1), aI (g.2.1 0) 3 fa), ((a 2), aI (g.2.1 0) 3 fd), ((a 3), aI (g.2.1 0) 3 fn), ((a 0), aI (g.2.1 0) 93 kw)]) (c1 := 0) (s1 := 0) ⟨hx, hb, hml, hown, hts⟩ (c_X9_isLearner l g hm a i x (by omega)) rfl rfl (cwV 1 hts gX9_count_X9_isLearner rfl rfl rfl (by decide +kernel) ⟨Nat.le_of_ble_eq_true rfl, Nat.le_of_ble_eq_true rfl⟩) hG hP hD hS hA [0] [1, 2, 3, 4, 5, 6, 7, 8, 9] rfl rfl (by decide) (by decide) (by decide) rfl hl.1 rfl (Nat.le_of_ble_eq_true rfl) dX9_count_2 ⟨Nat.le_of_ble_eq_true rfl, Nat.le_of_ble_eq_true rfl⟩ rfl rfl (fun v w H locs hv hP hD hS => ?_)
  obtain ⟨⟨rfl, hb1⟩ | ⟨rfl, hb1⟩, rfl⟩ := hv
  · show W p l e _ s m _ below meth c H locs 0 0 _ (F0 m 5 ls (.int (iI 1) :: []))
    have hb1 : 0 ≤ x ∧ x < i 5 := hb1
    have hP : va_P g.1 vwCl [((a 6), aI (g.2.1 0) 12 qm), ((a 7), aI (g.2.1 0) 480 qu), ((a 8), aI (g.2.1 0) 480 ql), ((a 9), aI (g.2.1 0) 480 qg), ((a 10), aI (g.2.1 1) 480 qa), ((a 1), aI (g.2.1 0) 3 fa), ((a 2), aI (g.2.1 0) 3 fd), ((a 3), aI (g.2.1 0) 3 fn), ((a 0), aI (g.2.1 0) 93 kw), (hm, .inr (9, mF a i))] H := hP
    have hD : va_D A [((a 6), aI (g.2.1 0) 12 qm), ((a 7), aI (g.2.1 0) 480 qu), ((a 8), aI (g.2.1 0) 480 ql), ((a 9), aI (g.2.1 0) 480 qg), ((a 10), aI (g.2.1 1) 480 qa), ((a 1), aI (g.2.1 0) 3 fa), ((a 2), aI (g.2.1 0) 3 fd), ((a 3), aI (g.2.1 0) 3 fn), ((a 0), aI (g.2.1 0) 93 kw), (hm, .inr (9, mF a i))] := hD
    refine iv_if_eq (tgt := 20) hx hb dX9_count_5 (by decide) (by decide) (fun h => absurd h (by decide)) (fun _ => ?_)
    refine lv_iload_n hx hb dX9_count_8 rfl (lv_at hl 2 rfl) ?_
    refine iv_i2l hx hb dX9_count_9 (by omega) ?_
    refine lv_lconst (v := lI (0)) hx hb dX9_count_10 (by decide) ?_
    refine iv_ldc2 (v := 3) (z := 3) hx hb hown (hts _ (List.mem_of_getElem? (i := 1) rfl)) dX9_count_11 (by decide) ?_
    refine Ct.callS (As := [.long (lI what), .long (lI 0), .long (lI 3)]) (rest := []) (wr := [((a 6), aI (g.2.1 0) 12 qm), ((a 7), aI (g.2.1 0) 480 qu), ((a 8), aI (g.2.1 0) 480 ql), ((a 9), aI (g.2.1 0) 480 qg), ((a 10), aI (g.2.1 1) 480 qa), ((a 1), aI (g.2.1 0) 3 fa), ((a 2), aI (g.2.1 0) 3 fd), ((a 3), aI (g.2.1 0) 3 fn), ((a 0), aI (g.2.1 0) 93 kw), (hm, .inr (9, mF a i))]) (c1 := 0) (s1 := 0) ⟨hx, hb, hml, hown, hts⟩ (c_X9_in l g what 0 3 (by omega)) (va_cwS 3 hts gX9_count_X9_in rfl rfl rfl (by decide +kernel) ⟨Nat.le_of_ble_eq_true rfl, Nat.le_of_ble_eq_true rfl⟩) hG hP hD hS hA [] [0, 1, 2, 3, 4, 5, 6, 7, 8, 9] rfl rfl (by decide) (by decide) (by decide) rfl hl.1 rfl (Nat.le_of_ble_eq_true rfl) dX9_count_14 ⟨Nat.le_of_ble_eq_true rfl, Nat.le_of_ble_eq_true rfl⟩ rfl rfl (fun v w H locs hv hP hD hS => ?_)
    obtain ⟨⟨rfl, hb3⟩ | ⟨rfl, hb3⟩, rfl⟩ := hv
    · show W p l e _ s m _ below meth c H locs 0 0 _ (F0 m 17 ls (.int (iI 1) :: []))
      have hb3 : 0 ≤ what ∧ what ≤ 3 := hb3
      have hP : va_P g.1 vwCl [((a 6), aI (g.2.1 0) 12 qm), ((a 7), aI (g.2.1 0) 480 qu), ((a 8), aI (g.2.1 0) 480 ql), ((a 9), aI (g.2.1 0) 480 qg), ((a 10), aI (g.2.1 1) 480 qa), ((a 1), aI (g.2.1 0) 3 fa), ((a 2), aI (g.2.1 0) 3 fd), ((a 3), aI (g.2.1 0) 3 fn), ((a 0), aI (g.2.1 0) 93 kw), (hm, .inr (9, mF a i))] H := hP
      have hD : va_D A [((a 6), aI (g.2.1 0) 12 qm), ((a 7), aI (g.2.1 0) 480 qu), ((a 8), aI (g.2.1 0) 480 ql), ((a 9), aI (g.2.1 0) 480 qg), ((a 10), aI (g.2.1 1) 480 qa), ((a 1), aI (g.2.1 0) 3 fa), ((a 2), aI (g.2.1 0) 3 fd), ((a 3), aI (g.2.1 0) 3 fn), ((a 0), aI (g.2.1 0) 93 kw), (hm, .inr (9, mF a i))] := hD
      refine iv_if_ne (tgt := 22) hx hb dX9_count_17 (by decide) (by decide) (fun _ => ?_) (fun h => absurd h (by decide))
      have hq := hm_ x.toNat (by omega)
      refine lv_iconst (v := iI (0)) hx hb dX9_count_22 rfl ?_
      refine lv_istore_n (lv' := [(3, .int (iI 0)), (0, .ref hm), (1, .int (iI x)), (2, .int (iI what))]) hx hb dX9_count_23 rfl hl (by decide) rfl (fun ls hl => ?_)
      refine lv_bipush (v := iI (40)) hx hb dX9_count_24 (by decide) ?_
      refine lv_iload_n hx hb dX9_count_26 rfl (lv_at hl 2 rfl) ?_
      refine iv_imul hx hb dX9_count_27 ?_
      refine lv_istore (lv' := [(4, .int (iI (40 * x))), (3, .int (iI 0)), (0, .ref hm), (1, .int (iI x)), (2, .int (iI what))]) hx hb dX9_count_28 hl (by decide) rfl (fun ls hl => ?_)
      have hloop30 : ∀ (fuel : Nat) (n_ : Int) (zj : Int) (g1 : Nat → Int) (g2 : Nat → Int) (g3 : Nat → Int) (j : Nat) (hc : zj = 40 * x + (j : Int) ∧ (j : Int) ≤ qm x.toNat) (he : n_ = cnM qu ql qg qa (40 * x.toNat) what j) (hmeas : (qm x.toNat).toNat - j < fuel), ∀ (H : Heap) (locs : List Loc) (ls : Array Slot), va_P g.1 vwCl [((a 6), aI (g.2.1 0) 12 qm), ((a 7), aI (g.2.1 0) 480 qu), ((a 8), aI (g.2.1 0) 480 ql), ((a 9), aI (g.2.1 0) 480 qg), ((a 10), aI (g.2.1 1) 480 qa), ((a 1), aI (g.2.1 0) 3 g1), ((a 2), aI (g.2.1 0) 3 g2), ((a 3), aI (g.2.1 0) 3 g3), ((a 0), aI (g.2.1 0) 93 kw), (hm, .inr (9, mF a i))] H → va_D A [((a 6), aI (g.2.1 0) 12 qm), ((a 7), aI (g.2.1 0) 480 qu), ((a 8), aI (g.2.1 0) 480 ql), ((a 9), aI (g.2.1 0) 480 qg), ((a 10), aI (g.2.1 1) 480 qa), ((a 1), aI (g.2.1 0) 3 g1), ((a 2), aI (g.2.1 0) 3 g2), ((a 3), aI (g.2.1 0) 3 g3), ((a 0), aI (g.2.1 0) 93 kw), (hm, .inr (9, mF a i))] → va_S A s.heap H locs → lv_has ls 6 [(4, .int (iI zj)), (3, .int (iI n_)), (0, .ref hm), (1, .int (iI x)), (2, .int (iI what))] → W p l e ({ frames := 3, cells := 0, slots := 0, locals := 74 } : Room) s m [.ref hm, .int (iI x), .int (iI what)].toArray below meth c H locs 0 0 (MQ below (CQ g (q_X9_count g hm a i qm qu ql qg qa fa fd fn kw x what) A) [.ref hm, .int (iI x), .int (iI what)].toArray s ({ frames := 3, cells := 0, slots := 0, locals := 74 } : Room).cells ({ frames := 3, cells := 0, slots := 0, locals := 74 } : Room).slots A) (F0 m 30 ls []) := by
        intro fuel
        induction fuel with
        | zero => intro n_ zj g1 g2 g3 j hc he hmeas; exact absurd hmeas (Nat.not_lt_zero _)
        | succ fuel ih30 =>
          intro n_ zj g1 g2 g3 j hc he hmeas H locs ls hP hD hS hl
          refine lv_iload hx hb dX9_count_30 (lv_at hl 0 rfl) ?_
          refine lv_bipush (v := iI (40)) hx hb dX9_count_32 (by decide) ?_
          refine lv_iload_n hx hb dX9_count_34 rfl (lv_at hl 3 rfl) ?_
          refine iv_imul hx hb dX9_count_35 ?_
          refine lv_aload_n hx hb dX9_count_36 rfl (lv_at hl 2 rfl) ?_
          refine va_get (D := g.1) (ci := 9) (v := .ref (a 6)) hx hb hts kX9_count_9 hown hG.1 hP 9 rfl rfl 6 (by decide) (hts _ (List.mem_of_getElem? (i := 2) rfl)) (fun _ h9 => h9) rfl dX9_count_37 ?_
          refine lv_iload_n hx hb dX9_count_40 rfl (lv_at hl 3 rfl) ?_
          refine iv_iald hx hb hG hP 0 rfl x.toNat (by omega) (by omega) (by decide) dX9_count_41 ?_
          refine iv_iadd hx hb dX9_count_42 ?_
          refine iv_icmp_ge (tgt := 145) hx hb dX9_count_43 (by decide) (by omega) (fun hc5 => ?_) (fun hc5 => ?_)
          · refine lv_iload_n hx hb dX9_count_145 rfl (lv_at hl 1 rfl) ?_
            exact Ct.iret hx hb hr hlocks (hP.sub [9, 0, 1, 2, 3, 4, 5, 6, 7, 8] rfl) (hD.sub [9, 0, 1, 2, 3, 4, 5, 6, 7, 8] (by decide) rfl) hS ⟨by decide, by decide⟩ dX9_count_146 ⟨n_, g1, g2, g3, rfl, rfl, (by rw [if_neg (by omega), he, show j = (qm x.toNat).toNat from by omega])⟩
          · have hqj := ha_ (40 * x.toNat + j) (by omega) (vd_at (by omega) (by omega) (by omega))
            have hcr := cnM_rng qu ql qg qa (40 * x.toNat) what j
            refine lv_aload_n hx hb dX9_count_46 rfl (lv_at hl 2 rfl) ?_
            refine va_get (D := g.1) (ci := 9) (v := .ref (a 10)) hx hb hts kX9_count_9 hown hG.1 hP 9 rfl rfl 10 (by decide) (hts _ (List.mem_of_getElem? (i := 3) rfl)) (fun _ h9 => h9) rfl dX9_count_47 ?_
            refine lv_iload hx hb dX9_count_50 (lv_at hl 0 rfl) ?_
            refine iv_zald hx hb hG hP 4 rfl (40 * x.toNat + j) (by omega) (by omega) (by decide) dX9_count_52 ?_
            refine iv_if_ne (tgt := 85) hx hb dX9_count_53 (by decide) (by omega) (fun hc6 => ?_) (fun hc6 => ?_)
            · refine lv_iconst (v := iI (0)) hx hb dX9_count_85 rfl ?_
              refine lv_istore (lv' := [(5, .int (iI 0)), (4, .int (iI zj)), (3, .int (iI n_)), (0, .ref hm), (1, .int (iI x)), (2, .int (iI what))]) hx hb dX9_count_86 hl (by decide) rfl (fun ls hl => ?_)
              refine lv_iload_n hx hb dX9_count_88 rfl (lv_at hl 2 rfl) ?_
              refine lv_iload_n hx hb dX9_count_89 rfl (lv_at hl 5 rfl) ?_
              refine iv_if_eq (tgt := 132) hx hb dX9_count_90 (by decide) (by omega) (fun hc7 => ?_) (fun hc7 => ?_)
              · refine lv_iconst (v := iI (1)) hx hb dX9_count_132 rfl ?_
                refine lv_goto (tgt := 137) hx hb dX9_count_133 (by decide) ?_
                refine iv_iadd hx hb dX9_count_137 ?_
                refine lv_istore_n (lv' := [(3, .int (iI (n_ + 1))), (5, .int (iI 0)), (4, .int (iI zj)), (0, .ref hm), (1, .int (iI x)), (2, .int (iI what))]) hx hb dX9_count_138 rfl hl (by decide) rfl (fun ls hl => ?_)
                refine iv_iinc (k := 2) (x := zj) (lv' := [(4, .int (iI (zj + 1))), (3, .int (iI (n_ + 1))), (5, .int (iI 0)), (0, .ref hm), (1, .int (iI x)), (2, .int (iI what))]) hx hb dX9_count_139 hl rfl (by decide) rfl (fun ls hl => ?_)
                refine lv_goto (tgt := 30) hx hb dX9_count_142 (by decide) ?_
                exact ih30 (n_ + 1) (zj + 1) g1 g2 g3 (j + 1) (by omega) (by simp only [cnM]; first | (exfalso; omega) | (rw [if_pos (by omega)]; omega) | (rw [if_neg (by omega)]; omega)) (by omega) H locs ls (hP.sub [0, 1, 2, 3, 4, 5, 6, 7, 8, 9] rfl) (hD.sub [0, 1, 2, 3, 4, 5, 6, 7, 8, 9] (by decide) rfl) hS (lv_sub hl [0, 1, 3, 4, 5] rfl)
              · refine lv_iload_n hx hb dX9_count_93 rfl (lv_at hl 5 rfl) ?_
                refine lv_iconst (v := iI (1)) hx hb dX9_count_94 rfl ?_
                refine iv_icmp_ne (tgt := 108) hx hb dX9_count_95 (by decide) (by omega) (fun hc8 => ?_) (fun hc8 => ?_)
                · refine lv_iload_n hx hb dX9_count_108 rfl (lv_at hl 5 rfl) ?_
                  refine lv_iconst (v := iI (2)) hx hb dX9_count_109 rfl ?_
                  refine iv_icmp_ne (tgt := 118) hx hb dX9_count_110 (by decide) (by omega) (fun hc9 => ?_) (fun hc9 => ?_)
                  · refine lv_iload_n hx hb dX9_count_118 rfl (lv_at hl 5 rfl) ?_
                    refine lv_iconst (v := iI (3)) hx hb dX9_count_119 rfl ?_
                    refine iv_icmp_ne (tgt := 136) hx hb dX9_count_120 (by decide) (by omega) (fun hc10 => ?_) (fun hc10 => ?_)
                    · refine lv_iconst (v := iI (0)) hx hb dX9_count_136 rfl ?_
                      refine iv_iadd hx hb dX9_count_137 ?_
                      refine lv_istore_n (lv' := [(3, .int (iI (n_ + 0))), (5, .int (iI 0)), (4, .int (iI zj)), (0, .ref hm), (1, .int (iI x)), (2, .int (iI what))]) hx hb dX9_count_138 rfl hl (by decide) rfl (fun ls hl => ?_)
                      refine iv_iinc (k := 2) (x := zj) (lv' := [(4, .int (iI (zj + 1))), (3, .int (iI (n_ + 0))), (5, .int (iI 0)), (0, .ref hm), (1, .int (iI x)), (2, .int (iI what))]) hx hb dX9_count_139 hl rfl (by decide) rfl (fun ls hl => ?_)
                      refine lv_goto (tgt := 30) hx hb dX9_count_142 (by decide) ?_
                      exact ih30 (n_ + 0) (zj + 1) g1 g2 g3 (j + 1) (by omega) (by simp only [cnM]; first | (exfalso; omega) | (rw [if_pos (by omega)]; omega) | (rw [if_neg (by omega)]; omega)) (by omega) H locs ls (hP.sub [0, 1, 2, 3, 4, 5, 6, 7, 8, 9] rfl) (hD.sub [0, 1, 2, 3, 4, 5, 6, 7, 8, 9] (by decide) rfl) hS (lv_sub hl [0, 1, 3, 4, 5] rfl)
                    · refine lv_aload_n hx hb dX9_count_123 rfl (lv_at hl 3 rfl) ?_
                      refine lv_iload hx hb dX9_count_124 (lv_at hl 1 rfl) ?_
                      refine Ct.callV (ci := 9) (q0 := 9) (qc := (RX9, TX9, 37)) (As := [.int (iI zj)]) (rest := [.int (iI n_)]) (wr := []) (c1 := 0) (s1 := 0) ⟨hx, hb, hml, hown, hts⟩ (c_X9_isStrange l g hm a i qm qu ql qg qa g1 g2 g3 kw zj (40 * x.toNat + j) (by omega) (hqj) (hk_)) rfl rfl (cwV 1 hts gX9_count_X9_isStrange rfl rfl rfl (by decide +kernel) ⟨Nat.le_of_ble_eq_true rfl, Nat.le_of_ble_eq_true rfl⟩) hG hP hD hS hA [9, 0, 1, 2, 3, 4, 5, 6, 7, 8] [] rfl rfl (by decide) (by decide) (by decide) rfl hl.1 rfl (Nat.le_of_ble_eq_true rfl) dX9_count_126 ⟨Nat.le_of_ble_eq_true rfl, Nat.le_of_ble_eq_true rfl⟩ rfl rfl (fun v w H locs hv hP hD hS => ?_)
                      obtain ⟨fa11, fd12, fn13, ⟨rfl, hb14⟩ | ⟨rfl, hb14⟩, rfl⟩ := hv
                      · show W p l e _ s m _ below meth c H locs 0 0 _ (F0 m 129 ls (.int (iI 1) :: [.int (iI n_)]))
                        have hb14 : qa (40 * x.toNat + j) = 0 ∧ anyH ((cqv qu ql qg) (40 * x.toNat + j)) 93 = 0 := hb14
                        have hP : va_P g.1 vwCl [(hm, .inr (9, mF a i)), ((a 6), aI (g.2.1 0) 12 qm), ((a 7), aI (g.2.1 0) 480 qu), ((a 8), aI (g.2.1 0) 480 ql), ((a 9), aI (g.2.1 0) 480 qg), ((a 10), aI (g.2.1 1) 480 qa), ((a 1), aI (g.2.1 0) 3 fa11), ((a 2), aI (g.2.1 0) 3 fd12), ((a 3), aI (g.2.1 0) 3 fn13), ((a 0), aI (g.2.1 0) 93 kw)] H := hP
                        have hD : va_D A [(hm, .inr (9, mF a i)), ((a 6), aI (g.2.1 0) 12 qm), ((a 7), aI (g.2.1 0) 480 qu), ((a 8), aI (g.2.1 0) 480 ql), ((a 9), aI (g.2.1 0) 480 qg), ((a 10), aI (g.2.1 1) 480 qa), ((a 1), aI (g.2.1 0) 3 fa11), ((a 2), aI (g.2.1 0) 3 fd12), ((a 3), aI (g.2.1 0) 3 fn13), ((a 0), aI (g.2.1 0) 93 kw)] := hD
                        refine iv_if_eq (tgt := 136) hx hb dX9_count_129 (by decide) (by decide) (fun h => absurd h (by decide)) (fun _ => ?_)
                        refine lv_iconst (v := iI (1)) hx hb dX9_count_132 rfl ?_
                        refine lv_goto (tgt := 137) hx hb dX9_count_133 (by decide) ?_
                        refine iv_iadd hx hb dX9_count_137 ?_
                        refine lv_istore_n (lv' := [(3, .int (iI (n_ + 1))), (5, .int (iI 0)), (4, .int (iI zj)), (0, .ref hm), (1, .int (iI x)), (2, .int (iI what))]) hx hb dX9_count_138 rfl hl (by decide) rfl (fun ls hl => ?_)
                        refine iv_iinc (k := 2) (x := zj) (lv' := [(4, .int (iI (zj + 1))), (3, .int (iI (n_ + 1))), (5, .int (iI 0)), (0, .ref hm), (1, .int (iI x)), (2, .int (iI what))]) hx hb dX9_count_139 hl rfl (by decide) rfl (fun ls hl => ?_)
                        refine lv_goto (tgt := 30) hx hb dX9_count_142 (by decide) ?_
                        exact ih30 (n_ + 1) (zj + 1) fa11 fd12 fn13 (j + 1) (by omega) (by simp only [cnM]; first | (exfalso; omega) | (rw [if_pos (by omega)]; omega) | (rw [if_neg (by omega)]; omega)) (by omega) H locs ls (hP.sub [1, 2, 3, 4, 5, 6, 7, 8, 9, 0] rfl) (hD.sub [1, 2, 3, 4, 5, 6, 7, 8, 9, 0] (by decide) rfl) hS (lv_sub hl [0, 1, 3, 4, 5] rfl)
                      · show W p l e _ s m _ below meth c H locs 0 0 _ (F0 m 129 ls (.int (iI 0) :: [.int (iI n_)]))
                        have hb14 : ¬ (qa (40 * x.toNat + j) = 0 ∧ anyH ((cqv qu ql qg) (40 * x.toNat + j)) 93 = 0) := hb14
                        have hP : va_P g.1 vwCl [(hm, .inr (9, mF a i)), ((a 6), aI (g.2.1 0) 12 qm), ((a 7), aI (g.2.1 0) 480 qu), ((a 8), aI (g.2.1 0) 480 ql), ((a 9), aI (g.2.1 0) 480 qg), ((a 10), aI (g.2.1 1) 480 qa), ((a 1), aI (g.2.1 0) 3 fa11), ((a 2), aI (g.2.1 0) 3 fd12), ((a 3), aI (g.2.1 0) 3 fn13), ((a 0), aI (g.2.1 0) 93 kw)] H := hP
                        have hD : va_D A [(hm, .inr (9, mF a i)), ((a 6), aI (g.2.1 0) 12 qm), ((a 7), aI (g.2.1 0) 480 qu), ((a 8), aI (g.2.1 0) 480 ql), ((a 9), aI (g.2.1 0) 480 qg), ((a 10), aI (g.2.1 1) 480 qa), ((a 1), aI (g.2.1 0) 3 fa11), ((a 2), aI (g.2.1 0) 3 fd12), ((a 3), aI (g.2.1 0) 3 fn13), ((a 0), aI (g.2.1 0) 93 kw)] := hD
                        refine iv_if_eq (tgt := 136) hx hb dX9_count_129 (by decide) (by decide) (fun _ => ?_) (fun h => absurd h (by decide))
                        refine lv_iconst (v := iI (0)) hx hb dX9_count_136 rfl ?_
                        refine iv_iadd hx hb dX9_count_137 ?_
                        refine lv_istore_n (lv' := [(3, .int (iI (n_ + 0))), (5, .int (iI 0)), (4, .int (iI zj)), (0, .ref hm), (1, .int (iI x)), (2, .int (iI what))]) hx hb dX9_count_138 rfl hl (by decide) rfl (fun ls hl => ?_)
                        refine iv_iinc (k := 2) (x := zj) (lv' := [(4, .int (iI (zj + 1))), (3, .int (iI (n_ + 0))), (5, .int (iI 0)), (0, .ref hm), (1, .int (iI x)), (2, .int (iI what))]) hx hb dX9_count_139 hl rfl (by decide) rfl (fun ls hl => ?_)
                        refine lv_goto (tgt := 30) hx hb dX9_count_142 (by decide) ?_
                        exact ih30 (n_ + 0) (zj + 1) fa11 fd12 fn13 (j + 1) (by omega) (by simp only [cnM]; first | (exfalso; omega) | (rw [if_pos (by omega)]; omega) | (rw [if_neg (by omega)]; omega)) (by omega) H locs ls (hP.sub [1, 2, 3, 4, 5, 6, 7, 8, 9, 0] rfl) (hD.sub [1, 2, 3, 4, 5, 6, 7, 8, 9, 0] (by decide) rfl) hS (lv_sub hl [0, 1, 3, 4, 5] rfl)
                  · refine lv_iload hx hb dX9_count_113 (lv_at hl 0 rfl) ?_
                    refine iv_if_ne (tgt := 132) hx hb dX9_count_115 (by decide) (by decide) (fun h => absurd h (by decide)) (fun _ => ?_)
                    refine lv_iload_n hx hb dX9_count_118 rfl (lv_at hl 5 rfl) ?_
                    refine lv_iconst (v := iI (3)) hx hb dX9_count_119 rfl ?_
                    refine iv_icmp_ne (tgt := 136) hx hb dX9_count_120 (by decide) (by omega) (fun hc18 => ?_) (fun hc18 => ?_)
                    · refine lv_iconst (v := iI (0)) hx hb dX9_count_136 rfl ?_
                      refine iv_iadd hx hb dX9_count_137 ?_
                      refine lv_istore_n (lv' := [(3, .int (iI (n_ + 0))), (5, .int (iI 0)), (4, .int (iI zj)), (0, .ref hm), (1, .int (iI x)), (2, .int (iI what))]) hx hb dX9_count_138 rfl hl (by decide) rfl (fun ls hl => ?_)
                      refine iv_iinc (k := 2) (x := zj) (lv' := [(4, .int (iI (zj + 1))), (3, .int (iI (n_ + 0))), (5, .int (iI 0)), (0, .ref hm), (1, .int (iI x)), (2, .int (iI what))]) hx hb dX9_count_139 hl rfl (by decide) rfl (fun ls hl => ?_)
                      refine lv_goto (tgt := 30) hx hb dX9_count_142 (by decide) ?_
                      exact ih30 (n_ + 0) (zj + 1) g1 g2 g3 (j + 1) (by omega) (by simp only [cnM]; first | (exfalso; omega) | (rw [if_pos (by omega)]; omega) | (rw [if_neg (by omega)]; omega)) (by omega) H locs ls (hP.sub [0, 1, 2, 3, 4, 5, 6, 7, 8, 9] rfl) (hD.sub [0, 1, 2, 3, 4, 5, 6, 7, 8, 9] (by decide) rfl) hS (lv_sub hl [0, 1, 3, 4, 5] rfl)
                    · refine lv_aload_n hx hb dX9_count_123 rfl (lv_at hl 3 rfl) ?_
                      refine lv_iload hx hb dX9_count_124 (lv_at hl 1 rfl) ?_
                      refine Ct.callV (ci := 9) (q0 := 9) (qc := (RX9, TX9, 37)) (As := [.int (iI zj)]) (rest := [.int (iI n_)]) (wr := []) (c1 := 0) (s1 := 0) ⟨hx, hb, hml, hown, hts⟩ (c_X9_isStrange l g hm a i qm qu ql qg qa g1 g2 g3 kw zj (40 * x.toNat + j) (by omega) (hqj) (hk_)) rfl rfl (cwV 1 hts gX9_count_X9_isStrange rfl rfl rfl (by decide +kernel) ⟨Nat.le_of_ble_eq_true rfl, Nat.le_of_ble_eq_true rfl⟩) hG hP hD hS hA [9, 0, 1, 2, 3, 4, 5, 6, 7, 8] [] rfl rfl (by decide) (by decide) (by decide) rfl hl.1 rfl (Nat.le_of_ble_eq_true rfl) dX9_count_126 ⟨Nat.le_of_ble_eq_true rfl, Nat.le_of_ble_eq_true rfl⟩ rfl rfl (fun v w H locs hv hP hD hS => ?_)
                      obtain ⟨fa19, fd20, fn21, ⟨rfl, hb22⟩ | ⟨rfl, hb22⟩, rfl⟩ := hv
                      · show W p l e _ s m _ below meth c H locs 0 0 _ (F0 m 129 ls (.int (iI 1) :: [.int (iI n_)]))
                        have hb22 : qa (40 * x.toNat + j) = 0 ∧ anyH ((cqv qu ql qg) (40 * x.toNat + j)) 93 = 0 := hb22
                        have hP : va_P g.1 vwCl [(hm, .inr (9, mF a i)), ((a 6), aI (g.2.1 0) 12 qm), ((a 7), aI (g.2.1 0) 480 qu), ((a 8), aI (g.2.1 0) 480 ql), ((a 9), aI (g.2.1 0) 480 qg), ((a 10), aI (g.2.1 1) 480 qa), ((a 1), aI (g.2.1 0) 3 fa19), ((a 2), aI (g.2.1 0) 3 fd20), ((a 3), aI (g.2.1 0) 3 fn21), ((a 0), aI (g.2.1 0) 93 kw)] H := hP
                        have hD : va_D A [(hm, .inr (9, mF a i)), ((a 6), aI (g.2.1 0) 12 qm), ((a 7), aI (g.2.1 0) 480 qu), ((a 8), aI (g.2.1 0) 480 ql), ((a 9), aI (g.2.1 0) 480 qg), ((a 10), aI (g.2.1 1) 480 qa), ((a 1), aI (g.2.1 0) 3 fa19), ((a 2), aI (g.2.1 0) 3 fd20), ((a 3), aI (g.2.1 0) 3 fn21), ((a 0), aI (g.2.1 0) 93 kw)] := hD
                        refine iv_if_eq (tgt := 136) hx hb dX9_count_129 (by decide) (by decide) (fun h => absurd h (by decide)) (fun _ => ?_)
                        refine lv_iconst (v := iI (1)) hx hb dX9_count_132 rfl ?_
                        refine lv_goto (tgt := 137) hx hb dX9_count_133 (by decide) ?_
                        refine iv_iadd hx hb dX9_count_137 ?_
                        refine lv_istore_n (lv' := [(3, .int (iI (n_ + 1))), (5, .int (iI 0)), (4, .int (iI zj)), (0, .ref hm), (1, .int (iI x)), (2, .int (iI what))]) hx hb dX9_count_138 rfl hl (by decide) rfl (fun ls hl => ?_)
                        refine iv_iinc (k := 2) (x := zj) (lv' := [(4, .int (iI (zj + 1))), (3, .int (iI (n_ + 1))), (5, .int (iI 0)), (0, .ref hm), (1, .int (iI x)), (2, .int (iI what))]) hx hb dX9_count_139 hl rfl (by decide) rfl (fun ls hl => ?_)
                        refine lv_goto (tgt := 30) hx hb dX9_count_142 (by decide) ?_
                        exact ih30 (n_ + 1) (zj + 1) fa19 fd20 fn21 (j + 1) (by omega) (by simp only [cnM]; first | (exfalso; omega) | (rw [if_pos (by omega)]; omega) | (rw [if_neg (by omega)]; omega)) (by omega) H locs ls (hP.sub [1, 2, 3, 4, 5, 6, 7, 8, 9, 0] rfl) (hD.sub [1, 2, 3, 4, 5, 6, 7, 8, 9, 0] (by decide) rfl) hS (lv_sub hl [0, 1, 3, 4, 5] rfl)
                      · show W p l e _ s m _ below meth c H locs 0 0 _ (F0 m 129 ls (.int (iI 0) :: [.int (iI n_)]))
                        have hb22 : ¬ (qa (40 * x.toNat + j) = 0 ∧ anyH ((cqv qu ql qg) (40 * x.toNat + j)) 93 = 0) := hb22
                        have hP : va_P g.1 vwCl [(hm, .inr (9, mF a i)), ((a 6), aI (g.2.1 0) 12 qm), ((a 7), aI (g.2.1 0) 480 qu), ((a 8), aI (g.2.1 0) 480 ql), ((a 9), aI (g.2.1 0) 480 qg), ((a 10), aI (g.2.1 1) 480 qa), ((a 1), aI (g.2.1 0) 3 fa19), ((a 2), aI (g.2.1 0) 3 fd20), ((a 3), aI (g.2.1 0) 3 fn21), ((a 0), aI (g.2.1 0) 93 kw)] H := hP
                        have hD : va_D A [(hm, .inr (9, mF a i)), ((a 6), aI (g.2.1 0) 12 qm), ((a 7), aI (g.2.1 0) 480 qu), ((a 8), aI (g.2.1 0) 480 ql), ((a 9), aI (g.2.1 0) 480 qg), ((a 10), aI (g.2.1 1) 480 qa), ((a 1), aI (g.2.1 0) 3 fa19), ((a 2), aI (g.2.1 0) 3 fd20), ((a 3), aI (g.2.1 0) 3 fn21), ((a 0), aI (g.2.1 0) 93 kw)] := hD
                        refine iv_if_eq (tgt := 136) hx hb dX9_count_129 (by decide) (by decide) (fun _ => ?_) (fun h => absurd h (by decide))
                        refine lv_iconst (v := iI (0)) hx hb dX9_count_136 rfl ?_
                        refine iv_iadd hx hb dX9_count_137 ?_
                        refine lv_istore_n (lv' := [(3, .int (iI (n_ + 0))), (5, .int (iI 0)), (4, .int (iI zj)), (0, .ref hm), (1, .int (iI x)), (2, .int (iI what))]) hx hb dX9_count_138 rfl hl (by decide) rfl (fun ls hl => ?_)
                        refine iv_iinc (k := 2) (x := zj) (lv' := [(4, .int (iI (zj + 1))), (3, .int (iI (n_ + 0))), (5, .int (iI 0)), (0, .ref hm), (1, .int (iI x)), (2, .int (iI what))]) hx hb dX9_count_139 hl rfl (by decide) rfl (fun ls hl => ?_)
                        refine lv_goto (tgt := 30) hx hb dX9_count_142 (by decide) ?_
                        exact ih30 (n_ + 0) (zj + 1) fa19 fd20 fn21 (j + 1) (by omega) (by simp only [cnM]; first | (exfalso; omega) | (rw [if_pos (by omega)]; omega) | (rw [if_neg (by omega)]; omega)) (by omega) H locs ls (hP.sub [1, 2, 3, 4, 5, 6, 7, 8, 9, 0] rfl) (hD.sub [1, 2, 3, 4, 5, 6, 7, 8, 9, 0] (by decide) rfl) hS (lv_sub hl [0, 1, 3, 4, 5] rfl)
                · refine lv_aload_n hx hb dX9_count_98 rfl (lv_at hl 3 rfl) ?_
                  refine va_get (D := g.1) (ci := 9) (v := .ref (a 10)) hx hb hts kX9_count_9 hown hG.1 hP 9 rfl rfl 10 (by decide) (hts _ (List.mem_of_getElem? (i := 3) rfl)) (fun _ h9 => h9) rfl dX9_count_99 ?_
                  refine lv_iload hx hb dX9_count_102 (lv_at hl 1 rfl) ?_
                  refine iv_zald hx hb hG hP 4 rfl (40 * x.toNat + j) (by omega) (by omega) (by decide) dX9_count_104 ?_
                  refine iv_if_ne (tgt := 132) hx hb dX9_count_105 (by decide) (by omega) (fun hc25 => ?_) (fun hc25 => ?_)
                  · refine lv_iconst (v := iI (1)) hx hb dX9_count_132 rfl ?_
                    refine lv_goto (tgt := 137) hx hb dX9_count_133 (by decide) ?_
                    refine iv_iadd hx hb dX9_count_137 ?_
                    refine lv_istore_n (lv' := [(3, .int (iI (n_ + 1))), (5, .int (iI 0)), (4, .int (iI zj)), (0, .ref hm), (1, .int (iI x)), (2, .int (iI what))]) hx hb dX9_count_138 rfl hl (by decide) rfl (fun ls hl => ?_)
                    refine iv_iinc (k := 2) (x := zj) (lv' := [(4, .int (iI (zj + 1))), (3, .int (iI (n_ + 1))), (5, .int (iI 0)), (0, .ref hm), (1, .int (iI x)), (2, .int (iI what))]) hx hb dX9_count_139 hl rfl (by decide) rfl (fun ls hl => ?_)
                    refine lv_goto (tgt := 30) hx hb dX9_count_142 (by decide) ?_
                    exact ih30 (n_ + 1) (zj + 1) g1 g2 g3 (j + 1) (by omega) (by simp only [cnM]; first | (exfalso; omega) | (rw [if_pos (by omega)]; omega) | (rw [if_neg (by omega)]; omega)) (by omega) H locs ls (hP.sub [0, 1, 2, 3, 4, 5, 6, 7, 8, 9] rfl) (hD.sub [0, 1, 2, 3, 4, 5, 6, 7, 8, 9] (by decide) rfl) hS (lv_sub hl [0, 1, 3, 4, 5] rfl)
                  · refine lv_iload_n hx hb dX9_count_108 rfl (lv_at hl 5 rfl) ?_
                    refine lv_iconst (v := iI (2)) hx hb dX9_count_109 rfl ?_
                    refine iv_icmp_ne (tgt := 118) hx hb dX9_count_110 (by decide) (by omega) (fun hc26 => ?_) (fun hc26 => ?_)
                    · refine lv_iload_n hx hb dX9_count_118 rfl (lv_at hl 5 rfl) ?_
                      refine lv_iconst (v := iI (3)) hx hb dX9_count_119 rfl ?_
                      refine iv_icmp_ne (tgt := 136) hx hb dX9_count_120 (by decide) (by omega) (fun hc27 => ?_) (fun hc27 => ?_)
                      · refine lv_iconst (v := iI (0)) hx hb dX9_count_136 rfl ?_
                        refine iv_iadd hx hb dX9_count_137 ?_
                        refine lv_istore_n (lv' := [(3, .int (iI (n_ + 0))), (5, .int (iI 0)), (4, .int (iI zj)), (0, .ref hm), (1, .int (iI x)), (2, .int (iI what))]) hx hb dX9_count_138 rfl hl (by decide) rfl (fun ls hl => ?_)
                        refine iv_iinc (k := 2) (x := zj) (lv' := [(4, .int (iI (zj + 1))), (3, .int (iI (n_ + 0))), (5, .int (iI 0)), (0, .ref hm), (1, .int (iI x)), (2, .int (iI what))]) hx hb dX9_count_139 hl rfl (by decide) rfl (fun ls hl => ?_)
                        refine lv_goto (tgt := 30) hx hb dX9_count_142 (by decide) ?_
                        exact ih30 (n_ + 0) (zj + 1) g1 g2 g3 (j + 1) (by omega) (by simp only [cnM]; first | (exfalso; omega) | (rw [if_pos (by omega)]; omega) | (rw [if_neg (by omega)]; omega)) (by omega) H locs ls (hP.sub [0, 1, 2, 3, 4, 5, 6, 7, 8, 9] rfl) (hD.sub [0, 1, 2, 3, 4, 5, 6, 7, 8, 9] (by decide) rfl) hS (lv_sub hl [0, 1, 3, 4, 5] rfl)
                      · refine lv_aload_n hx hb dX9_count_123 rfl (lv_at hl 3 rfl) ?_
                        refine lv_iload hx hb dX9_count_124 (lv_at hl 1 rfl) ?_
                        refine Ct.callV (ci := 9) (q0 := 9) (qc := (RX9, TX9, 37)) (As := [.int (iI zj)]) (rest := [.int (iI n_)]) (wr := []) (c1 := 0) (s1 := 0) ⟨hx, hb, hml, hown, hts⟩ (c_X9_isStrange l g hm a i qm qu ql qg qa g1 g2 g3 kw zj (40 * x.toNat + j) (by omega) (hqj) (hk_)) rfl rfl (cwV 1 hts gX9_count_X9_isStrange rfl rfl rfl (by decide +kernel) ⟨Nat.le_of_ble_eq_true rfl, Nat.le_of_ble_eq_true rfl⟩) hG hP hD hS hA [9, 0, 1, 2, 3, 4, 5, 6, 7, 8] [] rfl rfl (by decide) (by decide) (by decide) rfl hl.1 rfl (Nat.le_of_ble_eq_true rfl) dX9_count_126 ⟨Nat.le_of_ble_eq_true rfl, Nat.le_of_ble_eq_true rfl⟩ rfl rfl (fun v w H locs hv hP hD hS => ?_)
                        obtain ⟨fa28, fd29, fn30, ⟨rfl, hb31⟩ | ⟨rfl, hb31⟩, rfl⟩ := hv
                        · show W p l e _ s m _ below meth c H locs 0 0 _ (F0 m 129 ls (.int (iI 1) :: [.int (iI n_)]))
                          have hb31 : qa (40 * x.toNat + j) = 0 ∧ anyH ((cqv qu ql qg) (40 * x.toNat + j)) 93 = 0 := hb31
                          have hP : va_P g.1 vwCl [(hm, .inr (9, mF a i)), ((a 6), aI (g.2.1 0) 12 qm), ((a 7), aI (g.2.1 0) 480 qu), ((a 8), aI (g.2.1 0) 480 ql), ((a 9), aI (g.2.1 0) 480 qg), ((a 10), aI (g.2.1 1) 480 qa), ((a 1), aI (g.2.1 0) 3 fa28), ((a 2), aI (g.2.1 0) 3 fd29), ((a 3), aI (g.2.1 0) 3 fn30), ((a 0), aI (g.2.1 0) 93 kw)] H := hP
                          have hD : va_D A [(hm, .inr (9, mF a i)), ((a 6), aI (g.2.1 0) 12 qm), ((a 7), aI (g.2.1 0) 480 qu), ((a 8), aI (g.2.1 0) 480 ql), ((a 9), aI (g.2.1 0) 480 qg), ((a 10), aI (g.2.1 1) 480 qa), ((a 1), aI (g.2.1 0) 3 fa28), ((a 2), aI (g.2.1 0) 3 fd29), ((a 3), aI (g.2.1 0) 3 fn30), ((a 0), aI (g.2.1 0) 93 kw)] := hD
                          refine iv_if_eq (tgt := 136) hx hb dX9_count_129 (by decide) (by decide) (fun h => absurd h (by decide)) (fun _ => ?_)
                          refine lv_iconst (v := iI (1)) hx hb dX9_count_132 rfl ?_
                          refine lv_goto (tgt := 137) hx hb dX9_count_133 (by decide) ?_
                          refine iv_iadd hx hb dX9_count_137 ?_
                          refine lv_istore_n (lv' := [(3, .int (iI (n_ + 1))), (5, .int (iI 0)), (4, .int (iI zj)), (0, .ref hm), (1, .int (iI x)), (2, .int (iI what))]) hx hb dX9_count_138 rfl hl (by decide) rfl (fun ls hl => ?_)
                          refine iv_iinc (k := 2) (x := zj) (lv' := [(4, .int (iI (zj + 1))), (3, .int (iI (n_ + 1))), (5, .int (iI 0)), (0, .ref hm), (1, .int (iI x)), (2, .int (iI what))]) hx hb dX9_count_139 hl rfl (by decide) rfl (fun ls hl => ?_)
                          refine lv_goto (tgt := 30) hx hb dX9_count_142 (by decide) ?_
                          exact ih30 (n_ + 1) (zj + 1) fa28 fd29 fn30 (j + 1) (by omega) (by simp only [cnM]; first | (exfalso; omega) | (rw [if_pos (by omega)]; omega) | (rw [if_neg (by omega)]; omega)) (by omega) H locs ls (hP.sub [1, 2, 3, 4, 5, 6, 7, 8, 9, 0] rfl) (hD.sub [1, 2, 3, 4, 5, 6, 7, 8, 9, 0] (by decide) rfl) hS (lv_sub hl [0, 1, 3, 4, 5] rfl)
                        · show W p l e _ s m _ below meth c H locs 0 0 _ (F0 m 129 ls (.int (iI 0) :: [.int (iI n_)]))
                          have hb31 : ¬ (qa (40 * x.toNat + j) = 0 ∧ anyH ((cqv qu ql qg) (40 * x.toNat + j)) 93 = 0) := hb31
                          have hP : va_P g.1 vwCl [(hm, .inr (9, mF a i)), ((a 6), aI (g.2.1 0) 12 qm), ((a 7), aI (g.2.1 0) 480 qu), ((a 8), aI (g.2.1 0) 480 ql), ((a 9), aI (g.2.1 0) 480 qg), ((a 10), aI (g.2.1 1) 480 qa), ((a 1), aI (g.2.1 0) 3 fa28), ((a 2), aI (g.2.1 0) 3 fd29), ((a 3), aI (g.2.1 0) 3 fn30), ((a 0), aI (g.2.1 0) 93 kw)] H := hP
                          have hD : va_D A [(hm, .inr (9, mF a i)), ((a 6), aI (g.2.1 0) 12 qm), ((a 7), aI (g.2.1 0) 480 qu), ((a 8), aI (g.2.1 0) 480 ql), ((a 9), aI (g.2.1 0) 480 qg), ((a 10), aI (g.2.1 1) 480 qa), ((a 1), aI (g.2.1 0) 3 fa28), ((a 2), aI (g.2.1 0) 3 fd29), ((a 3), aI (g.2.1 0) 3 fn30), ((a 0), aI (g.2.1 0) 93 kw)] := hD
                          refine iv_if_eq (tgt := 136) hx hb dX9_count_129 (by decide) (by decide) (fun _ => ?_) (fun h => absurd h (by decide))
                          refine lv_iconst (v := iI (0)) hx hb dX9_count_136 rfl ?_
                          refine iv_iadd hx hb dX9_count_137 ?_
                          refine lv_istore_n (lv' := [(3, .int (iI (n_ + 0))), (5, .int (iI 0)), (4, .int (iI zj)), (0, .ref hm), (1, .int (iI x)), (2, .int (iI what))]) hx hb dX9_count_138 rfl hl (by decide) rfl (fun ls hl => ?_)
                          refine iv_iinc (k := 2) (x := zj) (lv' := [(4, .int (iI (zj + 1))), (3, .int (iI (n_ + 0))), (5, .int (iI 0)), (0, .ref hm), (1, .int (iI x)), (2, .int (iI what))]) hx hb dX9_count_139 hl rfl (by decide) rfl (fun ls hl => ?_)
                          refine lv_goto (tgt := 30) hx hb dX9_count_142 (by decide) ?_
                          exact ih30 (n_ + 0) (zj + 1) fa28 fd29 fn30 (j + 1) (by omega) (by simp only [cnM]; first | (exfalso; omega) | (rw [if_pos (by omega)]; omega) | (rw [if_neg (by omega)]; omega)) (by omega) H locs ls (hP.sub [1, 2, 3, 4, 5, 6, 7, 8, 9, 0] rfl) (hD.sub [1, 2, 3, 4, 5, 6, 7, 8, 9, 0] (by decide) rfl) hS (lv_sub hl [0, 1, 3, 4, 5] rfl)
                    · refine lv_iload hx hb dX9_count_113 (lv_at hl 0 rfl) ?_
                      refine iv_if_ne (tgt := 132) hx hb dX9_count_115 (by decide) (by decide) (fun h => absurd h (by decide)) (fun _ => ?_)
                      refine lv_iload_n hx hb dX9_count_118 rfl (lv_at hl 5 rfl) ?_
                      refine lv_iconst (v := iI (3)) hx hb dX9_count_119 rfl ?_
                      refine iv_icmp_ne (tgt := 136) hx hb dX9_count_120 (by decide) (by omega) (fun hc35 => ?_) (fun hc35 => ?_)
                      · refine lv_iconst (v := iI (0)) hx hb dX9_count_136 rfl ?_
                        refine iv_iadd hx hb dX9_count_137 ?_
                        refine lv_istore_n (lv' := [(3, .int (iI (n_ + 0))), (5, .int (iI 0)), (4, .int (iI zj)), (0, .ref hm), (1, .int (iI x)), (2, .int (iI what))]) hx hb dX9_count_138 rfl hl (by decide) rfl (fun ls hl => ?_)
                        refine iv_iinc (k := 2) (x := zj) (lv' := [(4, .int (iI (zj + 1))), (3, .int (iI (n_ + 0))), (5, .int (iI 0)), (0, .ref hm), (1, .int (iI x)), (2, .int (iI what))]) hx hb dX9_count_139 hl rfl (by decide) rfl (fun ls hl => ?_)
                        refine lv_goto (tgt := 30) hx hb dX9_count_142 (by decide) ?_
                        exact ih30 (n_ + 0) (zj + 1) g1 g2 g3 (j + 1) (by omega) (by simp only [cnM]; first | (exfalso; omega) | (rw [if_pos (by omega)]; omega) | (rw [if_neg (by omega)]; omega)) (by omega) H locs ls (hP.sub [0, 1, 2, 3, 4, 5, 6, 7, 8, 9] rfl) (hD.sub [0, 1, 2, 3, 4, 5, 6, 7, 8, 9] (by decide) rfl) hS (lv_sub hl [0, 1, 3, 4, 5] rfl)
                      · refine lv_aload_n hx hb dX9_count_123 rfl (lv_at hl 3 rfl) ?_
                        refine lv_iload hx hb dX9_count_124 (lv_at hl 1 rfl) ?_
                        refine Ct.callV (ci := 9) (q0 := 9) (qc := (RX9, TX9, 37)) (As := [.int (iI zj)]) (rest := [.int (iI n_)]) (wr := []) (c1 := 0) (s1 := 0) ⟨hx, hb, hml, hown, hts⟩ (c_X9_isStrange l g hm a i qm qu ql qg qa g1 g2 g3 kw zj (40 * x.toNat + j) (by omega) (hqj) (hk_)) rfl rfl (cwV 1 hts gX9_count_X9_isStrange rfl rfl rfl (by decide +kernel) ⟨Nat.le_of_ble_eq_true rfl, Nat.le_of_ble_eq_true rfl⟩) hG hP hD hS hA [9, 0, 1, 2, 3, 4, 5, 6, 7, 8] [] rfl rfl (by decide) (by decide) (by decide) rfl hl.1 rfl (Nat.le_of_ble_eq_true rfl) dX9_count_126 ⟨Nat.le_of_ble_eq_true rfl, Nat.le_of_ble_eq_true rfl⟩ rfl rfl (fun v w H locs hv hP hD hS => ?_)
                        obtain ⟨fa36, fd37, fn38, ⟨rfl, hb39⟩ | ⟨rfl, hb39⟩, rfl⟩ := hv
                        · show W p l e _ s m _ below meth c H locs 0 0 _ (F0 m 129 ls (.int (iI 1) :: [.int (iI n_)]))
                          have hb39 : qa (40 * x.toNat + j) = 0 ∧ anyH ((cqv qu ql qg) (40 * x.toNat + j)) 93 = 0 := hb39
                          have hP : va_P g.1 vwCl [(hm, .inr (9, mF a i)), ((a 6), aI (g.2.1 0) 12 qm), ((a 7), aI (g.2.1 0) 480 qu), ((a 8), aI (g.2.1 0) 480 ql), ((a 9), aI (g.2.1 0) 480 qg), ((a 10), aI (g.2.1 1) 480 qa), ((a 1), aI (g.2.1 0) 3 fa36), ((a 2), aI (g.2.1 0) 3 fd37), ((a 3), aI (g.2.1 0) 3 fn38), ((a 0), aI (g.2.1 0) 93 kw)] H := hP
                          have hD : va_D A [(hm, .inr (9, mF a i)), ((a 6), aI (g.2.1 0) 12 qm), ((a 7), aI (g.2.1 0) 480 qu), ((a 8), aI (g.2.1 0) 480 ql), ((a 9), aI (g.2.1 0) 480 qg), ((a 10), aI (g.2.1 1) 480 qa), ((a 1), aI (g.2.1 0) 3 fa36), ((a 2), aI (g.2.1 0) 3 fd37), ((a 3), aI (g.2.1 0) 3 fn38), ((a 0), aI (g.2.1 0) 93 kw)] := hD
                          refine iv_if_eq (tgt := 136) hx hb dX9_count_129 (by decide) (by decide) (fun h => absurd h (by decide)) (fun _ => ?_)
                          refine lv_iconst (v := iI (1)) hx hb dX9_count_132 rfl ?_
                          refine lv_goto (tgt := 137) hx hb dX9_count_133 (by decide) ?_
                          refine iv_iadd hx hb dX9_count_137 ?_
                          refine lv_istore_n (lv' := [(3, .int (iI (n_ + 1))), (5, .int (iI 0)), (4, .int (iI zj)), (0, .ref hm), (1, .int (iI x)), (2, .int (iI what))]) hx hb dX9_count_138 rfl hl (by decide) rfl (fun ls hl => ?_)
                          refine iv_iinc (k := 2) (x := zj) (lv' := [(4, .int (iI (zj + 1))), (3, .int (iI (n_ + 1))), (5, .int (iI 0)), (0, .ref hm), (1, .int (iI x)), (2, .int (iI what))]) hx hb dX9_count_139 hl rfl (by decide) rfl (fun ls hl => ?_)
                          refine lv_goto (tgt := 30) hx hb dX9_count_142 (by decide) ?_
                          exact ih30 (n_ + 1) (zj + 1) fa36 fd37 fn38 (j + 1) (by omega) (by simp only [cnM]; first | (exfalso; omega) | (rw [if_pos (by omega)]; omega) | (rw [if_neg (by omega)]; omega)) (by omega) H locs ls (hP.sub [1, 2, 3, 4, 5, 6, 7, 8, 9, 0] rfl) (hD.sub [1, 2, 3, 4, 5, 6, 7, 8, 9, 0] (by decide) rfl) hS (lv_sub hl [0, 1, 3, 4, 5] rfl)
                        · show W p l e _ s m _ below meth c H locs 0 0 _ (F0 m 129 ls (.int (iI 0) :: [.int (iI n_)]))
                          have hb39 : ¬ (qa (40 * x.toNat + j) = 0 ∧ anyH ((cqv qu ql qg) (40 * x.toNat + j)) 93 = 0) := hb39
                          have hP : va_P g.1 vwCl [(hm, .inr (9, mF a i)), ((a 6), aI (g.2.1 0) 12 qm), ((a 7), aI (g.2.1 0) 480 qu), ((a 8), aI (g.2.1 0) 480 ql), ((a 9), aI (g.2.1 0) 480 qg), ((a 10), aI (g.2.1 1) 480 qa), ((a 1), aI (g.2.1 0) 3 fa36), ((a 2), aI (g.2.1 0) 3 fd37), ((a 3), aI (g.2.1 0) 3 fn38), ((a 0), aI (g.2.1 0) 93 kw)] H := hP
                          have hD : va_D A [(hm, .inr (9, mF a i)), ((a 6), aI (g.2.1 0) 12 qm), ((a 7), aI (g.2.1 0) 480 qu), ((a 8), aI (g.2.1 0) 480 ql), ((a 9), aI (g.2.1 0) 480 qg), ((a 10), aI (g.2.1 1) 480 qa), ((a 1), aI (g.2.1 0) 3 fa36), ((a 2), aI (g.2.1 0) 3 fd37), ((a 3), aI (g.2.1 0) 3 fn38), ((a 0), aI (g.2.1 0) 93 kw)] := hD
                          refine iv_if_eq (tgt := 136) hx hb dX9_count_129 (by decide) (by decide) (fun _ => ?_) (fun h => absurd h (by decide))
                          refine lv_iconst (v := iI (0)) hx hb dX9_count_136 rfl ?_
                          refine iv_iadd hx hb dX9_count_137 ?_
                          refine lv_istore_n (lv' := [(3, .int (iI (n_ + 0))), (5, .int (iI 0)), (4, .int (iI zj)), (0, .ref hm), (1, .int (iI x)), (2, .int (iI what))]) hx hb dX9_count_138 rfl hl (by decide) rfl (fun ls hl => ?_)
                          refine iv_iinc (k := 2) (x := zj) (lv' := [(4, .int (iI (zj + 1))), (3, .int (iI (n_ + 0))), (5, .int (iI 0)), (0, .ref hm), (1, .int (iI x)), (2, .int (iI what))]) hx hb dX9_count_139 hl rfl (by decide) rfl (fun ls hl => ?_)
                          refine lv_goto (tgt := 30) hx hb dX9_count_142 (by decide) ?_
                          exact ih30 (n_ + 0) (zj + 1) fa36 fd37 fn38 (j + 1) (by omega) (by simp only [cnM]; first | (exfalso; omega) | (rw [if_pos (by omega)]; omega) | (rw [if_neg (by omega)]; omega)) (by omega) H locs ls (hP.sub [1, 2, 3, 4, 5, 6, 7, 8, 9, 0] rfl) (hD.sub [1, 2, 3, 4, 5, 6, 7, 8, 9, 0] (by decide) rfl) hS (lv_sub hl [0, 1, 3, 4, 5] rfl)
            · refine lv_aload_n hx hb dX9_count_56 rfl (lv_at hl 2 rfl) ?_
              refine va_get (D := g.1) (ci := 9) (v := .ref (a 9)) hx hb hts kX9_count_9 hown hG.1 hP 9 rfl rfl 9 (by decide) (hts _ (List.mem_of_getElem? (i := 4) rfl)) (fun _ h9 => h9) rfl dX9_count_57 ?_
              refine lv_iload hx hb dX9_count_60 (lv_at hl 0 rfl) ?_
              refine iv_iald hx hb hG hP 3 rfl (40 * x.toNat + j) (by omega) (by omega) (by decide) dX9_count_62 ?_
              refine lv_aload_n hx hb dX9_count_63 rfl (lv_at hl 2 rfl) ?_
              refine va_get (D := g.1) (ci := 9) (v := .ref (a 7)) hx hb hts kX9_count_9 hown hG.1 hP 9 rfl rfl 7 (by decide) (hts _ (List.mem_of_getElem? (i := 5) rfl)) (fun _ h9 => h9) rfl dX9_count_64 ?_
              refine lv_iload hx hb dX9_count_67 (lv_at hl 0 rfl) ?_
              refine iv_iald hx hb hG hP 1 rfl (40 * x.toNat + j) (by omega) (by omega) (by decide) dX9_count_69 ?_
              refine lv_aload_n hx hb dX9_count_70 rfl (lv_at hl 2 rfl) ?_
              refine va_get (D := g.1) (ci := 9) (v := .ref (a 8)) hx hb hts kX9_count_9 hown hG.1 hP 9 rfl rfl 8 (by decide) (hts _ (List.mem_of_getElem? (i := 6) rfl)) (fun _ h9 => h9) rfl dX9_count_71 ?_
              refine lv_iload hx hb dX9_count_74 (lv_at hl 0 rfl) ?_
              refine iv_iald hx hb hG hP 2 rfl (40 * x.toNat + j) (by omega) (by omega) (by decide) dX9_count_76 ?_
              refine iv_isub hx hb dX9_count_77 ?_
              refine iv_icmp_ne (tgt := 85) hx hb dX9_count_78 (by decide) (by omega) (fun hc42 => ?_) (fun hc42 => ?_)
              · refine lv_iconst (v := iI (0)) hx hb dX9_count_85 rfl ?_
                refine lv_istore (lv' := [(5, .int (iI 0)), (4, .int (iI zj)), (3, .int (iI n_)), (0, .ref hm), (1, .int (iI x)), (2, .int (iI what))]) hx hb dX9_count_86 hl (by decide) rfl (fun ls hl => ?_)
                refine lv_iload_n hx hb dX9_count_88 rfl (lv_at hl 2 rfl) ?_
                refine lv_iload_n hx hb dX9_count_89 rfl (lv_at hl 5 rfl) ?_
                refine iv_if_eq (tgt := 132) hx hb dX9_count_90 (by decide) (by omega) (fun hc43 => ?_) (fun hc43 => ?_)
                · refine lv_iconst (v := iI (1)) hx hb dX9_count_132 rfl ?_
                  refine lv_goto (tgt := 137) hx hb dX9_count_133 (by decide) ?_
                  refine iv_iadd hx hb dX9_count_137 ?_
                  refine lv_istore_n (lv' := [(3, .int (iI (n_ + 1))), (5, .int (iI 0)), (4, .int (iI zj)), (0, .ref hm), (1, .int (iI x)), (2, .int (iI what))]) hx hb dX9_count_138 rfl hl (by decide) rfl (fun ls hl => ?_)
                  refine iv_iinc (k := 2) (x := zj) (lv' := [(4, .int (iI (zj + 1))), (3, .int (iI (n_ + 1))), (5, .int (iI 0)), (0, .ref hm), (1, .int (iI x)), (2, .int (iI what))]) hx hb dX9_count_139 hl rfl (by decide) rfl (fun ls hl => ?_)
                  refine lv_goto (tgt := 30) hx hb dX9_count_142 (by decide) ?_
                  exact ih30 (n_ + 1) (zj + 1) g1 g2 g3 (j + 1) (by omega) (by simp only [cnM]; first | (exfalso; omega) | (rw [if_pos (by omega)]; omega) | (rw [if_neg (by omega)]; omega)) (by omega) H locs ls (hP.sub [0, 1, 2, 3, 4, 5, 6, 7, 8, 9] rfl) (hD.sub [0, 1, 2, 3, 4, 5, 6, 7, 8, 9] (by decide) rfl) hS (lv_sub hl [0, 1, 3, 4, 5] rfl)
                · refine lv_iload_n hx hb dX9_count_93 rfl (lv_at hl 5 rfl) ?_
                  refine lv_iconst (v := iI (1)) hx hb dX9_count_94 rfl ?_
                  refine iv_icmp_ne (tgt := 108) hx hb dX9_count_95 (by decide) (by omega) (fun hc44 => ?_) (fun hc44 => ?_)
                  · refine lv_iload_n hx hb dX9_count_108 rfl (lv_at hl 5 rfl) ?_
                    refine lv_iconst (v := iI (2)) hx hb dX9_count_109 rfl ?_
                    refine iv_icmp_ne (tgt := 118) hx hb dX9_count_110 (by decide) (by omega) (fun hc45 => ?_) (fun hc45 => ?_)
                    · refine lv_iload_n hx hb dX9_count_118 rfl (lv_at hl 5 rfl) ?_
                      refine lv_iconst (v := iI (3)) hx hb dX9_count_119 rfl ?_
                      refine iv_icmp_ne (tgt := 136) hx hb dX9_count_120 (by decide) (by omega) (fun hc46 => ?_) (fun hc46 => ?_)
                      · refine lv_iconst (v := iI (0)) hx hb dX9_count_136 rfl ?_
                        refine iv_iadd hx hb dX9_count_137 ?_
                        refine lv_istore_n (lv' := [(3, .int (iI (n_ + 0))), (5, .int (iI 0)), (4, .int (iI zj)), (0, .ref hm), (1, .int (iI x)), (2, .int (iI what))]) hx hb dX9_count_138 rfl hl (by decide) rfl (fun ls hl => ?_)
                        refine iv_iinc (k := 2) (x := zj) (lv' := [(4, .int (iI (zj + 1))), (3, .int (iI (n_ + 0))), (5, .int (iI 0)), (0, .ref hm), (1, .int (iI x)), (2, .int (iI what))]) hx hb dX9_count_139 hl rfl (by decide) rfl (fun ls hl => ?_)
                        refine lv_goto (tgt := 30) hx hb dX9_count_142 (by decide) ?_
                        exact ih30 (n_ + 0) (zj + 1) g1 g2 g3 (j + 1) (by omega) (by simp only [cnM]; first | (exfalso; omega) | (rw [if_pos (by omega)]; omega) | (rw [if_neg (by omega)]; omega)) (by omega) H locs ls (hP.sub [0, 1, 2, 3, 4, 5, 6, 7, 8, 9] rfl) (hD.sub [0, 1, 2, 3, 4, 5, 6, 7, 8, 9] (by decide) rfl) hS (lv_sub hl [0, 1, 3, 4, 5] rfl)
                      · refine lv_aload_n hx hb dX9_count_123 rfl (lv_at hl 3 rfl) ?_
                        refine lv_iload hx hb dX9_count_124 (lv_at hl 1 rfl) ?_
                        refine Ct.callV (ci := 9) (q0 := 9) (qc := (RX9, TX9, 37)) (As := [.int (iI zj)]) (rest := [.int (iI n_)]) (wr := []) (c1 := 0) (s1 := 0) ⟨hx, hb, hml, hown, hts⟩ (c_X9_isStrange l g hm a i qm qu ql qg qa g1 g2 g3 kw zj (40 * x.toNat + j) (by omega) (hqj) (hk_)) rfl rfl (cwV 1 hts gX9_count_X9_isStrange rfl rfl rfl (by decide +kernel) ⟨Nat.le_of_ble_eq_true rfl, Nat.le_of_ble_eq_true rfl⟩) hG hP hD hS hA [9, 0, 1, 2, 3, 4, 5, 6, 7, 8] [] rfl rfl (by decide) (by decide) (by decide) rfl hl.1 rfl (Nat.le_of_ble_eq_true rfl) dX9_count_126 ⟨Nat.le_of_ble_eq_true rfl, Nat.le_of_ble_eq_true rfl⟩ rfl rfl (fun v w H locs hv hP hD hS => ?_)
                        obtain ⟨fa47, fd48, fn49, ⟨rfl, hb50⟩ | ⟨rfl, hb50⟩, rfl⟩ := hv
                        · show W p l e _ s m _ below meth c H locs 0 0 _ (F0 m 129 ls (.int (iI 1) :: [.int (iI n_)]))
                          have hb50 : qa (40 * x.toNat + j) = 0 ∧ anyH ((cqv qu ql qg) (40 * x.toNat + j)) 93 = 0 := hb50
                          have hP : va_P g.1 vwCl [(hm, .inr (9, mF a i)), ((a 6), aI (g.2.1 0) 12 qm), ((a 7), aI (g.2.1 0) 480 qu), ((a 8), aI (g.2.1 0) 480 ql), ((a 9), aI (g.2.1 0) 480 qg), ((a 10), aI (g.2.1 1) 480 qa), ((a 1), aI (g.2.1 0) 3 fa47), ((a 2), aI (g.2.1 0) 3 fd48), ((a 3), aI (g.2.1 0) 3 fn49), ((a 0), aI (g.2.1 0) 93 kw)] H := hP
                          have hD : va_D A [(hm, .inr (9, mF a i)), ((a 6), aI (g.2.1 0) 12 qm), ((a 7), aI (g.2.1 0) 480 qu), ((a 8), aI (g.2.1 0) 480 ql), ((a 9), aI (g.2.1 0) 480 qg), ((a 10), aI (g.2.1 1) 480 qa), ((a 1), aI (g.2.1 0) 3 fa47), ((a 2), aI (g.2.1 0) 3 fd48), ((a 3), aI (g.2.1 0) 3 fn49), ((a 0), aI (g.2.1 0) 93 kw)] := hD
                          refine iv_if_eq (tgt := 136) hx hb dX9_count_129 (by decide) (by decide) (fun h => absurd h (by decide)) (fun _ => ?_)
                          refine lv_iconst (v := iI (1)) hx hb dX9_count_132 rfl ?_
                          refine lv_goto (tgt := 137) hx hb dX9_count_133 (by decide) ?_
                          refine iv_iadd hx hb dX9_count_137 ?_
                          refine lv_istore_n (lv' := [(3, .int (iI (n_ + 1))), (5, .int (iI 0)), (4, .int (iI zj)), (0, .ref hm), (1, .int (iI x)), (2, .int (iI what))]) hx hb dX9_count_138 rfl hl (by decide) rfl (fun ls hl => ?_)
                          refine iv_iinc (k := 2) (x := zj) (lv' := [(4, .int (iI (zj + 1))), (3, .int (iI (n_ + 1))), (5, .int (iI 0)), (0, .ref hm), (1, .int (iI x)), (2, .int (iI what))]) hx hb dX9_count_139 hl rfl (by decide) rfl (fun ls hl => ?_)
                          refine lv_goto (tgt := 30) hx hb dX9_count_142 (by decide) ?_
                          exact ih30 (n_ + 1) (zj + 1) fa47 fd48 fn49 (j + 1) (by omega) (by simp only [cnM]; first | (exfalso; omega) | (rw [if_pos (by omega)]; omega) | (rw [if_neg (by omega)]; omega)) (by omega) H locs ls (hP.sub [1, 2, 3, 4, 5, 6, 7, 8, 9, 0] rfl) (hD.sub [1, 2, 3, 4, 5, 6, 7, 8, 9, 0] (by decide) rfl) hS (lv_sub hl [0, 1, 3, 4, 5] rfl)
                        · show W p l e _ s m _ below meth c H locs 0 0 _ (F0 m 129 ls (.int (iI 0) :: [.int (iI n_)]))
                          have hb50 : ¬ (qa (40 * x.toNat + j) = 0 ∧ anyH ((cqv qu ql qg) (40 * x.toNat + j)) 93 = 0) := hb50
                          have hP : va_P g.1 vwCl [(hm, .inr (9, mF a i)), ((a 6), aI (g.2.1 0) 12 qm), ((a 7), aI (g.2.1 0) 480 qu), ((a 8), aI (g.2.1 0) 480 ql), ((a 9), aI (g.2.1 0) 480 qg), ((a 10), aI (g.2.1 1) 480 qa), ((a 1), aI (g.2.1 0) 3 fa47), ((a 2), aI (g.2.1 0) 3 fd48), ((a 3), aI (g.2.1 0) 3 fn49), ((a 0), aI (g.2.1 0) 93 kw)] H := hP
                          have hD : va_D A [(hm, .inr (9, mF a i)), ((a 6), aI (g.2.1 0) 12 qm), ((a 7), aI (g.2.1 0) 480 qu), ((a 8), aI (g.2.1 0) 480 ql), ((a 9), aI (g.2.1 0) 480 qg), ((a 10), aI (g.2.1 1) 480 qa), ((a 1), aI (g.2.1 0) 3 fa47), ((a 2), aI (g.2.1 0) 3 fd48), ((a 3), aI (g.2.1 0) 3 fn49), ((a 0), aI (g.2.1 0) 93 kw)] := hD
                          refine iv_if_eq (tgt := 136) hx hb dX9_count_129 (by decide) (by decide) (fun _ => ?_) (fun h => absurd h (by decide))
                          refine lv_iconst (v := iI (0)) hx hb dX9_count_136 rfl ?_
                          refine iv_iadd hx hb dX9_count_137 ?_
                          refine lv_istore_n (lv' := [(3, .int (iI (n_ + 0))), (5, .int (iI 0)), (4, .int (iI zj)), (0, .ref hm), (1, .int (iI x)), (2, .int (iI what))]) hx hb dX9_count_138 rfl hl (by decide) rfl (fun ls hl => ?_)
                          refine iv_iinc (k := 2) (x := zj) (lv' := [(4, .int (iI (zj + 1))), (3, .int (iI (n_ + 0))), (5, .int (iI 0)), (0, .ref hm), (1, .int (iI x)), (2, .int (iI what))]) hx hb dX9_count_139 hl rfl (by decide) rfl (fun ls hl => ?_)
                          refine lv_goto (tgt := 30) hx hb dX9_count_142 (by decide) ?_
                          exact ih30 (n_ + 0) (zj + 1) fa47 fd48 fn49 (j + 1) (by omega) (by simp only [cnM]; first | (exfalso; omega) | (rw [if_pos (by omega)]; omega) | (rw [if_neg (by omega)]; omega)) (by omega) H locs ls (hP.sub [1, 2, 3, 4, 5, 6, 7, 8, 9, 0] rfl) (hD.sub [1, 2, 3, 4, 5, 6, 7, 8, 9, 0] (by decide) rfl) hS (lv_sub hl [0, 1, 3, 4, 5] rfl)
                    · refine lv_iload hx hb dX9_count_113 (lv_at hl 0 rfl) ?_
                      refine iv_if_ne (tgt := 132) hx hb dX9_count_115 (by decide) (by decide) (fun h => absurd h (by decide)) (fun _ => ?_)
                      refine lv_iload_n hx hb dX9_count_118 rfl (lv_at hl 5 rfl) ?_
                      refine lv_iconst (v := iI (3)) hx hb dX9_count_119 rfl ?_
                      refine iv_icmp_ne (tgt := 136) hx hb dX9_count_120 (by decide) (by omega) (fun hc54 => ?_) (fun hc54 => ?_)
                      · refine lv_iconst (v := iI (0)) hx hb dX9_count_136 rfl ?_
                        refine iv_iadd hx hb dX9_count_137 ?_
                        refine lv_istore_n (lv' := [(3, .int (iI (n_ + 0))), (5, .int (iI 0)), (4, .int (iI zj)), (0, .ref hm), (1, .int (iI x)), (2, .int (iI what))]) hx hb dX9_count_138 rfl hl (by decide) rfl (fun ls hl => ?_)
                        refine iv_iinc (k := 2) (x := zj) (lv' := [(4, .int (iI (zj + 1))), (3, .int (iI (n_ + 0))), (5, .int (iI 0)), (0, .ref hm), (1, .int (iI x)), (2, .int (iI what))]) hx hb dX9_count_139 hl rfl (by decide) rfl (fun ls hl => ?_)
                        refine lv_goto (tgt := 30) hx hb dX9_count_142 (by decide) ?_
                        exact ih30 (n_ + 0) (zj + 1) g1 g2 g3 (j + 1) (by omega) (by simp only [cnM]; first | (exfalso; omega) | (rw [if_pos (by omega)]; omega) | (rw [if_neg (by omega)]; omega)) (by omega) H locs ls (hP.sub [0, 1, 2, 3, 4, 5, 6, 7, 8, 9] rfl) (hD.sub [0, 1, 2, 3, 4, 5, 6, 7, 8, 9] (by decide) rfl) hS (lv_sub hl [0, 1, 3, 4, 5] rfl)
                      · refine lv_aload_n hx hb dX9_count_123 rfl (lv_at hl 3 rfl) ?_
                        refine lv_iload hx hb dX9_count_124 (lv_at hl 1 rfl) ?_
                        refine Ct.callV (ci := 9) (q0 := 9) (qc := (RX9, TX9, 37)) (As := [.int (iI zj)]) (rest := [.int (iI n_)]) (wr := []) (c1 := 0) (s1 := 0) ⟨hx, hb, hml, hown, hts⟩ (c_X9_isStrange l g hm a i qm qu ql qg qa g1 g2 g3 kw zj (40 * x.toNat + j) (by omega) (hqj) (hk_)) rfl rfl (cwV 1 hts gX9_count_X9_isStrange rfl rfl rfl (by decide +kernel) ⟨Nat.le_of_ble_eq_true rfl, Nat.le_of_ble_eq_true rfl⟩) hG hP hD hS hA [9, 0, 1, 2, 3, 4, 5, 6, 7, 8] [] rfl rfl (by decide) (by decide) (by decide) rfl hl.1 rfl (Nat.le_of_ble_eq_true rfl) dX9_count_126 ⟨Nat.le_of_ble_eq_true rfl, Nat.le_of_ble_eq_true rfl⟩ rfl rfl (fun v w H locs hv hP hD hS => ?_)
                        obtain ⟨fa55, fd56, fn57, ⟨rfl, hb58⟩ | ⟨rfl, hb58⟩, rfl⟩ := hv
                        · show W p l e _ s m _ below meth c H locs 0 0 _ (F0 m 129 ls (.int (iI 1) :: [.int (iI n_)]))
                          have hb58 : qa (40 * x.toNat + j) = 0 ∧ anyH ((cqv qu ql qg) (40 * x.toNat + j)) 93 = 0 := hb58
                          have hP : va_P g.1 vwCl [(hm, .inr (9, mF a i)), ((a 6), aI (g.2.1 0) 12 qm), ((a 7), aI (g.2.1 0) 480 qu), ((a 8), aI (g.2.1 0) 480 ql), ((a 9), aI (g.2.1 0) 480 qg), ((a 10), aI (g.2.1 1) 480 qa), ((a 1), aI (g.2.1 0) 3 fa55), ((a 2), aI (g.2.1 0) 3 fd56), ((a 3), aI (g.2.1 0) 3 fn57), ((a 0), aI (g.2.1 0) 93 kw)] H := hP
                          have hD : va_D A [(hm, .inr (9, mF a i)), ((a 6), aI (g.2.1 0) 12 qm), ((a 7), aI (g.2.1 0) 480 qu), ((a 8), aI (g.2.1 0) 480 ql), ((a 9), aI (g.2.1 0) 480 qg), ((a 10), aI (g.2.1 1) 480 qa), ((a 1), aI (g.2.1 0) 3 fa55), ((a 2), aI (g.2.1 0) 3 fd56), ((a 3), aI (g.2.1 0) 3 fn57), ((a 0), aI (g.2.1 0) 93 kw)] := hD
                          refine iv_if_eq (tgt := 136) hx hb dX9_count_129 (by decide) (by decide) (fun h => absurd h (by decide)) (fun _ => ?_)
                          refine lv_iconst (v := iI (1)) hx hb dX9_count_132 rfl ?_
                          refine lv_goto (tgt := 137) hx hb dX9_count_133 (by decide) ?_
                          refine iv_iadd hx hb dX9_count_137 ?_
                          refine lv_istore_n (lv' := [(3, .int (iI (n_ + 1))), (5, .int (iI 0)), (4, .int (iI zj)), (0, .ref hm), (1, .int (iI x)), (2, .int (iI what))]) hx hb dX9_count_138 rfl hl (by decide) rfl (fun ls hl => ?_)
                          refine iv_iinc (k := 2) (x := zj) (lv' := [(4, .int (iI (zj + 1))), (3, .int (iI (n_ + 1))), (5, .int (iI 0)), (0, .ref hm), (1, .int (iI x)), (2, .int (iI what))]) hx hb dX9_count_139 hl rfl (by decide) rfl (fun ls hl => ?_)
                          refine lv_goto (tgt := 30) hx hb dX9_count_142 (by decide) ?_
                          exact ih30 (n_ + 1) (zj + 1) fa55 fd56 fn57 (j + 1) (by omega) (by simp only [cnM]; first | (exfalso; omega) | (rw [if_pos (by omega)]; omega) | (rw [if_neg (by omega)]; omega)) (by omega) H locs ls (hP.sub [1, 2, 3, 4, 5, 6, 7, 8, 9, 0] rfl) (hD.sub [1, 2, 3, 4, 5, 6, 7, 8, 9, 0] (by decide) rfl) hS (lv_sub hl [0, 1, 3, 4, 5] rfl)
                        · show W p l e _ s m _ below meth c H locs 0 0 _ (F0 m 129 ls (.int (iI 0) :: [.int (iI n_)]))
                          have hb58 : ¬ (qa (40 * x.toNat + j) = 0 ∧ anyH ((cqv qu ql qg) (40 * x.toNat + j)) 93 = 0) := hb58
                          have hP : va_P g.1 vwCl [(hm, .inr (9, mF a i)), ((a 6), aI (g.2.1 0) 12 qm), ((a 7), aI (g.2.1 0) 480 qu), ((a 8), aI (g.2.1 0) 480 ql), ((a 9), aI (g.2.1 0) 480 qg), ((a 10), aI (g.2.1 1) 480 qa), ((a 1), aI (g.2.1 0) 3 fa55), ((a 2), aI (g.2.1 0) 3 fd56), ((a 3), aI (g.2.1 0) 3 fn57), ((a 0), aI (g.2.1 0) 93 kw)] H := hP
                          have hD : va_D A [(hm, .inr (9, mF a i)), ((a 6), aI (g.2.1 0) 12 qm), ((a 7), aI (g.2.1 0) 480 qu), ((a 8), aI (g.2.1 0) 480 ql), ((a 9), aI (g.2.1 0) 480 qg), ((a 10), aI (g.2.1 1) 480 qa), ((a 1), aI (g.2.1 0) 3 fa55), ((a 2), aI (g.2.1 0) 3 fd56), ((a 3), aI (g.2.1 0) 3 fn57), ((a 0), aI (g.2.1 0) 93 kw)] := hD
                          refine iv_if_eq (tgt := 136) hx hb dX9_count_129 (by decide) (by decide) (fun _ => ?_) (fun h => absurd h (by decide))
                          refine lv_iconst (v := iI (0)) hx hb dX9_count_136 rfl ?_
                          refine iv_iadd hx hb dX9_count_137 ?_
                          refine lv_istore_n (lv' := [(3, .int (iI (n_ + 0))), (5, .int (iI 0)), (4, .int (iI zj)), (0, .ref hm), (1, .int (iI x)), (2, .int (iI what))]) hx hb dX9_count_138 rfl hl (by decide) rfl (fun ls hl => ?_)
                          refine iv_iinc (k := 2) (x := zj) (lv' := [(4, .int (iI (zj + 1))), (3, .int (iI (n_ + 0))), (5, .int (iI 0)), (0, .ref hm), (1, .int (iI x)), (2, .int (iI what))]) hx hb dX9_count_139 hl rfl (by decide) rfl (fun ls hl => ?_)
                          refine lv_goto (tgt := 30) hx hb dX9_count_142 (by decide) ?_
                          exact ih30 (n_ + 0) (zj + 1) fa55 fd56 fn57 (j + 1) (by omega) (by simp only [cnM]; first | (exfalso; omega) | (rw [if_pos (by omega)]; omega) | (rw [if_neg (by omega)]; omega)) (by omega) H locs ls (hP.sub [1, 2, 3, 4, 5, 6, 7, 8, 9, 0] rfl) (hD.sub [1, 2, 3, 4, 5, 6, 7, 8, 9, 0] (by decide) rfl) hS (lv_sub hl [0, 1, 3, 4, 5] rfl)
                  · refine lv_aload_n hx hb dX9_count_98 rfl (lv_at hl 3 rfl) ?_
                    refine va_get (D := g.1) (ci := 9) (v := .ref (a 10)) hx hb hts kX9_count_9 hown hG.1 hP 9 rfl rfl 10 (by decide) (hts _ (List.mem_of_getElem? (i := 3) rfl)) (fun _ h9 => h9) rfl dX9_count_99 ?_
                    refine lv_iload hx hb dX9_count_102 (lv_at hl 1 rfl) ?_
                    refine iv_zald hx hb hG hP 4 rfl (40 * x.toNat + j) (by omega) (by omega) (by decide) dX9_count_104 ?_
                    refine iv_if_ne (tgt := 132) hx hb dX9_count_105 (by decide) (by omega) (fun hc61 => ?_) (fun hc61 => ?_)
                    · refine lv_iconst (v := iI (1)) hx hb dX9_count_132 rfl ?_
                      refine lv_goto (tgt := 137) hx hb dX9_count_133 (by decide) ?_
                      refine iv_iadd hx hb dX9_count_137 ?_
                      refine lv_istore_n (lv' := [(3, .int (iI (n_ + 1))), (5, .int (iI 0)), (4, .int (iI zj)), (0, .ref hm), (1, .int (iI x)), (2, .int (iI what))]) hx hb dX9_count_138 rfl hl (by decide) rfl (fun ls hl => ?_)
                      refine iv_iinc (k := 2) (x := zj) (lv' := [(4, .int (iI (zj + 1))), (3, .int (iI (n_ + 1))), (5, .int (iI 0)), (0, .ref hm), (1, .int (iI x)), (2, .int (iI what))]) hx hb dX9_count_139 hl rfl (by decide) rfl (fun ls hl => ?_)
                      refine lv_goto (tgt := 30) hx hb dX9_count_142 (by decide) ?_
                      exact ih30 (n_ + 1) (zj + 1) g1 g2 g3 (j + 1) (by omega) (by simp only [cnM]; first | (exfalso; omega) | (rw [if_pos (by omega)]; omega) | (rw [if_neg (by omega)]; omega)) (by omega) H locs ls (hP.sub [0, 1, 2, 3, 4, 5, 6, 7, 8, 9] rfl) (hD.sub [0, 1, 2, 3, 4, 5, 6, 7, 8, 9] (by decide) rfl) hS (lv_sub hl [0, 1, 3, 4, 5] rfl)
                    · refine lv_iload_n hx hb dX9_count_108 rfl (lv_at hl 5 rfl) ?_
                      refine lv_iconst (v := iI (2)) hx hb dX9_count_109 rfl ?_
                      refine iv_icmp_ne (tgt := 118) hx hb dX9_count_110 (by decide) (by omega) (fun hc62 => ?_) (fun hc62 => ?_)
                      · refine lv_iload_n hx hb dX9_count_118 rfl (lv_at hl 5 rfl) ?_
                        refine lv_iconst (v := iI (3)) hx hb dX9_count_119 rfl ?_
                        refine iv_icmp_ne (tgt := 136) hx hb dX9_count_120 (by decide) (by omega) (fun hc63 => ?_) (fun hc63 => ?_)
                        · refine lv_iconst (v := iI (0)) hx hb dX9_count_136 rfl ?_
                          refine iv_iadd hx hb dX9_count_137 ?_
                          refine lv_istore_n (lv' := [(3, .int (iI (n_ + 0))), (5, .int (iI 0)), (4, .int (iI zj)), (0, .ref hm), (1, .int (iI x)), (2, .int (iI what))]) hx hb dX9_count_138 rfl hl (by decide) rfl (fun ls hl => ?_)
                          refine iv_iinc (k := 2) (x := zj) (lv' := [(4, .int (iI (zj + 1))), (3, .int (iI (n_ + 0))), (5, .int (iI 0)), (0, .ref hm), (1, .int (iI x)), (2, .int (iI what))]) hx hb dX9_count_139 hl rfl (by decide) rfl (fun ls hl => ?_)
                          refine lv_goto (tgt := 30) hx hb dX9_count_142 (by decide) ?_
                          exact ih30 (n_ + 0) (zj + 1) g1 g2 g3 (j + 1) (by omega) (by simp only [cnM]; first | (exfalso; omega) | (rw [if_pos (by omega)]; omega) | (rw [if_neg (by omega)]; omega)) (by omega) H locs ls (hP.sub [0, 1, 2, 3, 4, 5, 6, 7, 8, 9] rfl) (hD.sub [0, 1, 2, 3, 4, 5, 6, 7, 8, 9] (by decide) rfl) hS (lv_sub hl [0, 1, 3, 4, 5] rfl)
                        · refine lv_aload_n hx hb dX9_count_123 rfl (lv_at hl 3 rfl) ?_
                          refine lv_iload hx hb dX9_count_124 (lv_at hl 1 rfl) ?_
                          refine Ct.callV (ci := 9) (q0 := 9) (qc := (RX9, TX9, 37)) (As := [.int (iI zj)]) (rest := [.int (iI n_)]) (wr := []) (c1 := 0) (s1 := 0) ⟨hx, hb, hml, hown, hts⟩ (c_X9_isStrange l g hm a i qm qu ql qg qa g1 g2 g3 kw zj (40 * x.toNat + j) (by omega) (hqj) (hk_)) rfl rfl (cwV 1 hts gX9_count_X9_isStrange rfl rfl rfl (by decide +kernel) ⟨Nat.le_of_ble_eq_true rfl, Nat.le_of_ble_eq_true rfl⟩) hG hP hD hS hA [9, 0, 1, 2, 3, 4, 5, 6, 7, 8] [] rfl rfl (by decide) (by decide) (by decide) rfl hl.1 rfl (Nat.le_of_ble_eq_true rfl) dX9_count_126 ⟨Nat.le_of_ble_eq_true rfl, Nat.le_of_ble_eq_true rfl⟩ rfl rfl (fun v w H locs hv hP hD hS => ?_)
                          obtain ⟨fa64, fd65, fn66, ⟨rfl, hb67⟩ | ⟨rfl, hb67⟩, rfl⟩ := hv
                          · show W p l e _ s m _ below meth c H locs 0 0 _ (F0 m 129 ls (.int (iI 1) :: [.int (iI n_)]))
                            have hb67 : qa (40 * x.toNat + j) = 0 ∧ anyH ((cqv qu ql qg) (40 * x.toNat + j)) 93 = 0 := hb67
                            have hP : va_P g.1 vwCl [(hm, .inr (9, mF a i)), ((a 6), aI (g.2.1 0) 12 qm), ((a 7), aI (g.2.1 0) 480 qu), ((a 8), aI (g.2.1 0) 480 ql), ((a 9), aI (g.2.1 0) 480 qg), ((a 10), aI (g.2.1 1) 480 qa), ((a 1), aI (g.2.1 0) 3 fa64), ((a 2), aI (g.2.1 0) 3 fd65), ((a 3), aI (g.2.1 0) 3 fn66), ((a 0), aI (g.2.1 0) 93 kw)] H := hP
                            have hD : va_D A [(hm, .inr (9, mF a i)), ((a 6), aI (g.2.1 0) 12 qm), ((a 7), aI (g.2.1 0) 480 qu), ((a 8), aI (g.2.1 0) 480 ql), ((a 9), aI (g.2.1 0) 480 qg), ((a 10), aI (g.2.1 1) 480 qa), ((a 1), aI (g.2.1 0) 3 fa64), ((a 2), aI (g.2.1 0) 3 fd65), ((a 3), aI (g.2.1 0) 3 fn66), ((a 0), aI (g.2.1 0) 93 kw)] := hD
                            refine iv_if_eq (tgt := 136) hx hb dX9_count_129 (by decide) (by decide) (fun h => absurd h (by decide)) (fun _ => ?_)
                            refine lv_iconst (v := iI (1)) hx hb dX9_count_132 rfl ?_
                            refine lv_goto (tgt := 137) hx hb dX9_count_133 (by decide) ?_
                            refine iv_iadd hx hb dX9_count_137 ?_
                            refine lv_istore_n (lv' := [(3, .int (iI (n_ + 1))), (5, .int (iI 0)), (4, .int (iI zj)), (0, .ref hm), (1, .int (iI x)), (2, .int (iI what))]) hx hb dX9_count_138 rfl hl (by decide) rfl (fun ls hl => ?_)
                            refine iv_iinc (k := 2) (x := zj) (lv' := [(4, .int (iI (zj + 1))), (3, .int (iI (n_ + 1))), (5, .int (iI 0)), (0, .ref hm), (1, .int (iI x)), (2, .int (iI what))]) hx hb dX9_count_139 hl rfl (by decide) rfl (fun ls hl => ?_)
                            refine lv_goto (tgt := 30) hx hb dX9_count_142 (by decide) ?_
                            exact ih30 (n_ + 1) (zj + 1) fa64 fd65 fn66 (j + 1) (by omega) (by simp only [cnM]; first | (exfalso; omega) | (rw [if_pos (by omega)]; omega) | (rw [if_neg (by omega)]; omega)) (by omega) H locs ls (hP.sub [1, 2, 3, 4, 5, 6, 7, 8, 9, 0] rfl) (hD.sub [1, 2, 3, 4, 5, 6, 7, 8, 9, 0] (by decide) rfl) hS (lv_sub hl [0, 1, 3, 4, 5] rfl)
                          · show W p l e _ s m _ below meth c H locs 0 0 _ (F0 m 129 ls (.int (iI 0) :: [.int (iI n_)]))
                            have hb67 : ¬ (qa (40 * x.toNat + j) = 0 ∧ anyH ((cqv qu ql qg) (40 * x.toNat + j)) 93 = 0) := hb67
                            have hP : va_P g.1 vwCl [(hm, .inr (9, mF a i)), ((a 6), aI (g.2.1 0) 12 qm), ((a 7), aI (g.2.1 0) 480 qu), ((a 8), aI (g.2.1 0) 480 ql), ((a 9), aI (g.2.1 0) 480 qg), ((a 10), aI (g.2.1 1) 480 qa), ((a 1), aI (g.2.1 0) 3 fa64), ((a 2), aI (g.2.1 0) 3 fd65), ((a 3), aI (g.2.1 0) 3 fn66), ((a 0), aI (g.2.1 0) 93 kw)] H := hP
                            have hD : va_D A [(hm, .inr (9, mF a i)), ((a 6), aI (g.2.1 0) 12 qm), ((a 7), aI (g.2.1 0) 480 qu), ((a 8), aI (g.2.1 0) 480 ql), ((a 9), aI (g.2.1 0) 480 qg), ((a 10), aI (g.2.1 1) 480 qa), ((a 1), aI (g.2.1 0) 3 fa64), ((a 2), aI (g.2.1 0) 3 fd65), ((a 3), aI (g.2.1 0) 3 fn66), ((a 0), aI (g.2.1 0) 93 kw)] := hD
                            refine iv_if_eq (tgt := 136) hx hb dX9_count_129 (by decide) (by decide) (fun _ => ?_) (fun h => absurd h (by decide))
                            refine lv_iconst (v := iI (0)) hx hb dX9_count_136 rfl ?_
                            refine iv_iadd hx hb dX9_count_137 ?_
                            refine lv_istore_n (lv' := [(3, .int (iI (n_ + 0))), (5, .int (iI 0)), (4, .int (iI zj)), (0, .ref hm), (1, .int (iI x)), (2, .int (iI what))]) hx hb dX9_count_138 rfl hl (by decide) rfl (fun ls hl => ?_)
                            refine iv_iinc (k := 2) (x := zj) (lv' := [(4, .int (iI (zj + 1))), (3, .int (iI (n_ + 0))), (5, .int (iI 0)), (0, .ref hm), (1, .int (iI x)), (2, .int (iI what))]) hx hb dX9_count_139 hl rfl (by decide) rfl (fun ls hl => ?_)
                            refine lv_goto (tgt := 30) hx hb dX9_count_142 (by decide) ?_
                            exact ih30 (n_ + 0) (zj + 1) fa64 fd65 fn66 (j + 1) (by omega) (by simp only [cnM]; first | (exfalso; omega) | (rw [if_pos (by omega)]; omega) | (rw [if_neg (by omega)]; omega)) (by omega) H locs ls (hP.sub [1, 2, 3, 4, 5, 6, 7, 8, 9, 0] rfl) (hD.sub [1, 2, 3, 4, 5, 6, 7, 8, 9, 0] (by decide) rfl) hS (lv_sub hl [0, 1, 3, 4, 5] rfl)
                      · refine lv_iload hx hb dX9_count_113 (lv_at hl 0 rfl) ?_
                        refine iv_if_ne (tgt := 132) hx hb dX9_count_115 (by decide) (by decide) (fun h => absurd h (by decide)) (fun _ => ?_)
                        refine lv_iload_n hx hb dX9_count_118 rfl (lv_at hl 5 rfl) ?_
                        refine lv_iconst (v := iI (3)) hx hb dX9_count_119 rfl ?_
                        refine iv_icmp_ne (tgt := 136) hx hb dX9_count_120 (by decide) (by omega) (fun hc71 => ?_) (fun hc71 => ?_)
                        · refine lv_iconst (v := iI (0)) hx hb dX9_count_136 rfl ?_
                          refine iv_iadd hx hb dX9_count_137 ?_
                          refine lv_istore_n (lv' := [(3, .int (iI (n_ + 0))), (5, .int (iI 0)), (4, .int (iI zj)), (0, .ref hm), (1, .int (iI x)), (2, .int (iI what))]) hx hb dX9_count_138 rfl hl (by decide) rfl (fun ls hl => ?_)
                          refine iv_iinc (k := 2) (x := zj) (lv' := [(4, .int (iI (zj + 1))), (3, .int (iI (n_ + 0))), (5, .int (iI 0)), (0, .ref hm), (1, .int (iI x)), (2, .int (iI what))]) hx hb dX9_count_139 hl rfl (by decide) rfl (fun ls hl => ?_)
                          refine lv_goto (tgt := 30) hx hb dX9_count_142 (by decide) ?_
                          exact ih30 (n_ + 0) (zj + 1) g1 g2 g3 (j + 1) (by omega) (by simp only [cnM]; first | (exfalso; omega) | (rw [if_pos (by omega)]; omega) | (rw [if_neg (by omega)]; omega)) (by omega) H locs ls (hP.sub [0, 1, 2, 3, 4, 5, 6, 7, 8, 9] rfl) (hD.sub [0, 1, 2, 3, 4, 5, 6, 7, 8, 9] (by decide) rfl) hS (lv_sub hl [0, 1, 3, 4, 5] rfl)
                        · refine lv_aload_n hx hb dX9_count_123 rfl (lv_at hl 3 rfl) ?_
                          refine lv_iload hx hb dX9_count_124 (lv_at hl 1 rfl) ?_
                          refine Ct.callV (ci := 9) (q0 := 9) (qc := (RX9, TX9, 37)) (As := [.int (iI zj)]) (rest := [.int (iI n_)]) (wr := []) (c1 := 0) (s1 := 0) ⟨hx, hb, hml, hown, hts⟩ (c_X9_isStrange l g hm a i qm qu ql qg qa g1 g2 g3 kw zj (40 * x.toNat + j) (by omega) (hqj) (hk_)) rfl rfl (cwV 1 hts gX9_count_X9_isStrange rfl rfl rfl (by decide +kernel) ⟨Nat.le_of_ble_eq_true rfl, Nat.le_of_ble_eq_true rfl⟩) hG hP hD hS hA [9, 0, 1, 2, 3, 4, 5, 6, 7, 8] [] rfl rfl (by decide) (by decide) (by decide) rfl hl.1 rfl (Nat.le_of_ble_eq_true rfl) dX9_count_126 ⟨Nat.le_of_ble_eq_true rfl, Nat.le_of_ble_eq_true rfl⟩ rfl rfl (fun v w H locs hv hP hD hS => ?_)
                          obtain ⟨fa72, fd73, fn74, ⟨rfl, hb75⟩ | ⟨rfl, hb75⟩, rfl⟩ := hv
                          · show W p l e _ s m _ below meth c H locs 0 0 _ (F0 m 129 ls (.int (iI 1) :: [.int (iI n_)]))
                            have hb75 : qa (40 * x.toNat + j) = 0 ∧ anyH ((cqv qu ql qg) (40 * x.toNat + j)) 93 = 0 := hb75
                            have hP : va_P g.1 vwCl [(hm, .inr (9, mF a i)), ((a 6), aI (g.2.1 0) 12 qm), ((a 7), aI (g.2.1 0) 480 qu), ((a 8), aI (g.2.1 0) 480 ql), ((a 9), aI (g.2.1 0) 480 qg), ((a 10), aI (g.2.1 1) 480 qa), ((a 1), aI (g.2.1 0) 3 fa72), ((a 2), aI (g.2.1 0) 3 fd73), ((a 3), aI (g.2.1 0) 3 fn74), ((a 0), aI (g.2.1 0) 93 kw)] H := hP
                            have hD : va_D A [(hm, .inr (9, mF a i)), ((a 6), aI (g.2.1 0) 12 qm), ((a 7), aI (g.2.1 0) 480 qu), ((a 8), aI (g.2.1 0) 480 ql), ((a 9), aI (g.2.1 0) 480 qg), ((a 10), aI (g.2.1 1) 480 qa), ((a 1), aI (g.2.1 0) 3 fa72), ((a 2), aI (g.2.1 0) 3 fd73), ((a 3), aI (g.2.1 0) 3 fn74), ((a 0), aI (g.2.1 0) 93 kw)] := hD
                            refine iv_if_eq (tgt := 136) hx hb dX9_count_129 (by decide) (by decide) (fun h => absurd h (by decide)) (fun _ => ?_)
                            refine lv_iconst (v := iI (1)) hx hb dX9_count_132 rfl ?_
                            refine lv_goto (tgt := 137) hx hb dX9_count_133 (by decide) ?_
                            refine iv_iadd hx hb dX9_count_137 ?_
                            refine lv_istore_n (lv' := [(3, .int (iI (n_ + 1))), (5, .int (iI 0)), (4, .int (iI zj)), (0, .ref hm), (1, .int (iI x)), (2, .int (iI what))]) hx hb dX9_count_138 rfl hl (by decide) rfl (fun ls hl => ?_)
                            refine iv_iinc (k := 2) (x := zj) (lv' := [(4, .int (iI (zj + 1))), (3, .int (iI (n_ + 1))), (5, .int (iI 0)), (0, .ref hm), (1, .int (iI x)), (2, .int (iI what))]) hx hb dX9_count_139 hl rfl (by decide) rfl (fun ls hl => ?_)
                            refine lv_goto (tgt := 30) hx hb dX9_count_142 (by decide) ?_
                            exact ih30 (n_ + 1) (zj + 1) fa72 fd73 fn74 (j + 1) (by omega) (by simp only [cnM]; first | (exfalso; omega) | (rw [if_pos (by omega)]; omega) | (rw [if_neg (by omega)]; omega)) (by omega) H locs ls (hP.sub [1, 2, 3, 4, 5, 6, 7, 8, 9, 0] rfl) (hD.sub [1, 2, 3, 4, 5, 6, 7, 8, 9, 0] (by decide) rfl) hS (lv_sub hl [0, 1, 3, 4, 5] rfl)
                          · show W p l e _ s m _ below meth c H locs 0 0 _ (F0 m 129 ls (.int (iI 0) :: [.int (iI n_)]))
                            have hb75 : ¬ (qa (40 * x.toNat + j) = 0 ∧ anyH ((cqv qu ql qg) (40 * x.toNat + j)) 93 = 0) := hb75
                            have hP : va_P g.1 vwCl [(hm, .inr (9, mF a i)), ((a 6), aI (g.2.1 0) 12 qm), ((a 7), aI (g.2.1 0) 480 qu), ((a 8), aI (g.2.1 0) 480 ql), ((a 9), aI (g.2.1 0) 480 qg), ((a 10), aI (g.2.1 1) 480 qa), ((a 1), aI (g.2.1 0) 3 fa72), ((a 2), aI (g.2.1 0) 3 fd73), ((a 3), aI (g.2.1 0) 3 fn74), ((a 0), aI (g.2.1 0) 93 kw)] H := hP
                            have hD : va_D A [(hm, .inr (9, mF a i)), ((a 6), aI (g.2.1 0) 12 qm), ((a 7), aI (g.2.1 0) 480 qu), ((a 8), aI (g.2.1 0) 480 ql), ((a 9), aI (g.2.1 0) 480 qg), ((a 10), aI (g.2.1 1) 480 qa), ((a 1), aI (g.2.1 0) 3 fa72), ((a 2), aI (g.2.1 0) 3 fd73), ((a 3), aI (g.2.1 0) 3 fn74), ((a 0), aI (g.2.1 0) 93 kw)] := hD
                            refine iv_if_eq (tgt := 136) hx hb dX9_count_129 (by decide) (by decide) (fun _ => ?_) (fun h => absurd h (by decide))
                            refine lv_iconst (v := iI (0)) hx hb dX9_count_136 rfl ?_
                            refine iv_iadd hx hb dX9_count_137 ?_
                            refine lv_istore_n (lv' := [(3, .int (iI (n_ + 0))), (5, .int (iI 0)), (4, .int (iI zj)), (0, .ref hm), (1, .int (iI x)), (2, .int (iI what))]) hx hb dX9_count_138 rfl hl (by decide) rfl (fun ls hl => ?_)
                            refine iv_iinc (k := 2) (x := zj) (lv' := [(4, .int (iI (zj + 1))), (3, .int (iI (n_ + 0))), (5, .int (iI 0)), (0, .ref hm), (1, .int (iI x)), (2, .int (iI what))]) hx hb dX9_count_139 hl rfl (by decide) rfl (fun ls hl => ?_)
                            refine lv_goto (tgt := 30) hx hb dX9_count_142 (by decide) ?_
                            exact ih30 (n_ + 0) (zj + 1) fa72 fd73 fn74 (j + 1) (by omega) (by simp only [cnM]; first | (exfalso; omega) | (rw [if_pos (by omega)]; omega) | (rw [if_neg (by omega)]; omega)) (by omega) H locs ls (hP.sub [1, 2, 3, 4, 5, 6, 7, 8, 9, 0] rfl) (hD.sub [1, 2, 3, 4, 5, 6, 7, 8, 9, 0] (by decide) rfl) hS (lv_sub hl [0, 1, 3, 4, 5] rfl)
              · refine lv_iconst (v := iI (1)) hx hb dX9_count_81 rfl ?_
                refine lv_goto (tgt := 86) hx hb dX9_count_82 (by decide) ?_
                refine lv_istore (lv' := [(5, .int (iI 1)), (4, .int (iI zj)), (3, .int (iI n_)), (0, .ref hm), (1, .int (iI x)), (2, .int (iI what))]) hx hb dX9_count_86 hl (by decide) rfl (fun ls hl => ?_)
                refine lv_iload_n hx hb dX9_count_88 rfl (lv_at hl 2 rfl) ?_
                refine lv_iload_n hx hb dX9_count_89 rfl (lv_at hl 5 rfl) ?_
                refine iv_if_eq (tgt := 132) hx hb dX9_count_90 (by decide) (by omega) (fun hc78 => ?_) (fun hc78 => ?_)
                · refine lv_iconst (v := iI (1)) hx hb dX9_count_132 rfl ?_
                  refine lv_goto (tgt := 137) hx hb dX9_count_133 (by decide) ?_
                  refine iv_iadd hx hb dX9_count_137 ?_
                  refine lv_istore_n (lv' := [(3, .int (iI (n_ + 1))), (5, .int (iI 1)), (4, .int (iI zj)), (0, .ref hm), (1, .int (iI x)), (2, .int (iI what))]) hx hb dX9_count_138 rfl hl (by decide) rfl (fun ls hl => ?_)
                  refine iv_iinc (k := 2) (x := zj) (lv' := [(4, .int (iI (zj + 1))), (3, .int (iI (n_ + 1))), (5, .int (iI 1)), (0, .ref hm), (1, .int (iI x)), (2, .int (iI what))]) hx hb dX9_count_139 hl rfl (by decide) rfl (fun ls hl => ?_)
                  refine lv_goto (tgt := 30) hx hb dX9_count_142 (by decide) ?_
                  exact ih30 (n_ + 1) (zj + 1) g1 g2 g3 (j + 1) (by omega) (by simp only [cnM]; first | (exfalso; omega) | (rw [if_pos (by omega)]; omega) | (rw [if_neg (by omega)]; omega)) (by omega) H locs ls (hP.sub [0, 1, 2, 3, 4, 5, 6, 7, 8, 9] rfl) (hD.sub [0, 1, 2, 3, 4, 5, 6, 7, 8, 9] (by decide) rfl) hS (lv_sub hl [0, 1, 3, 4, 5] rfl)
                · refine lv_iload_n hx hb dX9_count_93 rfl (lv_at hl 5 rfl) ?_
                  refine lv_iconst (v := iI (1)) hx hb dX9_count_94 rfl ?_
                  refine iv_icmp_ne (tgt := 108) hx hb dX9_count_95 (by decide) (by omega) (fun hc79 => ?_) (fun hc79 => ?_)
                  · refine lv_iload_n hx hb dX9_count_108 rfl (lv_at hl 5 rfl) ?_
                    refine lv_iconst (v := iI (2)) hx hb dX9_count_109 rfl ?_
                    refine iv_icmp_ne (tgt := 118) hx hb dX9_count_110 (by decide) (by omega) (fun hc80 => ?_) (fun hc80 => ?_)
                    · refine lv_iload_n hx hb dX9_count_118 rfl (lv_at hl 5 rfl) ?_
                      refine lv_iconst (v := iI (3)) hx hb dX9_count_119 rfl ?_
                      refine iv_icmp_ne (tgt := 136) hx hb dX9_count_120 (by decide) (by omega) (fun hc81 => ?_) (fun hc81 => ?_)
                      · refine lv_iconst (v := iI (0)) hx hb dX9_count_136 rfl ?_
                        refine iv_iadd hx hb dX9_count_137 ?_
                        refine lv_istore_n (lv' := [(3, .int (iI (n_ + 0))), (5, .int (iI 1)), (4, .int (iI zj)), (0, .ref hm), (1, .int (iI x)), (2, .int (iI what))]) hx hb dX9_count_138 rfl hl (by decide) rfl (fun ls hl => ?_)
                        refine iv_iinc (k := 2) (x := zj) (lv' := [(4, .int (iI (zj + 1))), (3, .int (iI (n_ + 0))), (5, .int (iI 1)), (0, .ref hm), (1, .int (iI x)), (2, .int (iI what))]) hx hb dX9_count_139 hl rfl (by decide) rfl (fun ls hl => ?_)
                        refine lv_goto (tgt := 30) hx hb dX9_count_142 (by decide) ?_
                        exact ih30 (n_ + 0) (zj + 1) g1 g2 g3 (j + 1) (by omega) (by simp only [cnM]; first | (exfalso; omega) | (rw [if_pos (by omega)]; omega) | (rw [if_neg (by omega)]; omega)) (by omega) H locs ls (hP.sub [0, 1, 2, 3, 4, 5, 6, 7, 8, 9] rfl) (hD.sub [0, 1, 2, 3, 4, 5, 6, 7, 8, 9] (by decide) rfl) hS (lv_sub hl [0, 1, 3, 4, 5] rfl)
                      · refine lv_aload_n hx hb dX9_count_123 rfl (lv_at hl 3 rfl) ?_
                        refine lv_iload hx hb dX9_count_124 (lv_at hl 1 rfl) ?_
                        refine Ct.callV (ci := 9) (q0 := 9) (qc := (RX9, TX9, 37)) (As := [.int (iI zj)]) (rest := [.int (iI n_)]) (wr := []) (c1 := 0) (s1 := 0) ⟨hx, hb, hml, hown, hts⟩ (c_X9_isStrange l g hm a i qm qu ql qg qa g1 g2 g3 kw zj (40 * x.toNat + j) (by omega) (hqj) (hk_)) rfl rfl (cwV 1 hts gX9_count_X9_isStrange rfl rfl rfl (by decide +kernel) ⟨Nat.le_of_ble_eq_true rfl, Nat.le_of_ble_eq_true rfl⟩) hG hP hD hS hA [9, 0, 1, 2, 3, 4, 5, 6, 7, 8] [] rfl rfl (by decide) (by decide) (by decide) rfl hl.1 rfl (Nat.le_of_ble_eq_true rfl) dX9_count_126 ⟨Nat.le_of_ble_eq_true rfl, Nat.le_of_ble_eq_true rfl⟩ rfl rfl (fun v w H locs hv hP hD hS => ?_)
                        obtain ⟨fa82, fd83, fn84, ⟨rfl, hb85⟩ | ⟨rfl, hb85⟩, rfl⟩ := hv
                        · show W p l e _ s m _ below meth c H locs 0 0 _ (F0 m 129 ls (.int (iI 1) :: [.int (iI n_)]))
                          have hb85 : qa (40 * x.toNat + j) = 0 ∧ anyH ((cqv qu ql qg) (40 * x.toNat + j)) 93 = 0 := hb85
                          have hP : va_P g.1 vwCl [(hm, .inr (9, mF a i)), ((a 6), aI (g.2.1 0) 12 qm), ((a 7), aI (g.2.1 0) 480 qu), ((a 8), aI (g.2.1 0) 480 ql), ((a 9), aI (g.2.1 0) 480 qg), ((a 10), aI (g.2.1 1) 480 qa), ((a 1), aI (g.2.1 0) 3 fa82), ((a 2), aI (g.2.1 0) 3 fd83), ((a 3), aI (g.2.1 0) 3 fn84), ((a 0), aI (g.2.1 0) 93 kw)] H := hP
                          have hD : va_D A [(hm, .inr (9, mF a i)), ((a 6), aI (g.2.1 0) 12 qm), ((a 7), aI (g.2.1 0) 480 qu), ((a 8), aI (g.2.1 0) 480 ql), ((a 9), aI (g.2.1 0) 480 qg), ((a 10), aI (g.2.1 1) 480 qa), ((a 1), aI (g.2.1 0) 3 fa82), ((a 2), aI (g.2.1 0) 3 fd83), ((a 3), aI (g.2.1 0) 3 fn84), ((a 0), aI (g.2.1 0) 93 kw)] := hD
                          refine iv_if_eq (tgt := 136) hx hb dX9_count_129 (by decide) (by decide) (fun h => absurd h (by decide)) (fun _ => ?_)
                          refine lv_iconst (v := iI (1)) hx hb dX9_count_132 rfl ?_
                          refine lv_goto (tgt := 137) hx hb dX9_count_133 (by decide) ?_
                          refine iv_iadd hx hb dX9_count_137 ?_
                          refine lv_istore_n (lv' := [(3, .int (iI (n_ + 1))), (5, .int (iI 1)), (4, .int (iI zj)), (0, .ref hm), (1, .int (iI x)), (2, .int (iI what))]) hx hb dX9_count_138 rfl hl (by decide) rfl (fun ls hl => ?_)
                          refine iv_iinc (k := 2) (x := zj) (lv' := [(4, .int (iI (zj + 1))), (3, .int (iI (n_ + 1))), (5, .int (iI 1)), (0, .ref hm), (1, .int (iI x)), (2, .int (iI what))]) hx hb dX9_count_139 hl rfl (by decide) rfl (fun ls hl => ?_)
                          refine lv_goto (tgt := 30) hx hb dX9_count_142 (by decide) ?_
                          exact ih30 (n_ + 1) (zj + 1) fa82 fd83 fn84 (j + 1) (by omega) (by simp only [cnM]; first | (exfalso; omega) | (rw [if_pos (by omega)]; omega) | (rw [if_neg (by omega)]; omega)) (by omega) H locs ls (hP.sub [1, 2, 3, 4, 5, 6, 7, 8, 9, 0] rfl) (hD.sub [1, 2, 3, 4, 5, 6, 7, 8, 9, 0] (by decide) rfl) hS (lv_sub hl [0, 1, 3, 4, 5] rfl)
                        · show W p l e _ s m _ below meth c H locs 0 0 _ (F0 m 129 ls (.int (iI 0) :: [.int (iI n_)]))
                          have hb85 : ¬ (qa (40 * x.toNat + j) = 0 ∧ anyH ((cqv qu ql qg) (40 * x.toNat + j)) 93 = 0) := hb85
                          have hP : va_P g.1 vwCl [(hm, .inr (9, mF a i)), ((a 6), aI (g.2.1 0) 12 qm), ((a 7), aI (g.2.1 0) 480 qu), ((a 8), aI (g.2.1 0) 480 ql), ((a 9), aI (g.2.1 0) 480 qg), ((a 10), aI (g.2.1 1) 480 qa), ((a 1), aI (g.2.1 0) 3 fa82), ((a 2), aI (g.2.1 0) 3 fd83), ((a 3), aI (g.2.1 0) 3 fn84), ((a 0), aI (g.2.1 0) 93 kw)] H := hP
                          have hD : va_D A [(hm, .inr (9, mF a i)), ((a 6), aI (g.2.1 0) 12 qm), ((a 7), aI (g.2.1 0) 480 qu), ((a 8), aI (g.2.1 0) 480 ql), ((a 9), aI (g.2.1 0) 480 qg), ((a 10), aI (g.2.1 1) 480 qa), ((a 1), aI (g.2.1 0) 3 fa82), ((a 2), aI (g.2.1 0) 3 fd83), ((a 3), aI (g.2.1 0) 3 fn84), ((a 0), aI (g.2.1 0) 93 kw)] := hD
                          refine iv_if_eq (tgt := 136) hx hb dX9_count_129 (by decide) (by decide) (fun _ => ?_) (fun h => absurd h (by decide))
                          refine lv_iconst (v := iI (0)) hx hb dX9_count_136 rfl ?_
                          refine iv_iadd hx hb dX9_count_137 ?_
                          refine lv_istore_n (lv' := [(3, .int (iI (n_ + 0))), (5, .int (iI 1)), (4, .int (iI zj)), (0, .ref hm), (1, .int (iI x)), (2, .int (iI what))]) hx hb dX9_count_138 rfl hl (by decide) rfl (fun ls hl => ?_)
                          refine iv_iinc (k := 2) (x := zj) (lv' := [(4, .int (iI (zj + 1))), (3, .int (iI (n_ + 0))), (5, .int (iI 1)), (0, .ref hm), (1, .int (iI x)), (2, .int (iI what))]) hx hb dX9_count_139 hl rfl (by decide) rfl (fun ls hl => ?_)
                          refine lv_goto (tgt := 30) hx hb dX9_count_142 (by decide) ?_
                          exact ih30 (n_ + 0) (zj + 1) fa82 fd83 fn84 (j + 1) (by omega) (by simp only [cnM]; first | (exfalso; omega) | (rw [if_pos (by omega)]; omega) | (rw [if_neg (by omega)]; omega)) (by omega) H locs ls (hP.sub [1, 2, 3, 4, 5, 6, 7, 8, 9, 0] rfl) (hD.sub [1, 2, 3, 4, 5, 6, 7, 8, 9, 0] (by decide) rfl) hS (lv_sub hl [0, 1, 3, 4, 5] rfl)
                    · refine lv_iload hx hb dX9_count_113 (lv_at hl 0 rfl) ?_
                      refine iv_if_ne (tgt := 132) hx hb dX9_count_115 (by decide) (by decide) (fun _ => ?_) (fun h => absurd h (by decide))
                      refine lv_iconst (v := iI (1)) hx hb dX9_count_132 rfl ?_
                      refine lv_goto (tgt := 137) hx hb dX9_count_133 (by decide) ?_
                      refine iv_iadd hx hb dX9_count_137 ?_
                      refine lv_istore_n (lv' := [(3, .int (iI (n_ + 1))), (5, .int (iI 1)), (4, .int (iI zj)), (0, .ref hm), (1, .int (iI x)), (2, .int (iI what))]) hx hb dX9_count_138 rfl hl (by decide) rfl (fun ls hl => ?_)
                      refine iv_iinc (k := 2) (x := zj) (lv' := [(4, .int (iI (zj + 1))), (3, .int (iI (n_ + 1))), (5, .int (iI 1)), (0, .ref hm), (1, .int (iI x)), (2, .int (iI what))]) hx hb dX9_count_139 hl rfl (by decide) rfl (fun ls hl => ?_)
                      refine lv_goto (tgt := 30) hx hb dX9_count_142 (by decide) ?_
                      exact ih30 (n_ + 1) (zj + 1) g1 g2 g3 (j + 1) (by omega) (by simp only [cnM]; first | (exfalso; omega) | (rw [if_pos (by omega)]; omega) | (rw [if_neg (by omega)]; omega)) (by omega) H locs ls (hP.sub [0, 1, 2, 3, 4, 5, 6, 7, 8, 9] rfl) (hD.sub [0, 1, 2, 3, 4, 5, 6, 7, 8, 9] (by decide) rfl) hS (lv_sub hl [0, 1, 3, 4, 5] rfl)
                  · refine lv_aload_n hx hb dX9_count_98 rfl (lv_at hl 3 rfl) ?_
                    refine va_get (D := g.1) (ci := 9) (v := .ref (a 10)) hx hb hts kX9_count_9 hown hG.1 hP 9 rfl rfl 10 (by decide) (hts _ (List.mem_of_getElem? (i := 3) rfl)) (fun _ h9 => h9) rfl dX9_count_99 ?_
                    refine lv_iload hx hb dX9_count_102 (lv_at hl 1 rfl) ?_
                    refine iv_zald hx hb hG hP 4 rfl (40 * x.toNat + j) (by omega) (by omega) (by decide) dX9_count_104 ?_
                    refine iv_if_ne (tgt := 132) hx hb dX9_count_105 (by decide) (by omega) (fun hc89 => ?_) (fun hc89 => ?_)
                    · refine lv_iconst (v := iI (1)) hx hb dX9_count_132 rfl ?_
                      refine lv_goto (tgt := 137) hx hb dX9_count_133 (by decide) ?_
                      refine iv_iadd hx hb dX9_count_137 ?_
                      refine lv_istore_n (lv' := [(3, .int (iI (n_ + 1))), (5, .int (iI 1)), (4, .int (iI zj)), (0, .ref hm), (1, .int (iI x)), (2, .int (iI what))]) hx hb dX9_count_138 rfl hl (by decide) rfl (fun ls hl => ?_)
                      refine iv_iinc (k := 2) (x := zj) (lv' := [(4, .int (iI (zj + 1))), (3, .int (iI (n_ + 1))), (5, .int (iI 1)), (0, .ref hm), (1, .int (iI x)), (2, .int (iI what))]) hx hb dX9_count_139 hl rfl (by decide) rfl (fun ls hl => ?_)
                      refine lv_goto (tgt := 30) hx hb dX9_count_142 (by decide) ?_
                      exact ih30 (n_ + 1) (zj + 1) g1 g2 g3 (j + 1) (by omega) (by simp only [cnM]; first | (exfalso; omega) | (rw [if_pos (by omega)]; omega) | (rw [if_neg (by omega)]; omega)) (by omega) H locs ls (hP.sub [0, 1, 2, 3, 4, 5, 6, 7, 8, 9] rfl) (hD.sub [0, 1, 2, 3, 4, 5, 6, 7, 8, 9] (by decide) rfl) hS (lv_sub hl [0, 1, 3, 4, 5] rfl)
                    · refine lv_iload_n hx hb dX9_count_108 rfl (lv_at hl 5 rfl) ?_
                      refine lv_iconst (v := iI (2)) hx hb dX9_count_109 rfl ?_
                      refine iv_icmp_ne (tgt := 118) hx hb dX9_count_110 (by decide) (by omega) (fun hc90 => ?_) (fun hc90 => ?_)
                      · refine lv_iload_n hx hb dX9_count_118 rfl (lv_at hl 5 rfl) ?_
                        refine lv_iconst (v := iI (3)) hx hb dX9_count_119 rfl ?_
                        refine iv_icmp_ne (tgt := 136) hx hb dX9_count_120 (by decide) (by omega) (fun hc91 => ?_) (fun hc91 => ?_)
                        · refine lv_iconst (v := iI (0)) hx hb dX9_count_136 rfl ?_
                          refine iv_iadd hx hb dX9_count_137 ?_
                          refine lv_istore_n (lv' := [(3, .int (iI (n_ + 0))), (5, .int (iI 1)), (4, .int (iI zj)), (0, .ref hm), (1, .int (iI x)), (2, .int (iI what))]) hx hb dX9_count_138 rfl hl (by decide) rfl (fun ls hl => ?_)
                          refine iv_iinc (k := 2) (x := zj) (lv' := [(4, .int (iI (zj + 1))), (3, .int (iI (n_ + 0))), (5, .int (iI 1)), (0, .ref hm), (1, .int (iI x)), (2, .int (iI what))]) hx hb dX9_count_139 hl rfl (by decide) rfl (fun ls hl => ?_)
                          refine lv_goto (tgt := 30) hx hb dX9_count_142 (by decide) ?_
                          exact ih30 (n_ + 0) (zj + 1) g1 g2 g3 (j + 1) (by omega) (by simp only [cnM]; first | (exfalso; omega) | (rw [if_pos (by omega)]; omega) | (rw [if_neg (by omega)]; omega)) (by omega) H locs ls (hP.sub [0, 1, 2, 3, 4, 5, 6, 7, 8, 9] rfl) (hD.sub [0, 1, 2, 3, 4, 5, 6, 7, 8, 9] (by decide) rfl) hS (lv_sub hl [0, 1, 3, 4, 5] rfl)
                        · refine lv_aload_n hx hb dX9_count_123 rfl (lv_at hl 3 rfl) ?_
                          refine lv_iload hx hb dX9_count_124 (lv_at hl 1 rfl) ?_
                          refine Ct.callV (ci := 9) (q0 := 9) (qc := (RX9, TX9, 37)) (As := [.int (iI zj)]) (rest := [.int (iI n_)]) (wr := []) (c1 := 0) (s1 := 0) ⟨hx, hb, hml, hown, hts⟩ (c_X9_isStrange l g hm a i qm qu ql qg qa g1 g2 g3 kw zj (40 * x.toNat + j) (by omega) (hqj) (hk_)) rfl rfl (cwV 1 hts gX9_count_X9_isStrange rfl rfl rfl (by decide +kernel) ⟨Nat.le_of_ble_eq_true rfl, Nat.le_of_ble_eq_true rfl⟩) hG hP hD hS hA [9, 0, 1, 2, 3, 4, 5, 6, 7, 8] [] rfl rfl (by decide) (by decide) (by decide) rfl hl.1 rfl (Nat.le_of_ble_eq_true rfl) dX9_count_126 ⟨Nat.le_of_ble_eq_true rfl, Nat.le_of_ble_eq_true rfl⟩ rfl rfl (fun v w H locs hv hP hD hS => ?_)
                          obtain ⟨fa92, fd93, fn94, ⟨rfl, hb95⟩ | ⟨rfl, hb95⟩, rfl⟩ := hv
                          · show W p l e _ s m _ below meth c H locs 0 0 _ (F0 m 129 ls (.int (iI 1) :: [.int (iI n_)]))
                            have hb95 : qa (40 * x.toNat + j) = 0 ∧ anyH ((cqv qu ql qg) (40 * x.toNat + j)) 93 = 0 := hb95
                            have hP : va_P g.1 vwCl [(hm, .inr (9, mF a i)), ((a 6), aI (g.2.1 0) 12 qm), ((a 7), aI (g.2.1 0) 480 qu), ((a 8), aI (g.2.1 0) 480 ql), ((a 9), aI (g.2.1 0) 480 qg), ((a 10), aI (g.2.1 1) 480 qa), ((a 1), aI (g.2.1 0) 3 fa92), ((a 2), aI (g.2.1 0) 3 fd93), ((a 3), aI (g.2.1 0) 3 fn94), ((a 0), aI (g.2.1 0) 93 kw)] H := hP
                            have hD : va_D A [(hm, .inr (9, mF a i)), ((a 6), aI (g.2.1 0) 12 qm), ((a 7), aI (g.2.1 0) 480 qu), ((a 8), aI (g.2.1 0) 480 ql), ((a 9), aI (g.2.1 0) 480 qg), ((a 10), aI (g.2.1 1) 480 qa), ((a 1), aI (g.2.1 0) 3 fa92), ((a 2), aI (g.2.1 0) 3 fd93), ((a 3), aI (g.2.1 0) 3 fn94), ((a 0), aI (g.2.1 0) 93 kw)] := hD
                            refine iv_if_eq (tgt := 136) hx hb dX9_count_129 (by decide) (by decide) (fun h => absurd h (by decide)) (fun _ => ?_)
                            refine lv_iconst (v := iI (1)) hx hb dX9_count_132 rfl ?_
                            refine lv_goto (tgt := 137) hx hb dX9_count_133 (by decide) ?_
                            refine iv_iadd hx hb dX9_count_137 ?_
                            refine lv_istore_n (lv' := [(3, .int (iI (n_ + 1))), (5, .int (iI 1)), (4, .int (iI zj)), (0, .ref hm), (1, .int (iI x)), (2, .int (iI what))]) hx hb dX9_count_138 rfl hl (by decide) rfl (fun ls hl => ?_)
                            refine iv_iinc (k := 2) (x := zj) (lv' := [(4, .int (iI (zj + 1))), (3, .int (iI (n_ + 1))), (5, .int (iI 1)), (0, .ref hm), (1, .int (iI x)), (2, .int (iI what))]) hx hb dX9_count_139 hl rfl (by decide) rfl (fun ls hl => ?_)
                            refine lv_goto (tgt := 30) hx hb dX9_count_142 (by decide) ?_
                            exact ih30 (n_ + 1) (zj + 1) fa92 fd93 fn94 (j + 1) (by omega) (by simp only [cnM]; first | (exfalso; omega) | (rw [if_pos (by omega)]; omega) | (rw [if_neg (by omega)]; omega)) (by omega) H locs ls (hP.sub [1, 2, 3, 4, 5, 6, 7, 8, 9, 0] rfl) (hD.sub [1, 2, 3, 4, 5, 6, 7, 8, 9, 0] (by decide) rfl) hS (lv_sub hl [0, 1, 3, 4, 5] rfl)
                          · show W p l e _ s m _ below meth c H locs 0 0 _ (F0 m 129 ls (.int (iI 0) :: [.int (iI n_)]))
                            have hb95 : ¬ (qa (40 * x.toNat + j) = 0 ∧ anyH ((cqv qu ql qg) (40 * x.toNat + j)) 93 = 0) := hb95
                            have hP : va_P g.1 vwCl [(hm, .inr (9, mF a i)), ((a 6), aI (g.2.1 0) 12 qm), ((a 7), aI (g.2.1 0) 480 qu), ((a 8), aI (g.2.1 0) 480 ql), ((a 9), aI (g.2.1 0) 480 qg), ((a 10), aI (g.2.1 1) 480 qa), ((a 1), aI (g.2.1 0) 3 fa92), ((a 2), aI (g.2.1 0) 3 fd93), ((a 3), aI (g.2.1 0) 3 fn94), ((a 0), aI (g.2.1 0) 93 kw)] H := hP
                            have hD : va_D A [(hm, .inr (9, mF a i)), ((a 6), aI (g.2.1 0) 12 qm), ((a 7), aI (g.2.1 0) 480 qu), ((a 8), aI (g.2.1 0) 480 ql), ((a 9), aI (g.2.1 0) 480 qg), ((a 10), aI (g.2.1 1) 480 qa), ((a 1), aI (g.2.1 0) 3 fa92), ((a 2), aI (g.2.1 0) 3 fd93), ((a 3), aI (g.2.1 0) 3 fn94), ((a 0), aI (g.2.1 0) 93 kw)] := hD
                            refine iv_if_eq (tgt := 136) hx hb dX9_count_129 (by decide) (by decide) (fun _ => ?_) (fun h => absurd h (by decide))
                            refine lv_iconst (v := iI (0)) hx hb dX9_count_136 rfl ?_
                            refine iv_iadd hx hb dX9_count_137 ?_
                            refine lv_istore_n (lv' := [(3, .int (iI (n_ + 0))), (5, .int (iI 1)), (4, .int (iI zj)), (0, .ref hm), (1, .int (iI x)), (2, .int (iI what))]) hx hb dX9_count_138 rfl hl (by decide) rfl (fun ls hl => ?_)
                            refine iv_iinc (k := 2) (x := zj) (lv' := [(4, .int (iI (zj + 1))), (3, .int (iI (n_ + 0))), (5, .int (iI 1)), (0, .ref hm), (1, .int (iI x)), (2, .int (iI what))]) hx hb dX9_count_139 hl rfl (by decide) rfl (fun ls hl => ?_)
                            refine lv_goto (tgt := 30) hx hb dX9_count_142 (by decide) ?_
                            exact ih30 (n_ + 0) (zj + 1) fa92 fd93 fn94 (j + 1) (by omega) (by simp only [cnM]; first | (exfalso; omega) | (rw [if_pos (by omega)]; omega) | (rw [if_neg (by omega)]; omega)) (by omega) H locs ls (hP.sub [1, 2, 3, 4, 5, 6, 7, 8, 9, 0] rfl) (hD.sub [1, 2, 3, 4, 5, 6, 7, 8, 9, 0] (by decide) rfl) hS (lv_sub hl [0, 1, 3, 4, 5] rfl)
                      · refine lv_iload hx hb dX9_count_113 (lv_at hl 0 rfl) ?_
                        refine iv_if_ne (tgt := 132) hx hb dX9_count_115 (by decide) (by decide) (fun _ => ?_) (fun h => absurd h (by decide))
                        refine lv_iconst (v := iI (1)) hx hb dX9_count_132 rfl ?_
                        refine lv_goto (tgt := 137) hx hb dX9_count_133 (by decide) ?_
                        refine iv_iadd hx hb dX9_count_137 ?_
                        refine lv_istore_n (lv' := [(3, .int (iI (n_ + 1))), (5, .int (iI 1)), (4, .int (iI zj)), (0, .ref hm), (1, .int (iI x)), (2, .int (iI what))]) hx hb dX9_count_138 rfl hl (by decide) rfl (fun ls hl => ?_)
                        refine iv_iinc (k := 2) (x := zj) (lv' := [(4, .int (iI (zj + 1))), (3, .int (iI (n_ + 1))), (5, .int (iI 1)), (0, .ref hm), (1, .int (iI x)), (2, .int (iI what))]) hx hb dX9_count_139 hl rfl (by decide) rfl (fun ls hl => ?_)
                        refine lv_goto (tgt := 30) hx hb dX9_count_142 (by decide) ?_
                        exact ih30 (n_ + 1) (zj + 1) g1 g2 g3 (j + 1) (by omega) (by simp only [cnM]; first | (exfalso; omega) | (rw [if_pos (by omega)]; omega) | (rw [if_neg (by omega)]; omega)) (by omega) H locs ls (hP.sub [0, 1, 2, 3, 4, 5, 6, 7, 8, 9] rfl) (hD.sub [0, 1, 2, 3, 4, 5, 6, 7, 8, 9] (by decide) rfl) hS (lv_sub hl [0, 1, 3, 4, 5] rfl)
      exact hloop30 _ 0 (40 * x) fa fd fn 0 (by omega) (rfl) (Nat.lt_succ_self _) H locs ls (hP.sub [0, 1, 2, 3, 4, 5, 6, 7, 8, 9] rfl) (hD.sub [0, 1, 2, 3, 4, 5, 6, 7, 8, 9] (by decide) rfl) hS (lv_sub hl [0, 1, 2, 3, 4] rfl)
    · show W p l e _ s m _ below meth c H locs 0 0 _ (F0 m 17 ls (.int (iI 0) :: []))
      have hb3 : ¬ (0 ≤ what ∧ what ≤ 3) := hb3
      have hP : va_P g.1 vwCl [((a 6), aI (g.2.1 0) 12 qm), ((a 7), aI (g.2.1 0) 480 qu), ((a 8), aI (g.2.1 0) 480 ql), ((a 9), aI (g.2.1 0) 480 qg), ((a 10), aI (g.2.1 1) 480 qa), ((a 1), aI (g.2.1 0) 3 fa), ((a 2), aI (g.2.1 0) 3 fd), ((a 3), aI (g.2.1 0) 3 fn), ((a 0), aI (g.2.1 0) 93 kw), (hm, .inr (9, mF a i))] H := hP
      have hD : va_D A [((a 6), aI (g.2.1 0) 12 qm), ((a 7), aI (g.2.1 0) 480 qu), ((a 8), aI (g.2.1 0) 480 ql), ((a 9), aI (g.2.1 0) 480 qg), ((a 10), aI (g.2.1 1) 480 qa), ((a 1), aI (g.2.1 0) 3 fa), ((a 2), aI (g.2.1 0) 3 fd), ((a 3), aI (g.2.1 0) 3 fn), ((a 0), aI (g.2.1 0) 93 kw), (hm, .inr (9, mF a i))] := hD
      refine iv_if_ne (tgt := 22) hx hb dX9_count_17 (by decide) (by decide) (fun h => absurd h (by decide)) (fun _ => ?_)
      refine lv_iconst (v := iI (-1)) hx hb dX9_count_20 rfl ?_
      exact Ct.iret hx hb hr hlocks (hP.sub [9, 0, 1, 2, 3, 4, 5, 6, 7, 8] rfl) (hD.sub [9, 0, 1, 2, 3, 4, 5, 6, 7, 8] (by decide) rfl) hS ⟨by decide, by decide⟩ dX9_count_21 ⟨(-1), fa, fd, fn, rfl, rfl, (by rw [if_pos (by omega)])⟩
  · show W p l e _ s m _ below meth c H locs 0 0 _ (F0 m 5 ls (.int (iI 0) :: []))
    have hb1 : ¬ (0 ≤ x ∧ x < i 5) := hb1
    have hP : va_P g.1 vwCl [((a 6), aI (g.2.1 0) 12 qm), ((a 7), aI (g.2.1 0) 480 qu), ((a 8), aI (g.2.1 0) 480 ql), ((a 9), aI (g.2.1 0) 480 qg), ((a 10), aI (g.2.1 1) 480 qa), ((a 1), aI (g.2.1 0) 3 fa), ((a 2), aI (g.2.1 0) 3 fd), ((a 3), aI (g.2.1 0) 3 fn), ((a 0), aI (g.2.1 0) 93 kw), (hm, .inr (9, mF a i))] H := hP
    have hD : va_D A [((a 6), aI (g.2.1 0) 12 qm), ((a 7), aI (g.2.1 0) 480 qu), ((a 8), aI (g.2.1 0) 480 ql), ((a 9), aI (g.2.1 0) 480 qg), ((a 10), aI (g.2.1 1) 480 qa), ((a 1), aI (g.2.1 0) 3 fa), ((a 2), aI (g.2.1 0) 3 fd), ((a 3), aI (g.2.1 0) 3 fn), ((a 0), aI (g.2.1 0) 93 kw), (hm, .inr (9, mF a i))] := hD
    refine iv_if_eq (tgt := 20) hx hb dX9_count_5 (by decide) (by decide) (fun _ => ?_) (fun h => absurd h (by decide))
    refine lv_iconst (v := iI (-1)) hx hb dX9_count_20 rfl ?_
    exact Ct.iret hx hb hr hlocks (hP.sub [9, 0, 1, 2, 3, 4, 5, 6, 7, 8] rfl) (hD.sub [9, 0, 1, 2, 3, 4, 5, 6, 7, 8] (by decide) rfl) hS ⟨by decide, by decide⟩ dX9_count_21 ⟨(-1), fa, fd, fn, rfl, rfl, (by rw [if_pos (by omega)])⟩
