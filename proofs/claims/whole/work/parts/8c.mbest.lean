theorem kX9_bestOf_9 : ∀ w ∈ u_ws RX9 TX9 37, w ∈ wsX9_bestOf := fun _ h => List.mem_cons_of_mem _ (List.mem_append_right _ h)
abbrev q_X9_bestOf (g : GT) (hm : Nat) (a : Nat → Nat) (i : Nat → Int) (qm : Nat → Int) (qu : Nat → Int) (ql : Nat → Int) (qg : Nat → Int) (qa : Nat → Int) (fa : Nat → Int) (fd : Nat → Int) (fn : Nat → Int) (qt : Nat → Int) (kw : Nat → Int) (x : Int) (k : Nat) (M : Nat) : Option Value → va_W → Prop := fun v w => ∃ (r : Int), ∃ (i' : Nat → Int), ∃ (fa' : Nat → Int), ∃ (fd' : Nat → Int), ∃ (fn' : Nat → Int), v = some (.int (iI r)) ∧ w = [(hm, .inr (9, mF a i')), ((a 6), aI (g.2.1 0) 12 qm), ((a 7), aI (g.2.1 0) 480 qu), ((a 8), aI (g.2.1 0) 480 ql), ((a 9), aI (g.2.1 0) 480 qg), ((a 10), aI (g.2.1 1) 480 qa), ((a 1), aI (g.2.1 0) 3 fa'), ((a 2), aI (g.2.1 0) 3 fd'), ((a 3), aI (g.2.1 0) 3 fn'), ((a 11), aI (g.2.1 0) 5 qt), ((a 0), aI (g.2.1 0) 93 kw)] ∧ (r = (bsV kw (fun p => mpR qu ql qg qa (40 * k) qt M (kw p)) 92 1 (kw 0, (fun p => mpR qu ql qg qa (40 * k) qt M (kw p)) 0, -100000)).1) ∧ (i' = va_up i 12 ((bsV kw (fun p => mpR qu ql qg qa (40 * k) qt M (kw p)) 92 1 (kw 0, (fun p => mpR qu ql qg qa (40 * k) qt M (kw p)) 0, -100000)).2.1 - (bsV kw (fun p => mpR qu ql qg qa (40 * k) qt M (kw p)) 92 1 (kw 0, (fun p => mpR qu ql qg qa (40 * k) qt M (kw p)) 0, -100000)).2.2))
set_option maxHeartbeats 4000000 in
set_option maxRecDepth 100000 in
theorem c_X9_bestOf (l : Launch) (g : GT) (hm : Nat) (a : Nat → Nat) (i : Nat → Int) (qm : Nat → Int) (qu : Nat → Int) (ql : Nat → Int) (qg : Nat → Int) (qa : Nat → Int) (fa : Nat → Int) (fd : Nat → Int) (fn : Nat → Int) (qt : Nat → Int) (kw : Nat → Int) (x : Int) (k : Nat) (M : Nat) (h1 : x = (k : Int) ∧ (k : Int) < i 5 ∧ i 5 ≤ 12 ∧ qm k = (M : Int) ∧ M ≤ 40) (ha_ : ∀ k, k < 480 → vdP qm (i 5) k → AnOK qu ql qg qa k) (ht_ : ∀ j, j < 3 → 0 ≤ qt j ∧ qt j ≤ 99) (hk_ : ∀ p, p < 93 → kw p = oT p) : Ct l g yX9_bestOf wsX9_bestOf ({ frames := 3, cells := 0, slots := 0, locals := 76 } : Room) [.ref hm, .int (iI x)] [(hm, .inr (9, mF a i)), ((a 6), aI (g.2.1 0) 12 qm), ((a 7), aI (g.2.1 0) 480 qu), ((a 8), aI (g.2.1 0) 480 ql), ((a 9), aI (g.2.1 0) 480 qg), ((a 10), aI (g.2.1 1) 480 qa), ((a 1), aI (g.2.1 0) 3 fa), ((a 2), aI (g.2.1 0) 3 fd), ((a 3), aI (g.2.1 0) 3 fn), ((a 11), aI (g.2.1 0) 5 qt), ((a 0), aI (g.2.1 0) 93 kw)] (q_X9_bestOf g hm a i qm qu ql qg qa fa fd fn qt kw x k M) := by
  refine Ct.intro (maxL := 8) (ret := (some .int)) (by decide) rfl (Nat.le_of_ble_eq_true rfl) ?_
  intro p e s m below meth c A ls hx hb hr hml hown hts hlocks hnm hA hG hP hD hS hl
  have hown : s.vm.findClass RX9 = some m.cls := hown
  have hl : lv_has ls 8 [(0, .ref hm), (1, .int (iI x))] := hl
  have hP : va_P g.1 vwCl [(hm, .inr (9, mF a i)), ((a 6), aI (g.2.1 0) 12 qm), ((a 7), aI (g.2.1 0) 480 qu), ((a 8), aI (g.2.1 0) 480 ql), ((a 9), aI (g.2.1 0) 480 qg), ((a 10), aI (g.2.1 1) 480 qa), ((a 1), aI (g.2.1 0) 3 fa), ((a 2), aI (g.2.1 0) 3 fd), ((a 3), aI (g.2.1 0) 3 fn), ((a 11), aI (g.2.1 0) 5 qt), ((a 0), aI (g.2.1 0) 93 kw)] s.heap := hP
  have hS : va_S A s.heap s.heap [] := hS
  obtain ⟨H, hHe⟩ : ∃ H : Heap, H = s.heap := ⟨_, rfl⟩
  obtain ⟨locs, hLe⟩ : ∃ L : List Loc, L = [] := ⟨_, rfl⟩
  have hP : va_P g.1 vwCl [(hm, .inr (9, mF a i)), ((a 6), aI (g.2.1 0) 12 qm), ((a 7), aI (g.2.1 0) 480 qu), ((a 8), aI (g.2.1 0) 480 ql), ((a 9), aI (g.2.1 0) 480 qg), ((a 10), aI (g.2.1 1) 480 qa), ((a 1), aI (g.2.1 0) 3 fa), ((a 2), aI (g.2.1 0) 3 fd), ((a 3), aI (g.2.1 0) 3 fn), ((a 11), aI (g.2.1 0) 5 qt), ((a 0), aI (g.2.1 0) 93 kw)] H := by rw [hHe]; exact hP
  have hS : va_S A s.heap H locs := by rw [hHe, hLe]; exact hS
  suffices hgo : W p l e ({ frames := 3, cells := 0, slots := 0, locals := 76 } : Room) s m [.ref hm, .int (iI x)].toArray below meth c H locs 0 0 (MQ below (CQ g (q_X9_bestOf g hm a i qm qu ql qg qa fa fd fn qt kw x k M) A) [.ref hm, .int (iI x)].toArray s ({ frames := 3, cells := 0, slots := 0, locals := 76 } : Room).cells ({ frames := 3, cells := 0, slots := 0, locals := 76 } : Room).slots A) (F0 m 0 ls []) by rw [hHe, hLe] at hgo; exact hgo
  clear hHe hLe
  refine lv_iconst (v := iI (0)) hx hb dX9_bestOf_0 rfl ?_
  refine lv_istore_n (lv' := [(2, .int (iI 0)), (0, .ref hm), (1, .int (iI x))]) hx hb dX9_bestOf_1 rfl hl (by decide) rfl (fun ls hl => ?_)
  refine lv_iconst (v := iI (0)) hx hb dX9_bestOf_2 rfl ?_
  refine lv_istore_n (lv' := [(3, .int (iI 0)), (2, .int (iI 0)), (0, .ref hm), (1, .int (iI x))]) hx hb dX9_bestOf_3 rfl hl (by decide) rfl (fun ls hl => ?_)
  refine lv_iconst (v := iI (0)) hx hb dX9_bestOf_4 rfl ?_
  refine lv_istore (lv' := [(4, .int (iI 0)), (3, .int (iI 0)), (2, .int (iI 0)), (0, .ref hm), (1, .int (iI x))]) hx hb dX9_bestOf_5 hl (by decide) rfl (fun ls hl => ?_)
  refine lv_iconst (v := iI (0)) hx hb dX9_bestOf_7 rfl ?_
  refine lv_istore (lv' := [(5, .int (iI 0)), (4, .int (iI 0)), (3, .int (iI 0)), (2, .int (iI 0)), (0, .ref hm), (1, .int (iI x))]) hx hb dX9_bestOf_8 hl (by decide) rfl (fun ls hl => ?_)
  have hloop10 : ∀ (fuel : Nat) (bz : Int) (ms : Int) (nx : Int) (zk : Int) (g1 : Nat → Int) (g2 : Nat → Int) (g3 : Nat → Int) (k9 : Nat) (hc : zk = (k9 : Int) ∧ k9 ≤ 93 ∧ -6000 ≤ ms ∧ ms ≤ 6000 ∧ -100000 ≤ nx ∧ nx ≤ 6000 ∧ 0 ≤ bz ∧ bz ≤ 255) (hB : 1 ≤ k9 → bsV kw (fun p => mpR qu ql qg qa (40 * k) qt M (kw p)) (93 - k9) k9 (bz, ms, nx) = (bsV kw (fun p => mpR qu ql qg qa (40 * k) qt M (kw p)) 92 1 (kw 0, (fun p => mpR qu ql qg qa (40 * k) qt M (kw p)) 0, -100000))) (hmeas : 93 - k9 < fuel), ∀ (H : Heap) (locs : List Loc) (ls : Array Slot), va_P g.1 vwCl [(hm, .inr (9, mF a i)), ((a 6), aI (g.2.1 0) 12 qm), ((a 7), aI (g.2.1 0) 480 qu), ((a 8), aI (g.2.1 0) 480 ql), ((a 9), aI (g.2.1 0) 480 qg), ((a 10), aI (g.2.1 1) 480 qa), ((a 1), aI (g.2.1 0) 3 g1), ((a 2), aI (g.2.1 0) 3 g2), ((a 3), aI (g.2.1 0) 3 g3), ((a 11), aI (g.2.1 0) 5 qt), ((a 0), aI (g.2.1 0) 93 kw)] H → va_D A [(hm, .inr (9, mF a i)), ((a 6), aI (g.2.1 0) 12 qm), ((a 7), aI (g.2.1 0) 480 qu), ((a 8), aI (g.2.1 0) 480 ql), ((a 9), aI (g.2.1 0) 480 qg), ((a 10), aI (g.2.1 1) 480 qa), ((a 1), aI (g.2.1 0) 3 g1), ((a 2), aI (g.2.1 0) 3 g2), ((a 3), aI (g.2.1 0) 3 g3), ((a 11), aI (g.2.1 0) 5 qt), ((a 0), aI (g.2.1 0) 93 kw)] → va_S A s.heap H locs → lv_has ls 8 [(5, .int (iI zk)), (4, .int (iI nx)), (3, .int (iI ms)), (2, .int (iI bz)), (0, .ref hm), (1, .int (iI x))] → W p l e ({ frames := 3, cells := 0, slots := 0, locals := 76 } : Room) s m [.ref hm, .int (iI x)].toArray below meth c H locs 0 0 (MQ below (CQ g (q_X9_bestOf g hm a i qm qu ql qg qa fa fd fn qt kw x k M) A) [.ref hm, .int (iI x)].toArray s ({ frames := 3, cells := 0, slots := 0, locals := 76 } : Room).cells ({ frames := 3, cells := 0, slots := 0, locals := 76 } : Room).slots A) (F0 m 10 ls []) := by
    intro fuel
    induction fuel with
    | zero => intro bz ms nx zk g1 g2 g3 k9 hc hB hmeas; exact absurd hmeas (Nat.not_lt_zero _)
    | succ fuel ih10 =>
      intro bz ms nx zk g1 g2 g3 k9 hc hB hmeas H locs ls hP hD hS hl
      refine lv_iload hx hb dX9_bestOf_10 (lv_at hl 0 rfl) ?_
      refine lv_bipush (v := iI (93)) hx hb dX9_bestOf_12 (by decide) ?_
      refine iv_icmp_ge (tgt := 119) hx hb dX9_bestOf_14 (by decide) (by omega) (fun hc1 => ?_) (fun hc1 => ?_)
      · have hk93 : k9 = 93 := by omega
        have hE := hB (by omega)
        rw [hk93] at hE
        have hE : (bz, ms, nx) = (bsV kw (fun p => mpR qu ql qg qa (40 * k) qt M (kw p)) 92 1 (kw 0, (fun p => mpR qu ql qg qa (40 * k) qt M (kw p)) 0, -100000)) := hE
        refine lv_aload_n hx hb dX9_bestOf_119 rfl (lv_at hl 4 rfl) ?_
        refine lv_iload_n hx hb dX9_bestOf_120 rfl (lv_at hl 2 rfl) ?_
        refine lv_iload hx hb dX9_bestOf_121 (lv_at hl 1 rfl) ?_
        refine iv_isub hx hb dX9_bestOf_123 ?_
        refine va_put (D := g.1) (ci := 9) (v := .int (iI (ms - nx))) hx hb hts kX9_bestOf_9 tyX9 tyX9_ok nmX9 hown hG.1 hP hD hS 0 rfl rfl 12 (by decide) (hts _ (List.mem_of_getElem? (i := 3) rfl)) (fun _ h9 => h9) rfl (tyX9_ok 12 (by decide)) rfl rfl (Nat.le_of_ble_eq_true rfl) dX9_bestOf_124 (fun H locs hP hD hS => ?_)
        have hP : va_P g.1 vwCl [(hm, .inr (9, mF a (va_up i 12 (ms - nx)))), ((a 6), aI (g.2.1 0) 12 qm), ((a 7), aI (g.2.1 0) 480 qu), ((a 8), aI (g.2.1 0) 480 ql), ((a 9), aI (g.2.1 0) 480 qg), ((a 10), aI (g.2.1 1) 480 qa), ((a 1), aI (g.2.1 0) 3 g1), ((a 2), aI (g.2.1 0) 3 g2), ((a 3), aI (g.2.1 0) 3 g3), ((a 11), aI (g.2.1 0) 5 qt), ((a 0), aI (g.2.1 0) 93 kw)] H := hP
        have hD : va_D A [(hm, .inr (9, mF a (va_up i 12 (ms - nx)))), ((a 6), aI (g.2.1 0) 12 qm), ((a 7), aI (g.2.1 0) 480 qu), ((a 8), aI (g.2.1 0) 480 ql), ((a 9), aI (g.2.1 0) 480 qg), ((a 10), aI (g.2.1 1) 480 qa), ((a 1), aI (g.2.1 0) 3 g1), ((a 2), aI (g.2.1 0) 3 g2), ((a 3), aI (g.2.1 0) 3 g3), ((a 11), aI (g.2.1 0) 5 qt), ((a 0), aI (g.2.1 0) 93 kw)] := hD
        refine lv_iload_n hx hb dX9_bestOf_127 rfl (lv_at hl 3 rfl) ?_
        exact Ct.iret hx hb hr hlocks (hP.sub [0, 1, 2, 3, 4, 5, 6, 7, 8, 9, 10] rfl) (hD.sub [0, 1, 2, 3, 4, 5, 6, 7, 8, 9, 10] (by decide) rfl) hS ⟨by decide, by decide⟩ dX9_bestOf_128 ⟨bz, (va_up i 12 (ms - nx)), g1, g2, g3, rfl, rfl, (by rw [← hE]), (by rw [← hE])⟩
      · have hko := hk_ k9 (by omega)
        have hor := oT_rng k9 (by omega)
        have hpr := mpR_rng (qu := qu) (ql := ql) (qg := qg) (qa := qa) (B := 40 * k) (qt := qt) (M := M) (st := kw k9) ht_ (by omega)
        refine lv_aload_n hx hb dX9_bestOf_17 rfl (lv_at hl 4 rfl) ?_
        refine lv_iload_n hx hb dX9_bestOf_18 rfl (lv_at hl 5 rfl) ?_
        refine lv_aload_n hx hb dX9_bestOf_19 rfl (lv_at hl 4 rfl) ?_
        refine va_get (D := g.1) (ci := 9) (v := .ref (a 0)) hx hb hts kX9_bestOf_9 hown hG.1 hP 0 rfl rfl 0 (by decide) (hts _ (List.mem_of_getElem? (i := 1) rfl)) (fun _ h9 => h9) rfl dX9_bestOf_20 ?_
        refine lv_iload hx hb dX9_bestOf_23 (lv_at hl 0 rfl) ?_
        refine iv_iald hx hb hG hP 10 rfl k9 (by omega) (by omega) (by decide) dX9_bestOf_25 ?_
        refine Ct.callV (ci := 9) (q0 := 0) (qc := (RX9, TX9, 37)) (As := [.int (iI x), .int (iI (kw k9))]) (rest := []) (wr := [((a 0), aI (g.2.1 0) 93 kw)]) (c1 := 0) (s1 := 0) ⟨hx, hb, hml, hown, hts⟩ (c_X9_pointsOf l g hm a i qm qu ql qg qa g1 g2 g3 qt x (kw k9) k M (by omega) (ha_) (ht_)) rfl rfl (cwV 2 hts gX9_bestOf_X9_pointsOf rfl rfl rfl (by decide +kernel) ⟨Nat.le_of_ble_eq_true rfl, Nat.le_of_ble_eq_true rfl⟩) hG hP hD hS hA [0, 1, 2, 3, 4, 5, 6, 7, 8, 9] [10] rfl rfl (by decide) (by decide) (by decide) rfl hl.1 rfl (Nat.le_of_ble_eq_true rfl) dX9_bestOf_26 ⟨Nat.le_of_ble_eq_true rfl, Nat.le_of_ble_eq_true rfl⟩ rfl rfl (fun v w H locs hv hP hD hS => ?_)
        obtain ⟨r2, fa3, fd4, fn5, rfl, rfl, hf6⟩ := hv
        show W p l e _ s m _ below meth c H locs 0 0 _ (F0 m 29 ls (.int (iI r2) :: []))
        have hP : va_P g.1 vwCl [((a 0), aI (g.2.1 0) 93 kw), (hm, .inr (9, mF a i)), ((a 6), aI (g.2.1 0) 12 qm), ((a 7), aI (g.2.1 0) 480 qu), ((a 8), aI (g.2.1 0) 480 ql), ((a 9), aI (g.2.1 0) 480 qg), ((a 10), aI (g.2.1 1) 480 qa), ((a 1), aI (g.2.1 0) 3 fa3), ((a 2), aI (g.2.1 0) 3 fd4), ((a 3), aI (g.2.1 0) 3 fn5), ((a 11), aI (g.2.1 0) 5 qt)] H := hP
        have hD : va_D A [((a 0), aI (g.2.1 0) 93 kw), (hm, .inr (9, mF a i)), ((a 6), aI (g.2.1 0) 12 qm), ((a 7), aI (g.2.1 0) 480 qu), ((a 8), aI (g.2.1 0) 480 ql), ((a 9), aI (g.2.1 0) 480 qg), ((a 10), aI (g.2.1 1) 480 qa), ((a 1), aI (g.2.1 0) 3 fa3), ((a 2), aI (g.2.1 0) 3 fd4), ((a 3), aI (g.2.1 0) 3 fn5), ((a 11), aI (g.2.1 0) 5 qt)] := hD
        have hf6 : r2 = mpR qu ql qg qa (40 * k) qt M (kw k9) := hf6
        have hpk := hf6
        refine lv_istore (lv' := [(6, .int (iI r2)), (5, .int (iI zk)), (4, .int (iI nx)), (3, .int (iI ms)), (2, .int (iI bz)), (0, .ref hm), (1, .int (iI x))]) hx hb dX9_bestOf_29 hl (by decide) rfl (fun ls hl => ?_)
        refine lv_iload hx hb dX9_bestOf_31 (lv_at hl 1 rfl) ?_
        refine iv_if_eq (tgt := 42) hx hb dX9_bestOf_33 (by decide) (by omega) (fun hc7 => ?_) (fun hc7 => ?_)
        · refine lv_iconst (v := iI (1)) hx hb dX9_bestOf_42 rfl ?_
          refine lv_goto (tgt := 47) hx hb dX9_bestOf_43 (by decide) ?_
          refine lv_istore (lv' := [(7, .int (iI 1)), (6, .int (iI r2)), (5, .int (iI zk)), (4, .int (iI nx)), (3, .int (iI ms)), (2, .int (iI bz)), (0, .ref hm), (1, .int (iI x))]) hx hb dX9_bestOf_47 hl (by decide) rfl (fun ls hl => ?_)
          refine lv_iload hx hb dX9_bestOf_49 (lv_at hl 2 rfl) ?_
          refine iv_if_ne (tgt := 59) hx hb dX9_bestOf_51 (by decide) (by omega) (fun hc8 => ?_) (fun hc8 => ?_)
          · refine lv_iload hx hb dX9_bestOf_59 (lv_at hl 0 rfl) ?_
            refine iv_if_eq (tgt := 68) hx hb dX9_bestOf_61 (by decide) (by decide) (fun h => absurd h (by decide)) (fun _ => ?_)
            refine lv_iload_n hx hb dX9_bestOf_64 rfl (lv_at hl 4 rfl) ?_
            refine lv_goto (tgt := 82) hx hb dX9_bestOf_65 (by decide) ?_
            refine lv_istore (lv' := [(4, .int (iI ms)), (7, .int (iI 1)), (6, .int (iI r2)), (5, .int (iI zk)), (3, .int (iI ms)), (2, .int (iI bz)), (0, .ref hm), (1, .int (iI x))]) hx hb dX9_bestOf_82 hl (by decide) rfl (fun ls hl => ?_)
            refine lv_iload hx hb dX9_bestOf_84 (lv_at hl 1 rfl) ?_
            refine iv_if_eq (tgt := 99) hx hb dX9_bestOf_86 (by decide) (by decide) (fun h => absurd h (by decide)) (fun _ => ?_)
            refine lv_aload_n hx hb dX9_bestOf_89 rfl (lv_at hl 6 rfl) ?_
            refine va_get (D := g.1) (ci := 9) (v := .ref (a 0)) hx hb hts kX9_bestOf_9 hown hG.1 hP 1 rfl rfl 0 (by decide) (hts _ (List.mem_of_getElem? (i := 1) rfl)) (fun _ h9 => h9) rfl dX9_bestOf_90 ?_
            refine lv_iload hx hb dX9_bestOf_93 (lv_at hl 3 rfl) ?_
            refine iv_iald hx hb hG hP 0 rfl k9 (by omega) (by omega) (by decide) dX9_bestOf_95 ?_
            refine lv_goto (tgt := 100) hx hb dX9_bestOf_96 (by decide) ?_
            refine lv_istore_n (lv' := [(2, .int (iI (kw k9))), (4, .int (iI ms)), (7, .int (iI 1)), (6, .int (iI r2)), (5, .int (iI zk)), (3, .int (iI ms)), (0, .ref hm), (1, .int (iI x))]) hx hb dX9_bestOf_100 rfl hl (by decide) rfl (fun ls hl => ?_)
            refine lv_iload hx hb dX9_bestOf_101 (lv_at hl 2 rfl) ?_
            refine iv_if_eq (tgt := 111) hx hb dX9_bestOf_103 (by decide) (by decide) (fun h => absurd h (by decide)) (fun _ => ?_)
            refine lv_iload hx hb dX9_bestOf_106 (lv_at hl 3 rfl) ?_
            refine lv_goto (tgt := 112) hx hb dX9_bestOf_108 (by decide) ?_
            refine lv_istore_n (lv' := [(3, .int (iI r2)), (2, .int (iI (kw k9))), (4, .int (iI ms)), (7, .int (iI 1)), (6, .int (iI r2)), (5, .int (iI zk)), (0, .ref hm), (1, .int (iI x))]) hx hb dX9_bestOf_112 rfl hl (by decide) rfl (fun ls hl => ?_)
            refine iv_iinc (k := 5) (x := zk) (lv' := [(5, .int (iI (zk + 1))), (3, .int (iI r2)), (2, .int (iI (kw k9))), (4, .int (iI ms)), (7, .int (iI 1)), (6, .int (iI r2)), (0, .ref hm), (1, .int (iI x))]) hx hb dX9_bestOf_113 hl rfl (by decide) rfl (fun ls hl => ?_)
            refine lv_goto (tgt := 10) hx hb dX9_bestOf_116 (by decide) ?_
            exact ih10 (kw k9) r2 ms (zk + 1) fa3 fd4 fn5 (k9 + 1) (by omega) (fun _ => by have hk0 : (93 - k9) = (93 - (k9 + 1)) + 1 := (by omega); first | (exfalso; omega) | (have hz9 : k9 = 0 := (by omega); subst hz9; rw [hpk]) | (rw [← hB (by omega), hk0]; simp only [bsV]; first | rw [if_pos (by omega), hpk] | (rw [if_neg (by omega), if_pos (by omega), hpk]) | (rw [if_neg (by omega), if_neg (by omega)]))) (by omega) H locs ls (hP.sub [1, 2, 3, 4, 5, 6, 7, 8, 9, 10, 0] rfl) (hD.sub [1, 2, 3, 4, 5, 6, 7, 8, 9, 10, 0] (by decide) rfl) hS (lv_sub hl [0, 3, 1, 2, 6, 7] rfl)
          · refine iv_ldc (v := -100000) (z := -100000) hx hb hown (hts _ (List.mem_of_getElem? (i := 2) rfl)) dX9_bestOf_54 (by decide) ?_
            refine lv_goto (tgt := 82) hx hb dX9_bestOf_56 (by decide) ?_
            refine lv_istore (lv' := [(4, .int (iI (-100000))), (7, .int (iI 1)), (6, .int (iI r2)), (5, .int (iI zk)), (3, .int (iI ms)), (2, .int (iI bz)), (0, .ref hm), (1, .int (iI x))]) hx hb dX9_bestOf_82 hl (by decide) rfl (fun ls hl => ?_)
            refine lv_iload hx hb dX9_bestOf_84 (lv_at hl 1 rfl) ?_
            refine iv_if_eq (tgt := 99) hx hb dX9_bestOf_86 (by decide) (by decide) (fun h => absurd h (by decide)) (fun _ => ?_)
            refine lv_aload_n hx hb dX9_bestOf_89 rfl (lv_at hl 6 rfl) ?_
            refine va_get (D := g.1) (ci := 9) (v := .ref (a 0)) hx hb hts kX9_bestOf_9 hown hG.1 hP 1 rfl rfl 0 (by decide) (hts _ (List.mem_of_getElem? (i := 1) rfl)) (fun _ h9 => h9) rfl dX9_bestOf_90 ?_
            refine lv_iload hx hb dX9_bestOf_93 (lv_at hl 3 rfl) ?_
            refine iv_iald hx hb hG hP 0 rfl k9 (by omega) (by omega) (by decide) dX9_bestOf_95 ?_
            refine lv_goto (tgt := 100) hx hb dX9_bestOf_96 (by decide) ?_
            refine lv_istore_n (lv' := [(2, .int (iI (kw k9))), (4, .int (iI (-100000))), (7, .int (iI 1)), (6, .int (iI r2)), (5, .int (iI zk)), (3, .int (iI ms)), (0, .ref hm), (1, .int (iI x))]) hx hb dX9_bestOf_100 rfl hl (by decide) rfl (fun ls hl => ?_)
            refine lv_iload hx hb dX9_bestOf_101 (lv_at hl 2 rfl) ?_
            refine iv_if_eq (tgt := 111) hx hb dX9_bestOf_103 (by decide) (by decide) (fun h => absurd h (by decide)) (fun _ => ?_)
            refine lv_iload hx hb dX9_bestOf_106 (lv_at hl 3 rfl) ?_
            refine lv_goto (tgt := 112) hx hb dX9_bestOf_108 (by decide) ?_
            refine lv_istore_n (lv' := [(3, .int (iI r2)), (2, .int (iI (kw k9))), (4, .int (iI (-100000))), (7, .int (iI 1)), (6, .int (iI r2)), (5, .int (iI zk)), (0, .ref hm), (1, .int (iI x))]) hx hb dX9_bestOf_112 rfl hl (by decide) rfl (fun ls hl => ?_)
            refine iv_iinc (k := 5) (x := zk) (lv' := [(5, .int (iI (zk + 1))), (3, .int (iI r2)), (2, .int (iI (kw k9))), (4, .int (iI (-100000))), (7, .int (iI 1)), (6, .int (iI r2)), (0, .ref hm), (1, .int (iI x))]) hx hb dX9_bestOf_113 hl rfl (by decide) rfl (fun ls hl => ?_)
            refine lv_goto (tgt := 10) hx hb dX9_bestOf_116 (by decide) ?_
            exact ih10 (kw k9) r2 (-100000) (zk + 1) fa3 fd4 fn5 (k9 + 1) (by omega) (fun _ => by have hk0 : (93 - k9) = (93 - (k9 + 1)) + 1 := (by omega); first | (exfalso; omega) | (have hz9 : k9 = 0 := (by omega); subst hz9; rw [hpk]) | (rw [← hB (by omega), hk0]; simp only [bsV]; first | rw [if_pos (by omega), hpk] | (rw [if_neg (by omega), if_pos (by omega), hpk]) | (rw [if_neg (by omega), if_neg (by omega)]))) (by omega) H locs ls (hP.sub [1, 2, 3, 4, 5, 6, 7, 8, 9, 10, 0] rfl) (hD.sub [1, 2, 3, 4, 5, 6, 7, 8, 9, 10, 0] (by decide) rfl) hS (lv_sub hl [0, 3, 1, 2, 6, 7] rfl)
        · refine lv_iload hx hb dX9_bestOf_36 (lv_at hl 0 rfl) ?_
          refine lv_iload_n hx hb dX9_bestOf_38 rfl (lv_at hl 3 rfl) ?_
          refine iv_icmp_le (tgt := 46) hx hb dX9_bestOf_39 (by decide) (by omega) (fun hc14 => ?_) (fun hc14 => ?_)
          · refine lv_iconst (v := iI (0)) hx hb dX9_bestOf_46 rfl ?_
            refine lv_istore (lv' := [(7, .int (iI 0)), (6, .int (iI r2)), (5, .int (iI zk)), (4, .int (iI nx)), (3, .int (iI ms)), (2, .int (iI bz)), (0, .ref hm), (1, .int (iI x))]) hx hb dX9_bestOf_47 hl (by decide) rfl (fun ls hl => ?_)
            refine lv_iload hx hb dX9_bestOf_49 (lv_at hl 2 rfl) ?_
            refine iv_if_ne (tgt := 59) hx hb dX9_bestOf_51 (by decide) (by omega) (fun hc15 => ?_) (fun hc15 => ?_)
            · refine lv_iload hx hb dX9_bestOf_59 (lv_at hl 0 rfl) ?_
              refine iv_if_eq (tgt := 68) hx hb dX9_bestOf_61 (by decide) (by decide) (fun _ => ?_) (fun h => absurd h (by decide))
              refine lv_iload hx hb dX9_bestOf_68 (lv_at hl 1 rfl) ?_
              refine lv_iload hx hb dX9_bestOf_70 (lv_at hl 3 rfl) ?_
              refine iv_icmp_le (tgt := 80) hx hb dX9_bestOf_72 (by decide) (by omega) (fun hc17 => ?_) (fun hc17 => ?_)
              · refine lv_iload hx hb dX9_bestOf_80 (lv_at hl 3 rfl) ?_
                refine lv_istore (lv' := [(4, .int (iI nx)), (7, .int (iI 0)), (6, .int (iI r2)), (5, .int (iI zk)), (3, .int (iI ms)), (2, .int (iI bz)), (0, .ref hm), (1, .int (iI x))]) hx hb dX9_bestOf_82 hl (by decide) rfl (fun ls hl => ?_)
                refine lv_iload hx hb dX9_bestOf_84 (lv_at hl 1 rfl) ?_
                refine iv_if_eq (tgt := 99) hx hb dX9_bestOf_86 (by decide) (by decide) (fun _ => ?_) (fun h => absurd h (by decide))
                refine lv_iload_n hx hb dX9_bestOf_99 rfl (lv_at hl 5 rfl) ?_
                refine lv_istore_n (lv' := [(2, .int (iI bz)), (4, .int (iI nx)), (7, .int (iI 0)), (6, .int (iI r2)), (5, .int (iI zk)), (3, .int (iI ms)), (0, .ref hm), (1, .int (iI x))]) hx hb dX9_bestOf_100 rfl hl (by decide) rfl (fun ls hl => ?_)
                refine lv_iload hx hb dX9_bestOf_101 (lv_at hl 2 rfl) ?_
                refine iv_if_eq (tgt := 111) hx hb dX9_bestOf_103 (by decide) (by decide) (fun _ => ?_) (fun h => absurd h (by decide))
                refine lv_iload_n hx hb dX9_bestOf_111 rfl (lv_at hl 5 rfl) ?_
                refine lv_istore_n (lv' := [(3, .int (iI ms)), (2, .int (iI bz)), (4, .int (iI nx)), (7, .int (iI 0)), (6, .int (iI r2)), (5, .int (iI zk)), (0, .ref hm), (1, .int (iI x))]) hx hb dX9_bestOf_112 rfl hl (by decide) rfl (fun ls hl => ?_)
                refine iv_iinc (k := 5) (x := zk) (lv' := [(5, .int (iI (zk + 1))), (3, .int (iI ms)), (2, .int (iI bz)), (4, .int (iI nx)), (7, .int (iI 0)), (6, .int (iI r2)), (0, .ref hm), (1, .int (iI x))]) hx hb dX9_bestOf_113 hl rfl (by decide) rfl (fun ls hl => ?_)
                refine lv_goto (tgt := 10) hx hb dX9_bestOf_116 (by decide) ?_
                exact ih10 bz ms nx (zk + 1) fa3 fd4 fn5 (k9 + 1) (by omega) (fun _ => by have hk0 : (93 - k9) = (93 - (k9 + 1)) + 1 := (by omega); first | (exfalso; omega) | (have hz9 : k9 = 0 := (by omega); subst hz9; rw [hpk]) | (rw [← hB (by omega), hk0]; simp only [bsV]; first | rw [if_pos (by omega), hpk] | (rw [if_neg (by omega), if_pos (by omega), hpk]) | (rw [if_neg (by omega), if_neg (by omega)]))) (by omega) H locs ls (hP.sub [1, 2, 3, 4, 5, 6, 7, 8, 9, 10, 0] rfl) (hD.sub [1, 2, 3, 4, 5, 6, 7, 8, 9, 10, 0] (by decide) rfl) hS (lv_sub hl [0, 3, 1, 2, 6, 7] rfl)
              · refine lv_iload hx hb dX9_bestOf_75 (lv_at hl 1 rfl) ?_
                refine lv_goto (tgt := 82) hx hb dX9_bestOf_77 (by decide) ?_
                refine lv_istore (lv' := [(4, .int (iI r2)), (7, .int (iI 0)), (6, .int (iI r2)), (5, .int (iI zk)), (3, .int (iI ms)), (2, .int (iI bz)), (0, .ref hm), (1, .int (iI x))]) hx hb dX9_bestOf_82 hl (by decide) rfl (fun ls hl => ?_)
                refine lv_iload hx hb dX9_bestOf_84 (lv_at hl 1 rfl) ?_
                refine iv_if_eq (tgt := 99) hx hb dX9_bestOf_86 (by decide) (by decide) (fun _ => ?_) (fun h => absurd h (by decide))
                refine lv_iload_n hx hb dX9_bestOf_99 rfl (lv_at hl 5 rfl) ?_
                refine lv_istore_n (lv' := [(2, .int (iI bz)), (4, .int (iI r2)), (7, .int (iI 0)), (6, .int (iI r2)), (5, .int (iI zk)), (3, .int (iI ms)), (0, .ref hm), (1, .int (iI x))]) hx hb dX9_bestOf_100 rfl hl (by decide) rfl (fun ls hl => ?_)
                refine lv_iload hx hb dX9_bestOf_101 (lv_at hl 2 rfl) ?_
                refine iv_if_eq (tgt := 111) hx hb dX9_bestOf_103 (by decide) (by decide) (fun _ => ?_) (fun h => absurd h (by decide))
                refine lv_iload_n hx hb dX9_bestOf_111 rfl (lv_at hl 5 rfl) ?_
                refine lv_istore_n (lv' := [(3, .int (iI ms)), (2, .int (iI bz)), (4, .int (iI r2)), (7, .int (iI 0)), (6, .int (iI r2)), (5, .int (iI zk)), (0, .ref hm), (1, .int (iI x))]) hx hb dX9_bestOf_112 rfl hl (by decide) rfl (fun ls hl => ?_)
                refine iv_iinc (k := 5) (x := zk) (lv' := [(5, .int (iI (zk + 1))), (3, .int (iI ms)), (2, .int (iI bz)), (4, .int (iI r2)), (7, .int (iI 0)), (6, .int (iI r2)), (0, .ref hm), (1, .int (iI x))]) hx hb dX9_bestOf_113 hl rfl (by decide) rfl (fun ls hl => ?_)
                refine lv_goto (tgt := 10) hx hb dX9_bestOf_116 (by decide) ?_
                exact ih10 bz ms r2 (zk + 1) fa3 fd4 fn5 (k9 + 1) (by omega) (fun _ => by have hk0 : (93 - k9) = (93 - (k9 + 1)) + 1 := (by omega); first | (exfalso; omega) | (have hz9 : k9 = 0 := (by omega); subst hz9; rw [hpk]) | (rw [← hB (by omega), hk0]; simp only [bsV]; first | rw [if_pos (by omega), hpk] | (rw [if_neg (by omega), if_pos (by omega), hpk]) | (rw [if_neg (by omega), if_neg (by omega)]))) (by omega) H locs ls (hP.sub [1, 2, 3, 4, 5, 6, 7, 8, 9, 10, 0] rfl) (hD.sub [1, 2, 3, 4, 5, 6, 7, 8, 9, 10, 0] (by decide) rfl) hS (lv_sub hl [0, 3, 1, 2, 6, 7] rfl)
            · refine iv_ldc (v := -100000) (z := -100000) hx hb hown (hts _ (List.mem_of_getElem? (i := 2) rfl)) dX9_bestOf_54 (by decide) ?_
              refine lv_goto (tgt := 82) hx hb dX9_bestOf_56 (by decide) ?_
              refine lv_istore (lv' := [(4, .int (iI (-100000))), (7, .int (iI 0)), (6, .int (iI r2)), (5, .int (iI zk)), (3, .int (iI ms)), (2, .int (iI bz)), (0, .ref hm), (1, .int (iI x))]) hx hb dX9_bestOf_82 hl (by decide) rfl (fun ls hl => ?_)
              refine lv_iload hx hb dX9_bestOf_84 (lv_at hl 1 rfl) ?_
              refine iv_if_eq (tgt := 99) hx hb dX9_bestOf_86 (by decide) (by decide) (fun _ => ?_) (fun h => absurd h (by decide))
              refine lv_iload_n hx hb dX9_bestOf_99 rfl (lv_at hl 5 rfl) ?_
              refine lv_istore_n (lv' := [(2, .int (iI bz)), (4, .int (iI (-100000))), (7, .int (iI 0)), (6, .int (iI r2)), (5, .int (iI zk)), (3, .int (iI ms)), (0, .ref hm), (1, .int (iI x))]) hx hb dX9_bestOf_100 rfl hl (by decide) rfl (fun ls hl => ?_)
              refine lv_iload hx hb dX9_bestOf_101 (lv_at hl 2 rfl) ?_
              refine iv_if_eq (tgt := 111) hx hb dX9_bestOf_103 (by decide) (by decide) (fun _ => ?_) (fun h => absurd h (by decide))
              refine lv_iload_n hx hb dX9_bestOf_111 rfl (lv_at hl 5 rfl) ?_
              refine lv_istore_n (lv' := [(3, .int (iI ms)), (2, .int (iI bz)), (4, .int (iI (-100000))), (7, .int (iI 0)), (6, .int (iI r2)), (5, .int (iI zk)), (0, .ref hm), (1, .int (iI x))]) hx hb dX9_bestOf_112 rfl hl (by decide) rfl (fun ls hl => ?_)
              refine iv_iinc (k := 5) (x := zk) (lv' := [(5, .int (iI (zk + 1))), (3, .int (iI ms)), (2, .int (iI bz)), (4, .int (iI (-100000))), (7, .int (iI 0)), (6, .int (iI r2)), (0, .ref hm), (1, .int (iI x))]) hx hb dX9_bestOf_113 hl rfl (by decide) rfl (fun ls hl => ?_)
              refine lv_goto (tgt := 10) hx hb dX9_bestOf_116 (by decide) ?_
              exact ih10 bz ms (-100000) (zk + 1) fa3 fd4 fn5 (k9 + 1) (by omega) (fun _ => by have hk0 : (93 - k9) = (93 - (k9 + 1)) + 1 := (by omega); first | (exfalso; omega) | (have hz9 : k9 = 0 := (by omega); subst hz9; rw [hpk]) | (rw [← hB (by omega), hk0]; simp only [bsV]; first | rw [if_pos (by omega), hpk] | (rw [if_neg (by omega), if_pos (by omega), hpk]) | (rw [if_neg (by omega), if_neg (by omega)]))) (by omega) H locs ls (hP.sub [1, 2, 3, 4, 5, 6, 7, 8, 9, 10, 0] rfl) (hD.sub [1, 2, 3, 4, 5, 6, 7, 8, 9, 10, 0] (by decide) rfl) hS (lv_sub hl [0, 3, 1, 2, 6, 7] rfl)
          · refine lv_iconst (v := iI (1)) hx hb dX9_bestOf_42 rfl ?_
            refine lv_goto (tgt := 47) hx hb dX9_bestOf_43 (by decide) ?_
            refine lv_istore (lv' := [(7, .int (iI 1)), (6, .int (iI r2)), (5, .int (iI zk)), (4, .int (iI nx)), (3, .int (iI ms)), (2, .int (iI bz)), (0, .ref hm), (1, .int (iI x))]) hx hb dX9_bestOf_47 hl (by decide) rfl (fun ls hl => ?_)
            refine lv_iload hx hb dX9_bestOf_49 (lv_at hl 2 rfl) ?_
            refine iv_if_ne (tgt := 59) hx hb dX9_bestOf_51 (by decide) (by omega) (fun hc24 => ?_) (fun hc24 => ?_)
            · refine lv_iload hx hb dX9_bestOf_59 (lv_at hl 0 rfl) ?_
              refine iv_if_eq (tgt := 68) hx hb dX9_bestOf_61 (by decide) (by decide) (fun h => absurd h (by decide)) (fun _ => ?_)
              refine lv_iload_n hx hb dX9_bestOf_64 rfl (lv_at hl 4 rfl) ?_
              refine lv_goto (tgt := 82) hx hb dX9_bestOf_65 (by decide) ?_
              refine lv_istore (lv' := [(4, .int (iI ms)), (7, .int (iI 1)), (6, .int (iI r2)), (5, .int (iI zk)), (3, .int (iI ms)), (2, .int (iI bz)), (0, .ref hm), (1, .int (iI x))]) hx hb dX9_bestOf_82 hl (by decide) rfl (fun ls hl => ?_)
              refine lv_iload hx hb dX9_bestOf_84 (lv_at hl 1 rfl) ?_
              refine iv_if_eq (tgt := 99) hx hb dX9_bestOf_86 (by decide) (by decide) (fun h => absurd h (by decide)) (fun _ => ?_)
              refine lv_aload_n hx hb dX9_bestOf_89 rfl (lv_at hl 6 rfl) ?_
              refine va_get (D := g.1) (ci := 9) (v := .ref (a 0)) hx hb hts kX9_bestOf_9 hown hG.1 hP 1 rfl rfl 0 (by decide) (hts _ (List.mem_of_getElem? (i := 1) rfl)) (fun _ h9 => h9) rfl dX9_bestOf_90 ?_
              refine lv_iload hx hb dX9_bestOf_93 (lv_at hl 3 rfl) ?_
              refine iv_iald hx hb hG hP 0 rfl k9 (by omega) (by omega) (by decide) dX9_bestOf_95 ?_
              refine lv_goto (tgt := 100) hx hb dX9_bestOf_96 (by decide) ?_
              refine lv_istore_n (lv' := [(2, .int (iI (kw k9))), (4, .int (iI ms)), (7, .int (iI 1)), (6, .int (iI r2)), (5, .int (iI zk)), (3, .int (iI ms)), (0, .ref hm), (1, .int (iI x))]) hx hb dX9_bestOf_100 rfl hl (by decide) rfl (fun ls hl => ?_)
              refine lv_iload hx hb dX9_bestOf_101 (lv_at hl 2 rfl) ?_
              refine iv_if_eq (tgt := 111) hx hb dX9_bestOf_103 (by decide) (by decide) (fun h => absurd h (by decide)) (fun _ => ?_)
              refine lv_iload hx hb dX9_bestOf_106 (lv_at hl 3 rfl) ?_
              refine lv_goto (tgt := 112) hx hb dX9_bestOf_108 (by decide) ?_
              refine lv_istore_n (lv' := [(3, .int (iI r2)), (2, .int (iI (kw k9))), (4, .int (iI ms)), (7, .int (iI 1)), (6, .int (iI r2)), (5, .int (iI zk)), (0, .ref hm), (1, .int (iI x))]) hx hb dX9_bestOf_112 rfl hl (by decide) rfl (fun ls hl => ?_)
              refine iv_iinc (k := 5) (x := zk) (lv' := [(5, .int (iI (zk + 1))), (3, .int (iI r2)), (2, .int (iI (kw k9))), (4, .int (iI ms)), (7, .int (iI 1)), (6, .int (iI r2)), (0, .ref hm), (1, .int (iI x))]) hx hb dX9_bestOf_113 hl rfl (by decide) rfl (fun ls hl => ?_)
              refine lv_goto (tgt := 10) hx hb dX9_bestOf_116 (by decide) ?_
              exact ih10 (kw k9) r2 ms (zk + 1) fa3 fd4 fn5 (k9 + 1) (by omega) (fun _ => by have hk0 : (93 - k9) = (93 - (k9 + 1)) + 1 := (by omega); first | (exfalso; omega) | (have hz9 : k9 = 0 := (by omega); subst hz9; rw [hpk]) | (rw [← hB (by omega), hk0]; simp only [bsV]; first | rw [if_pos (by omega), hpk] | (rw [if_neg (by omega), if_pos (by omega), hpk]) | (rw [if_neg (by omega), if_neg (by omega)]))) (by omega) H locs ls (hP.sub [1, 2, 3, 4, 5, 6, 7, 8, 9, 10, 0] rfl) (hD.sub [1, 2, 3, 4, 5, 6, 7, 8, 9, 10, 0] (by decide) rfl) hS (lv_sub hl [0, 3, 1, 2, 6, 7] rfl)
            · refine iv_ldc (v := -100000) (z := -100000) hx hb hown (hts _ (List.mem_of_getElem? (i := 2) rfl)) dX9_bestOf_54 (by decide) ?_
              refine lv_goto (tgt := 82) hx hb dX9_bestOf_56 (by decide) ?_
              refine lv_istore (lv' := [(4, .int (iI (-100000))), (7, .int (iI 1)), (6, .int (iI r2)), (5, .int (iI zk)), (3, .int (iI ms)), (2, .int (iI bz)), (0, .ref hm), (1, .int (iI x))]) hx hb dX9_bestOf_82 hl (by decide) rfl (fun ls hl => ?_)
              refine lv_iload hx hb dX9_bestOf_84 (lv_at hl 1 rfl) ?_
              refine iv_if_eq (tgt := 99) hx hb dX9_bestOf_86 (by decide) (by decide) (fun h => absurd h (by decide)) (fun _ => ?_)
              refine lv_aload_n hx hb dX9_bestOf_89 rfl (lv_at hl 6 rfl) ?_
              refine va_get (D := g.1) (ci := 9) (v := .ref (a 0)) hx hb hts kX9_bestOf_9 hown hG.1 hP 1 rfl rfl 0 (by decide) (hts _ (List.mem_of_getElem? (i := 1) rfl)) (fun _ h9 => h9) rfl dX9_bestOf_90 ?_
              refine lv_iload hx hb dX9_bestOf_93 (lv_at hl 3 rfl) ?_
              refine iv_iald hx hb hG hP 0 rfl k9 (by omega) (by omega) (by decide) dX9_bestOf_95 ?_
              refine lv_goto (tgt := 100) hx hb dX9_bestOf_96 (by decide) ?_
              refine lv_istore_n (lv' := [(2, .int (iI (kw k9))), (4, .int (iI (-100000))), (7, .int (iI 1)), (6, .int (iI r2)), (5, .int (iI zk)), (3, .int (iI ms)), (0, .ref hm), (1, .int (iI x))]) hx hb dX9_bestOf_100 rfl hl (by decide) rfl (fun ls hl => ?_)
              refine lv_iload hx hb dX9_bestOf_101 (lv_at hl 2 rfl) ?_
              refine iv_if_eq (tgt := 111) hx hb dX9_bestOf_103 (by decide) (by decide) (fun h => absurd h (by decide)) (fun _ => ?_)
              refine lv_iload hx hb dX9_bestOf_106 (lv_at hl 3 rfl) ?_
              refine lv_goto (tgt := 112) hx hb dX9_bestOf_108 (by decide) ?_
              refine lv_istore_n (lv' := [(3, .int (iI r2)), (2, .int (iI (kw k9))), (4, .int (iI (-100000))), (7, .int (iI 1)), (6, .int (iI r2)), (5, .int (iI zk)), (0, .ref hm), (1, .int (iI x))]) hx hb dX9_bestOf_112 rfl hl (by decide) rfl (fun ls hl => ?_)
              refine iv_iinc (k := 5) (x := zk) (lv' := [(5, .int (iI (zk + 1))), (3, .int (iI r2)), (2, .int (iI (kw k9))), (4, .int (iI (-100000))), (7, .int (iI 1)), (6, .int (iI r2)), (0, .ref hm), (1, .int (iI x))]) hx hb dX9_bestOf_113 hl rfl (by decide) rfl (fun ls hl => ?_)
              refine lv_goto (tgt := 10) hx hb dX9_bestOf_116 (by decide) ?_
              exact ih10 (kw k9) r2 (-100000) (zk + 1) fa3 fd4 fn5 (k9 + 1) (by omega) (fun _ => by have hk0 : (93 - k9) = (93 - (k9 + 1)) + 1 := (by omega); first | (exfalso; omega) | (have hz9 : k9 = 0 := (by omega); subst hz9; rw [hpk]) | (rw [← hB (by omega), hk0]; simp only [bsV]; first | rw [if_pos (by omega), hpk] | (rw [if_neg (by omega), if_pos (by omega), hpk]) | (rw [if_neg (by omega), if_neg (by omega)]))) (by omega) H locs ls (hP.sub [1, 2, 3, 4, 5, 6, 7, 8, 9, 10, 0] rfl) (hD.sub [1, 2, 3, 4, 5, 6, 7, 8, 9, 10, 0] (by decide) rfl) hS (lv_sub hl [0, 3, 1, 2, 6, 7] rfl)
  exact hloop10 _ 0 0 0 0 fa fd fn 0 (by omega) (fun h => absurd h (by omega)) (Nat.lt_succ_self _) H locs ls (hP.sub [0, 1, 2, 3, 4, 5, 6, 7, 8, 9, 10] rfl) (hD.sub [0, 1, 2, 3, 4, 5, 6, 7, 8, 9, 10] (by decide) rfl) hS (lv_sub hl [0, 1, 2, 3, 4, 5] rfl)
