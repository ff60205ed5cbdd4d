theorem kX8_differentAnswers_8 : ∀ w ∈ u_ws RX8 TX8 13, w ∈ wsX8_differentAnswers := fun _ h => List.mem_cons_of_mem _ (List.mem_append_left _ (List.mem_append_right _ h))
abbrev q_X8_differentAnswers (g : GT) (hd : Nat) (d : Nat → Nat) (i : Nat → Int) (ad : Nat) (an : Nat) (aa : Nat) (fd : Nat → Int) (fn : Nat → Int) (fa : Nat → Int) (fp : Nat → Int) (fg : Nat → Int) (ps : Nat → Int) (mu : Int) (le : Int) (k : Int) (K : Nat) : Option Value → va_W → Prop := fun v w => ∃ (r : Int), ∃ (fd' : Nat → Int), ∃ (fn' : Nat → Int), ∃ (fa' : Nat → Int), ∃ (fg' : Nat → Int), v = some (.int (iI r)) ∧ w = [(hd, .inr (8, dF d i)), ((d 0), .inr (4, [.ref ad, .ref an, .ref aa])), (ad, aI (g.2.1 0) 3 fd'), (an, aI (g.2.1 0) 3 fn'), (aa, aI (g.2.1 0) 3 fa'), ((d 1), aI (g.2.1 0) 6 fp), ((d 2), aI (g.2.1 0) 6 fg')] ∧ (r = dif (fun j => wk mu le (ps j)) K)
set_option maxHeartbeats 4000000 in
set_option maxRecDepth 100000 in
theorem c_X8_differentAnswers (l : Launch) (g : GT) (hd : Nat) (d : Nat → Nat) (i : Nat → Int) (ad : Nat) (an : Nat) (aa : Nat) (fd : Nat → Int) (fn : Nat → Int) (fa : Nat → Int) (fp : Nat → Int) (fg : Nat → Int) (ps : Nat → Int) (mu : Int) (le : Int) (k : Int) (K : Nat) (h1 : 0 ≤ le ∧ le ≤ mu ∧ mu ≤ 999 ∧ k = (K : Int) ∧ K ≤ 6) (h2 : ∀ j, j < K → fp j = ps j ∧ 0 ≤ ps j ∧ ps j ≤ 255) : Ct l g yX8_differentAnswers wsX8_differentAnswers ({ frames := 4, cells := 0, slots := 0, locals := 95 } : Room) [.ref hd, .int (iI mu), .int (iI le), .int (iI k)] [(hd, .inr (8, dF d i)), ((d 0), .inr (4, [.ref ad, .ref an, .ref aa])), (ad, aI (g.2.1 0) 3 fd), (an, aI (g.2.1 0) 3 fn), (aa, aI (g.2.1 0) 3 fa), ((d 1), aI (g.2.1 0) 6 fp), ((d 2), aI (g.2.1 0) 6 fg)] (q_X8_differentAnswers g hd d i ad an aa fd fn fa fp fg ps mu le k K) := by
  refine Ct.intro (maxL := 9) (ret := (some .int)) (by decide) rfl (Nat.le_of_ble_eq_true rfl) ?_
  intro p e s m below meth c A ls hx hb hr hml hown hts hlocks hnm hA hG hP hD hS hl
  have hown : s.vm.findClass RX8 = some m.cls := hown
  have hl : lv_has ls 9 [(0, .ref hd), (1, .int (iI mu)), (2, .int (iI le)), (3, .int (iI k))] := hl
  have hP : va_P g.1 vwCl [(hd, .inr (8, dF d i)), ((d 0), .inr (4, [.ref ad, .ref an, .ref aa])), (ad, aI (g.2.1 0) 3 fd), (an, aI (g.2.1 0) 3 fn), (aa, aI (g.2.1 0) 3 fa), ((d 1), aI (g.2.1 0) 6 fp), ((d 2), aI (g.2.1 0) 6 fg)] s.heap := hP
  have hS : va_S A s.heap s.heap [] := hS
  obtain ⟨H, hHe⟩ : ∃ H : Heap, H = s.heap := ⟨_, rfl⟩
  obtain ⟨locs, hLe⟩ : ∃ L : List Loc, L = [] := ⟨_, rfl⟩
  have hP : va_P g.1 vwCl [(hd, .inr (8, dF d i)), ((d 0), .inr (4, [.ref ad, .ref an, .ref aa])), (ad, aI (g.2.1 0) 3 fd), (an, aI (g.2.1 0) 3 fn), (aa, aI (g.2.1 0) 3 fa), ((d 1), aI (g.2.1 0) 6 fp), ((d 2), aI (g.2.1 0) 6 fg)] H := by rw [hHe]; exact hP
  have hS : va_S A s.heap H locs := by rw [hHe, hLe]; exact hS
  suffices hgo : W p l e ({ frames := 4, cells := 0, slots := 0, locals := 95 } : Room) s m [.ref hd, .int (iI mu), .int (iI le), .int (iI k)].toArray below meth c H locs 0 0 (MQ below (CQ g (q_X8_differentAnswers g hd d i ad an aa fd fn fa fp fg ps mu le k K) A) [.ref hd, .int (iI mu), .int (iI le), .int (iI k)].toArray s ({ frames := 4, cells := 0, slots := 0, locals := 95 } : Room).cells ({ frames := 4, cells := 0, slots := 0, locals := 95 } : Room).slots A) (F0 m 0 ls []) by rw [hHe, hLe] at hgo; exact hgo
  clear hHe hLe
  refine lv_iconst (v := iI (0)) hx hb dX8_differentAnswers_0 rfl ?_
  refine lv_istore (lv' := [(4, .int (iI 0)), (0, .ref hd), (1, .int (iI mu)), (2, .int (iI le)), (3, .int (iI k))]) hx hb dX8_differentAnswers_1 hl (by decide) rfl (fun ls hl => ?_)
  refine lv_iconst (v := iI (0)) hx hb dX8_differentAnswers_3 rfl ?_
  refine lv_istore (lv' := [(5, .int (iI 0)), (4, .int (iI 0)), (0, .ref hd), (1, .int (iI mu)), (2, .int (iI le)), (3, .int (iI k))]) hx hb dX8_differentAnswers_4 hl (by decide) rfl (fun ls hl => ?_)
  have hloop6 : ∀ (fuel : Nat) (df : Int) (zj : Int) (fx : Nat → Int) (fy : Nat → Int) (fz : Nat → Int) (gv : Nat → Int) (j : Nat) (hc : zj = (j : Int) ∧ j ≤ K) (hd1 : df = dif (fun j => wk mu le (ps j)) j) (hI : ∀ x, sn gv x df.toNat = sn (fun j => wk mu le (ps j)) x j) (hgr : ∀ e, e < df.toNat → 0 ≤ gv e ∧ gv e ≤ 999) (hmeas : K - j < fuel), ∀ (H : Heap) (locs : List Loc) (ls : Array Slot), va_P g.1 vwCl [(hd, .inr (8, dF d i)), ((d 0), .inr (4, [.ref ad, .ref an, .ref aa])), (ad, aI (g.2.1 0) 3 fx), (an, aI (g.2.1 0) 3 fy), (aa, aI (g.2.1 0) 3 fz), ((d 1), aI (g.2.1 0) 6 fp), ((d 2), aI (g.2.1 0) 6 gv)] H → va_D A [(hd, .inr (8, dF d i)), ((d 0), .inr (4, [.ref ad, .ref an, .ref aa])), (ad, aI (g.2.1 0) 3 fx), (an, aI (g.2.1 0) 3 fy), (aa, aI (g.2.1 0) 3 fz), ((d 1), aI (g.2.1 0) 6 fp), ((d 2), aI (g.2.1 0) 6 gv)] → va_S A s.heap H locs → lv_has ls 9 [(5, .int (iI zj)), (4, .int (iI df)), (0, .ref hd), (1, .int (iI mu)), (2, .int (iI le)), (3, .int (iI k))] → W p l e ({ frames := 4, cells := 0, slots := 0, locals := 95 } : Room) s m [.ref hd, .int (iI mu), .int (iI le), .int (iI k)].toArray below meth c H locs 0 0 (MQ below (CQ g (q_X8_differentAnswers g hd d i ad an aa fd fn fa fp fg ps mu le k K) A) [.ref hd, .int (iI mu), .int (iI le), .int (iI k)].toArray s ({ frames := 4, cells := 0, slots := 0, locals := 95 } : Room).cells ({ frames := 4, cells := 0, slots := 0, locals := 95 } : Room).slots A) (F0 m 6 ls []) := by
    intro fuel
    induction fuel with
    | zero => intro df zj fx fy fz gv j hc hd1 hI hgr hmeas; exact absurd hmeas (Nat.not_lt_zero _)
    | succ fuel ih6 =>
      intro df zj fx fy fz gv j hc hd1 hI hgr hmeas H locs ls hP hD hS hl
      refine lv_iload hx hb dX8_differentAnswers_6 (lv_at hl 0 rfl) ?_
      refine lv_iload_n hx hb dX8_differentAnswers_8 rfl (lv_at hl 5 rfl) ?_
      refine iv_icmp_ge (tgt := 87) hx hb dX8_differentAnswers_9 (by decide) (by omega) (fun hc1 => ?_) (fun hc1 => ?_)
      · refine lv_iload hx hb dX8_differentAnswers_87 (lv_at hl 1 rfl) ?_
        exact Ct.iret hx hb hr hlocks (hP.sub [0, 1, 2, 3, 4, 5, 6] rfl) (hD.sub [0, 1, 2, 3, 4, 5, 6] (by decide) rfl) hS ⟨by decide, by decide⟩ dX8_differentAnswers_89 ⟨df, fx, fy, fz, gv, rfl, rfl, (by rw [hd1, show j = K from by omega])⟩
      · have hpj := h2 j (by omega)
        have hdr := dif_rng (fun j => wk mu le (ps j)) j
        refine lv_aload_n hx hb dX8_differentAnswers_12 rfl (lv_at hl 2 rfl) ?_
        refine va_get (D := g.1) (ci := 8) (v := .ref (d 0)) hx hb hts kX8_differentAnswers_8 hown hG.1 hP 0 rfl rfl 0 (by decide) (hts _ (List.mem_of_getElem? (i := 1) rfl)) (fun _ h9 => h9) rfl dX8_differentAnswers_13 ?_
        refine lv_iload_n hx hb dX8_differentAnswers_16 rfl (lv_at hl 3 rfl) ?_
        refine lv_iload_n hx hb dX8_differentAnswers_17 rfl (lv_at hl 4 rfl) ?_
        refine lv_aload_n hx hb dX8_differentAnswers_18 rfl (lv_at hl 2 rfl) ?_
        refine va_get (D := g.1) (ci := 8) (v := .ref (d 1)) hx hb hts kX8_differentAnswers_8 hown hG.1 hP 0 rfl rfl 1 (by decide) (hts _ (List.mem_of_getElem? (i := 2) rfl)) (fun _ h9 => h9) rfl dX8_differentAnswers_19 ?_
        refine lv_iload hx hb dX8_differentAnswers_22 (lv_at hl 0 rfl) ?_
        refine iv_iald hx hb hG hP 5 rfl j (by omega) (by omega) (by decide) dX8_differentAnswers_24 ?_
        refine iv_as (ps j) (hpj.1) ?_
        refine Ct.callV (ci := 4) (q0 := 1) (qc := (RX4, TX4, 3)) (As := [.int (iI mu), .int (iI le), .int (iI (ps j))]) (rest := []) (wr := [(hd, .inr (8, dF d i)), ((d 1), aI (g.2.1 0) 6 fp), ((d 2), aI (g.2.1 0) 6 gv)]) (c1 := 0) (s1 := 0) ⟨hx, hb, hml, hown, hts⟩ (c_X4_fill l g (d 0) ad an aa fx fy fz mu le (ps j) (by omega)) rfl rfl (cwV 3 hts gX8_differentAnswers_X4_fill rfl rfl rfl (by decide +kernel) ⟨Nat.le_of_ble_eq_true rfl, Nat.le_of_ble_eq_true rfl⟩) hG hP hD hS hA [1, 2, 3, 4] [0, 5, 6] rfl rfl (by decide) (by decide) (by decide) rfl hl.1 rfl (Nat.le_of_ble_eq_true rfl) dX8_differentAnswers_25 ⟨Nat.le_of_ble_eq_true rfl, Nat.le_of_ble_eq_true rfl⟩ rfl rfl (fun v w H locs hv hP hD hS => ?_)
        obtain ⟨fd2, fn3, fa4, rfl, rfl, hf5, hf6⟩ := hv
        show W p l e _ s m _ below meth c H locs 0 0 _ (F0 m 28 ls (.int (iI (wk mu le (ps j))) :: []))
        have hP : va_P g.1 vwCl [(hd, .inr (8, dF d i)), ((d 1), aI (g.2.1 0) 6 fp), ((d 2), aI (g.2.1 0) 6 gv), ((d 0), .inr (4, [.ref ad, .ref an, .ref aa])), (ad, aI (g.2.1 0) 3 fd2), (an, aI (g.2.1 0) 3 fn3), (aa, aI (g.2.1 0) 3 fa4)] H := hP
        have hD : va_D A [(hd, .inr (8, dF d i)), ((d 1), aI (g.2.1 0) 6 fp), ((d 2), aI (g.2.1 0) 6 gv), ((d 0), .inr (4, [.ref ad, .ref an, .ref aa])), (ad, aI (g.2.1 0) 3 fd2), (an, aI (g.2.1 0) 3 fn3), (aa, aI (g.2.1 0) 3 fa4)] := hD
        refine lv_istore (lv' := [(6, .int (iI (wk mu le (ps j)))), (5, .int (iI zj)), (4, .int (iI df)), (0, .ref hd), (1, .int (iI mu)), (2, .int (iI le)), (3, .int (iI k))]) hx hb dX8_differentAnswers_28 hl (by decide) rfl (fun ls hl => ?_)
        have hw := wk_rng mu le (ps j)
        refine lv_iconst (v := iI (1)) hx hb dX8_differentAnswers_30 rfl ?_
        refine lv_istore (lv' := [(7, .int (iI 1)), (6, .int (iI (wk mu le (ps j)))), (5, .int (iI zj)), (4, .int (iI df)), (0, .ref hd), (1, .int (iI mu)), (2, .int (iI le)), (3, .int (iI k))]) hx hb dX8_differentAnswers_31 hl (by decide) rfl (fun ls hl => ?_)
        refine lv_iconst (v := iI (0)) hx hb dX8_differentAnswers_33 rfl ?_
        refine lv_istore (lv' := [(8, .int (iI 0)), (7, .int (iI 1)), (6, .int (iI (wk mu le (ps j)))), (5, .int (iI zj)), (4, .int (iI df)), (0, .ref hd), (1, .int (iI mu)), (2, .int (iI le)), (3, .int (iI k))]) hx hb dX8_differentAnswers_34 hl (by decide) rfl (fun ls hl => ?_)
        have hloop36 : ∀ (fuel : Nat) (nw : Int) (ze : Int) (ee : Nat) (hc2 : ze = (ee : Int) ∧ ze ≤ df) (hn : nw = sn gv (wk mu le (ps j)) ee) (hmeas : df.toNat - ee < fuel), ∀ (H : Heap) (locs : List Loc) (ls : Array Slot), va_P g.1 vwCl [(hd, .inr (8, dF d i)), ((d 1), aI (g.2.1 0) 6 fp), ((d 2), aI (g.2.1 0) 6 gv), ((d 0), .inr (4, [.ref ad, .ref an, .ref aa])), (ad, aI (g.2.1 0) 3 fd2), (an, aI (g.2.1 0) 3 fn3), (aa, aI (g.2.1 0) 3 fa4)] H → va_D A [(hd, .inr (8, dF d i)), ((d 1), aI (g.2.1 0) 6 fp), ((d 2), aI (g.2.1 0) 6 gv), ((d 0), .inr (4, [.ref ad, .ref an, .ref aa])), (ad, aI (g.2.1 0) 3 fd2), (an, aI (g.2.1 0) 3 fn3), (aa, aI (g.2.1 0) 3 fa4)] → va_S A s.heap H locs → lv_has ls 9 [(8, .int (iI ze)), (7, .int (iI nw)), (6, .int (iI (wk mu le (ps j)))), (5, .int (iI zj)), (4, .int (iI df)), (0, .ref hd), (1, .int (iI mu)), (2, .int (iI le)), (3, .int (iI k))] → W p l e ({ frames := 4, cells := 0, slots := 0, locals := 95 } : Room) s m [.ref hd, .int (iI mu), .int (iI le), .int (iI k)].toArray below meth c H locs 0 0 (MQ below (CQ g (q_X8_differentAnswers g hd d i ad an aa fd fn fa fp fg ps mu le k K) A) [.ref hd, .int (iI mu), .int (iI le), .int (iI k)].toArray s ({ frames := 4, cells := 0, slots := 0, locals := 95 } : Room).cells ({ frames := 4, cells := 0, slots := 0, locals := 95 } : Room).slots A) (F0 m 36 ls []) := by
          intro fuel
          induction fuel with
          | zero => intro nw ze ee hc2 hn hmeas; exact absurd hmeas (Nat.not_lt_zero _)
          | succ fuel ih36 =>
            intro nw ze ee hc2 hn hmeas H locs ls hP hD hS hl
            refine lv_iload hx hb dX8_differentAnswers_36 (lv_at hl 0 rfl) ?_
            refine lv_iload hx hb dX8_differentAnswers_38 (lv_at hl 4 rfl) ?_
            refine iv_icmp_ge (tgt := 64) hx hb dX8_differentAnswers_40 (by decide) (by omega) (fun hc7 => ?_) (fun hc7 => ?_)
            · have h01 := sn_01 gv (wk mu le (ps j)) ee
              have hsn : nw = sn (fun j => wk mu le (ps j)) (wk mu le (ps j)) j := by rw [hn, show ee = df.toNat from by omega]; exact hI _
              refine lv_iload hx hb dX8_differentAnswers_64 (lv_at hl 1 rfl) ?_
              refine iv_if_eq (tgt := 81) hx hb dX8_differentAnswers_66 (by decide) (by omega) (fun hc8 => ?_) (fun hc8 => ?_)
              · refine iv_iinc (k := 3) (x := zj) (lv' := [(5, .int (iI (zj + 1))), (8, .int (iI ze)), (7, .int (iI nw)), (6, .int (iI (wk mu le (ps j)))), (4, .int (iI df)), (0, .ref hd), (1, .int (iI mu)), (2, .int (iI le)), (3, .int (iI k))]) hx hb dX8_differentAnswers_81 hl rfl (by decide) rfl (fun ls hl => ?_)
                refine lv_goto (tgt := 6) hx hb dX8_differentAnswers_84 (by decide) ?_
                exact ih6 df (zj + 1) fd2 fn3 fa4 gv (j + 1) (by omega) (by simp only [dif]; omega) (by first | exact hI2 | exact sn_old hI (by omega)) (by first | exact hgr2 | exact hgr) (by omega) H locs ls (hP.sub [0, 3, 4, 5, 6, 1, 2] rfl) (hD.sub [0, 3, 4, 5, 6, 1, 2] (by decide) rfl) hS (lv_sub hl [0, 4, 5, 6, 7, 8] rfl)
              · have hI2 : ∀ x, sn (va_up gv df.toNat (wk mu le (ps j))) x (df + 1).toNat = sn (fun j => wk mu le (ps j)) x (j + 1) := by rw [show (df + 1).toNat = df.toNat + 1 from by omega]; exact sn_new (w := (fun j => wk mu le (ps j))) hI
                have hgr2 : ∀ e, e < (df + 1).toNat → 0 ≤ va_up gv df.toNat (wk mu le (ps j)) e ∧ va_up gv df.toNat (wk mu le (ps j)) e ≤ 999 := fun e he => if q : e = df.toNat then (by rw [q, up_s]; exact hw) else (by rw [up_n _ _ _ _ q]; exact hgr e (by omega))
                refine lv_aload_n hx hb dX8_differentAnswers_69 rfl (lv_at hl 5 rfl) ?_
                refine va_get (D := g.1) (ci := 8) (v := .ref (d 2)) hx hb hts kX8_differentAnswers_8 hown hG.1 hP 0 rfl rfl 2 (by decide) (hts _ (List.mem_of_getElem? (i := 3) rfl)) (fun _ h9 => h9) rfl dX8_differentAnswers_70 ?_
                refine lv_iload hx hb dX8_differentAnswers_73 (lv_at hl 4 rfl) ?_
                refine lv_iload hx hb dX8_differentAnswers_75 (lv_at hl 2 rfl) ?_
                refine iv_iast hx hb hG hP hD hS 2 rfl df.toNat (by omega) (by omega) (by decide) dX8_differentAnswers_77 (fun H locs hP hD hS => ?_)
                have hP : va_P g.1 vwCl [(hd, .inr (8, dF d i)), ((d 1), aI (g.2.1 0) 6 fp), ((d 2), aI (g.2.1 0) 6 (va_up gv df.toNat (wk mu le (ps j)))), ((d 0), .inr (4, [.ref ad, .ref an, .ref aa])), (ad, aI (g.2.1 0) 3 fd2), (an, aI (g.2.1 0) 3 fn3), (aa, aI (g.2.1 0) 3 fa4)] H := hP
                have hD : va_D A [(hd, .inr (8, dF d i)), ((d 1), aI (g.2.1 0) 6 fp), ((d 2), aI (g.2.1 0) 6 (va_up gv df.toNat (wk mu le (ps j)))), ((d 0), .inr (4, [.ref ad, .ref an, .ref aa])), (ad, aI (g.2.1 0) 3 fd2), (an, aI (g.2.1 0) 3 fn3), (aa, aI (g.2.1 0) 3 fa4)] := hD
                refine iv_iinc (k := 4) (x := df) (lv' := [(4, .int (iI (df + 1))), (8, .int (iI ze)), (7, .int (iI nw)), (6, .int (iI (wk mu le (ps j)))), (5, .int (iI zj)), (0, .ref hd), (1, .int (iI mu)), (2, .int (iI le)), (3, .int (iI k))]) hx hb dX8_differentAnswers_78 hl rfl (by decide) rfl (fun ls hl => ?_)
                refine iv_iinc (k := 4) (x := zj) (lv' := [(5, .int (iI (zj + 1))), (4, .int (iI (df + 1))), (8, .int (iI ze)), (7, .int (iI nw)), (6, .int (iI (wk mu le (ps j)))), (0, .ref hd), (1, .int (iI mu)), (2, .int (iI le)), (3, .int (iI k))]) hx hb dX8_differentAnswers_81 hl rfl (by decide) rfl (fun ls hl => ?_)
                refine lv_goto (tgt := 6) hx hb dX8_differentAnswers_84 (by decide) ?_
                exact ih6 (df + 1) (zj + 1) fd2 fn3 fa4 (va_up gv df.toNat (wk mu le (ps j))) (j + 1) (by omega) (by simp only [dif]; omega) (by first | exact hI2 | exact sn_old hI (by omega)) (by first | exact hgr2 | exact hgr) (by omega) H locs ls (hP.sub [0, 3, 4, 5, 6, 1, 2] rfl) (hD.sub [0, 3, 4, 5, 6, 1, 2] (by decide) rfl) hS (lv_sub hl [0, 1, 5, 6, 7, 8] rfl)
            · have hge := hgr ee (by omega)
              refine lv_aload_n hx hb dX8_differentAnswers_43 rfl (lv_at hl 5 rfl) ?_
              refine va_get (D := g.1) (ci := 8) (v := .ref (d 2)) hx hb hts kX8_differentAnswers_8 hown hG.1 hP 0 rfl rfl 2 (by decide) (hts _ (List.mem_of_getElem? (i := 3) rfl)) (fun _ h9 => h9) rfl dX8_differentAnswers_44 ?_
              refine lv_iload hx hb dX8_differentAnswers_47 (lv_at hl 0 rfl) ?_
              refine iv_iald hx hb hG hP 2 rfl ee (by omega) (by omega) (by decide) dX8_differentAnswers_49 ?_
              refine lv_iload hx hb dX8_differentAnswers_50 (lv_at hl 2 rfl) ?_
              refine iv_icmp_ne (tgt := 58) hx hb dX8_differentAnswers_52 (by decide) (by omega) (fun hc9 => ?_) (fun hc9 => ?_)
              · refine iv_iinc (k := 0) (x := ze) (lv' := [(8, .int (iI (ze + 1))), (7, .int (iI nw)), (6, .int (iI (wk mu le (ps j)))), (5, .int (iI zj)), (4, .int (iI df)), (0, .ref hd), (1, .int (iI mu)), (2, .int (iI le)), (3, .int (iI k))]) hx hb dX8_differentAnswers_58 hl rfl (by decide) rfl (fun ls hl => ?_)
                refine lv_goto (tgt := 36) hx hb dX8_differentAnswers_61 (by decide) ?_
                exact ih36 nw (ze + 1) (ee + 1) (by omega) (by simp only [sn]; split <;> omega) (by omega) H locs ls (hP.sub [0, 1, 2, 3, 4, 5, 6] rfl) (hD.sub [0, 1, 2, 3, 4, 5, 6] (by decide) rfl) hS (lv_sub hl [0, 1, 2, 3, 4, 5, 6, 7, 8] rfl)
              · refine lv_iconst (v := iI (0)) hx hb dX8_differentAnswers_55 rfl ?_
                refine lv_istore (lv' := [(7, .int (iI 0)), (8, .int (iI ze)), (6, .int (iI (wk mu le (ps j)))), (5, .int (iI zj)), (4, .int (iI df)), (0, .ref hd), (1, .int (iI mu)), (2, .int (iI le)), (3, .int (iI k))]) hx hb dX8_differentAnswers_56 hl (by decide) rfl (fun ls hl => ?_)
                refine iv_iinc (k := 1) (x := ze) (lv' := [(8, .int (iI (ze + 1))), (7, .int (iI 0)), (6, .int (iI (wk mu le (ps j)))), (5, .int (iI zj)), (4, .int (iI df)), (0, .ref hd), (1, .int (iI mu)), (2, .int (iI le)), (3, .int (iI k))]) hx hb dX8_differentAnswers_58 hl rfl (by decide) rfl (fun ls hl => ?_)
                refine lv_goto (tgt := 36) hx hb dX8_differentAnswers_61 (by decide) ?_
                exact ih36 0 (ze + 1) (ee + 1) (by omega) (by simp only [sn]; split <;> omega) (by omega) H locs ls (hP.sub [0, 1, 2, 3, 4, 5, 6] rfl) (hD.sub [0, 1, 2, 3, 4, 5, 6] (by decide) rfl) hS (lv_sub hl [0, 1, 2, 3, 4, 5, 6, 7, 8] rfl)
        exact hloop36 _ 1 0 0 (by omega) (rfl) (Nat.lt_succ_self _) H locs ls (hP.sub [0, 1, 2, 3, 4, 5, 6] rfl) (hD.sub [0, 1, 2, 3, 4, 5, 6] (by decide) rfl) hS (lv_sub hl [0, 1, 2, 3, 4, 5, 6, 7, 8] rfl)
  exact hloop6 _ 0 0 fd fn fa fg 0 (by omega) (rfl) (fun x => rfl) (fun e he => absurd he (Nat.not_lt_zero e)) (Nat.lt_succ_self _) H locs ls (hP.sub [0, 1, 2, 3, 4, 5, 6] rfl) (hD.sub [0, 1, 2, 3, 4, 5, 6] (by decide) rfl) hS (lv_sub hl [0, 1, 2, 3, 4, 5] rfl)
