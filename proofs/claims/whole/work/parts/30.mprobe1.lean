theorem kX9_unlike_9 : ∀ w ∈ u_ws RX9 TX9 37, w ∈ wsX9_unlike := fun _ h => List.mem_cons_of_mem _ (List.mem_append_right _ h)
abbrev q_X9_unlike (g : GT) (hm : Nat) (a : Nat → Nat) (i : Nat → Int) (fa : Nat → Int) (fd : Nat → Int) (fn : Nat → Int) (fp : Nat → Int) (fi : Nat → Int) (ps : Nat → Int) (mu : Int) (le : Int) (x : Int) (x2 : Int) (k : Int) (K : Nat) (B : Nat) : Option Value → va_W → Prop := fun v w => ∃ (r : Int), ∃ (fa' : Nat → Int), ∃ (fd' : Nat → Int), ∃ (fn' : Nat → Int), ∃ (fp' : Nat → Int), v = some (.int (iI r)) ∧ w = [(hm, .inr (9, mF a i)), ((a 1), aI (g.2.1 0) 3 fa'), ((a 2), aI (g.2.1 0) 3 fd'), ((a 3), aI (g.2.1 0) 3 fn'), ((a 4), aI (g.2.1 0) 6 fp'), ((a 35), aI (g.2.1 0) 160 fi)] ∧ (r = dif (fun j => wk mu le (ps j)) K)
set_option maxHeartbeats 4000000 in
set_option maxRecDepth 100000 in
theorem c_X9_unlike (l : Launch) (g : GT) (hm : Nat) (a : Nat → Nat) (i : Nat → Int) (fa : Nat → Int) (fd : Nat → Int) (fn : Nat → Int) (fp : Nat → Int) (fi : Nat → Int) (ps : Nat → Int) (mu : Int) (le : Int) (x : Int) (x2 : Int) (k : Int) (K : Nat) (B : Nat) (h1 : 0 ≤ le ∧ le ≤ mu ∧ mu ≤ 999 ∧ k = (K : Int) ∧ K ≤ 6 ∧ 40 * x + x2 = (B : Int) ∧ B + K ≤ 160) (h2 : ∀ j, j < K → fi (B + j) = ps j ∧ 0 ≤ ps j ∧ ps j ≤ 255) : Ct l g yX9_unlike wsX9_unlike ({ frames := 2, cells := 0, slots := 0, locals := 51 } : Room) [.ref hm, .int (iI mu), .int (iI le), .int (iI x), .int (iI x2), .int (iI k)] [(hm, .inr (9, mF a i)), ((a 1), aI (g.2.1 0) 3 fa), ((a 2), aI (g.2.1 0) 3 fd), ((a 3), aI (g.2.1 0) 3 fn), ((a 4), aI (g.2.1 0) 6 fp), ((a 35), aI (g.2.1 0) 160 fi)] (q_X9_unlike g hm a i fa fd fn fp fi ps mu le x x2 k K B) := by
  refine Ct.intro (maxL := 10) (ret := (some .int)) (by decide) rfl (Nat.le_of_ble_eq_true rfl) ?_
  intro p e s m below meth c A ls hx hb hr hml hown hts hlocks hnm hA hG hP hD hS hl
  have hown : s.vm.findClass RX9 = some m.cls := hown
  have hl : lv_has ls 10 [(0, .ref hm), (1, .int (iI mu)), (2, .int (iI le)), (3, .int (iI x)), (4, .int (iI x2)), (5, .int (iI k))] := hl
  have hP : va_P g.1 vwCl [(hm, .inr (9, mF a i)), ((a 1), aI (g.2.1 0) 3 fa), ((a 2), aI (g.2.1 0) 3 fd), ((a 3), aI (g.2.1 0) 3 fn), ((a 4), aI (g.2.1 0) 6 fp), ((a 35), aI (g.2.1 0) 160 fi)] s.heap := hP
  have hS : va_S A s.heap s.heap [] := hS
  obtain ⟨H, hHe⟩ : ∃ H : Heap, H = s.heap := ⟨_, rfl⟩
  obtain ⟨locs, hLe⟩ : ∃ L : List Loc, L = [] := ⟨_, rfl⟩
  have hP : va_P g.1 vwCl [(hm, .inr (9, mF a i)), ((a 1), aI (g.2.1 0) 3 fa), ((a 2), aI (g.2.1 0) 3 fd), ((a 3), aI (g.2.1 0) 3 fn), ((a 4), aI (g.2.1 0) 6 fp), ((a 35), aI (g.2.1 0) 160 fi)] H := by rw [hHe]; exact hP
  have hS : va_S A s.heap H locs := by rw [hHe, hLe]; exact hS
  suffices hgo : W p l e ({ frames := 2, cells := 0, slots := 0, locals := 51 } : Room) s m [.ref hm, .int (iI mu), .int (iI le), .int (iI x), .int (iI x2), .int (iI k)].toArray below meth c H locs 0 0 (MQ below (CQ g (q_X9_unlike g hm a i fa fd fn fp fi ps mu le x x2 k K B) A) [.ref hm, .int (iI mu), .int (iI le), .int (iI x), .int (iI x2), .int (iI k)].toArray s ({ frames := 2, cells := 0, slots := 0, locals := 51 } : Room).cells ({ frames := 2, cells := 0, slots := 0, locals := 51 } : Room).slots A) (F0 m 0 ls []) by rw [hHe, hLe] at hgo; exact hgo
  clear hHe hLe
  refine lv_iconst (v := iI (0)) hx hb dX9_unlike_0 rfl ?_
  refine lv_istore (lv' := [(6, .int (iI 0)), (0, .ref hm), (1, .int (iI mu)), (2, .int (iI le)), (3, .int (iI x)), (4, .int (iI x2)), (5, .int (iI k))]) hx hb dX9_unlike_1 hl (by decide) rfl (fun ls hl => ?_)
  refine lv_iconst (v := iI (0)) hx hb dX9_unlike_3 rfl ?_
  refine lv_istore (lv' := [(7, .int (iI 0)), (6, .int (iI 0)), (0, .ref hm), (1, .int (iI mu)), (2, .int (iI le)), (3, .int (iI x)), (4, .int (iI x2)), (5, .int (iI k))]) hx hb dX9_unlike_4 hl (by decide) rfl (fun ls hl => ?_)
  have hloop6 : ∀ (fuel : Nat) (df : Int) (zj : Int) (fz : Nat → Int) (fx : Nat → Int) (fy : Nat → Int) (gv : Nat → Int) (j : Nat) (hc : zj = (j : Int) ∧ j ≤ K) (hd1 : df = dif (fun j => wk mu le (ps j)) j) (hI : ∀ e, e < j → gv e = (fun j => wk mu le (ps j)) e) (hmeas : K - j < fuel), ∀ (H : Heap) (locs : List Loc) (ls : Array Slot), va_P g.1 vwCl [(hm, .inr (9, mF a i)), ((a 1), aI (g.2.1 0) 3 fz), ((a 2), aI (g.2.1 0) 3 fx), ((a 3), aI (g.2.1 0) 3 fy), ((a 4), aI (g.2.1 0) 6 gv), ((a 35), aI (g.2.1 0) 160 fi)] H → va_D A [(hm, .inr (9, mF a i)), ((a 1), aI (g.2.1 0) 3 fz), ((a 2), aI (g.2.1 0) 3 fx), ((a 3), aI (g.2.1 0) 3 fy), ((a 4), aI (g.2.1 0) 6 gv), ((a 35), aI (g.2.1 0) 160 fi)] → va_S A s.heap H locs → lv_has ls 10 [(7, .int (iI zj)), (6, .int (iI df)), (0, .ref hm), (1, .int (iI mu)), (2, .int (iI le)), (3, .int (iI x)), (4, .int (iI x2)), (5, .int (iI k))] → W p l e ({ frames := 2, cells := 0, slots := 0, locals := 51 } : Room) s m [.ref hm, .int (iI mu), .int (iI le), .int (iI x), .int (iI x2), .int (iI k)].toArray below meth c H locs 0 0 (MQ below (CQ g (q_X9_unlike g hm a i fa fd fn fp fi ps mu le x x2 k K B) A) [.ref hm, .int (iI mu), .int (iI le), .int (iI x), .int (iI x2), .int (iI k)].toArray s ({ frames := 2, cells := 0, slots := 0, locals := 51 } : Room).cells ({ frames := 2, cells := 0, slots := 0, locals := 51 } : Room).slots A) (F0 m 6 ls []) := by
    intro fuel
    induction fuel with
    | zero => intro df zj fz fx fy gv j hc hd1 hI hmeas; exact absurd hmeas (Nat.not_lt_zero _)
    | succ fuel ih6 =>
      intro df zj fz fx fy gv j hc hd1 hI hmeas H locs ls hP hD hS hl
      refine lv_iload hx hb dX9_unlike_6 (lv_at hl 0 rfl) ?_
      refine lv_iload hx hb dX9_unlike_8 (lv_at hl 7 rfl) ?_
      refine iv_icmp_ge (tgt := 110) hx hb dX9_unlike_10 (by decide) (by omega) (fun hc1 => ?_) (fun hc1 => ?_)
      · refine lv_iload hx hb dX9_unlike_110 (lv_at hl 1 rfl) ?_
        exact Ct.iret hx hb hr hlocks (hP.sub [0, 1, 2, 3, 4, 5] rfl) (hD.sub [0, 1, 2, 3, 4, 5] (by decide) rfl) hS ⟨by decide, by decide⟩ dX9_unlike_112 ⟨df, fz, fx, fy, gv, rfl, rfl, (by rw [hd1, show j = K from by omega])⟩
      · have hpj := h2 j (by omega)
        have hdr := dif_rng (fun j => wk mu le (ps j)) j
        refine lv_aload_n hx hb dX9_unlike_13 rfl (lv_at hl 2 rfl) ?_
        refine va_get (D := g.1) (ci := 9) (v := .ref (a 4)) hx hb hts kX9_unlike_9 hown hG.1 hP 0 rfl rfl 4 (by decide) (hts _ (List.mem_of_getElem? (i := 1) rfl)) (fun _ h9 => h9) rfl dX9_unlike_14 ?_
        refine lv_iload hx hb dX9_unlike_17 (lv_at hl 0 rfl) ?_
        refine lv_aload_n hx hb dX9_unlike_19 rfl (lv_at hl 2 rfl) ?_
        refine lv_iload_n hx hb dX9_unlike_20 rfl (lv_at hl 3 rfl) ?_
        refine lv_iload_n hx hb dX9_unlike_21 rfl (lv_at hl 4 rfl) ?_
        refine lv_aload_n hx hb dX9_unlike_22 rfl (lv_at hl 2 rfl) ?_
        refine va_get (D := g.1) (ci := 9) (v := .ref (a 35)) hx hb hts kX9_unlike_9 hown hG.1 hP 0 rfl rfl 35 (by decide) (hts _ (List.mem_of_getElem? (i := 2) rfl)) (fun _ h9 => h9) rfl dX9_unlike_23 ?_
        refine lv_bipush (v := iI (40)) hx hb dX9_unlike_26 (by decide) ?_
        refine lv_iload_n hx hb dX9_unlike_28 rfl (lv_at hl 5 rfl) ?_
        refine iv_imul hx hb dX9_unlike_29 ?_
        refine lv_iload hx hb dX9_unlike_30 (lv_at hl 6 rfl) ?_
        refine iv_iadd hx hb dX9_unlike_32 ?_
        refine lv_iload hx hb dX9_unlike_33 (lv_at hl 0 rfl) ?_
        refine iv_iadd hx hb dX9_unlike_35 ?_
        refine iv_iald hx hb hG hP 5 rfl (B + j) (by omega) (by omega) (by decide) dX9_unlike_36 ?_
        refine iv_as (ps j) (hpj.1) ?_
        refine Ct.callV (ci := 9) (q0 := 0) (qc := (RX9, TX9, 37)) (As := [.int (iI mu), .int (iI le), .int (iI (ps j))]) (rest := [.int (iI zj), .ref (a 4)]) (wr := [((a 4), aI (g.2.1 0) 6 gv), ((a 35), aI (g.2.1 0) 160 fi)]) (c1 := 0) (s1 := 0) ⟨hx, hb, hml, hown, hts⟩ (c_X9_workOf l g hm a i fz fx fy mu le (ps j) (by omega)) rfl rfl (cwV 3 hts gX9_unlike_X9_workOf rfl rfl rfl (by decide +kernel) ⟨Nat.le_of_ble_eq_true rfl, Nat.le_of_ble_eq_true rfl⟩) hG hP hD hS hA [0, 1, 2, 3] [4, 5] rfl rfl (by decide) (by decide) (by decide) rfl hl.1 rfl (Nat.le_of_ble_eq_true rfl) dX9_unlike_37 ⟨Nat.le_of_ble_eq_true rfl, Nat.le_of_ble_eq_true rfl⟩ rfl rfl (fun v w H locs hv hP hD hS => ?_)
        obtain ⟨fa2, fd3, fn4, rfl, rfl, hf5, hf6⟩ := hv
        show W p l e _ s m _ below meth c H locs 0 0 _ (F0 m 40 ls (.int (iI (wk mu le (ps j))) :: [.int (iI zj), .ref (a 4)]))
        have hP : va_P g.1 vwCl [((a 4), aI (g.2.1 0) 6 gv), ((a 35), aI (g.2.1 0) 160 fi), (hm, .inr (9, mF a i)), ((a 1), aI (g.2.1 0) 3 fa2), ((a 2), aI (g.2.1 0) 3 fd3), ((a 3), aI (g.2.1 0) 3 fn4)] H := hP
        have hD : va_D A [((a 4), aI (g.2.1 0) 6 gv), ((a 35), aI (g.2.1 0) 160 fi), (hm, .inr (9, mF a i)), ((a 1), aI (g.2.1 0) 3 fa2), ((a 2), aI (g.2.1 0) 3 fd3), ((a 3), aI (g.2.1 0) 3 fn4)] := hD
        refine iv_iast hx hb hG hP hD hS 0 rfl j (by omega) (by omega) (by decide) dX9_unlike_40 (fun H locs hP hD hS => ?_)
        have hP : va_P g.1 vwCl [((a 4), aI (g.2.1 0) 6 (va_up gv j (wk mu le (ps j)))), ((a 35), aI (g.2.1 0) 160 fi), (hm, .inr (9, mF a i)), ((a 1), aI (g.2.1 0) 3 fa2), ((a 2), aI (g.2.1 0) 3 fd3), ((a 3), aI (g.2.1 0) 3 fn4)] H := hP
        have hD : va_D A [((a 4), aI (g.2.1 0) 6 (va_up gv j (wk mu le (ps j)))), ((a 35), aI (g.2.1 0) 160 fi), (hm, .inr (9, mF a i)), ((a 1), aI (g.2.1 0) 3 fa2), ((a 2), aI (g.2.1 0) 3 fd3), ((a 3), aI (g.2.1 0) 3 fn4)] := hD
        have hw := wk_rng mu le (ps j)
        refine lv_iconst (v := iI (1)) hx hb dX9_unlike_41 rfl ?_
        refine lv_istore (lv' := [(8, .int (iI 1)), (7, .int (iI zj)), (6, .int (iI df)), (0, .ref hm), (1, .int (iI mu)), (2, .int (iI le)), (3, .int (iI x)), (4, .int (iI x2)), (5, .int (iI k))]) hx hb dX9_unlike_42 hl (by decide) rfl (fun ls hl => ?_)
        refine lv_iconst (v := iI (0)) hx hb dX9_unlike_44 rfl ?_
        refine lv_istore (lv' := [(9, .int (iI 0)), (8, .int (iI 1)), (7, .int (iI zj)), (6, .int (iI df)), (0, .ref hm), (1, .int (iI mu)), (2, .int (iI le)), (3, .int (iI x)), (4, .int (iI x2)), (5, .int (iI k))]) hx hb dX9_unlike_45 hl (by decide) rfl (fun ls hl => ?_)
        have hloop47 : ∀ (fuel : Nat) (nw : Int) (ze : Int) (ee : Nat) (hc2 : ze = (ee : Int) ∧ ze ≤ zj) (hn : nw = sn (fun j => wk mu le (ps j)) (wk mu le (ps j)) ee) (hmeas : j - ee < fuel), ∀ (H : Heap) (locs : List Loc) (ls : Array Slot), va_P g.1 vwCl [((a 4), aI (g.2.1 0) 6 (va_up gv j (wk mu le (ps j)))), ((a 35), aI (g.2.1 0) 160 fi), (hm, .inr (9, mF a i)), ((a 1), aI (g.2.1 0) 3 fa2), ((a 2), aI (g.2.1 0) 3 fd3), ((a 3), aI (g.2.1 0) 3 fn4)] H → va_D A [((a 4), aI (g.2.1 0) 6 (va_up gv j (wk mu le (ps j)))), ((a 35), aI (g.2.1 0) 160 fi), (hm, .inr (9, mF a i)), ((a 1), aI (g.2.1 0) 3 fa2), ((a 2), aI (g.2.1 0) 3 fd3), ((a 3), aI (g.2.1 0) 3 fn4)] → va_S A s.heap H locs → lv_has ls 10 [(9, .int (iI ze)), (8, .int (iI nw)), (7, .int (iI zj)), (6, .int (iI df)), (0, .ref hm), (1, .int (iI mu)), (2, .int (iI le)), (3, .int (iI x)), (4, .int (iI x2)), (5, .int (iI k))] → W p l e ({ frames := 2, cells := 0, slots := 0, locals := 51 } : Room) s m [.ref hm, .int (iI mu), .int (iI le), .int (iI x), .int (iI x2), .int (iI k)].toArray below meth c H locs 0 0 (MQ below (CQ g (q_X9_unlike g hm a i fa fd fn fp fi ps mu le x x2 k K B) A) [.ref hm, .int (iI mu), .int (iI le), .int (iI x), .int (iI x2), .int (iI k)].toArray s ({ frames := 2, cells := 0, slots := 0, locals := 51 } : Room).cells ({ frames := 2, cells := 0, slots := 0, locals := 51 } : Room).slots A) (F0 m 47 ls []) := by
          intro fuel
          induction fuel with
          | zero => intro nw ze ee hc2 hn hmeas; exact absurd hmeas (Nat.not_lt_zero _)
          | succ fuel ih47 =>
            intro nw ze ee hc2 hn hmeas H locs ls hP hD hS hl
            refine lv_iload hx hb dX9_unlike_47 (lv_at hl 0 rfl) ?_
            refine lv_iload hx hb dX9_unlike_49 (lv_at hl 2 rfl) ?_
            refine iv_icmp_ge (tgt := 89) hx hb dX9_unlike_51 (by decide) (by omega) (fun hc7 => ?_) (fun hc7 => ?_)
            · have h01 := sn_01 (fun j => wk mu le (ps j)) (wk mu le (ps j)) ee
              have hsn : nw = sn (fun j => wk mu le (ps j)) (wk mu le (ps j)) j := by rw [hn, show ee = j from by omega]
              refine lv_iload hx hb dX9_unlike_89 (lv_at hl 3 rfl) ?_
              refine lv_iload hx hb dX9_unlike_91 (lv_at hl 1 rfl) ?_
              refine iv_if_eq (tgt := 100) hx hb dX9_unlike_93 (by decide) (by omega) (fun hc8 => ?_) (fun hc8 => ?_)
              · refine lv_iconst (v := iI (0)) hx hb dX9_unlike_100 rfl ?_
                refine iv_iadd hx hb dX9_unlike_101 ?_
                refine lv_istore (lv' := [(6, .int (iI (df + 0))), (9, .int (iI ze)), (8, .int (iI nw)), (7, .int (iI zj)), (0, .ref hm), (1, .int (iI mu)), (2, .int (iI le)), (3, .int (iI x)), (4, .int (iI x2)), (5, .int (iI k))]) hx hb dX9_unlike_102 hl (by decide) rfl (fun ls hl => ?_)
                refine iv_iinc (k := 3) (x := zj) (lv' := [(7, .int (iI (zj + 1))), (6, .int (iI (df + 0))), (9, .int (iI ze)), (8, .int (iI nw)), (0, .ref hm), (1, .int (iI mu)), (2, .int (iI le)), (3, .int (iI x)), (4, .int (iI x2)), (5, .int (iI k))]) hx hb dX9_unlike_104 hl rfl (by decide) rfl (fun ls hl => ?_)
                refine lv_goto (tgt := 6) hx hb dX9_unlike_107 (by decide) ?_
                exact ih6 (df + 0) (zj + 1) fa2 fd3 fn4 (va_up gv j (wk mu le (ps j))) (j + 1) (by omega) (by simp only [dif]; omega) (up_le (h := (fun j => wk mu le (ps j))) rfl hI) (by omega) H locs ls (hP.sub [2, 3, 4, 5, 0, 1] rfl) (hD.sub [2, 3, 4, 5, 0, 1] (by decide) rfl) hS (lv_sub hl [0, 1, 4, 5, 6, 7, 8, 9] rfl)
              · refine lv_iconst (v := iI (1)) hx hb dX9_unlike_96 rfl ?_
                refine lv_goto (tgt := 101) hx hb dX9_unlike_97 (by decide) ?_
                refine iv_iadd hx hb dX9_unlike_101 ?_
                refine lv_istore (lv' := [(6, .int (iI (df + 1))), (9, .int (iI ze)), (8, .int (iI nw)), (7, .int (iI zj)), (0, .ref hm), (1, .int (iI mu)), (2, .int (iI le)), (3, .int (iI x)), (4, .int (iI x2)), (5, .int (iI k))]) hx hb dX9_unlike_102 hl (by decide) rfl (fun ls hl => ?_)
                refine iv_iinc (k := 3) (x := zj) (lv' := [(7, .int (iI (zj + 1))), (6, .int (iI (df + 1))), (9, .int (iI ze)), (8, .int (iI nw)), (0, .ref hm), (1, .int (iI mu)), (2, .int (iI le)), (3, .int (iI x)), (4, .int (iI x2)), (5, .int (iI k))]) hx hb dX9_unlike_104 hl rfl (by decide) rfl (fun ls hl => ?_)
                refine lv_goto (tgt := 6) hx hb dX9_unlike_107 (by decide) ?_
                exact ih6 (df + 1) (zj + 1) fa2 fd3 fn4 (va_up gv j (wk mu le (ps j))) (j + 1) (by omega) (by simp only [dif]; omega) (up_le (h := (fun j => wk mu le (ps j))) rfl hI) (by omega) H locs ls (hP.sub [2, 3, 4, 5, 0, 1] rfl) (hD.sub [2, 3, 4, 5, 0, 1] (by decide) rfl) hS (lv_sub hl [0, 1, 4, 5, 6, 7, 8, 9] rfl)
            · have hw2 := wk_rng mu le (ps ee)
              have h01 := sn_01 (fun j => wk mu le (ps j)) (wk mu le (ps j)) ee
              have hjoin81 : ∀ (b : Int) (hbb : b = (if wk mu le (ps ee) = wk mu le (ps j) then 0 else nw)), ∀ (H : Heap) (locs : List Loc) (ls : Array Slot), va_P g.1 vwCl [((a 4), aI (g.2.1 0) 6 (va_up gv j (wk mu le (ps j)))), ((a 35), aI (g.2.1 0) 160 fi), (hm, .inr (9, mF a i)), ((a 1), aI (g.2.1 0) 3 fa2), ((a 2), aI (g.2.1 0) 3 fd3), ((a 3), aI (g.2.1 0) 3 fn4)] H → va_D A [((a 4), aI (g.2.1 0) 6 (va_up gv j (wk mu le (ps j)))), ((a 35), aI (g.2.1 0) 160 fi), (hm, .inr (9, mF a i)), ((a 1), aI (g.2.1 0) 3 fa2), ((a 2), aI (g.2.1 0) 3 fd3), ((a 3), aI (g.2.1 0) 3 fn4)] → va_S A s.heap H locs → lv_has ls 10 [(9, .int (iI ze)), (8, .int (iI nw)), (7, .int (iI zj)), (6, .int (iI df)), (0, .ref hm), (1, .int (iI mu)), (2, .int (iI le)), (3, .int (iI x)), (4, .int (iI x2)), (5, .int (iI k))] → W p l e ({ frames := 2, cells := 0, slots := 0, locals := 51 } : Room) s m [.ref hm, .int (iI mu), .int (iI le), .int (iI x), .int (iI x2), .int (iI k)].toArray below meth c H locs 0 0 (MQ below (CQ g (q_X9_unlike g hm a i fa fd fn fp fi ps mu le x x2 k K B) A) [.ref hm, .int (iI mu), .int (iI le), .int (iI x), .int (iI x2), .int (iI k)].toArray s ({ frames := 2, cells := 0, slots := 0, locals := 51 } : Room).cells ({ frames := 2, cells := 0, slots := 0, locals := 51 } : Room).slots A) (F0 m 81 ls [.int (iI b)]) := by
                intro b hbb H locs ls hP hD hS hl
                refine lv_istore (lv' := [(8, .int (iI b)), (9, .int (iI ze)), (7, .int (iI zj)), (6, .int (iI df)), (0, .ref hm), (1, .int (iI mu)), (2, .int (iI le)), (3, .int (iI x)), (4, .int (iI x2)), (5, .int (iI k))]) hx hb dX9_unlike_81 hl (by decide) rfl (fun ls hl => ?_)
                refine iv_iinc (k := 1) (x := ze) (lv' := [(9, .int (iI (ze + 1))), (8, .int (iI b)), (7, .int (iI zj)), (6, .int (iI df)), (0, .ref hm), (1, .int (iI mu)), (2, .int (iI le)), (3, .int (iI x)), (4, .int (iI x2)), (5, .int (iI k))]) hx hb dX9_unlike_83 hl rfl (by decide) rfl (fun ls hl => ?_)
                refine lv_goto (tgt := 47) hx hb dX9_unlike_86 (by decide) ?_
                exact ih47 b (ze + 1) (ee + 1) (by omega) (by simp only [sn]; rw [← hn]; exact hbb) (by omega) H locs ls (hP.sub [0, 1, 2, 3, 4, 5] rfl) (hD.sub [0, 1, 2, 3, 4, 5] (by decide) rfl) hS (lv_sub hl [0, 1, 2, 3, 4, 5, 6, 7, 8, 9] rfl)
              refine lv_iload hx hb dX9_unlike_54 (lv_at hl 1 rfl) ?_
              refine iv_if_eq (tgt := 80) hx hb dX9_unlike_56 (by decide) (by omega) (fun hc9 => ?_) (fun hc9 => ?_)
              · refine lv_iconst (v := iI (0)) hx hb dX9_unlike_80 rfl ?_
                exact hjoin81 0 (by split <;> omega) H locs ls (hP.sub [0, 1, 2, 3, 4, 5] rfl) (hD.sub [0, 1, 2, 3, 4, 5] (by decide) rfl) hS (lv_sub hl [0, 1, 2, 3, 4, 5, 6, 7, 8, 9] rfl)
              · refine lv_aload_n hx hb dX9_unlike_59 rfl (lv_at hl 4 rfl) ?_
                refine va_get (D := g.1) (ci := 9) (v := .ref (a 4)) hx hb hts kX9_unlike_9 hown hG.1 hP 2 rfl rfl 4 (by decide) (hts _ (List.mem_of_getElem? (i := 1) rfl)) (fun _ h9 => h9) rfl dX9_unlike_60 ?_
                refine lv_iload hx hb dX9_unlike_63 (lv_at hl 0 rfl) ?_
                refine iv_iald hx hb hG hP 0 rfl ee (by omega) (by omega) (by decide) dX9_unlike_65 ?_
                refine iv_as (wk mu le (ps ee)) (by rw [up_n _ _ _ _ (by omega)]; exact hI ee (by omega)) ?_
                refine lv_aload_n hx hb dX9_unlike_66 rfl (lv_at hl 4 rfl) ?_
                refine va_get (D := g.1) (ci := 9) (v := .ref (a 4)) hx hb hts kX9_unlike_9 hown hG.1 hP 2 rfl rfl 4 (by decide) (hts _ (List.mem_of_getElem? (i := 1) rfl)) (fun _ h9 => h9) rfl dX9_unlike_67 ?_
                refine lv_iload hx hb dX9_unlike_70 (lv_at hl 2 rfl) ?_
                refine iv_iald hx hb hG hP 0 rfl j (by omega) (by omega) (by decide) dX9_unlike_72 ?_
                refine iv_as (wk mu le (ps j)) (up_s _ _ _) ?_
                refine iv_icmp_eq (tgt := 80) hx hb dX9_unlike_73 (by decide) (by omega) (fun hc10 => ?_) (fun hc10 => ?_)
                · refine lv_iconst (v := iI (0)) hx hb dX9_unlike_80 rfl ?_
                  exact hjoin81 0 (by split <;> omega) H locs ls (hP.sub [0, 1, 2, 3, 4, 5] rfl) (hD.sub [0, 1, 2, 3, 4, 5] (by decide) rfl) hS (lv_sub hl [0, 1, 2, 3, 4, 5, 6, 7, 8, 9] rfl)
                · refine lv_iconst (v := iI (1)) hx hb dX9_unlike_76 rfl ?_
                  refine lv_goto (tgt := 81) hx hb dX9_unlike_77 (by decide) ?_
                  exact hjoin81 1 (by split <;> omega) H locs ls (hP.sub [0, 1, 2, 3, 4, 5] rfl) (hD.sub [0, 1, 2, 3, 4, 5] (by decide) rfl) hS (lv_sub hl [0, 1, 2, 3, 4, 5, 6, 7, 8, 9] rfl)
        exact hloop47 _ 1 0 0 (by omega) (rfl) (Nat.lt_succ_self _) H locs ls (hP.sub [0, 1, 2, 3, 4, 5] rfl) (hD.sub [0, 1, 2, 3, 4, 5] (by decide) rfl) hS (lv_sub hl [0, 1, 2, 3, 4, 5, 6, 7, 8, 9] rfl)
  exact hloop6 _ 0 0 fa fd fn fp 0 (by omega) (rfl) (fun e he => absurd he (Nat.not_lt_zero e)) (Nat.lt_succ_self _) H locs ls (hP.sub [0, 1, 2, 3, 4, 5] rfl) (hD.sub [0, 1, 2, 3, 4, 5] (by decide) rfl) hS (lv_sub hl [0, 1, 2, 3, 4, 5, 6, 7] rfl)
