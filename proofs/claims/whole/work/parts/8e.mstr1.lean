theorem kX9_isStrange_9 : ∀ w ∈ u_ws RX9 TX9 37, w ∈ wsX9_isStrange := fun _ h => List.mem_cons_of_mem _ (List.mem_append_right _ h)
abbrev q_X9_isStrange (g : GT) (hm : Nat) (a : Nat → Nat) (i : Nat → Int) (qm : Nat → Int) (qu : Nat → Int) (ql : Nat → Int) (qg : Nat → Int) (qa : Nat → Int) (fa : Nat → Int) (fd : Nat → Int) (fn : Nat → Int) (kw : Nat → Int) (x : Int) (k : Nat) : Option Value → va_W → Prop := fun v w => ∃ (fa' : Nat → Int), ∃ (fd' : Nat → Int), ∃ (fn' : Nat → Int), (v = some (.int (iI 1)) ∧ (qa k = 0 ∧ anyH ((cqv qu ql qg) k) 93 = 0) ∨ v = some (.int (iI 0)) ∧ ¬ (qa k = 0 ∧ anyH ((cqv qu ql qg) k) 93 = 0)) ∧ w = [(hm, .inr (9, mF a i)), ((a 6), aI (g.2.1 0) 12 qm), ((a 7), aI (g.2.1 0) 480 qu), ((a 8), aI (g.2.1 0) 480 ql), ((a 9), aI (g.2.1 0) 480 qg), ((a 10), aI (g.2.1 1) 480 qa), ((a 1), aI (g.2.1 0) 3 fa'), ((a 2), aI (g.2.1 0) 3 fd'), ((a 3), aI (g.2.1 0) 3 fn'), ((a 0), aI (g.2.1 0) 93 kw)]
set_option maxHeartbeats 4000000 in
set_option maxRecDepth 100000 in
theorem c_X9_isStrange (l : Launch) (g : GT) (hm : Nat) (a : Nat → Nat) (i : Nat → Int) (qm : Nat → Int) (qu : Nat → Int) (ql : Nat → Int) (qg : Nat → Int) (qa : Nat → Int) (fa : Nat → Int) (fd : Nat → Int) (fn : Nat → Int) (kw : Nat → Int) (x : Int) (k : Nat) (h1 : x = (k : Int) ∧ k < 480) (h2 : AnOK qu ql qg qa k) (hk_ : ∀ p, p < 93 → kw p = oT p) : Ct l g yX9_isStrange wsX9_isStrange ({ frames := 2, cells := 0, slots := 0, locals := 51 } : Room) [.ref hm, .int (iI x)] [(hm, .inr (9, mF a i)), ((a 6), aI (g.2.1 0) 12 qm), ((a 7), aI (g.2.1 0) 480 qu), ((a 8), aI (g.2.1 0) 480 ql), ((a 9), aI (g.2.1 0) 480 qg), ((a 10), aI (g.2.1 1) 480 qa), ((a 1), aI (g.2.1 0) 3 fa), ((a 2), aI (g.2.1 0) 3 fd), ((a 3), aI (g.2.1 0) 3 fn), ((a 0), aI (g.2.1 0) 93 kw)] (q_X9_isStrange g hm a i qm qu ql qg qa fa fd fn kw x k) := by
  refine Ct.intro (maxL := 4) (ret := (some .boolean)) (by decide) rfl (Nat.le_of_ble_eq_true rfl) ?_
  intro p e s m below meth c A ls hx hb hr hml hown hts hlocks hnm hA hG hP hD hS hl
  have hown : s.vm.findClass RX9 = some m.cls := hown
  have hl : lv_has ls 4 [(0, .ref hm), (1, .int (iI x))] := hl
  have hP : va_P g.1 vwCl [(hm, .inr (9, mF a i)), ((a 6), aI (g.2.1 0) 12 qm), ((a 7), aI (g.2.1 0) 480 qu), ((a 8), aI (g.2.1 0) 480 ql), ((a 9), aI (g.2.1 0) 480 qg), ((a 10), aI (g.2.1 1) 480 qa), ((a 1), aI (g.2.1 0) 3 fa), ((a 2), aI (g.2.1 0) 3 fd), ((a 3), aI (g.2.1 0) 3 fn), ((a 0), aI (g.2.1 0) 93 kw)] s.heap := hP
  have hS : va_S A s.heap s.heap [] := hS
  obtain ⟨H, hHe⟩ : ∃ H : Heap, H = s.heap := ⟨_, rfl⟩
  obtain ⟨locs, hLe⟩ : ∃ L : List Loc, L = [] := ⟨_, rfl⟩
  have hP : va_P g.1 vwCl [(hm, .inr (9, mF a i)), ((a 6), aI (g.2.1 0) 12 qm), ((a 7), aI (g.2.1 0) 480 qu), ((a 8), aI (g.2.1 0) 480 ql), ((a 9), aI (g.2.1 0) 480 qg), ((a 10), aI (g.2.1 1) 480 qa), ((a 1), aI (g.2.1 0) 3 fa), ((a 2), aI (g.2.1 0) 3 fd), ((a 3), aI (g.2.1 0) 3 fn), ((a 0), aI (g.2.1 0) 93 kw)] H := by rw [hHe]; exact hP
  have hS : va_S A s.heap H locs := by rw [hHe, hLe]; exact hS
  suffices hgo : W p l e ({ frames := 2, cells := 0, slots := 0, locals := 51 } : Room) s m [.ref hm, .int (iI x)].toArray below meth c H locs 0 0 (MQ below (CQ g (q_X9_isStrange g hm a i qm qu ql qg qa fa fd fn kw x k) A) [.ref hm, .int (iI x)].toArray s ({ frames := 2, cells := 0, slots := 0, locals := 51 } : Room).cells ({ frames := 2, cells := 0, slots := 0, locals := 51 } : Room).slots A) (F0 m 0 ls []) by rw [hHe, hLe] at hgo; exact hgo
  clear hHe hLe
  refine lv_aload_n hx hb dX9_isStrange_0 rfl (lv_at hl 0 rfl) ?_
  refine va_get (D := g.1) (ci := 9) (v := .ref (a 10)) hx hb hts kX9_isStrange_9 hown hG.1 hP 0 rfl rfl 10 (by decide) (hts _ (List.mem_of_getElem? (i := 1) rfl)) (fun _ h9 => h9) rfl dX9_isStrange_1 ?_
  refine lv_iload_n hx hb dX9_isStrange_4 rfl (lv_at hl 1 rfl) ?_
  refine iv_zald hx hb hG hP 5 rfl k (by omega) (by omega) (by decide) dX9_isStrange_5 ?_
  refine iv_if_ne (tgt := 13) hx hb dX9_isStrange_6 (by decide) (by omega) (fun hc1 => ?_) (fun hc1 => ?_)
  · refine lv_iconst (v := iI (0)) hx hb dX9_isStrange_13 rfl ?_
    refine lv_istore_n (lv' := [(2, .int (iI 0)), (0, .ref hm), (1, .int (iI x))]) hx hb dX9_isStrange_14 rfl hl (by decide) rfl (fun ls hl => ?_)
    refine lv_iconst (v := iI (0)) hx hb dX9_isStrange_15 rfl ?_
    refine lv_istore_n (lv' := [(3, .int (iI 0)), (2, .int (iI 0)), (0, .ref hm), (1, .int (iI x))]) hx hb dX9_isStrange_16 rfl hl (by decide) rfl (fun ls hl => ?_)
    have hloop17 : ∀ (fuel : Nat) (is : Int) (zp : Int) (g1 : Nat → Int) (g2 : Nat → Int) (g3 : Nat → Int) (p9 : Nat) (hc : zp = (p9 : Int) ∧ p9 ≤ 93) (hs : (is = 1 ∧ qa k = 0 ∧ anyH ((cqv qu ql qg) k) p9 = 0) ∨ (is = 0 ∧ ¬ (qa k = 0 ∧ anyH ((cqv qu ql qg) k) 93 = 0))) (hmeas : 93 - p9 < fuel), ∀ (H : Heap) (locs : List Loc) (ls : Array Slot), va_P g.1 vwCl [(hm, .inr (9, mF a i)), ((a 6), aI (g.2.1 0) 12 qm), ((a 7), aI (g.2.1 0) 480 qu), ((a 8), aI (g.2.1 0) 480 ql), ((a 9), aI (g.2.1 0) 480 qg), ((a 10), aI (g.2.1 1) 480 qa), ((a 1), aI (g.2.1 0) 3 g1), ((a 2), aI (g.2.1 0) 3 g2), ((a 3), aI (g.2.1 0) 3 g3), ((a 0), aI (g.2.1 0) 93 kw)] H → va_D A [(hm, .inr (9, mF a i)), ((a 6), aI (g.2.1 0) 12 qm), ((a 7), aI (g.2.1 0) 480 qu), ((a 8), aI (g.2.1 0) 480 ql), ((a 9), aI (g.2.1 0) 480 qg), ((a 10), aI (g.2.1 1) 480 qa), ((a 1), aI (g.2.1 0) 3 g1), ((a 2), aI (g.2.1 0) 3 g2), ((a 3), aI (g.2.1 0) 3 g3), ((a 0), aI (g.2.1 0) 93 kw)] → va_S A s.heap H locs → lv_has ls 4 [(3, .int (iI zp)), (2, .int (iI is)), (0, .ref hm), (1, .int (iI x))] → W p l e ({ frames := 2, cells := 0, slots := 0, locals := 51 } : Room) s m [.ref hm, .int (iI x)].toArray below meth c H locs 0 0 (MQ below (CQ g (q_X9_isStrange g hm a i qm qu ql qg qa fa fd fn kw x k) A) [.ref hm, .int (iI x)].toArray s ({ frames := 2, cells := 0, slots := 0, locals := 51 } : Room).cells ({ frames := 2, cells := 0, slots := 0, locals := 51 } : Room).slots A) (F0 m 17 ls []) := by
      intro fuel
      induction fuel with
      | zero => intro is zp g1 g2 g3 p9 hc hs hmeas; exact absurd hmeas (Nat.not_lt_zero _)
      | succ fuel ih17 =>
        intro is zp g1 g2 g3 p9 hc hs hmeas H locs ls hP hD hS hl
        refine lv_iload_n hx hb dX9_isStrange_17 rfl (lv_at hl 0 rfl) ?_
        refine lv_bipush (v := iI (93)) hx hb dX9_isStrange_18 (by decide) ?_
        refine iv_icmp_ge (tgt := 70) hx hb dX9_isStrange_20 (by decide) (by omega) (fun hc2 => ?_) (fun hc2 => ?_)
        · refine lv_iload_n hx hb dX9_isStrange_70 rfl (lv_at hl 1 rfl) ?_
          exact Ct.zret hx hb hr hlocks (hP.sub [0, 1, 2, 3, 4, 5, 6, 7, 8, 9] rfl) (hD.sub [0, 1, 2, 3, 4, 5, 6, 7, 8, 9] (by decide) rfl) hS ⟨by decide, by decide⟩ dX9_isStrange_71 (by rcases hs with z | z <;> rw [z.1] <;> decide) ⟨g1, g2, g3, (by rcases hs with z | z; exact Or.inl ⟨by rw [z.1], z.2.1, by first | (rw [← show p9 = 93 from by omega]; exact z.2.2) | (exfalso; omega)⟩; exact Or.inr ⟨by rw [z.1], z.2⟩), rfl⟩
        · refine lv_iload_n hx hb dX9_isStrange_23 rfl (lv_at hl 1 rfl) ?_
          refine iv_if_eq (tgt := 70) hx hb dX9_isStrange_24 (by decide) (by omega) (fun hc3 => ?_) (fun hc3 => ?_)
          · refine lv_iload_n hx hb dX9_isStrange_70 rfl (lv_at hl 1 rfl) ?_
            exact Ct.zret hx hb hr hlocks (hP.sub [0, 1, 2, 3, 4, 5, 6, 7, 8, 9] rfl) (hD.sub [0, 1, 2, 3, 4, 5, 6, 7, 8, 9] (by decide) rfl) hS ⟨by decide, by decide⟩ dX9_isStrange_71 (by rcases hs with z | z <;> rw [z.1] <;> decide) ⟨g1, g2, g3, (by rcases hs with z | z; exact Or.inl ⟨by rw [z.1], z.2.1, by first | (rw [← show p9 = 93 from by omega]; exact z.2.2) | (exfalso; omega)⟩; exact Or.inr ⟨by rw [z.1], z.2⟩), rfl⟩
          · have hko := hk_ p9 (by omega)
            have hor := oT_rng p9 (by omega)
            have hcd := case_dec (a := qu k) (b := ql k) (c := qg k) (by omega)
            refine lv_aload_n hx hb dX9_isStrange_27 rfl (lv_at hl 2 rfl) ?_
            refine lv_aload_n hx hb dX9_isStrange_28 rfl (lv_at hl 2 rfl) ?_
            refine va_get (D := g.1) (ci := 9) (v := .ref (a 7)) hx hb hts kX9_isStrange_9 hown hG.1 hP 0 rfl rfl 7 (by decide) (hts _ (List.mem_of_getElem? (i := 2) rfl)) (fun _ h9 => h9) rfl dX9_isStrange_29 ?_
            refine lv_iload_n hx hb dX9_isStrange_32 rfl (lv_at hl 3 rfl) ?_
            refine iv_iald hx hb hG hP 2 rfl k (by omega) (by omega) (by decide) dX9_isStrange_33 ?_
            refine lv_aload_n hx hb dX9_isStrange_34 rfl (lv_at hl 2 rfl) ?_
            refine va_get (D := g.1) (ci := 9) (v := .ref (a 8)) hx hb hts kX9_isStrange_9 hown hG.1 hP 0 rfl rfl 8 (by decide) (hts _ (List.mem_of_getElem? (i := 3) rfl)) (fun _ h9 => h9) rfl dX9_isStrange_35 ?_
            refine lv_iload_n hx hb dX9_isStrange_38 rfl (lv_at hl 3 rfl) ?_
            refine iv_iald hx hb hG hP 3 rfl k (by omega) (by omega) (by decide) dX9_isStrange_39 ?_
            refine lv_aload_n hx hb dX9_isStrange_40 rfl (lv_at hl 2 rfl) ?_
            refine va_get (D := g.1) (ci := 9) (v := .ref (a 0)) hx hb hts kX9_isStrange_9 hown hG.1 hP 0 rfl rfl 0 (by decide) (hts _ (List.mem_of_getElem? (i := 4) rfl)) (fun _ h9 => h9) rfl dX9_isStrange_41 ?_
            refine lv_iload_n hx hb dX9_isStrange_44 rfl (lv_at hl 0 rfl) ?_
            refine iv_iald hx hb hG hP 9 rfl p9 (by omega) (by omega) (by decide) dX9_isStrange_45 ?_
            refine Ct.callV (ci := 9) (q0 := 0) (qc := (RX9, TX9, 37)) (As := [.int (iI (qu k)), .int (iI (ql k)), .int (iI (kw p9))]) (rest := []) (wr := [((a 6), aI (g.2.1 0) 12 qm), ((a 7), aI (g.2.1 0) 480 qu), ((a 8), aI (g.2.1 0) 480 ql), ((a 9), aI (g.2.1 0) 480 qg), ((a 10), aI (g.2.1 1) 480 qa), ((a 0), aI (g.2.1 0) 93 kw)]) (c1 := 0) (s1 := 0) ⟨hx, hb, hml, hown, hts⟩ (c_X9_workOf l g hm a i g1 g2 g3 (qu k) (ql k) (kw p9) (by omega)) rfl rfl (cwV 3 hts gX9_isStrange_X9_workOf rfl rfl rfl (by decide +kernel) ⟨Nat.le_of_ble_eq_true rfl, Nat.le_of_ble_eq_true rfl⟩) hG hP hD hS hA [0, 6, 7, 8] [1, 2, 3, 4, 5, 9] rfl rfl (by decide) (by decide) (by decide) rfl hl.1 rfl (Nat.le_of_ble_eq_true rfl) dX9_isStrange_46 ⟨Nat.le_of_ble_eq_true rfl, Nat.le_of_ble_eq_true rfl⟩ rfl rfl (fun v w H locs hv hP hD hS => ?_)
            obtain ⟨fa4, fd5, fn6, rfl, rfl, hf7, hf8⟩ := hv
            show W p l e _ s m _ below meth c H locs 0 0 _ (F0 m 49 ls (.int (iI (wk (qu k) (ql k) (kw p9))) :: []))
            have hP : va_P g.1 vwCl [((a 6), aI (g.2.1 0) 12 qm), ((a 7), aI (g.2.1 0) 480 qu), ((a 8), aI (g.2.1 0) 480 ql), ((a 9), aI (g.2.1 0) 480 qg), ((a 10), aI (g.2.1 1) 480 qa), ((a 0), aI (g.2.1 0) 93 kw), (hm, .inr (9, mF a i)), ((a 1), aI (g.2.1 0) 3 fa4), ((a 2), aI (g.2.1 0) 3 fd5), ((a 3), aI (g.2.1 0) 3 fn6)] H := hP
            have hD : va_D A [((a 6), aI (g.2.1 0) 12 qm), ((a 7), aI (g.2.1 0) 480 qu), ((a 8), aI (g.2.1 0) 480 ql), ((a 9), aI (g.2.1 0) 480 qg), ((a 10), aI (g.2.1 1) 480 qa), ((a 0), aI (g.2.1 0) 93 kw), (hm, .inr (9, mF a i)), ((a 1), aI (g.2.1 0) 3 fa4), ((a 2), aI (g.2.1 0) 3 fd5), ((a 3), aI (g.2.1 0) 3 fn6)] := hD
            have hwr := wk_rng (qu k) (ql k) (kw p9)
            refine lv_aload_n hx hb dX9_isStrange_49 rfl (lv_at hl 2 rfl) ?_
            refine va_get (D := g.1) (ci := 9) (v := .ref (a 9)) hx hb hts kX9_isStrange_9 hown hG.1 hP 6 rfl rfl 9 (by decide) (hts _ (List.mem_of_getElem? (i := 5) rfl)) (fun _ h9 => h9) rfl dX9_isStrange_50 ?_
            refine lv_iload_n hx hb dX9_isStrange_53 rfl (lv_at hl 3 rfl) ?_
            refine iv_iald hx hb hG hP 3 rfl k (by omega) (by omega) (by decide) dX9_isStrange_54 ?_
            refine iv_icmp_eq (tgt := 62) hx hb dX9_isStrange_55 (by decide) (by omega) (fun hc9 => ?_) (fun hc9 => ?_)
            · have hih : hitP ((cqv qu ql qg) k) p9 := (by unfold hitP; rw [hcd.2.1, hcd.2.2.1, hcd.2.2.2, ← hko]; omega)
              refine lv_iconst (v := iI (0)) hx hb dX9_isStrange_62 rfl ?_
              refine lv_istore_n (lv' := [(2, .int (iI 0)), (3, .int (iI zp)), (0, .ref hm), (1, .int (iI x))]) hx hb dX9_isStrange_63 rfl hl (by decide) rfl (fun ls hl => ?_)
              refine iv_iinc (k := 1) (x := zp) (lv' := [(3, .int (iI (zp + 1))), (2, .int (iI 0)), (0, .ref hm), (1, .int (iI x))]) hx hb dX9_isStrange_64 hl rfl (by decide) rfl (fun ls hl => ?_)
              refine lv_goto (tgt := 17) hx hb dX9_isStrange_67 (by decide) ?_
              exact ih17 0 (zp + 1) fa4 fd5 fn6 (p9 + 1) (by omega) (by rcases hs with z | z; (first | (refine Or.inl ⟨rfl, z.2.1, ?_⟩; unfold anyH; rw [if_neg hnh]; exact z.2.2) | (refine Or.inr ⟨rfl, fun z9 => ?_⟩; exact (anyH_0 _ 93).mp z9.2 p9 (by omega) hih)); exfalso; omega) (by omega) H locs ls (hP.sub [6, 0, 1, 2, 3, 4, 7, 8, 9, 5] rfl) (hD.sub [6, 0, 1, 2, 3, 4, 7, 8, 9, 5] (by decide) rfl) hS (lv_sub hl [0, 1, 2, 3] rfl)
            · have hnh : ¬ hitP ((cqv qu ql qg) k) p9 := (by unfold hitP; rw [hcd.2.1, hcd.2.2.1, hcd.2.2.2, ← hko]; omega)
              refine lv_iconst (v := iI (1)) hx hb dX9_isStrange_58 rfl ?_
              refine lv_goto (tgt := 63) hx hb dX9_isStrange_59 (by decide) ?_
              refine lv_istore_n (lv' := [(2, .int (iI 1)), (3, .int (iI zp)), (0, .ref hm), (1, .int (iI x))]) hx hb dX9_isStrange_63 rfl hl (by decide) rfl (fun ls hl => ?_)
              refine iv_iinc (k := 1) (x := zp) (lv' := [(3, .int (iI (zp + 1))), (2, .int (iI 1)), (0, .ref hm), (1, .int (iI x))]) hx hb dX9_isStrange_64 hl rfl (by decide) rfl (fun ls hl => ?_)
              refine lv_goto (tgt := 17) hx hb dX9_isStrange_67 (by decide) ?_
              exact ih17 1 (zp + 1) fa4 fd5 fn6 (p9 + 1) (by omega) (by rcases hs with z | z; (first | (refine Or.inl ⟨rfl, z.2.1, ?_⟩; unfold anyH; rw [if_neg hnh]; exact z.2.2) | (refine Or.inr ⟨rfl, fun z9 => ?_⟩; exact (anyH_0 _ 93).mp z9.2 p9 (by omega) hih)); exfalso; omega) (by omega) H locs ls (hP.sub [6, 0, 1, 2, 3, 4, 7, 8, 9, 5] rfl) (hD.sub [6, 0, 1, 2, 3, 4, 7, 8, 9, 5] (by decide) rfl) hS (lv_sub hl [0, 1, 2, 3] rfl)
    exact hloop17 _ 0 0 fa fd fn 0 (by omega) (by first | exact Or.inl ⟨rfl, by omega, rfl⟩ | exact Or.inr ⟨rfl, by omega⟩) (Nat.lt_succ_self _) H locs ls (hP.sub [0, 1, 2, 3, 4, 5, 6, 7, 8, 9] rfl) (hD.sub [0, 1, 2, 3, 4, 5, 6, 7, 8, 9] (by decide) rfl) hS (lv_sub hl [0, 1, 2, 3] rfl)
  · refine lv_iconst (v := iI (1)) hx hb dX9_isStrange_9 rfl ?_
    refine lv_goto (tgt := 14) hx hb dX9_isStrange_10 (by decide) ?_
    refine lv_istore_n (lv' := [(2, .int (iI 1)), (0, .ref hm), (1, .int (iI x))]) hx hb dX9_isStrange_14 rfl hl (by decide) rfl (fun ls hl => ?_)
    refine lv_iconst (v := iI (0)) hx hb dX9_isStrange_15 rfl ?_
    refine lv_istore_n (lv' := [(3, .int (iI 0)), (2, .int (iI 1)), (0, .ref hm), (1, .int (iI x))]) hx hb dX9_isStrange_16 rfl hl (by decide) rfl (fun ls hl => ?_)
    have hloop17 : ∀ (fuel : Nat) (is : Int) (zp : Int) (g1 : Nat → Int) (g2 : Nat → Int) (g3 : Nat → Int) (p9 : Nat) (hc : zp = (p9 : Int) ∧ p9 ≤ 93) (hs : (is = 1 ∧ qa k = 0 ∧ anyH ((cqv qu ql qg) k) p9 = 0) ∨ (is = 0 ∧ ¬ (qa k = 0 ∧ anyH ((cqv qu ql qg) k) 93 = 0))) (hmeas : 93 - p9 < fuel), ∀ (H : Heap) (locs : List Loc) (ls : Array Slot), va_P g.1 vwCl [(hm, .inr (9, mF a i)), ((a 6), aI (g.2.1 0) 12 qm), ((a 7), aI (g.2.1 0) 480 qu), ((a 8), aI (g.2.1 0) 480 ql), ((a 9), aI (g.2.1 0) 480 qg), ((a 10), aI (g.2.1 1) 480 qa), ((a 1), aI (g.2.1 0) 3 g1), ((a 2), aI (g.2.1 0) 3 g2), ((a 3), aI (g.2.1 0) 3 g3), ((a 0), aI (g.2.1 0) 93 kw)] H → va_D A [(hm, .inr (9, mF a i)), ((a 6), aI (g.2.1 0) 12 qm), ((a 7), aI (g.2.1 0) 480 qu), ((a 8), aI (g.2.1 0) 480 ql), ((a 9), aI (g.2.1 0) 480 qg), ((a 10), aI (g.2.1 1) 480 qa), ((a 1), aI (g.2.1 0) 3 g1), ((a 2), aI (g.2.1 0) 3 g2), ((a 3), aI (g.2.1 0) 3 g3), ((a 0), aI (g.2.1 0) 93 kw)] → va_S A s.heap H locs → lv_has ls 4 [(3, .int (iI zp)), (2, .int (iI is)), (0, .ref hm), (1, .int (iI x))] → W p l e ({ frames := 2, cells := 0, slots := 0, locals := 51 } : Room) s m [.ref hm, .int (iI x)].toArray below meth c H locs 0 0 (MQ below (CQ g (q_X9_isStrange g hm a i qm qu ql qg qa fa fd fn kw x k) A) [.ref hm, .int (iI x)].toArray s ({ frames := 2, cells := 0, slots := 0, locals := 51 } : Room).cells ({ frames := 2, cells := 0, slots := 0, locals := 51 } : Room).slots A) (F0 m 17 ls []) := by
      intro fuel
      induction fuel with
      | zero => intro is zp g1 g2 g3 p9 hc hs hmeas; exact absurd hmeas (Nat.not_lt_zero _)
      | succ fuel ih17 =>
        intro is zp g1 g2 g3 p9 hc hs hmeas H locs ls hP hD hS hl
        refine lv_iload_n hx hb dX9_isStrange_17 rfl (lv_at hl 0 rfl) ?_
        refine lv_bipush (v := iI (93)) hx hb dX9_isStrange_18 (by decide) ?_
        refine iv_icmp_ge (tgt := 70) hx hb dX9_isStrange_20 (by decide) (by omega) (fun hc10 => ?_) (fun hc10 => ?_)
        · refine lv_iload_n hx hb dX9_isStrange_70 rfl (lv_at hl 1 rfl) ?_
          exact Ct.zret hx hb hr hlocks (hP.sub [0, 1, 2, 3, 4, 5, 6, 7, 8, 9] rfl) (hD.sub [0, 1, 2, 3, 4, 5, 6, 7, 8, 9] (by decide) rfl) hS ⟨by decide, by decide⟩ dX9_isStrange_71 (by rcases hs with z | z <;> rw [z.1] <;> decide) ⟨g1, g2, g3, (by rcases hs with z | z; exact Or.inl ⟨by rw [z.1], z.2.1, by first | (rw [← show p9 = 93 from by omega]; exact z.2.2) | (exfalso; omega)⟩; exact Or.inr ⟨by rw [z.1], z.2⟩), rfl⟩
        · refine lv_iload_n hx hb dX9_isStrange_23 rfl (lv_at hl 1 rfl) ?_
          refine iv_if_eq (tgt := 70) hx hb dX9_isStrange_24 (by decide) (by omega) (fun hc11 => ?_) (fun hc11 => ?_)
          · refine lv_iload_n hx hb dX9_isStrange_70 rfl (lv_at hl 1 rfl) ?_
            exact Ct.zret hx hb hr hlocks (hP.sub [0, 1, 2, 3, 4, 5, 6, 7, 8, 9] rfl) (hD.sub [0, 1, 2, 3, 4, 5, 6, 7, 8, 9] (by decide) rfl) hS ⟨by decide, by decide⟩ dX9_isStrange_71 (by rcases hs with z | z <;> rw [z.1] <;> decide) ⟨g1, g2, g3, (by rcases hs with z | z; exact Or.inl ⟨by rw [z.1], z.2.1, by first | (rw [← show p9 = 93 from by omega]; exact z.2.2) | (exfalso; omega)⟩; exact Or.inr ⟨by rw [z.1], z.2⟩), rfl⟩
          · have hko := hk_ p9 (by omega)
            have hor := oT_rng p9 (by omega)
            have hcd := case_dec (a := qu k) (b := ql k) (c := qg k) (by omega)
            refine lv_aload_n hx hb dX9_isStrange_27 rfl (lv_at hl 2 rfl) ?_
            refine lv_aload_n hx hb dX9_isStrange_28 rfl (lv_at hl 2 rfl) ?_
            refine va_get (D := g.1) (ci := 9) (v := .ref (a 7)) hx hb hts kX9_isStrange_9 hown hG.1 hP 0 rfl rfl 7 (by decide) (hts _ (List.mem_of_getElem? (i := 2) rfl)) (fun _ h9 => h9) rfl dX9_isStrange_29 ?_
            refine lv_iload_n hx hb dX9_isStrange_32 rfl (lv_at hl 3 rfl) ?_
            refine iv_iald hx hb hG hP 2 rfl k (by omega) (by omega) (by decide) dX9_isStrange_33 ?_
            refine lv_aload_n hx hb dX9_isStrange_34 rfl (lv_at hl 2 rfl) ?_
            refine va_get (D := g.1) (ci := 9) (v := .ref (a 8)) hx hb hts kX9_isStrange_9 hown hG.1 hP 0 rfl rfl 8 (by decide) (hts _ (List.mem_of_getElem? (i := 3) rfl)) (fun _ h9 => h9) rfl dX9_isStrange_35 ?_
            refine lv_iload_n hx hb dX9_isStrange_38 rfl (lv_at hl 3 rfl) ?_
            refine iv_iald hx hb hG hP 3 rfl k (by omega) (by omega) (by decide) dX9_isStrange_39 ?_
            refine lv_aload_n hx hb dX9_isStrange_40 rfl (lv_at hl 2 rfl) ?_
            refine va_get (D := g.1) (ci := 9) (v := .ref (a 0)) hx hb hts kX9_isStrange_9 hown hG.1 hP 0 rfl rfl 0 (by decide) (hts _ (List.mem_of_getElem? (i := 4) rfl)) (fun _ h9 => h9) rfl dX9_isStrange_41 ?_
            refine lv_iload_n hx hb dX9_isStrange_44 rfl (lv_at hl 0 rfl) ?_
            refine iv_iald hx hb hG hP 9 rfl p9 (by omega) (by omega) (by decide) dX9_isStrange_45 ?_
            refine Ct.callV (ci := 9) (q0 := 0) (qc := (RX9, TX9, 37)) (As := [.int (iI (qu k)), .int (iI (ql k)), .int (iI (kw p9))]) (rest := []) (wr := [((a 6), aI (g.2.1 0) 12 qm), ((a 7), aI (g.2.1 0) 480 qu), ((a 8), aI (g.2.1 0) 480 ql), ((a 9), aI (g.2.1 0) 480 qg), ((a 10), aI (g.2.1 1) 480 qa), ((a 0), aI (g.2.1 0) 93 kw)]) (c1 := 0) (s1 := 0) ⟨hx, hb, hml, hown, hts⟩ (c_X9_workOf l g hm a i g1 g2 g3 (qu k) (ql k) (kw p9) (by omega)) rfl rfl (cwV 3 hts gX9_isStrange_X9_workOf rfl rfl rfl (by decide +kernel) ⟨Nat.le_of_ble_eq_true rfl, Nat.le_of_ble_eq_true rfl⟩) hG hP hD hS hA [0, 6, 7, 8] [1, 2, 3, 4, 5, 9] rfl rfl (by decide) (by decide) (by decide) rfl hl.1 rfl (Nat.le_of_ble_eq_true rfl) dX9_isStrange_46 ⟨Nat.le_of_ble_eq_true rfl, Nat.le_of_ble_eq_true rfl⟩ rfl rfl (fun v w H locs hv hP hD hS => ?_)
            obtain ⟨fa12, fd13, fn14, rfl, rfl, hf15, hf16⟩ := hv
            show W p l e _ s m _ below meth c H locs 0 0 _ (F0 m 49 ls (.int (iI (wk (qu k) (ql k) (kw p9))) :: []))
            have hP : va_P g.1 vwCl [((a 6), aI (g.2.1 0) 12 qm), ((a 7), aI (g.2.1 0) 480 qu), ((a 8), aI (g.2.1 0) 480 ql), ((a 9), aI (g.2.1 0) 480 qg), ((a 10), aI (g.2.1 1) 480 qa), ((a 0), aI (g.2.1 0) 93 kw), (hm, .inr (9, mF a i)), ((a 1), aI (g.2.1 0) 3 fa12), ((a 2), aI (g.2.1 0) 3 fd13), ((a 3), aI (g.2.1 0) 3 fn14)] H := hP
            have hD : va_D A [((a 6), aI (g.2.1 0) 12 qm), ((a 7), aI (g.2.1 0) 480 qu), ((a 8), aI (g.2.1 0) 480 ql), ((a 9), aI (g.2.1 0) 480 qg), ((a 10), aI (g.2.1 1) 480 qa), ((a 0), aI (g.2.1 0) 93 kw), (hm, .inr (9, mF a i)), ((a 1), aI (g.2.1 0) 3 fa12), ((a 2), aI (g.2.1 0) 3 fd13), ((a 3), aI (g.2.1 0) 3 fn14)] := hD
            have hwr := wk_rng (qu k) (ql k) (kw p9)
            refine lv_aload_n hx hb dX9_isStrange_49 rfl (lv_at hl 2 rfl) ?_
            refine va_get (D := g.1) (ci := 9) (v := .ref (a 9)) hx hb hts kX9_isStrange_9 hown hG.1 hP 6 rfl rfl 9 (by decide) (hts _ (List.mem_of_getElem? (i := 5) rfl)) (fun _ h9 => h9) rfl dX9_isStrange_50 ?_
            refine lv_iload_n hx hb dX9_isStrange_53 rfl (lv_at hl 3 rfl) ?_
            refine iv_iald hx hb hG hP 3 rfl k (by omega) (by omega) (by decide) dX9_isStrange_54 ?_
            refine iv_icmp_eq (tgt := 62) hx hb dX9_isStrange_55 (by decide) (by omega) (fun hc17 => ?_) (fun hc17 => ?_)
            · have hih : hitP ((cqv qu ql qg) k) p9 := (by unfold hitP; rw [hcd.2.1, hcd.2.2.1, hcd.2.2.2, ← hko]; omega)
              refine lv_iconst (v := iI (0)) hx hb dX9_isStrange_62 rfl ?_
              refine lv_istore_n (lv' := [(2, .int (iI 0)), (3, .int (iI zp)), (0, .ref hm), (1, .int (iI x))]) hx hb dX9_isStrange_63 rfl hl (by decide) rfl (fun ls hl => ?_)
              refine iv_iinc (k := 1) (x := zp) (lv' := [(3, .int (iI (zp + 1))), (2, .int (iI 0)), (0, .ref hm), (1, .int (iI x))]) hx hb dX9_isStrange_64 hl rfl (by decide) rfl (fun ls hl => ?_)
              refine lv_goto (tgt := 17) hx hb dX9_isStrange_67 (by decide) ?_
              exact ih17 0 (zp + 1) fa12 fd13 fn14 (p9 + 1) (by omega) (by rcases hs with z | z; (first | (refine Or.inl ⟨rfl, z.2.1, ?_⟩; unfold anyH; rw [if_neg hnh]; exact z.2.2) | (refine Or.inr ⟨rfl, fun z9 => ?_⟩; exact (anyH_0 _ 93).mp z9.2 p9 (by omega) hih)); exfalso; omega) (by omega) H locs ls (hP.sub [6, 0, 1, 2, 3, 4, 7, 8, 9, 5] rfl) (hD.sub [6, 0, 1, 2, 3, 4, 7, 8, 9, 5] (by decide) rfl) hS (lv_sub hl [0, 1, 2, 3] rfl)
            · have hnh : ¬ hitP ((cqv qu ql qg) k) p9 := (by unfold hitP; rw [hcd.2.1, hcd.2.2.1, hcd.2.2.2, ← hko]; omega)
              refine lv_iconst (v := iI (1)) hx hb dX9_isStrange_58 rfl ?_
              refine lv_goto (tgt := 63) hx hb dX9_isStrange_59 (by decide) ?_
              refine lv_istore_n (lv' := [(2, .int (iI 1)), (3, .int (iI zp)), (0, .ref hm), (1, .int (iI x))]) hx hb dX9_isStrange_63 rfl hl (by decide) rfl (fun ls hl => ?_)
              refine iv_iinc (k := 1) (x := zp) (lv' := [(3, .int (iI (zp + 1))), (2, .int (iI 1)), (0, .ref hm), (1, .int (iI x))]) hx hb dX9_isStrange_64 hl rfl (by decide) rfl (fun ls hl => ?_)
              refine lv_goto (tgt := 17) hx hb dX9_isStrange_67 (by decide) ?_
              exact ih17 1 (zp + 1) fa12 fd13 fn14 (p9 + 1) (by omega) (by rcases hs with z | z; (first | (refine Or.inl ⟨rfl, z.2.1, ?_⟩; unfold anyH; rw [if_neg hnh]; exact z.2.2) | (refine Or.inr ⟨rfl, fun z9 => ?_⟩; exact (anyH_0 _ 93).mp z9.2 p9 (by omega) hih)); exfalso; omega) (by omega) H locs ls (hP.sub [6, 0, 1, 2, 3, 4, 7, 8, 9, 5] rfl) (hD.sub [6, 0, 1, 2, 3, 4, 7, 8, 9, 5] (by decide) rfl) hS (lv_sub hl [0, 1, 2, 3] rfl)
    exact hloop17 _ 1 0 fa fd fn 0 (by omega) (by first | exact Or.inl ⟨rfl, by omega, rfl⟩ | exact Or.inr ⟨rfl, by omega⟩) (Nat.lt_succ_self _) H locs ls (hP.sub [0, 1, 2, 3, 4, 5, 6, 7, 8, 9] rfl) (hD.sub [0, 1, 2, 3, 4, 5, 6, 7, 8, 9] (by decide) rfl) hS (lv_sub hl [0, 1, 2, 3] rfl)
theorem kX9_keyOf_9 : ∀ w ∈ u_ws RX9 TX9 37, w ∈ wsX9_keyOf := fun _ h => List.mem_cons_of_mem _ (List.mem_append_right _ h)
abbrev q_X9_keyOf (g : GT) (hm : Nat) (a : Nat → Nat) (i : Nat → Int) (qu : Nat → Int) (ql : Nat → Int) (qg : Nat → Int) (x : Int) (k : Nat) : Option Value → va_W → Prop := fun v w => v = some (.long (lI ((cqv qu ql qg) k))) ∧ w = [(hm, .inr (9, mF a i)), ((a 7), aI (g.2.1 0) 480 qu), ((a 8), aI (g.2.1 0) 480 ql), ((a 9), aI (g.2.1 0) 480 qg)]
set_option maxHeartbeats 4000000 in
set_option maxRecDepth 100000 in
theorem c_X9_keyOf (l : Launch) (g : GT) (hm : Nat) (a : Nat → Nat) (i : Nat → Int) (qu : Nat → Int) (ql : Nat → Int) (qg : Nat → Int) (x : Int) (k : Nat) (h1 : x = (k : Int) ∧ k < 480) (h2 : (0 ≤ qu k ∧ qu k ≤ 999) ∧ (0 ≤ ql k ∧ ql k ≤ 999) ∧ 0 ≤ qg k ∧ qg k ≤ 999) : Ct l g yX9_keyOf wsX9_keyOf ({ frames := 0, cells := 0, slots := 0, locals := 0 } : Room) [.ref hm, .int (iI x)] [(hm, .inr (9, mF a i)), ((a 7), aI (g.2.1 0) 480 qu), ((a 8), aI (g.2.1 0) 480 ql), ((a 9), aI (g.2.1 0) 480 qg)] (q_X9_keyOf g hm a i qu ql qg x k) := by
  refine Ct.intro (maxL := 2) (ret := (some .long)) (by decide) rfl (Nat.le_of_ble_eq_true rfl) ?_
  intro p e s m below meth c A ls hx hb hr hml hown hts hlocks hnm hA hG hP hD hS hl
  have hown : s.vm.findClass RX9 = some m.cls := hown
  have hl : lv_has ls 2 [(0, .ref hm), (1, .int (iI x))] := hl
  have hP : va_P g.1 vwCl [(hm, .inr (9, mF a i)), ((a 7), aI (g.2.1 0) 480 qu), ((a 8), aI (g.2.1 0) 480 ql), ((a 9), aI (g.2.1 0) 480 qg)] s.heap := hP
  have hS : va_S A s.heap s.heap [] := hS
  obtain ⟨H, hHe⟩ : ∃ H : Heap, H = s.heap := ⟨_, rfl⟩
  obtain ⟨locs, hLe⟩ : ∃ L : List Loc, L = [] := ⟨_, rfl⟩
  have hP : va_P g.1 vwCl [(hm, .inr (9, mF a i)), ((a 7), aI (g.2.1 0) 480 qu), ((a 8), aI (g.2.1 0) 480 ql), ((a 9), aI (g.2.1 0) 480 qg)] H := by rw [hHe]; exact hP
  have hS : va_S A s.heap H locs := by rw [hHe, hLe]; exact hS
  suffices hgo : W p l e ({ frames := 0, cells := 0, slots := 0, locals := 0 } : Room) s m [.ref hm, .int (iI x)].toArray below meth c H locs 0 0 (MQ below (CQ g (q_X9_keyOf g hm a i qu ql qg x k) A) [.ref hm, .int (iI x)].toArray s ({ frames := 0, cells := 0, slots := 0, locals := 0 } : Room).cells ({ frames := 0, cells := 0, slots := 0, locals := 0 } : Room).slots A) (F0 m 0 ls []) by rw [hHe, hLe] at hgo; exact hgo
  clear hHe hLe
  refine iv_ldc2 (v := 1000000) (z := 1000000) hx hb hown (hts _ (List.mem_of_getElem? (i := 1) rfl)) dX9_keyOf_0 (by decide) ?_
  refine lv_aload_n hx hb dX9_keyOf_3 rfl (lv_at hl 0 rfl) ?_
  refine va_get (D := g.1) (ci := 9) (v := .ref (a 7)) hx hb hts kX9_keyOf_9 hown hG.1 hP 0 rfl rfl 7 (by decide) (hts _ (List.mem_of_getElem? (i := 2) rfl)) (fun _ h9 => h9) rfl dX9_keyOf_4 ?_
  refine lv_iload_n hx hb dX9_keyOf_7 rfl (lv_at hl 1 rfl) ?_
  refine iv_iald hx hb hG hP 1 rfl k (by omega) (by omega) (by decide) dX9_keyOf_8 ?_
  refine iv_i2l hx hb dX9_keyOf_9 (by omega) ?_
  refine iv_lmul hx hb dX9_keyOf_10 ?_
  refine iv_ldc2 (v := 1000) (z := 1000) hx hb hown (hts _ (List.mem_of_getElem? (i := 3) rfl)) dX9_keyOf_11 (by decide) ?_
  refine lv_aload_n hx hb dX9_keyOf_14 rfl (lv_at hl 0 rfl) ?_
  refine va_get (D := g.1) (ci := 9) (v := .ref (a 8)) hx hb hts kX9_keyOf_9 hown hG.1 hP 0 rfl rfl 8 (by decide) (hts _ (List.mem_of_getElem? (i := 4) rfl)) (fun _ h9 => h9) rfl dX9_keyOf_15 ?_
  refine lv_iload_n hx hb dX9_keyOf_18 rfl (lv_at hl 1 rfl) ?_
  refine iv_iald hx hb hG hP 2 rfl k (by omega) (by omega) (by decide) dX9_keyOf_19 ?_
  refine iv_i2l hx hb dX9_keyOf_20 (by omega) ?_
  refine iv_lmul hx hb dX9_keyOf_21 ?_
  refine iv_ladd hx hb dX9_keyOf_22 ?_
  refine lv_aload_n hx hb dX9_keyOf_23 rfl (lv_at hl 0 rfl) ?_
  refine va_get (D := g.1) (ci := 9) (v := .ref (a 9)) hx hb hts kX9_keyOf_9 hown hG.1 hP 0 rfl rfl 9 (by decide) (hts _ (List.mem_of_getElem? (i := 5) rfl)) (fun _ h9 => h9) rfl dX9_keyOf_24 ?_
  refine lv_iload_n hx hb dX9_keyOf_27 rfl (lv_at hl 1 rfl) ?_
  refine iv_iald hx hb hG hP 3 rfl k (by omega) (by omega) (by decide) dX9_keyOf_28 ?_
  refine iv_i2l hx hb dX9_keyOf_29 (by omega) ?_
  refine iv_ladd hx hb dX9_keyOf_30 ?_
  exact Ct.lret hx hb hr hlocks (hP.sub [0, 1, 2, 3] rfl) (hD.sub [0, 1, 2, 3] (by decide) rfl) hS ⟨by decide, by decide⟩ dX9_keyOf_31 ⟨by show _ = some (Value.long (lI (1000 * (1000 * qu k + ql k) + qg k))); rw [show 1000000 * qu k + 1000 * ql k + qg k = 1000 * (1000 * qu k + ql k) + qg k from by omega], rfl⟩
