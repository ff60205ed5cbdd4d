theorem kX9_workOf_9 : ∀ w ∈ u_ws RX9 TX9 37, w ∈ wsX9_workOf := fun _ h => List.mem_cons_of_mem _ (List.mem_append_right _ h)
abbrev q_X9_workOf (g : GT) (hm : Nat) (a : Nat → Nat) (i : Nat → Int) (fa : Nat → Int) (fd : Nat → Int) (fn : Nat → Int) (much : Int) (less : Int) (st : Int) : Option Value → va_W → Prop := fun v w => ∃ (fa' : Nat → Int), ∃ (fd' : Nat → Int), ∃ (fn' : Nat → Int), v = some (.int (iI (wk much less st))) ∧ w = [(hm, .inr (9, mF a i)), ((a 1), aI (g.2.1 0) 3 fa'), ((a 2), aI (g.2.1 0) 3 fd'), ((a 3), aI (g.2.1 0) 3 fn')] ∧ (∀ j, j < 3 → fd' j = wkG st much less j) ∧ (∀ j, j < 3 → fn' j = wkD st much less j)
set_option maxHeartbeats 4000000 in
set_option maxRecDepth 100000 in
theorem c_X9_workOf (l : Launch) (g : GT) (hm : Nat) (a : Nat → Nat) (i : Nat → Int) (fa : Nat → Int) (fd : Nat → Int) (fn : Nat → Int) (much : Int) (less : Int) (st : Int) (h1 : 0 ≤ less ∧ less ≤ much ∧ much ≤ 999 ∧ 0 ≤ st ∧ st ≤ 255) : Ct l g yX9_workOf wsX9_workOf ({ frames := 1, cells := 0, slots := 0, locals := 24 } : Room) [.ref hm, .int (iI much), .int (iI less), .int (iI st)] [(hm, .inr (9, mF a i)), ((a 1), aI (g.2.1 0) 3 fa), ((a 2), aI (g.2.1 0) 3 fd), ((a 3), aI (g.2.1 0) 3 fn)] (q_X9_workOf g hm a i fa fd fn much less st) := by
  refine Ct.intro (maxL := 8) (ret := (some .int)) (by decide) rfl (Nat.le_of_ble_eq_true rfl) ?_
  intro p e s m below meth c A ls hx hb hr hml hown hts hlocks hnm hA hG hP hD hS hl
  have hown : s.vm.findClass RX9 = some m.cls := hown
  have hl : lv_has ls 8 [(0, .ref hm), (1, .int (iI much)), (2, .int (iI less)), (3, .int (iI st))] := hl
  have hP : va_P g.1 vwCl [(hm, .inr (9, mF a i)), ((a 1), aI (g.2.1 0) 3 fa), ((a 2), aI (g.2.1 0) 3 fd), ((a 3), aI (g.2.1 0) 3 fn)] s.heap := hP
  have hS : va_S A s.heap s.heap [] := hS
  obtain ⟨H, hHe⟩ : ∃ H : Heap, H = s.heap := ⟨_, rfl⟩
  obtain ⟨locs, hLe⟩ : ∃ L : List Loc, L = [] := ⟨_, rfl⟩
  have hP : va_P g.1 vwCl [(hm, .inr (9, mF a i)), ((a 1), aI (g.2.1 0) 3 fa), ((a 2), aI (g.2.1 0) 3 fd), ((a 3), aI (g.2.1 0) 3 fn)] H := by rw [hHe]; exact hP
  have hS : va_S A s.heap H locs := by rw [hHe, hLe]; exact hS
  suffices hgo : W p l e ({ frames := 1, cells := 0, slots := 0, locals := 24 } : Room) s m [.ref hm, .int (iI much), .int (iI less), .int (iI st)].toArray below meth c H locs 0 0 (MQ below (CQ g (q_X9_workOf g hm a i fa fd fn much less st) A) [.ref hm, .int (iI much), .int (iI less), .int (iI st)].toArray s ({ frames := 1, cells := 0, slots := 0, locals := 24 } : Room).cells ({ frames := 1, cells := 0, slots := 0, locals := 24 } : Room).slots A) (F0 m 0 ls []) by rw [hHe, hLe] at hgo; exact hgo
  clear hHe hLe
  have hjoin21 : ∀ (wd : Int) (hw : Unit → ((wd = 3 ∧ 99 < less) ∨ (wd = 2 ∧ 9 < less ∧ less ≤ 99) ∨ (wd = 1 ∧ less ≤ 9))) (hwr : 1 ≤ wd ∧ wd ≤ 3), ∀ (H : Heap) (locs : List Loc) (ls : Array Slot), va_P g.1 vwCl [(hm, .inr (9, mF a i)), ((a 1), aI (g.2.1 0) 3 fa), ((a 2), aI (g.2.1 0) 3 fd), ((a 3), aI (g.2.1 0) 3 fn)] H → va_D A [(hm, .inr (9, mF a i)), ((a 1), aI (g.2.1 0) 3 fa), ((a 2), aI (g.2.1 0) 3 fd), ((a 3), aI (g.2.1 0) 3 fn)] → va_S A s.heap H locs → lv_has ls 8 [(0, .ref hm), (1, .int (iI much)), (2, .int (iI less)), (3, .int (iI st))] → W p l e ({ frames := 1, cells := 0, slots := 0, locals := 24 } : Room) s m [.ref hm, .int (iI much), .int (iI less), .int (iI st)].toArray below meth c H locs 0 0 (MQ below (CQ g (q_X9_workOf g hm a i fa fd fn much less st) A) [.ref hm, .int (iI much), .int (iI less), .int (iI st)].toArray s ({ frames := 1, cells := 0, slots := 0, locals := 24 } : Room).cells ({ frames := 1, cells := 0, slots := 0, locals := 24 } : Room).slots A) (F0 m 21 ls [.int (iI wd)]) := by
    intro wd hw hwr H locs ls hP hD hS hl
    refine lv_istore (lv' := [(4, .int (iI wd)), (0, .ref hm), (1, .int (iI much)), (2, .int (iI less)), (3, .int (iI st))]) hx hb dX9_workOf_21 hl (by decide) rfl (fun ls hl => ?_)
    refine lv_iconst (v := iI (0)) hx hb dX9_workOf_23 rfl ?_
    refine lv_istore (lv' := [(5, .int (iI 0)), (4, .int (iI wd)), (0, .ref hm), (1, .int (iI much)), (2, .int (iI less)), (3, .int (iI st))]) hx hb dX9_workOf_24 hl (by decide) rfl (fun ls hl => ?_)
    have hloop26 : ∀ (fuel : Nat) (c_ : Int) (fz : Nat → Int) (n : Nat) (hc : c_ = (n : Int) ∧ n ≤ 3) (hz0 : ∀ j, j < n → fz j = dg much j) (hmeas : 3 - n < fuel), ∀ (H : Heap) (locs : List Loc) (ls : Array Slot), va_P g.1 vwCl [(hm, .inr (9, mF a i)), ((a 1), aI (g.2.1 0) 3 fz), ((a 2), aI (g.2.1 0) 3 fd), ((a 3), aI (g.2.1 0) 3 fn)] H → va_D A [(hm, .inr (9, mF a i)), ((a 1), aI (g.2.1 0) 3 fz), ((a 2), aI (g.2.1 0) 3 fd), ((a 3), aI (g.2.1 0) 3 fn)] → va_S A s.heap H locs → lv_has ls 8 [(5, .int (iI c_)), (4, .int (iI wd)), (0, .ref hm), (1, .int (iI much)), (2, .int (iI less)), (3, .int (iI st))] → W p l e ({ frames := 1, cells := 0, slots := 0, locals := 24 } : Room) s m [.ref hm, .int (iI much), .int (iI less), .int (iI st)].toArray below meth c H locs 0 0 (MQ below (CQ g (q_X9_workOf g hm a i fa fd fn much less st) A) [.ref hm, .int (iI much), .int (iI less), .int (iI st)].toArray s ({ frames := 1, cells := 0, slots := 0, locals := 24 } : Room).cells ({ frames := 1, cells := 0, slots := 0, locals := 24 } : Room).slots A) (F0 m 26 ls []) := by
      intro fuel
      induction fuel with
      | zero => intro c_ fz n hc hz0 hmeas; exact absurd hmeas (Nat.not_lt_zero _)
      | succ fuel ih26 =>
        intro c_ fz n hc hz0 hmeas H locs ls hP hD hS hl
        refine lv_iload hx hb dX9_workOf_26 (lv_at hl 0 rfl) ?_
        refine lv_iconst (v := iI (3)) hx hb dX9_workOf_28 rfl ?_
        refine iv_icmp_ge (tgt := 51) hx hb dX9_workOf_29 (by decide) (by omega) (fun hc1 => ?_) (fun hc1 => ?_)
        · refine lv_iconst (v := iI (0)) hx hb dX9_workOf_51 rfl ?_
          refine lv_istore (lv' := [(5, .int (iI 0)), (4, .int (iI wd)), (0, .ref hm), (1, .int (iI much)), (2, .int (iI less)), (3, .int (iI st))]) hx hb dX9_workOf_52 hl (by decide) rfl (fun ls hl => ?_)
          have hloop54 : ∀ (fuel : Nat) (c2 : Int) (fz : Nat → Int) (fx : Nat → Int) (fy : Nat → Int) (n : Nat) (hc : c2 = (n : Int) ∧ n ≤ 3) (hz : ∀ j, j < 3 → fz j = wkA st much less n j) (hg1 : ∀ j, j < n → fx j = wkG st much less j) (hg2 : ∀ j, j < n → fy j = wkD st much less j) (hmeas : 3 - n < fuel), ∀ (H : Heap) (locs : List Loc) (ls : Array Slot), va_P g.1 vwCl [(hm, .inr (9, mF a i)), ((a 1), aI (g.2.1 0) 3 fz), ((a 2), aI (g.2.1 0) 3 fx), ((a 3), aI (g.2.1 0) 3 fy)] H → va_D A [(hm, .inr (9, mF a i)), ((a 1), aI (g.2.1 0) 3 fz), ((a 2), aI (g.2.1 0) 3 fx), ((a 3), aI (g.2.1 0) 3 fy)] → va_S A s.heap H locs → lv_has ls 8 [(5, .int (iI c2)), (4, .int (iI wd)), (0, .ref hm), (1, .int (iI much)), (2, .int (iI less)), (3, .int (iI st))] → W p l e ({ frames := 1, cells := 0, slots := 0, locals := 24 } : Room) s m [.ref hm, .int (iI much), .int (iI less), .int (iI st)].toArray below meth c H locs 0 0 (MQ below (CQ g (q_X9_workOf g hm a i fa fd fn much less st) A) [.ref hm, .int (iI much), .int (iI less), .int (iI st)].toArray s ({ frames := 1, cells := 0, slots := 0, locals := 24 } : Room).cells ({ frames := 1, cells := 0, slots := 0, locals := 24 } : Room).slots A) (F0 m 54 ls []) := by
            intro fuel
            induction fuel with
            | zero => intro c2 fz fx fy n hc hz hg1 hg2 hmeas; exact absurd hmeas (Nat.not_lt_zero _)
            | succ fuel ih54 =>
              intro c2 fz fx fy n hc hz hg1 hg2 hmeas H locs ls hP hD hS hl
              refine lv_iload hx hb dX9_workOf_54 (lv_at hl 0 rfl) ?_
              refine lv_iconst (v := iI (3)) hx hb dX9_workOf_56 rfl ?_
              refine iv_icmp_ge (tgt := 291) hx hb dX9_workOf_57 (by decide) (by omega) (fun hc2 => ?_) (fun hc2 => ?_)
              · refine lv_bipush (v := iI (100)) hx hb dX9_workOf_291 (by decide) ?_
                refine lv_aload_n hx hb dX9_workOf_293 rfl (lv_at hl 2 rfl) ?_
                refine va_get (D := g.1) (ci := 9) (v := .ref (a 2)) hx hb hts kX9_workOf_9 hown hG.1 hP 0 rfl rfl 2 (by decide) (hts _ (List.mem_of_getElem? (i := 3) rfl)) (fun _ h9 => h9) rfl dX9_workOf_294 ?_
                refine lv_iconst (v := iI (2)) hx hb dX9_workOf_297 rfl ?_
                refine iv_iald hx hb hG hP 2 rfl 2 (rfl) (by decide) (by decide) dX9_workOf_298 ?_
                refine iv_imul hx hb dX9_workOf_299 ?_
                refine lv_bipush (v := iI (10)) hx hb dX9_workOf_300 (by decide) ?_
                refine lv_aload_n hx hb dX9_workOf_302 rfl (lv_at hl 2 rfl) ?_
                refine va_get (D := g.1) (ci := 9) (v := .ref (a 2)) hx hb hts kX9_workOf_9 hown hG.1 hP 0 rfl rfl 2 (by decide) (hts _ (List.mem_of_getElem? (i := 3) rfl)) (fun _ h9 => h9) rfl dX9_workOf_303 ?_
                refine lv_iconst (v := iI (1)) hx hb dX9_workOf_306 rfl ?_
                refine iv_iald hx hb hG hP 2 rfl 1 (rfl) (by decide) (by decide) dX9_workOf_307 ?_
                refine iv_imul hx hb dX9_workOf_308 ?_
                refine iv_iadd hx hb dX9_workOf_309 ?_
                refine lv_aload_n hx hb dX9_workOf_310 rfl (lv_at hl 2 rfl) ?_
                refine va_get (D := g.1) (ci := 9) (v := .ref (a 2)) hx hb hts kX9_workOf_9 hown hG.1 hP 0 rfl rfl 2 (by decide) (hts _ (List.mem_of_getElem? (i := 3) rfl)) (fun _ h9 => h9) rfl dX9_workOf_311 ?_
                refine lv_iconst (v := iI (0)) hx hb dX9_workOf_314 rfl ?_
                refine iv_iald hx hb hG hP 2 rfl 0 (rfl) (by decide) (by decide) dX9_workOf_315 ?_
                refine iv_iadd hx hb dX9_workOf_316 ?_
                exact Ct.iret hx hb hr hlocks (hP.sub [0, 1, 2, 3] rfl) (hD.sub [0, 1, 2, 3] (by decide) rfl) hS ⟨by decide, by decide⟩ dX9_workOf_317 ⟨fz, fx, fy, (by rw [hg1 2 (by omega), hg1 1 (by omega), hg1 0 (by omega)]; rfl), rfl, (fun j hj => hg1 j (by omega)), (fun j hj => hg2 j (by omega))⟩
              · have hn3 : n < 3 := by omega
                have hbe : Unit → (bey less n = 1 ↔ wd ≤ (n : Int)) := fun _ => bey_wide hn3 (by omega) (hw ())
                have hk := wkA_rng st much less n (by omega) n hn3
                rw [← hz n hn3] at hk
                have hdr := dg_rng less n
                have hr9 : ∀ j, j < 3 → 0 ≤ fz j ∧ fz j ≤ 9 := fun j hj => by rw [hz j hj]; exact wkA_rng st much less n (by omega) j hj
                refine lv_aload_n hx hb dX9_workOf_60 rfl (lv_at hl 2 rfl) ?_
                refine va_get (D := g.1) (ci := 9) (v := .ref (a 1)) hx hb hts kX9_workOf_9 hown hG.1 hP 0 rfl rfl 1 (by decide) (hts _ (List.mem_of_getElem? (i := 1) rfl)) (fun _ h9 => h9) rfl dX9_workOf_61 ?_
                refine lv_iload hx hb dX9_workOf_64 (lv_at hl 0 rfl) ?_
                refine iv_iald hx hb hG hP 1 rfl n (by omega) (by omega) (by decide) dX9_workOf_66 ?_
                refine lv_istore (lv' := [(6, .int (iI (fz n))), (5, .int (iI c2)), (4, .int (iI wd)), (0, .ref hm), (1, .int (iI much)), (2, .int (iI less)), (3, .int (iI st))]) hx hb dX9_workOf_67 hl (by decide) rfl (fun ls hl => ?_)
                refine lv_iload_n hx hb dX9_workOf_69 rfl (lv_at hl 5 rfl) ?_
                refine lv_iload hx hb dX9_workOf_70 (lv_at hl 1 rfl) ?_
                refine Ct.callS (As := [.int (iI less), .int (iI c2)]) (rest := []) (wr := [(hm, .inr (9, mF a i)), ((a 1), aI (g.2.1 0) 3 fz), ((a 2), aI (g.2.1 0) 3 fx), ((a 3), aI (g.2.1 0) 3 fy)]) (c1 := 0) (s1 := 0) ⟨hx, hb, hml, hown, hts⟩ (c_X9_digitOf l g less c2 n (by omega)) (va_cwS 2 hts gX9_workOf_X9_digitOf rfl rfl rfl (by decide +kernel) ⟨Nat.le_of_ble_eq_true rfl, Nat.le_of_ble_eq_true rfl⟩) hG hP hD hS hA [] [0, 1, 2, 3] rfl rfl (by decide) (by decide) (by decide) rfl hl.1 rfl (Nat.le_of_ble_eq_true rfl) dX9_workOf_72 ⟨Nat.le_of_ble_eq_true rfl, Nat.le_of_ble_eq_true rfl⟩ rfl rfl (fun v w H locs hv hP hD hS => ?_)
                obtain ⟨r3, rfl, rfl, hf4⟩ := hv
                show W p l e _ s m _ below meth c H locs 0 0 _ (F0 m 75 ls (.int (iI r3) :: []))
                have hP : va_P g.1 vwCl [(hm, .inr (9, mF a i)), ((a 1), aI (g.2.1 0) 3 fz), ((a 2), aI (g.2.1 0) 3 fx), ((a 3), aI (g.2.1 0) 3 fy)] H := hP
                have hD : va_D A [(hm, .inr (9, mF a i)), ((a 1), aI (g.2.1 0) 3 fz), ((a 2), aI (g.2.1 0) 3 fx), ((a 3), aI (g.2.1 0) 3 fy)] := hD
                have hf4 : r3 = dg less n := hf4
                refine lv_istore (lv' := [(7, .int (iI r3)), (6, .int (iI (fz n))), (5, .int (iI c2)), (4, .int (iI wd)), (0, .ref hm), (1, .int (iI much)), (2, .int (iI less)), (3, .int (iI st))]) hx hb dX9_workOf_75 hl (by decide) rfl (fun ls hl => ?_)
                have hjoin185 : ∀ (hj1 : ¬ (bey less n = 1 ∧ fs st 6)) (hj2 : ¬ (dg less n = 0 ∧ fs st 5)) (hj3 : ¬ (fz n = 0 ∧ 0 < dg less n ∧ fs st 2)), ∀ (H : Heap) (locs : List Loc) (ls : Array Slot), va_P g.1 vwCl [(hm, .inr (9, mF a i)), ((a 1), aI (g.2.1 0) 3 fz), ((a 2), aI (g.2.1 0) 3 fx), ((a 3), aI (g.2.1 0) 3 fy)] H → va_D A [(hm, .inr (9, mF a i)), ((a 1), aI (g.2.1 0) 3 fz), ((a 2), aI (g.2.1 0) 3 fx), ((a 3), aI (g.2.1 0) 3 fy)] → va_S A s.heap H locs → lv_has ls 8 [(7, .int (iI r3)), (6, .int (iI (fz n))), (5, .int (iI c2)), (4, .int (iI wd)), (0, .ref hm), (1, .int (iI much)), (2, .int (iI less)), (3, .int (iI st))] → W p l e ({ frames := 1, cells := 0, slots := 0, locals := 24 } : Room) s m [.ref hm, .int (iI much), .int (iI less), .int (iI st)].toArray below meth c H locs 0 0 (MQ below (CQ g (q_X9_workOf g hm a i fa fd fn much less st) A) [.ref hm, .int (iI much), .int (iI less), .int (iI st)].toArray s ({ frames := 1, cells := 0, slots := 0, locals := 24 } : Room).cells ({ frames := 1, cells := 0, slots := 0, locals := 24 } : Room).slots A) (F0 m 185 ls []) := by
                  intro  hj1 hj2 hj3 H locs ls hP hD hS hl
                  refine lv_iload hx hb dX9_workOf_185 (lv_at hl 1 rfl) ?_
                  refine lv_iload hx hb dX9_workOf_187 (lv_at hl 0 rfl) ?_
                  refine iv_icmp_lt (tgt := 215) hx hb dX9_workOf_189 (by decide) (by omega) (fun hc5 => ?_) (fun hc5 => ?_)
                  · refine lv_iload_n hx hb dX9_workOf_215 rfl (lv_at hl 7 rfl) ?_
                    refine lv_iconst (v := iI (1)) hx hb dX9_workOf_216 rfl ?_
                    refine iv_and1 hx hb dX9_workOf_217 (by omega) ?_
                    refine lv_iconst (v := iI (1)) hx hb dX9_workOf_218 rfl ?_
                    refine iv_icmp_ne (tgt := 245) hx hb dX9_workOf_219 (by decide) (by omega) (fun hc6 => ?_) (fun hc6 => ?_)
                    · have hx0 : ¬ fs st 0 := fun z => hc6 ((fsL st).1.mp z)
                      refine lv_aload_n hx hb dX9_workOf_245 rfl (lv_at hl 4 rfl) ?_
                      refine va_get (D := g.1) (ci := 9) (v := .ref (a 3)) hx hb hts kX9_workOf_9 hown hG.1 hP 0 rfl rfl 3 (by decide) (hts _ (List.mem_of_getElem? (i := 2) rfl)) (fun _ h9 => h9) rfl dX9_workOf_246 ?_
                      refine lv_iload hx hb dX9_workOf_249 (lv_at hl 2 rfl) ?_
                      refine lv_iconst (v := iI (5)) hx hb dX9_workOf_251 rfl ?_
                      refine iv_iast hx hb hG hP hD hS 3 rfl n (by omega) (by omega) (by decide) dX9_workOf_252 (fun H locs hP hD hS => ?_)
                      have hP : va_P g.1 vwCl [(hm, .inr (9, mF a i)), ((a 1), aI (g.2.1 0) 3 fz), ((a 2), aI (g.2.1 0) 3 fx), ((a 3), aI (g.2.1 0) 3 (va_up fy n 5))] H := hP
                      have hD : va_D A [(hm, .inr (9, mF a i)), ((a 1), aI (g.2.1 0) 3 fz), ((a 2), aI (g.2.1 0) 3 fx), ((a 3), aI (g.2.1 0) 3 (va_up fy n 5))] := hD
                      refine lv_aload_n hx hb dX9_workOf_253 rfl (lv_at hl 4 rfl) ?_
                      refine va_get (D := g.1) (ci := 9) (v := .ref (a 2)) hx hb hts kX9_workOf_9 hown hG.1 hP 0 rfl rfl 2 (by decide) (hts _ (List.mem_of_getElem? (i := 3) rfl)) (fun _ h9 => h9) rfl dX9_workOf_254 ?_
                      refine lv_iload hx hb dX9_workOf_257 (lv_at hl 2 rfl) ?_
                      refine lv_bipush (v := iI (10)) hx hb dX9_workOf_259 (by decide) ?_
                      refine lv_iload hx hb dX9_workOf_261 (lv_at hl 1 rfl) ?_
                      refine iv_iadd hx hb dX9_workOf_263 ?_
                      refine lv_iload hx hb dX9_workOf_264 (lv_at hl 0 rfl) ?_
                      refine iv_isub hx hb dX9_workOf_266 ?_
                      refine iv_iast hx hb hG hP hD hS 2 rfl n (by omega) (by omega) (by decide) dX9_workOf_267 (fun H locs hP hD hS => ?_)
                      have hP : va_P g.1 vwCl [(hm, .inr (9, mF a i)), ((a 1), aI (g.2.1 0) 3 fz), ((a 2), aI (g.2.1 0) 3 (va_up fx n ((10 + (fz n)) - r3))), ((a 3), aI (g.2.1 0) 3 (va_up fy n 5))] H := hP
                      have hD : va_D A [(hm, .inr (9, mF a i)), ((a 1), aI (g.2.1 0) 3 fz), ((a 2), aI (g.2.1 0) 3 (va_up fx n ((10 + (fz n)) - r3))), ((a 3), aI (g.2.1 0) 3 (va_up fy n 5))] := hD
                      refine lv_iload_n hx hb dX9_workOf_268 rfl (lv_at hl 7 rfl) ?_
                      refine lv_iconst (v := iI (1)) hx hb dX9_workOf_269 rfl ?_
                      refine iv_ishr hx hb dX9_workOf_270 (by omega) ?_
                      refine iv_as (st / 2) rfl ?_
                      refine lv_iconst (v := iI (1)) hx hb dX9_workOf_271 rfl ?_
                      refine iv_and1 hx hb dX9_workOf_272 (by omega) ?_
                      refine iv_if_ne (tgt := 285) hx hb dX9_workOf_273 (by decide) (by omega) (fun hc7 => ?_) (fun hc7 => ?_)
                      · have hx1 : fs st 1 := show st / 2 % 2 = 1 by omega
                        refine iv_iinc (k := 2) (x := c2) (lv' := [(5, .int (iI (c2 + 1))), (7, .int (iI r3)), (6, .int (iI (fz n))), (4, .int (iI wd)), (0, .ref hm), (1, .int (iI much)), (2, .int (iI less)), (3, .int (iI st))]) hx hb dX9_workOf_285 hl rfl (by decide) rfl (fun ls hl => ?_)
                        refine lv_goto (tgt := 54) hx hb dX9_workOf_288 (by decide) ?_
                        exact ih54 (c2 + 1) fz (va_up fx n ((10 + (fz n)) - r3)) (va_up fy n 5) (n + 1) (by omega) (by intro j hj; show _ = caF st (bey less n) (dg less n) n (wkA st much less n) j; rw [← caF_congr st (bey less n) (dg less n) n hn3 fz _ hz j hj]; unfold caF; (repeat' split) <;> first | rfl | (exfalso; omega) | (rw [show 2 - n = 3 - (n + 1) from by omega]; simp only [*])) (up_le (by unfold wkG; rw [← hz n hn3]; unfold cg; (repeat' split) <;> omega) hg1) (up_le (by unfold wkD; rw [← hz n hn3]; unfold cd; (repeat' split) <;> omega) hg2) (by omega) H locs ls (hP.sub [0, 1, 2, 3] rfl) (hD.sub [0, 1, 2, 3] (by decide) rfl) hS (lv_sub hl [0, 3, 4, 5, 6, 7] rfl)
                      · have hx1 : ¬ fs st 1 := show ¬ st / 2 % 2 = 1 by omega
                        refine lv_aload_n hx hb dX9_workOf_276 rfl (lv_at hl 4 rfl) ?_
                        refine lv_iload hx hb dX9_workOf_277 (lv_at hl 2 rfl) ?_
                        refine lv_iconst (v := iI (1)) hx hb dX9_workOf_279 rfl ?_
                        refine iv_iadd hx hb dX9_workOf_280 ?_
                        refine lv_iload_n hx hb dX9_workOf_281 rfl (lv_at hl 7 rfl) ?_
                        refine Ct.callV (ci := 9) (q0 := 0) (qc := (RX9, TX9, 37)) (As := [.int (iI (c2 + 1)), .int (iI st)]) (rest := []) (wr := [((a 2), aI (g.2.1 0) 3 (va_up fx n ((10 + (fz n)) - r3))), ((a 3), aI (g.2.1 0) 3 (va_up fy n 5))]) (c1 := 0) (s1 := 0) ⟨hx, hb, hml, hown, hts⟩ (c_X9_pays l g hm a i fz (c2 + 1) st (n + 1) (by omega) (hr9)) rfl rfl (cwV 2 hts gX9_workOf_X9_pays rfl rfl rfl (by decide +kernel) ⟨Nat.le_of_ble_eq_true rfl, Nat.le_of_ble_eq_true rfl⟩) hG hP hD hS hA [0, 1] [2, 3] rfl rfl (by decide) (by decide) (by decide) rfl hl.1 rfl (Nat.le_of_ble_eq_true rfl) dX9_workOf_282 ⟨Nat.le_of_ble_eq_true rfl, Nat.le_of_ble_eq_true rfl⟩ rfl rfl (fun v w H locs hv hP hD hS => ?_)
                        obtain ⟨fa8, rfl, rfl, hf9⟩ := hv
                        show W p l e _ s m _ below meth c H locs 0 0 _ (F0 m 285 ls [])
                        have hP : va_P g.1 vwCl [((a 2), aI (g.2.1 0) 3 (va_up fx n ((10 + (fz n)) - r3))), ((a 3), aI (g.2.1 0) 3 (va_up fy n 5)), (hm, .inr (9, mF a i)), ((a 1), aI (g.2.1 0) 3 fa8)] H := hP
                        have hD : va_D A [((a 2), aI (g.2.1 0) 3 (va_up fx n ((10 + (fz n)) - r3))), ((a 3), aI (g.2.1 0) 3 (va_up fy n 5)), (hm, .inr (9, mF a i)), ((a 1), aI (g.2.1 0) 3 fa8)] := hD
                        have hf9 : fa8 = payR st (3 - (n + 1)) (n + 1) fz := hf9
                        refine iv_iinc (k := 2) (x := c2) (lv' := [(5, .int (iI (c2 + 1))), (7, .int (iI r3)), (6, .int (iI (fz n))), (4, .int (iI wd)), (0, .ref hm), (1, .int (iI much)), (2, .int (iI less)), (3, .int (iI st))]) hx hb dX9_workOf_285 hl rfl (by decide) rfl (fun ls hl => ?_)
                        refine lv_goto (tgt := 54) hx hb dX9_workOf_288 (by decide) ?_
                        exact ih54 (c2 + 1) fa8 (va_up fx n ((10 + (fz n)) - r3)) (va_up fy n 5) (n + 1) (by omega) (by intro j hj; show _ = caF st (bey less n) (dg less n) n (wkA st much less n) j; rw [← caF_congr st (bey less n) (dg less n) n hn3 fz _ hz j hj]; unfold caF; (repeat' split) <;> first | rfl | (exfalso; omega) | (rw [show 2 - n = 3 - (n + 1) from by omega]; simp only [*])) (up_le (by unfold wkG; rw [← hz n hn3]; unfold cg; (repeat' split) <;> omega) hg1) (up_le (by unfold wkD; rw [← hz n hn3]; unfold cd; (repeat' split) <;> omega) hg2) (by omega) H locs ls (hP.sub [2, 3, 0, 1] rfl) (hD.sub [2, 3, 0, 1] (by decide) rfl) hS (lv_sub hl [0, 3, 4, 5, 6, 7] rfl)
                    · have hx0 : fs st 0 := (fsL st).1.mpr hc6
                      refine lv_aload_n hx hb dX9_workOf_222 rfl (lv_at hl 4 rfl) ?_
                      refine va_get (D := g.1) (ci := 9) (v := .ref (a 3)) hx hb hts kX9_workOf_9 hown hG.1 hP 0 rfl rfl 3 (by decide) (hts _ (List.mem_of_getElem? (i := 2) rfl)) (fun _ h9 => h9) rfl dX9_workOf_223 ?_
                      refine lv_iload hx hb dX9_workOf_226 (lv_at hl 2 rfl) ?_
                      refine lv_iconst (v := iI (4)) hx hb dX9_workOf_228 rfl ?_
                      refine iv_iast hx hb hG hP hD hS 3 rfl n (by omega) (by omega) (by decide) dX9_workOf_229 (fun H locs hP hD hS => ?_)
                      have hP : va_P g.1 vwCl [(hm, .inr (9, mF a i)), ((a 1), aI (g.2.1 0) 3 fz), ((a 2), aI (g.2.1 0) 3 fx), ((a 3), aI (g.2.1 0) 3 (va_up fy n 4))] H := hP
                      have hD : va_D A [(hm, .inr (9, mF a i)), ((a 1), aI (g.2.1 0) 3 fz), ((a 2), aI (g.2.1 0) 3 fx), ((a 3), aI (g.2.1 0) 3 (va_up fy n 4))] := hD
                      refine lv_aload_n hx hb dX9_workOf_230 rfl (lv_at hl 4 rfl) ?_
                      refine va_get (D := g.1) (ci := 9) (v := .ref (a 2)) hx hb hts kX9_workOf_9 hown hG.1 hP 0 rfl rfl 2 (by decide) (hts _ (List.mem_of_getElem? (i := 3) rfl)) (fun _ h9 => h9) rfl dX9_workOf_231 ?_
                      refine lv_iload hx hb dX9_workOf_234 (lv_at hl 2 rfl) ?_
                      refine lv_iload hx hb dX9_workOf_236 (lv_at hl 0 rfl) ?_
                      refine lv_iload hx hb dX9_workOf_238 (lv_at hl 1 rfl) ?_
                      refine iv_isub hx hb dX9_workOf_240 ?_
                      refine iv_iast hx hb hG hP hD hS 2 rfl n (by omega) (by omega) (by decide) dX9_workOf_241 (fun H locs hP hD hS => ?_)
                      have hP : va_P g.1 vwCl [(hm, .inr (9, mF a i)), ((a 1), aI (g.2.1 0) 3 fz), ((a 2), aI (g.2.1 0) 3 (va_up fx n (r3 - (fz n)))), ((a 3), aI (g.2.1 0) 3 (va_up fy n 4))] H := hP
                      have hD : va_D A [(hm, .inr (9, mF a i)), ((a 1), aI (g.2.1 0) 3 fz), ((a 2), aI (g.2.1 0) 3 (va_up fx n (r3 - (fz n)))), ((a 3), aI (g.2.1 0) 3 (va_up fy n 4))] := hD
                      refine lv_goto (tgt := 285) hx hb dX9_workOf_242 (by decide) ?_
                      refine iv_iinc (k := 2) (x := c2) (lv' := [(5, .int (iI (c2 + 1))), (7, .int (iI r3)), (6, .int (iI (fz n))), (4, .int (iI wd)), (0, .ref hm), (1, .int (iI much)), (2, .int (iI less)), (3, .int (iI st))]) hx hb dX9_workOf_285 hl rfl (by decide) rfl (fun ls hl => ?_)
                      refine lv_goto (tgt := 54) hx hb dX9_workOf_288 (by decide) ?_
                      exact ih54 (c2 + 1) fz (va_up fx n (r3 - (fz n))) (va_up fy n 4) (n + 1) (by omega) (by intro j hj; show _ = caF st (bey less n) (dg less n) n (wkA st much less n) j; rw [← caF_congr st (bey less n) (dg less n) n hn3 fz _ hz j hj]; unfold caF; (repeat' split) <;> first | rfl | (exfalso; omega) | (rw [show 2 - n = 3 - (n + 1) from by omega]; simp only [*])) (up_le (by unfold wkG; rw [← hz n hn3]; unfold cg; (repeat' split) <;> omega) hg1) (up_le (by unfold wkD; rw [← hz n hn3]; unfold cd; (repeat' split) <;> omega) hg2) (by omega) H locs ls (hP.sub [0, 1, 2, 3] rfl) (hD.sub [0, 1, 2, 3] (by decide) rfl) hS (lv_sub hl [0, 3, 4, 5, 6, 7] rfl)
                  · refine lv_aload_n hx hb dX9_workOf_192 rfl (lv_at hl 4 rfl) ?_
                    refine va_get (D := g.1) (ci := 9) (v := .ref (a 3)) hx hb hts kX9_workOf_9 hown hG.1 hP 0 rfl rfl 3 (by decide) (hts _ (List.mem_of_getElem? (i := 2) rfl)) (fun _ h9 => h9) rfl dX9_workOf_193 ?_
                    refine lv_iload hx hb dX9_workOf_196 (lv_at hl 2 rfl) ?_
                    refine lv_iconst (v := iI (3)) hx hb dX9_workOf_198 rfl ?_
                    refine iv_iast hx hb hG hP hD hS 3 rfl n (by omega) (by omega) (by decide) dX9_workOf_199 (fun H locs hP hD hS => ?_)
                    have hP : va_P g.1 vwCl [(hm, .inr (9, mF a i)), ((a 1), aI (g.2.1 0) 3 fz), ((a 2), aI (g.2.1 0) 3 fx), ((a 3), aI (g.2.1 0) 3 (va_up fy n 3))] H := hP
                    have hD : va_D A [(hm, .inr (9, mF a i)), ((a 1), aI (g.2.1 0) 3 fz), ((a 2), aI (g.2.1 0) 3 fx), ((a 3), aI (g.2.1 0) 3 (va_up fy n 3))] := hD
                    refine lv_aload_n hx hb dX9_workOf_200 rfl (lv_at hl 4 rfl) ?_
                    refine va_get (D := g.1) (ci := 9) (v := .ref (a 2)) hx hb hts kX9_workOf_9 hown hG.1 hP 0 rfl rfl 2 (by decide) (hts _ (List.mem_of_getElem? (i := 3) rfl)) (fun _ h9 => h9) rfl dX9_workOf_201 ?_
                    refine lv_iload hx hb dX9_workOf_204 (lv_at hl 2 rfl) ?_
                    refine lv_iload hx hb dX9_workOf_206 (lv_at hl 1 rfl) ?_
                    refine lv_iload hx hb dX9_workOf_208 (lv_at hl 0 rfl) ?_
                    refine iv_isub hx hb dX9_workOf_210 ?_
                    refine iv_iast hx hb hG hP hD hS 2 rfl n (by omega) (by omega) (by decide) dX9_workOf_211 (fun H locs hP hD hS => ?_)
                    have hP : va_P g.1 vwCl [(hm, .inr (9, mF a i)), ((a 1), aI (g.2.1 0) 3 fz), ((a 2), aI (g.2.1 0) 3 (va_up fx n ((fz n) - r3))), ((a 3), aI (g.2.1 0) 3 (va_up fy n 3))] H := hP
                    have hD : va_D A [(hm, .inr (9, mF a i)), ((a 1), aI (g.2.1 0) 3 fz), ((a 2), aI (g.2.1 0) 3 (va_up fx n ((fz n) - r3))), ((a 3), aI (g.2.1 0) 3 (va_up fy n 3))] := hD
                    refine lv_goto (tgt := 285) hx hb dX9_workOf_212 (by decide) ?_
                    refine iv_iinc (k := 2) (x := c2) (lv' := [(5, .int (iI (c2 + 1))), (7, .int (iI r3)), (6, .int (iI (fz n))), (4, .int (iI wd)), (0, .ref hm), (1, .int (iI much)), (2, .int (iI less)), (3, .int (iI st))]) hx hb dX9_workOf_285 hl rfl (by decide) rfl (fun ls hl => ?_)
                    refine lv_goto (tgt := 54) hx hb dX9_workOf_288 (by decide) ?_
                    exact ih54 (c2 + 1) fz (va_up fx n ((fz n) - r3)) (va_up fy n 3) (n + 1) (by omega) (by intro j hj; show _ = caF st (bey less n) (dg less n) n (wkA st much less n) j; rw [← caF_congr st (bey less n) (dg less n) n hn3 fz _ hz j hj]; unfold caF; (repeat' split) <;> first | rfl | (exfalso; omega) | (rw [show 2 - n = 3 - (n + 1) from by omega]; simp only [*])) (up_le (by unfold wkG; rw [← hz n hn3]; unfold cg; (repeat' split) <;> omega) hg1) (up_le (by unfold wkD; rw [← hz n hn3]; unfold cd; (repeat' split) <;> omega) hg2) (by omega) H locs ls (hP.sub [0, 1, 2, 3] rfl) (hD.sub [0, 1, 2, 3] (by decide) rfl) hS (lv_sub hl [0, 3, 4, 5, 6, 7] rfl)
                have hjoin146 : ∀ (hj1 : ¬ (bey less n = 1 ∧ fs st 6)) (hj2 : ¬ (dg less n = 0 ∧ fs st 5)), ∀ (H : Heap) (locs : List Loc) (ls : Array Slot), va_P g.1 vwCl [(hm, .inr (9, mF a i)), ((a 1), aI (g.2.1 0) 3 fz), ((a 2), aI (g.2.1 0) 3 fx), ((a 3), aI (g.2.1 0) 3 fy)] H → va_D A [(hm, .inr (9, mF a i)), ((a 1), aI (g.2.1 0) 3 fz), ((a 2), aI (g.2.1 0) 3 fx), ((a 3), aI (g.2.1 0) 3 fy)] → va_S A s.heap H locs → lv_has ls 8 [(7, .int (iI r3)), (6, .int (iI (fz n))), (5, .int (iI c2)), (4, .int (iI wd)), (0, .ref hm), (1, .int (iI much)), (2, .int (iI less)), (3, .int (iI st))] → W p l e ({ frames := 1, cells := 0, slots := 0, locals := 24 } : Room) s m [.ref hm, .int (iI much), .int (iI less), .int (iI st)].toArray below meth c H locs 0 0 (MQ below (CQ g (q_X9_workOf g hm a i fa fd fn much less st) A) [.ref hm, .int (iI much), .int (iI less), .int (iI st)].toArray s ({ frames := 1, cells := 0, slots := 0, locals := 24 } : Room).cells ({ frames := 1, cells := 0, slots := 0, locals := 24 } : Room).slots A) (F0 m 146 ls []) := by
                  intro  hj1 hj2 H locs ls hP hD hS hl
                  refine lv_iload_n hx hb dX9_workOf_146 rfl (lv_at hl 7 rfl) ?_
                  refine lv_iconst (v := iI (2)) hx hb dX9_workOf_147 rfl ?_
                  refine iv_ishr hx hb dX9_workOf_148 (by omega) ?_
                  refine iv_as (st / 4) rfl ?_
                  refine lv_iconst (v := iI (1)) hx hb dX9_workOf_149 rfl ?_
                  refine iv_and1 hx hb dX9_workOf_150 (by omega) ?_
                  refine lv_iconst (v := iI (1)) hx hb dX9_workOf_151 rfl ?_
                  refine iv_icmp_ne (tgt := 185) hx hb dX9_workOf_152 (by decide) (by omega) (fun hc10 => ?_) (fun hc10 => ?_)
                  · have hx2 : ¬ fs st 2 := hc10
                    exact hjoin185  (by omega) (by omega) (by omega) H locs ls (hP.sub [0, 1, 2, 3] rfl) (hD.sub [0, 1, 2, 3] (by decide) rfl) hS (lv_sub hl [0, 1, 2, 3, 4, 5, 6, 7] rfl)
                  · have hx2 : fs st 2 := hc10
                    refine lv_iload hx hb dX9_workOf_155 (lv_at hl 1 rfl) ?_
                    refine iv_if_ne (tgt := 185) hx hb dX9_workOf_157 (by decide) (by omega) (fun hc11 => ?_) (fun hc11 => ?_)
                    · exact hjoin185  (by omega) (by omega) (by omega) H locs ls (hP.sub [0, 1, 2, 3] rfl) (hD.sub [0, 1, 2, 3] (by decide) rfl) hS (lv_sub hl [0, 1, 2, 3, 4, 5, 6, 7] rfl)
                    · refine lv_iload hx hb dX9_workOf_160 (lv_at hl 0 rfl) ?_
                      refine iv_if_le (tgt := 185) hx hb dX9_workOf_162 (by decide) (by omega) (fun hc12 => ?_) (fun hc12 => ?_)
                      · exact hjoin185  (by omega) (by omega) (by omega) H locs ls (hP.sub [0, 1, 2, 3] rfl) (hD.sub [0, 1, 2, 3] (by decide) rfl) hS (lv_sub hl [0, 1, 2, 3, 4, 5, 6, 7] rfl)
                      · refine lv_aload_n hx hb dX9_workOf_165 rfl (lv_at hl 4 rfl) ?_
                        refine va_get (D := g.1) (ci := 9) (v := .ref (a 3)) hx hb hts kX9_workOf_9 hown hG.1 hP 0 rfl rfl 3 (by decide) (hts _ (List.mem_of_getElem? (i := 2) rfl)) (fun _ h9 => h9) rfl dX9_workOf_166 ?_
                        refine lv_iload hx hb dX9_workOf_169 (lv_at hl 2 rfl) ?_
                        refine lv_iconst (v := iI (2)) hx hb dX9_workOf_171 rfl ?_
                        refine iv_iast hx hb hG hP hD hS 3 rfl n (by omega) (by omega) (by decide) dX9_workOf_172 (fun H locs hP hD hS => ?_)
                        have hP : va_P g.1 vwCl [(hm, .inr (9, mF a i)), ((a 1), aI (g.2.1 0) 3 fz), ((a 2), aI (g.2.1 0) 3 fx), ((a 3), aI (g.2.1 0) 3 (va_up fy n 2))] H := hP
                        have hD : va_D A [(hm, .inr (9, mF a i)), ((a 1), aI (g.2.1 0) 3 fz), ((a 2), aI (g.2.1 0) 3 fx), ((a 3), aI (g.2.1 0) 3 (va_up fy n 2))] := hD
                        refine lv_aload_n hx hb dX9_workOf_173 rfl (lv_at hl 4 rfl) ?_
                        refine va_get (D := g.1) (ci := 9) (v := .ref (a 2)) hx hb hts kX9_workOf_9 hown hG.1 hP 0 rfl rfl 2 (by decide) (hts _ (List.mem_of_getElem? (i := 3) rfl)) (fun _ h9 => h9) rfl dX9_workOf_174 ?_
                        refine lv_iload hx hb dX9_workOf_177 (lv_at hl 2 rfl) ?_
                        refine lv_iload hx hb dX9_workOf_179 (lv_at hl 0 rfl) ?_
                        refine iv_iast hx hb hG hP hD hS 2 rfl n (by omega) (by omega) (by decide) dX9_workOf_181 (fun H locs hP hD hS => ?_)
                        have hP : va_P g.1 vwCl [(hm, .inr (9, mF a i)), ((a 1), aI (g.2.1 0) 3 fz), ((a 2), aI (g.2.1 0) 3 (va_up fx n r3)), ((a 3), aI (g.2.1 0) 3 (va_up fy n 2))] H := hP
                        have hD : va_D A [(hm, .inr (9, mF a i)), ((a 1), aI (g.2.1 0) 3 fz), ((a 2), aI (g.2.1 0) 3 (va_up fx n r3)), ((a 3), aI (g.2.1 0) 3 (va_up fy n 2))] := hD
                        refine lv_goto (tgt := 285) hx hb dX9_workOf_182 (by decide) ?_
                        refine iv_iinc (k := 2) (x := c2) (lv' := [(5, .int (iI (c2 + 1))), (7, .int (iI r3)), (6, .int (iI (fz n))), (4, .int (iI wd)), (0, .ref hm), (1, .int (iI much)), (2, .int (iI less)), (3, .int (iI st))]) hx hb dX9_workOf_285 hl rfl (by decide) rfl (fun ls hl => ?_)
                        refine lv_goto (tgt := 54) hx hb dX9_workOf_288 (by decide) ?_
                        exact ih54 (c2 + 1) fz (va_up fx n r3) (va_up fy n 2) (n + 1) (by omega) (by intro j hj; show _ = caF st (bey less n) (dg less n) n (wkA st much less n) j; rw [← caF_congr st (bey less n) (dg less n) n hn3 fz _ hz j hj]; unfold caF; (repeat' split) <;> first | rfl | (exfalso; omega) | (rw [show 2 - n = 3 - (n + 1) from by omega]; simp only [*])) (up_le (by unfold wkG; rw [← hz n hn3]; unfold cg; (repeat' split) <;> omega) hg1) (up_le (by unfold wkD; rw [← hz n hn3]; unfold cd; (repeat' split) <;> omega) hg2) (by omega) H locs ls (hP.sub [0, 1, 2, 3] rfl) (hD.sub [0, 1, 2, 3] (by decide) rfl) hS (lv_sub hl [0, 3, 4, 5, 6, 7] rfl)
                have hjoin113 : ∀ (hj1 : ¬ (bey less n = 1 ∧ fs st 6)), ∀ (H : Heap) (locs : List Loc) (ls : Array Slot), va_P g.1 vwCl [(hm, .inr (9, mF a i)), ((a 1), aI (g.2.1 0) 3 fz), ((a 2), aI (g.2.1 0) 3 fx), ((a 3), aI (g.2.1 0) 3 fy)] H → va_D A [(hm, .inr (9, mF a i)), ((a 1), aI (g.2.1 0) 3 fz), ((a 2), aI (g.2.1 0) 3 fx), ((a 3), aI (g.2.1 0) 3 fy)] → va_S A s.heap H locs → lv_has ls 8 [(7, .int (iI r3)), (6, .int (iI (fz n))), (5, .int (iI c2)), (4, .int (iI wd)), (0, .ref hm), (1, .int (iI much)), (2, .int (iI less)), (3, .int (iI st))] → W p l e ({ frames := 1, cells := 0, slots := 0, locals := 24 } : Room) s m [.ref hm, .int (iI much), .int (iI less), .int (iI st)].toArray below meth c H locs 0 0 (MQ below (CQ g (q_X9_workOf g hm a i fa fd fn much less st) A) [.ref hm, .int (iI much), .int (iI less), .int (iI st)].toArray s ({ frames := 1, cells := 0, slots := 0, locals := 24 } : Room).cells ({ frames := 1, cells := 0, slots := 0, locals := 24 } : Room).slots A) (F0 m 113 ls []) := by
                  intro  hj1 H locs ls hP hD hS hl
                  refine lv_iload_n hx hb dX9_workOf_113 rfl (lv_at hl 7 rfl) ?_
                  refine lv_iconst (v := iI (5)) hx hb dX9_workOf_114 rfl ?_
                  refine iv_ishr hx hb dX9_workOf_115 (by omega) ?_
                  refine iv_as (st / 32) rfl ?_
                  refine lv_iconst (v := iI (1)) hx hb dX9_workOf_116 rfl ?_
                  refine iv_and1 hx hb dX9_workOf_117 (by omega) ?_
                  refine lv_iconst (v := iI (1)) hx hb dX9_workOf_118 rfl ?_
                  refine iv_icmp_ne (tgt := 146) hx hb dX9_workOf_119 (by decide) (by omega) (fun hc13 => ?_) (fun hc13 => ?_)
                  · have hx5 : ¬ fs st 5 := hc13
                    exact hjoin146  (by omega) (by omega) H locs ls (hP.sub [0, 1, 2, 3] rfl) (hD.sub [0, 1, 2, 3] (by decide) rfl) hS (lv_sub hl [0, 1, 2, 3, 4, 5, 6, 7] rfl)
                  · have hx5 : fs st 5 := hc13
                    refine lv_iload hx hb dX9_workOf_122 (lv_at hl 0 rfl) ?_
                    refine iv_if_ne (tgt := 146) hx hb dX9_workOf_124 (by decide) (by omega) (fun hc14 => ?_) (fun hc14 => ?_)
                    · exact hjoin146  (by omega) (by omega) H locs ls (hP.sub [0, 1, 2, 3] rfl) (hD.sub [0, 1, 2, 3] (by decide) rfl) hS (lv_sub hl [0, 1, 2, 3, 4, 5, 6, 7] rfl)
                    · refine lv_aload_n hx hb dX9_workOf_127 rfl (lv_at hl 4 rfl) ?_
                      refine va_get (D := g.1) (ci := 9) (v := .ref (a 3)) hx hb hts kX9_workOf_9 hown hG.1 hP 0 rfl rfl 3 (by decide) (hts _ (List.mem_of_getElem? (i := 2) rfl)) (fun _ h9 => h9) rfl dX9_workOf_128 ?_
                      refine lv_iload hx hb dX9_workOf_131 (lv_at hl 2 rfl) ?_
                      refine lv_iconst (v := iI (1)) hx hb dX9_workOf_133 rfl ?_
                      refine iv_iast hx hb hG hP hD hS 3 rfl n (by omega) (by omega) (by decide) dX9_workOf_134 (fun H locs hP hD hS => ?_)
                      have hP : va_P g.1 vwCl [(hm, .inr (9, mF a i)), ((a 1), aI (g.2.1 0) 3 fz), ((a 2), aI (g.2.1 0) 3 fx), ((a 3), aI (g.2.1 0) 3 (va_up fy n 1))] H := hP
                      have hD : va_D A [(hm, .inr (9, mF a i)), ((a 1), aI (g.2.1 0) 3 fz), ((a 2), aI (g.2.1 0) 3 fx), ((a 3), aI (g.2.1 0) 3 (va_up fy n 1))] := hD
                      refine lv_aload_n hx hb dX9_workOf_135 rfl (lv_at hl 4 rfl) ?_
                      refine va_get (D := g.1) (ci := 9) (v := .ref (a 2)) hx hb hts kX9_workOf_9 hown hG.1 hP 0 rfl rfl 2 (by decide) (hts _ (List.mem_of_getElem? (i := 3) rfl)) (fun _ h9 => h9) rfl dX9_workOf_136 ?_
                      refine lv_iload hx hb dX9_workOf_139 (lv_at hl 2 rfl) ?_
                      refine lv_iconst (v := iI (0)) hx hb dX9_workOf_141 rfl ?_
                      refine iv_iast hx hb hG hP hD hS 2 rfl n (by omega) (by omega) (by decide) dX9_workOf_142 (fun H locs hP hD hS => ?_)
                      have hP : va_P g.1 vwCl [(hm, .inr (9, mF a i)), ((a 1), aI (g.2.1 0) 3 fz), ((a 2), aI (g.2.1 0) 3 (va_up fx n 0)), ((a 3), aI (g.2.1 0) 3 (va_up fy n 1))] H := hP
                      have hD : va_D A [(hm, .inr (9, mF a i)), ((a 1), aI (g.2.1 0) 3 fz), ((a 2), aI (g.2.1 0) 3 (va_up fx n 0)), ((a 3), aI (g.2.1 0) 3 (va_up fy n 1))] := hD
                      refine lv_goto (tgt := 285) hx hb dX9_workOf_143 (by decide) ?_
                      refine iv_iinc (k := 2) (x := c2) (lv' := [(5, .int (iI (c2 + 1))), (7, .int (iI r3)), (6, .int (iI (fz n))), (4, .int (iI wd)), (0, .ref hm), (1, .int (iI much)), (2, .int (iI less)), (3, .int (iI st))]) hx hb dX9_workOf_285 hl rfl (by decide) rfl (fun ls hl => ?_)
                      refine lv_goto (tgt := 54) hx hb dX9_workOf_288 (by decide) ?_
                      exact ih54 (c2 + 1) fz (va_up fx n 0) (va_up fy n 1) (n + 1) (by omega) (by intro j hj; show _ = caF st (bey less n) (dg less n) n (wkA st much less n) j; rw [← caF_congr st (bey less n) (dg less n) n hn3 fz _ hz j hj]; unfold caF; (repeat' split) <;> first | rfl | (exfalso; omega) | (rw [show 2 - n = 3 - (n + 1) from by omega]; simp only [*])) (up_le (by unfold wkG; rw [← hz n hn3]; unfold cg; (repeat' split) <;> omega) hg1) (up_le (by unfold wkD; rw [← hz n hn3]; unfold cd; (repeat' split) <;> omega) hg2) (by omega) H locs ls (hP.sub [0, 1, 2, 3] rfl) (hD.sub [0, 1, 2, 3] (by decide) rfl) hS (lv_sub hl [0, 3, 4, 5, 6, 7] rfl)
                refine lv_iload_n hx hb dX9_workOf_77 rfl (lv_at hl 7 rfl) ?_
                refine lv_bipush (v := iI (6)) hx hb dX9_workOf_78 (by decide) ?_
                refine iv_ishr hx hb dX9_workOf_80 (by omega) ?_
                refine iv_as (st / 64) rfl ?_
                refine lv_iconst (v := iI (1)) hx hb dX9_workOf_81 rfl ?_
                refine iv_and1 hx hb dX9_workOf_82 (by omega) ?_
                refine lv_iconst (v := iI (1)) hx hb dX9_workOf_83 rfl ?_
                refine iv_icmp_ne (tgt := 113) hx hb dX9_workOf_84 (by decide) (by omega) (fun hc15 => ?_) (fun hc15 => ?_)
                · have hx6 : ¬ fs st 6 := hc15
                  exact hjoin113  (by omega) H locs ls (hP.sub [0, 1, 2, 3] rfl) (hD.sub [0, 1, 2, 3] (by decide) rfl) hS (lv_sub hl [0, 1, 2, 3, 4, 5, 6, 7] rfl)
                · have hx6 : fs st 6 := hc15
                  refine lv_iload hx hb dX9_workOf_87 (lv_at hl 2 rfl) ?_
                  refine lv_iload hx hb dX9_workOf_89 (lv_at hl 3 rfl) ?_
                  refine iv_icmp_lt (tgt := 113) hx hb dX9_workOf_91 (by decide) (by omega) (fun hc16 => ?_) (fun hc16 => ?_)
                  · have hb0 : ¬ bey less n = 1 := fun z => absurd ((hbe ()).mp z) (by omega)
                    exact hjoin113  (by omega) H locs ls (hP.sub [0, 1, 2, 3] rfl) (hD.sub [0, 1, 2, 3] (by decide) rfl) hS (lv_sub hl [0, 1, 2, 3, 4, 5, 6, 7] rfl)
                  · have hb0 : bey less n = 1 := (hbe ()).mpr (by omega)
                    refine lv_aload_n hx hb dX9_workOf_94 rfl (lv_at hl 4 rfl) ?_
                    refine va_get (D := g.1) (ci := 9) (v := .ref (a 3)) hx hb hts kX9_workOf_9 hown hG.1 hP 0 rfl rfl 3 (by decide) (hts _ (List.mem_of_getElem? (i := 2) rfl)) (fun _ h9 => h9) rfl dX9_workOf_95 ?_
                    refine lv_iload hx hb dX9_workOf_98 (lv_at hl 2 rfl) ?_
                    refine lv_iconst (v := iI (0)) hx hb dX9_workOf_100 rfl ?_
                    refine iv_iast hx hb hG hP hD hS 3 rfl n (by omega) (by omega) (by decide) dX9_workOf_101 (fun H locs hP hD hS => ?_)
                    have hP : va_P g.1 vwCl [(hm, .inr (9, mF a i)), ((a 1), aI (g.2.1 0) 3 fz), ((a 2), aI (g.2.1 0) 3 fx), ((a 3), aI (g.2.1 0) 3 (va_up fy n 0))] H := hP
                    have hD : va_D A [(hm, .inr (9, mF a i)), ((a 1), aI (g.2.1 0) 3 fz), ((a 2), aI (g.2.1 0) 3 fx), ((a 3), aI (g.2.1 0) 3 (va_up fy n 0))] := hD
                    refine lv_aload_n hx hb dX9_workOf_102 rfl (lv_at hl 4 rfl) ?_
                    refine va_get (D := g.1) (ci := 9) (v := .ref (a 2)) hx hb hts kX9_workOf_9 hown hG.1 hP 0 rfl rfl 2 (by decide) (hts _ (List.mem_of_getElem? (i := 3) rfl)) (fun _ h9 => h9) rfl dX9_workOf_103 ?_
                    refine lv_iload hx hb dX9_workOf_106 (lv_at hl 2 rfl) ?_
                    refine lv_iconst (v := iI (0)) hx hb dX9_workOf_108 rfl ?_
                    refine iv_iast hx hb hG hP hD hS 2 rfl n (by omega) (by omega) (by decide) dX9_workOf_109 (fun H locs hP hD hS => ?_)
                    have hP : va_P g.1 vwCl [(hm, .inr (9, mF a i)), ((a 1), aI (g.2.1 0) 3 fz), ((a 2), aI (g.2.1 0) 3 (va_up fx n 0)), ((a 3), aI (g.2.1 0) 3 (va_up fy n 0))] H := hP
                    have hD : va_D A [(hm, .inr (9, mF a i)), ((a 1), aI (g.2.1 0) 3 fz), ((a 2), aI (g.2.1 0) 3 (va_up fx n 0)), ((a 3), aI (g.2.1 0) 3 (va_up fy n 0))] := hD
                    refine lv_goto (tgt := 285) hx hb dX9_workOf_110 (by decide) ?_
                    refine iv_iinc (k := 2) (x := c2) (lv' := [(5, .int (iI (c2 + 1))), (7, .int (iI r3)), (6, .int (iI (fz n))), (4, .int (iI wd)), (0, .ref hm), (1, .int (iI much)), (2, .int (iI less)), (3, .int (iI st))]) hx hb dX9_workOf_285 hl rfl (by decide) rfl (fun ls hl => ?_)
                    refine lv_goto (tgt := 54) hx hb dX9_workOf_288 (by decide) ?_
                    exact ih54 (c2 + 1) fz (va_up fx n 0) (va_up fy n 0) (n + 1) (by omega) (by intro j hj; show _ = caF st (bey less n) (dg less n) n (wkA st much less n) j; rw [← caF_congr st (bey less n) (dg less n) n hn3 fz _ hz j hj]; unfold caF; (repeat' split) <;> first | rfl | (exfalso; omega) | (rw [show 2 - n = 3 - (n + 1) from by omega]; simp only [*])) (up_le (by unfold wkG; rw [← hz n hn3]; unfold cg; (repeat' split) <;> omega) hg1) (up_le (by unfold wkD; rw [← hz n hn3]; unfold cd; (repeat' split) <;> omega) hg2) (by omega) H locs ls (hP.sub [0, 1, 2, 3] rfl) (hD.sub [0, 1, 2, 3] (by decide) rfl) hS (lv_sub hl [0, 3, 4, 5, 6, 7] rfl)
          exact hloop54 _ 0 fz fd fn 0 (by omega) (fun j hj => hz0 j (by omega)) (fun j hj => absurd hj (Nat.not_lt_zero j)) (fun j hj => absurd hj (Nat.not_lt_zero j)) (Nat.lt_succ_self _) H locs ls (hP.sub [0, 1, 2, 3] rfl) (hD.sub [0, 1, 2, 3] (by decide) rfl) hS (lv_sub hl [0, 1, 2, 3, 4, 5] rfl)
        · refine lv_aload_n hx hb dX9_workOf_32 rfl (lv_at hl 2 rfl) ?_
          refine va_get (D := g.1) (ci := 9) (v := .ref (a 1)) hx hb hts kX9_workOf_9 hown hG.1 hP 0 rfl rfl 1 (by decide) (hts _ (List.mem_of_getElem? (i := 1) rfl)) (fun _ h9 => h9) rfl dX9_workOf_33 ?_
          refine lv_iload hx hb dX9_workOf_36 (lv_at hl 0 rfl) ?_
          refine lv_iload_n hx hb dX9_workOf_38 rfl (lv_at hl 3 rfl) ?_
          refine lv_iload hx hb dX9_workOf_39 (lv_at hl 0 rfl) ?_
          refine Ct.callS (As := [.int (iI much), .int (iI c_)]) (rest := [.int (iI c_), .ref (a 1)]) (wr := [(hm, .inr (9, mF a i)), ((a 1), aI (g.2.1 0) 3 fz), ((a 2), aI (g.2.1 0) 3 fd), ((a 3), aI (g.2.1 0) 3 fn)]) (c1 := 0) (s1 := 0) ⟨hx, hb, hml, hown, hts⟩ (c_X9_digitOf l g much c_ n (by omega)) (va_cwS 2 hts gX9_workOf_X9_digitOf rfl rfl rfl (by decide +kernel) ⟨Nat.le_of_ble_eq_true rfl, Nat.le_of_ble_eq_true rfl⟩) hG hP hD hS hA [] [0, 1, 2, 3] rfl rfl (by decide) (by decide) (by decide) rfl hl.1 rfl (Nat.le_of_ble_eq_true rfl) dX9_workOf_41 ⟨Nat.le_of_ble_eq_true rfl, Nat.le_of_ble_eq_true rfl⟩ rfl rfl (fun v w H locs hv hP hD hS => ?_)
          obtain ⟨r17, rfl, rfl, hf18⟩ := hv
          show W p l e _ s m _ below meth c H locs 0 0 _ (F0 m 44 ls (.int (iI r17) :: [.int (iI c_), .ref (a 1)]))
          have hP : va_P g.1 vwCl [(hm, .inr (9, mF a i)), ((a 1), aI (g.2.1 0) 3 fz), ((a 2), aI (g.2.1 0) 3 fd), ((a 3), aI (g.2.1 0) 3 fn)] H := hP
          have hD : va_D A [(hm, .inr (9, mF a i)), ((a 1), aI (g.2.1 0) 3 fz), ((a 2), aI (g.2.1 0) 3 fd), ((a 3), aI (g.2.1 0) 3 fn)] := hD
          have hf18 : r17 = dg much n := hf18
          refine iv_iast hx hb hG hP hD hS 1 rfl n (by omega) (by omega) (by decide) dX9_workOf_44 (fun H locs hP hD hS => ?_)
          have hP : va_P g.1 vwCl [(hm, .inr (9, mF a i)), ((a 1), aI (g.2.1 0) 3 (va_up fz n r17)), ((a 2), aI (g.2.1 0) 3 fd), ((a 3), aI (g.2.1 0) 3 fn)] H := hP
          have hD : va_D A [(hm, .inr (9, mF a i)), ((a 1), aI (g.2.1 0) 3 (va_up fz n r17)), ((a 2), aI (g.2.1 0) 3 fd), ((a 3), aI (g.2.1 0) 3 fn)] := hD
          refine iv_iinc (k := 0) (x := c_) (lv' := [(5, .int (iI (c_ + 1))), (4, .int (iI wd)), (0, .ref hm), (1, .int (iI much)), (2, .int (iI less)), (3, .int (iI st))]) hx hb dX9_workOf_45 hl rfl (by decide) rfl (fun ls hl => ?_)
          refine lv_goto (tgt := 26) hx hb dX9_workOf_48 (by decide) ?_
          exact ih26 (c_ + 1) (va_up fz n r17) (n + 1) (by omega) (up_le (by omega) hz0) (by omega) H locs ls (hP.sub [0, 1, 2, 3] rfl) (hD.sub [0, 1, 2, 3] (by decide) rfl) hS (lv_sub hl [0, 1, 2, 3, 4, 5] rfl)
    exact hloop26 _ 0 fa 0 (by omega) (fun j hj => absurd hj (Nat.not_lt_zero j)) (Nat.lt_succ_self _) H locs ls (hP.sub [0, 1, 2, 3] rfl) (hD.sub [0, 1, 2, 3] (by decide) rfl) hS (lv_sub hl [0, 1, 2, 3, 4, 5] rfl)
  refine lv_iload_n hx hb dX9_workOf_0 rfl (lv_at hl 2 rfl) ?_
  refine lv_bipush (v := iI (99)) hx hb dX9_workOf_1 (by decide) ?_
  refine iv_icmp_le (tgt := 10) hx hb dX9_workOf_3 (by decide) (by omega) (fun hc19 => ?_) (fun hc19 => ?_)
  · refine lv_iload_n hx hb dX9_workOf_10 rfl (lv_at hl 2 rfl) ?_
    refine lv_bipush (v := iI (9)) hx hb dX9_workOf_11 (by decide) ?_
    refine iv_icmp_le (tgt := 20) hx hb dX9_workOf_13 (by decide) (by omega) (fun hc20 => ?_) (fun hc20 => ?_)
    · refine lv_iconst (v := iI (1)) hx hb dX9_workOf_20 rfl ?_
      exact hjoin21 1 (fun _ => by omega) (by omega) H locs ls (hP.sub [0, 1, 2, 3] rfl) (hD.sub [0, 1, 2, 3] (by decide) rfl) hS (lv_sub hl [0, 1, 2, 3] rfl)
    · refine lv_iconst (v := iI (2)) hx hb dX9_workOf_16 rfl ?_
      refine lv_goto (tgt := 21) hx hb dX9_workOf_17 (by decide) ?_
      exact hjoin21 2 (fun _ => by omega) (by omega) H locs ls (hP.sub [0, 1, 2, 3] rfl) (hD.sub [0, 1, 2, 3] (by decide) rfl) hS (lv_sub hl [0, 1, 2, 3] rfl)
  · refine lv_iconst (v := iI (3)) hx hb dX9_workOf_6 rfl ?_
    refine lv_goto (tgt := 21) hx hb dX9_workOf_7 (by decide) ?_
    exact hjoin21 3 (fun _ => by omega) (by omega) H locs ls (hP.sub [0, 1, 2, 3] rfl) (hD.sub [0, 1, 2, 3] (by decide) rfl) hS (lv_sub hl [0, 1, 2, 3] rfl)
