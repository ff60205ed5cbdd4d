theorem kX9_next_9 : ∀ w ∈ u_ws RX9 TX9 37, w ∈ wsX9_next := fun _ h => List.mem_cons_of_mem _ (List.mem_append_right _ h)
abbrev q_X9_next (g : GT) (hm : Nat) (a : Nat → Nat) (i : Nat → Int) (ft : Nat → Int) (L : Nat) (q : Nat) : Option Value → va_W → Prop := fun v w => ∃ (r : Int), ∃ (i' : Nat → Int), v = some (.int (iI r)) ∧ w = [(hm, .inr (9, mF a i')), ((a 15), aI (g.2.1 0) 100 ft)] ∧ (∀ k, ¬ k = 17 → i' k = i k) ∧ (i' 17 = (sk ft L q : Int)) ∧ (r = (if sk ft L q < L then ft (sk ft L q) else 0))
set_option maxHeartbeats 4000000 in
set_option maxRecDepth 100000 in
theorem c_X9_next (l : Launch) (g : GT) (hm : Nat) (a : Nat → Nat) (i : Nat → Int) (ft : Nat → Int) (L : Nat) (q : Nat) (h1 : i 16 = (L : Int) ∧ L ≤ 100 ∧ i 17 = (q : Int) ∧ q ≤ L) (hT : ∀ j, j < L → 32 ≤ ft j ∧ ft j ≤ 126) : Ct l g yX9_next wsX9_next ({ frames := 0, cells := 0, slots := 0, locals := 0 } : Room) [.ref hm] [(hm, .inr (9, mF a i)), ((a 15), aI (g.2.1 0) 100 ft)] (q_X9_next g hm a i ft L q) := by
  refine Ct.intro (maxL := 1) (ret := (some .int)) (by decide) rfl (Nat.le_of_ble_eq_true rfl) ?_
  intro p e s m below meth c A ls hx hb hr hml hown hts hlocks hnm hA hG hP hD hS hl
  have hown : s.vm.findClass RX9 = some m.cls := hown
  have hl : lv_has ls 1 [(0, .ref hm)] := hl
  have hP : va_P g.1 vwCl [(hm, .inr (9, mF a i)), ((a 15), aI (g.2.1 0) 100 ft)] s.heap := hP
  have hS : va_S A s.heap s.heap [] := hS
  obtain ⟨H, hHe⟩ : ∃ H : Heap, H = s.heap := ⟨_, rfl⟩
  obtain ⟨locs, hLe⟩ : ∃ L : List Loc, L = [] := ⟨_, rfl⟩
  have hP : va_P g.1 vwCl [(hm, .inr (9, mF a i)), ((a 15), aI (g.2.1 0) 100 ft)] H := by rw [hHe]; exact hP
  have hS : va_S A s.heap H locs := by rw [hHe, hLe]; exact hS
  suffices hgo : W p l e ({ frames := 0, cells := 0, slots := 0, locals := 0 } : Room) s m [.ref hm].toArray below meth c H locs 0 0 (MQ below (CQ g (q_X9_next g hm a i ft L q) A) [.ref hm].toArray s ({ frames := 0, cells := 0, slots := 0, locals := 0 } : Room).cells ({ frames := 0, cells := 0, slots := 0, locals := 0 } : Room).slots A) (F0 m 0 ls []) by rw [hHe, hLe] at hgo; exact hgo
  clear hHe hLe
  have hloop0 : ∀ (fuel : Nat) (pz : Int) (p9 : Nat) (hc : pz = (p9 : Int) ∧ p9 ≤ L) (he : sk ft L p9 = sk ft L q) (hmeas : L - p9 < fuel), ∀ (H : Heap) (locs : List Loc) (ls : Array Slot), va_P g.1 vwCl [(hm, .inr (9, mF a (va_up i 17 pz))), ((a 15), aI (g.2.1 0) 100 ft)] H → va_D A [(hm, .inr (9, mF a (va_up i 17 pz))), ((a 15), aI (g.2.1 0) 100 ft)] → va_S A s.heap H locs → lv_has ls 1 [(0, .ref hm)] → W p l e ({ frames := 0, cells := 0, slots := 0, locals := 0 } : Room) s m [.ref hm].toArray below meth c H locs 0 0 (MQ below (CQ g (q_X9_next g hm a i ft L q) A) [.ref hm].toArray s ({ frames := 0, cells := 0, slots := 0, locals := 0 } : Room).cells ({ frames := 0, cells := 0, slots := 0, locals := 0 } : Room).slots A) (F0 m 0 ls []) := by
    intro fuel
    induction fuel with
    | zero => intro pz p9 hc he hmeas; exact absurd hmeas (Nat.not_lt_zero _)
    | succ fuel ih0 =>
      intro pz p9 hc he hmeas H locs ls hP hD hS hl
      refine lv_aload_n hx hb dX9_next_0 rfl (lv_at hl 0 rfl) ?_
      refine va_get (D := g.1) (ci := 9) (v := .int (iI pz)) hx hb hts kX9_next_9 hown hG.1 hP 0 rfl rfl 17 (by decide) (hts _ (List.mem_of_getElem? (i := 1) rfl)) (fun _ h9 => h9) rfl dX9_next_1 ?_
      refine lv_aload_n hx hb dX9_next_4 rfl (lv_at hl 0 rfl) ?_
      refine va_get (D := g.1) (ci := 9) (v := .int (iI (i 16))) hx hb hts kX9_next_9 hown hG.1 hP 0 rfl rfl 16 (by decide) (hts _ (List.mem_of_getElem? (i := 2) rfl)) (fun _ h9 => h9) rfl dX9_next_5 ?_
      refine iv_icmp_ge (tgt := 38) hx hb dX9_next_8 (by decide) (by omega) (fun hc1 => ?_) (fun hc1 => ?_)
      · have hst : sk ft L q = p9 := by rw [← he]; exact sk_end ft (by omega)
        refine lv_aload_n hx hb dX9_next_38 rfl (lv_at hl 0 rfl) ?_
        refine va_get (D := g.1) (ci := 9) (v := .int (iI pz)) hx hb hts kX9_next_9 hown hG.1 hP 0 rfl rfl 17 (by decide) (hts _ (List.mem_of_getElem? (i := 1) rfl)) (fun _ h9 => h9) rfl dX9_next_39 ?_
        refine lv_aload_n hx hb dX9_next_42 rfl (lv_at hl 0 rfl) ?_
        refine va_get (D := g.1) (ci := 9) (v := .int (iI (i 16))) hx hb hts kX9_next_9 hown hG.1 hP 0 rfl rfl 16 (by decide) (hts _ (List.mem_of_getElem? (i := 2) rfl)) (fun _ h9 => h9) rfl dX9_next_43 ?_
        refine iv_icmp_ge (tgt := 61) hx hb dX9_next_46 (by decide) (by omega) (fun hc2 => ?_) (fun hc2 => ?_)
        · refine lv_iconst (v := iI (0)) hx hb dX9_next_61 rfl ?_
          exact Ct.iret hx hb hr hlocks (hP.sub [0, 1] rfl) (hD.sub [0, 1] (by decide) rfl) hS ⟨by decide, by decide⟩ dX9_next_62 ⟨0, (va_up i 17 pz), rfl, rfl, (fun k hk => up_n _ _ _ _ hk), (by rw [up_s, hst]; omega), (by rw [hst]; first | (exfalso; omega) | rw [if_pos (by omega)] | rw [if_neg (by omega)])⟩
        · refine lv_aload_n hx hb dX9_next_49 rfl (lv_at hl 0 rfl) ?_
          refine va_get (D := g.1) (ci := 9) (v := .ref (a 15)) hx hb hts kX9_next_9 hown hG.1 hP 0 rfl rfl 15 (by decide) (hts _ (List.mem_of_getElem? (i := 3) rfl)) (fun _ h9 => h9) rfl dX9_next_50 ?_
          refine lv_aload_n hx hb dX9_next_53 rfl (lv_at hl 0 rfl) ?_
          refine va_get (D := g.1) (ci := 9) (v := .int (iI pz)) hx hb hts kX9_next_9 hown hG.1 hP 0 rfl rfl 17 (by decide) (hts _ (List.mem_of_getElem? (i := 1) rfl)) (fun _ h9 => h9) rfl dX9_next_54 ?_
          refine iv_iald hx hb hG hP 1 rfl p9 (by omega) (by omega) (by decide) dX9_next_57 ?_
          refine lv_goto (tgt := 62) hx hb dX9_next_58 (by decide) ?_
          exact Ct.iret hx hb hr hlocks (hP.sub [0, 1] rfl) (hD.sub [0, 1] (by decide) rfl) hS ⟨by decide, by decide⟩ dX9_next_62 ⟨(ft p9), (va_up i 17 pz), rfl, rfl, (fun k hk => up_n _ _ _ _ hk), (by rw [up_s, hst]; omega), (by rw [hst]; first | (exfalso; omega) | rw [if_pos (by omega)] | rw [if_neg (by omega)])⟩
      · have hb9 := hT p9 (by omega)
        refine lv_aload_n hx hb dX9_next_11 rfl (lv_at hl 0 rfl) ?_
        refine va_get (D := g.1) (ci := 9) (v := .ref (a 15)) hx hb hts kX9_next_9 hown hG.1 hP 0 rfl rfl 15 (by decide) (hts _ (List.mem_of_getElem? (i := 3) rfl)) (fun _ h9 => h9) rfl dX9_next_12 ?_
        refine lv_aload_n hx hb dX9_next_15 rfl (lv_at hl 0 rfl) ?_
        refine va_get (D := g.1) (ci := 9) (v := .int (iI pz)) hx hb hts kX9_next_9 hown hG.1 hP 0 rfl rfl 17 (by decide) (hts _ (List.mem_of_getElem? (i := 1) rfl)) (fun _ h9 => h9) rfl dX9_next_16 ?_
        refine iv_iald hx hb hG hP 1 rfl p9 (by omega) (by omega) (by decide) dX9_next_19 ?_
        refine lv_bipush (v := iI (32)) hx hb dX9_next_20 (by decide) ?_
        refine iv_icmp_ne (tgt := 38) hx hb dX9_next_22 (by decide) (by omega) (fun hc3 => ?_) (fun hc3 => ?_)
        · have hst : sk ft L q = p9 := by rw [← he]; exact sk_stop ft (by omega)
          refine lv_aload_n hx hb dX9_next_38 rfl (lv_at hl 0 rfl) ?_
          refine va_get (D := g.1) (ci := 9) (v := .int (iI pz)) hx hb hts kX9_next_9 hown hG.1 hP 0 rfl rfl 17 (by decide) (hts _ (List.mem_of_getElem? (i := 1) rfl)) (fun _ h9 => h9) rfl dX9_next_39 ?_
          refine lv_aload_n hx hb dX9_next_42 rfl (lv_at hl 0 rfl) ?_
          refine va_get (D := g.1) (ci := 9) (v := .int (iI (i 16))) hx hb hts kX9_next_9 hown hG.1 hP 0 rfl rfl 16 (by decide) (hts _ (List.mem_of_getElem? (i := 2) rfl)) (fun _ h9 => h9) rfl dX9_next_43 ?_
          refine iv_icmp_ge (tgt := 61) hx hb dX9_next_46 (by decide) (by omega) (fun hc4 => ?_) (fun hc4 => ?_)
          · refine lv_iconst (v := iI (0)) hx hb dX9_next_61 rfl ?_
            exact Ct.iret hx hb hr hlocks (hP.sub [0, 1] rfl) (hD.sub [0, 1] (by decide) rfl) hS ⟨by decide, by decide⟩ dX9_next_62 ⟨0, (va_up i 17 pz), rfl, rfl, (fun k hk => up_n _ _ _ _ hk), (by rw [up_s, hst]; omega), (by rw [hst]; first | (exfalso; omega) | rw [if_pos (by omega)] | rw [if_neg (by omega)])⟩
          · refine lv_aload_n hx hb dX9_next_49 rfl (lv_at hl 0 rfl) ?_
            refine va_get (D := g.1) (ci := 9) (v := .ref (a 15)) hx hb hts kX9_next_9 hown hG.1 hP 0 rfl rfl 15 (by decide) (hts _ (List.mem_of_getElem? (i := 3) rfl)) (fun _ h9 => h9) rfl dX9_next_50 ?_
            refine lv_aload_n hx hb dX9_next_53 rfl (lv_at hl 0 rfl) ?_
            refine va_get (D := g.1) (ci := 9) (v := .int (iI pz)) hx hb hts kX9_next_9 hown hG.1 hP 0 rfl rfl 17 (by decide) (hts _ (List.mem_of_getElem? (i := 1) rfl)) (fun _ h9 => h9) rfl dX9_next_54 ?_
            refine iv_iald hx hb hG hP 1 rfl p9 (by omega) (by omega) (by decide) dX9_next_57 ?_
            refine lv_goto (tgt := 62) hx hb dX9_next_58 (by decide) ?_
            exact Ct.iret hx hb hr hlocks (hP.sub [0, 1] rfl) (hD.sub [0, 1] (by decide) rfl) hS ⟨by decide, by decide⟩ dX9_next_62 ⟨(ft p9), (va_up i 17 pz), rfl, rfl, (fun k hk => up_n _ _ _ _ hk), (by rw [up_s, hst]; omega), (by rw [hst]; first | (exfalso; omega) | rw [if_pos (by omega)] | rw [if_neg (by omega)])⟩
        · refine lv_aload_n hx hb dX9_next_25 rfl (lv_at hl 0 rfl) ?_
          refine lv_dup hx hb dX9_next_26 rfl ?_
          refine va_get (D := g.1) (ci := 9) (v := .int (iI pz)) hx hb hts kX9_next_9 hown hG.1 hP 0 rfl rfl 17 (by decide) (hts _ (List.mem_of_getElem? (i := 1) rfl)) (fun _ h9 => h9) rfl dX9_next_27 ?_
          refine lv_iconst (v := iI (1)) hx hb dX9_next_30 rfl ?_
          refine iv_iadd hx hb dX9_next_31 ?_
          refine va_put (D := g.1) (ci := 9) (v := .int (iI (pz + 1))) hx hb hts kX9_next_9 tyX9 tyX9_ok nmX9 hown hG.1 hP hD hS 0 rfl rfl 17 (by decide) (hts _ (List.mem_of_getElem? (i := 1) rfl)) (fun _ h9 => h9) rfl (tyX9_ok 17 (by decide)) rfl rfl (Nat.le_of_ble_eq_true rfl) dX9_next_32 (fun H locs hP hD hS => ?_)
          have hP : va_P g.1 vwCl [(hm, .inr (9, mF a (va_up i 17 (pz + 1)))), ((a 15), aI (g.2.1 0) 100 ft)] H := hP
          have hD : va_D A [(hm, .inr (9, mF a (va_up i 17 (pz + 1)))), ((a 15), aI (g.2.1 0) 100 ft)] := hD
          refine lv_goto (tgt := 0) hx hb dX9_next_35 (by decide) ?_
          exact ih0 (pz + 1) (p9 + 1) (by omega) (by rw [← he]; exact sk_step ft (by omega) (by omega)) (by omega) H locs ls (hP.sub [0, 1] rfl) (hD.sub [0, 1] (by decide) rfl) hS (lv_sub hl [0] rfl)
  exact hloop0 _ (i 17) q (by omega) (rfl) (Nat.lt_succ_self _) H locs ls (hP.sub [0, 1] rfl) (hD.sub [0, 1] (by decide) rfl) hS (lv_sub hl [0] rfl)
