theorem kX6_next_6 : ∀ w ∈ u_ws RX6 TX6 3, w ∈ wsX6_next := fun _ h => List.mem_cons_of_mem _ (List.mem_append_right _ h)
abbrev q_X6_next (g : GT) (ht : Nat) (tb : Nat) (tl : Int) (tp : Int) (ft : Nat → Int) (L : Nat) (q : Nat) : Option Value → va_W → Prop := fun v w => ∃ (r : Int), ∃ (tp' : Int), v = some (.int (iI r)) ∧ w = [(ht, .inr (6, [.int (iI tl), .ref tb, .int (iI tp')])), (tb, aI (g.2.1 2) 100 ft)] ∧ (tp' = (sk ft L q : Int)) ∧ (r = (if sk ft L q < L then ft (sk ft L q) else -1))
set_option maxHeartbeats 4000000 in
set_option maxRecDepth 100000 in
theorem c_X6_next (l : Launch) (g : GT) (ht : Nat) (tb : Nat) (tl : Int) (tp : Int) (ft : Nat → Int) (L : Nat) (q : Nat) (h1 : tl = (L : Int) ∧ L ≤ 100 ∧ tp = (q : Int) ∧ q ≤ L) (hT : ∀ j, j < L → 32 ≤ ft j ∧ ft j ≤ 126) : Ct l g yX6_next wsX6_next ({ frames := 0, cells := 0, slots := 0, locals := 0 } : Room) [.ref ht] [(ht, .inr (6, [.int (iI tl), .ref tb, .int (iI tp)])), (tb, aI (g.2.1 2) 100 ft)] (q_X6_next g ht tb tl tp ft L q) := by
  refine Ct.intro (maxL := 1) (ret := (some .int)) (by decide) rfl (Nat.le_of_ble_eq_true rfl) ?_
  intro p e s m below meth c A ls hx hb hr hml hown hts hlocks hnm hA hG hP hD hS hl
  have hown : s.vm.findClass RX6 = some m.cls := hown
  have hl : lv_has ls 1 [(0, .ref ht)] := hl
  have hP : va_P g.1 vwCl [(ht, .inr (6, [.int (iI tl), .ref tb, .int (iI tp)])), (tb, aI (g.2.1 2) 100 ft)] s.heap := hP
  have hS : va_S A s.heap s.heap [] := hS
  obtain ⟨H, hHe⟩ : ∃ H : Heap, H = s.heap := ⟨_, rfl⟩
  obtain ⟨locs, hLe⟩ : ∃ L : List Loc, L = [] := ⟨_, rfl⟩
  have hP : va_P g.1 vwCl [(ht, .inr (6, [.int (iI tl), .ref tb, .int (iI tp)])), (tb, aI (g.2.1 2) 100 ft)] H := by rw [hHe]; exact hP
  have hS : va_S A s.heap H locs := by rw [hHe, hLe]; exact hS
  suffices hgo : W p l e ({ frames := 0, cells := 0, slots := 0, locals := 0 } : Room) s m [.ref ht].toArray below meth c H locs 0 0 (MQ below (CQ g (q_X6_next g ht tb tl tp ft L q) A) [.ref ht].toArray s ({ frames := 0, cells := 0, slots := 0, locals := 0 } : Room).cells ({ frames := 0, cells := 0, slots := 0, locals := 0 } : Room).slots A) (F0 m 0 ls []) by rw [hHe, hLe] at hgo; exact hgo
  clear hHe hLe
  have hloop0 : ∀ (fuel : Nat) (pz : Int) (p9 : Nat) (hc : pz = (p9 : Int) ∧ p9 ≤ L) (he : sk ft L p9 = sk ft L q) (hmeas : L - p9 < fuel), ∀ (H : Heap) (locs : List Loc) (ls : Array Slot), va_P g.1 vwCl [(ht, .inr (6, [.int (iI tl), .ref tb, .int (iI pz)])), (tb, aI (g.2.1 2) 100 ft)] H → va_D A [(ht, .inr (6, [.int (iI tl), .ref tb, .int (iI pz)])), (tb, aI (g.2.1 2) 100 ft)] → va_S A s.heap H locs → lv_has ls 1 [(0, .ref ht)] → W p l e ({ frames := 0, cells := 0, slots := 0, locals := 0 } : Room) s m [.ref ht].toArray below meth c H locs 0 0 (MQ below (CQ g (q_X6_next g ht tb tl tp ft L q) A) [.ref ht].toArray s ({ frames := 0, cells := 0, slots := 0, locals := 0 } : Room).cells ({ frames := 0, cells := 0, slots := 0, locals := 0 } : Room).slots A) (F0 m 0 ls []) := by
    intro fuel
    induction fuel with
    | zero => intro pz p9 hc he hmeas; exact absurd hmeas (Nat.not_lt_zero _)
    | succ fuel ih0 =>
      intro pz p9 hc he hmeas H locs ls hP hD hS hl
      refine lv_aload_n hx hb dX6_next_0 rfl (lv_at hl 0 rfl) ?_
      refine va_get (D := g.1) (ci := 6) (v := .int (iI pz)) hx hb hts kX6_next_6 hown hG.1 hP 0 rfl rfl 2 (by decide) (hts _ (List.mem_of_getElem? (i := 1) rfl)) (fun _ h9 => h9) rfl dX6_next_1 ?_
      refine lv_aload_n hx hb dX6_next_4 rfl (lv_at hl 0 rfl) ?_
      refine va_get (D := g.1) (ci := 6) (v := .int (iI tl)) hx hb hts kX6_next_6 hown hG.1 hP 0 rfl rfl 0 (by decide) (hts _ (List.mem_of_getElem? (i := 2) rfl)) (fun _ h9 => h9) rfl dX6_next_5 ?_
      refine iv_icmp_ge (tgt := 38) hx hb dX6_next_8 (by decide) (by omega) (fun hc1 => ?_) (fun hc1 => ?_)
      · have hst : sk ft L q = p9 := by rw [← he]; exact sk_end ft (by omega)
        refine lv_aload_n hx hb dX6_next_38 rfl (lv_at hl 0 rfl) ?_
        refine va_get (D := g.1) (ci := 6) (v := .int (iI pz)) hx hb hts kX6_next_6 hown hG.1 hP 0 rfl rfl 2 (by decide) (hts _ (List.mem_of_getElem? (i := 1) rfl)) (fun _ h9 => h9) rfl dX6_next_39 ?_
        refine lv_aload_n hx hb dX6_next_42 rfl (lv_at hl 0 rfl) ?_
        refine va_get (D := g.1) (ci := 6) (v := .int (iI tl)) hx hb hts kX6_next_6 hown hG.1 hP 0 rfl rfl 0 (by decide) (hts _ (List.mem_of_getElem? (i := 2) rfl)) (fun _ h9 => h9) rfl dX6_next_43 ?_
        refine iv_icmp_ge (tgt := 61) hx hb dX6_next_46 (by decide) (by omega) (fun hc2 => ?_) (fun hc2 => ?_)
        · refine lv_iconst (v := iI (-1)) hx hb dX6_next_61 rfl ?_
          exact Ct.iret hx hb hr hlocks (hP.sub [0, 1] rfl) (hD.sub [0, 1] (by decide) rfl) hS ⟨by decide, by decide⟩ dX6_next_62 ⟨(-1), pz, rfl, rfl, (by rw [hst]; omega), (by rw [hst]; first | (exfalso; omega) | rw [if_pos (by omega)] | rw [if_neg (by omega)])⟩
        · refine lv_aload_n hx hb dX6_next_49 rfl (lv_at hl 0 rfl) ?_
          refine va_get (D := g.1) (ci := 6) (v := .ref tb) hx hb hts kX6_next_6 hown hG.1 hP 0 rfl rfl 1 (by decide) (hts _ (List.mem_of_getElem? (i := 3) rfl)) (fun _ h9 => h9) rfl dX6_next_50 ?_
          refine lv_aload_n hx hb dX6_next_53 rfl (lv_at hl 0 rfl) ?_
          refine va_get (D := g.1) (ci := 6) (v := .int (iI pz)) hx hb hts kX6_next_6 hown hG.1 hP 0 rfl rfl 2 (by decide) (hts _ (List.mem_of_getElem? (i := 1) rfl)) (fun _ h9 => h9) rfl dX6_next_54 ?_
          refine iv_bald hx hb hG hP 1 rfl p9 (by omega) (by omega) (by decide) dX6_next_57 ?_
          refine lv_goto (tgt := 62) hx hb dX6_next_58 (by decide) ?_
          exact Ct.iret hx hb hr hlocks (hP.sub [0, 1] rfl) (hD.sub [0, 1] (by decide) rfl) hS ⟨by decide, by decide⟩ dX6_next_62 ⟨(ft p9), pz, rfl, rfl, (by rw [hst]; omega), (by rw [hst]; first | (exfalso; omega) | rw [if_pos (by omega)] | rw [if_neg (by omega)])⟩
      · have hb9 := hT p9 (by omega)
        refine lv_aload_n hx hb dX6_next_11 rfl (lv_at hl 0 rfl) ?_
        refine va_get (D := g.1) (ci := 6) (v := .ref tb) hx hb hts kX6_next_6 hown hG.1 hP 0 rfl rfl 1 (by decide) (hts _ (List.mem_of_getElem? (i := 3) rfl)) (fun _ h9 => h9) rfl dX6_next_12 ?_
        refine lv_aload_n hx hb dX6_next_15 rfl (lv_at hl 0 rfl) ?_
        refine va_get (D := g.1) (ci := 6) (v := .int (iI pz)) hx hb hts kX6_next_6 hown hG.1 hP 0 rfl rfl 2 (by decide) (hts _ (List.mem_of_getElem? (i := 1) rfl)) (fun _ h9 => h9) rfl dX6_next_16 ?_
        refine iv_bald hx hb hG hP 1 rfl p9 (by omega) (by omega) (by decide) dX6_next_19 ?_
        refine lv_bipush (v := iI (32)) hx hb dX6_next_20 (by decide) ?_
        refine iv_icmp_ne (tgt := 38) hx hb dX6_next_22 (by decide) (by omega) (fun hc3 => ?_) (fun hc3 => ?_)
        · have hst : sk ft L q = p9 := by rw [← he]; exact sk_stop ft (by omega)
          refine lv_aload_n hx hb dX6_next_38 rfl (lv_at hl 0 rfl) ?_
          refine va_get (D := g.1) (ci := 6) (v := .int (iI pz)) hx hb hts kX6_next_6 hown hG.1 hP 0 rfl rfl 2 (by decide) (hts _ (List.mem_of_getElem? (i := 1) rfl)) (fun _ h9 => h9) rfl dX6_next_39 ?_
          refine lv_aload_n hx hb dX6_next_42 rfl (lv_at hl 0 rfl) ?_
          refine va_get (D := g.1) (ci := 6) (v := .int (iI tl)) hx hb hts kX6_next_6 hown hG.1 hP 0 rfl rfl 0 (by decide) (hts _ (List.mem_of_getElem? (i := 2) rfl)) (fun _ h9 => h9) rfl dX6_next_43 ?_
          refine iv_icmp_ge (tgt := 61) hx hb dX6_next_46 (by decide) (by omega) (fun hc4 => ?_) (fun hc4 => ?_)
          · refine lv_iconst (v := iI (-1)) hx hb dX6_next_61 rfl ?_
            exact Ct.iret hx hb hr hlocks (hP.sub [0, 1] rfl) (hD.sub [0, 1] (by decide) rfl) hS ⟨by decide, by decide⟩ dX6_next_62 ⟨(-1), pz, rfl, rfl, (by rw [hst]; omega), (by rw [hst]; first | (exfalso; omega) | rw [if_pos (by omega)] | rw [if_neg (by omega)])⟩
          · refine lv_aload_n hx hb dX6_next_49 rfl (lv_at hl 0 rfl) ?_
            refine va_get (D := g.1) (ci := 6) (v := .ref tb) hx hb hts kX6_next_6 hown hG.1 hP 0 rfl rfl 1 (by decide) (hts _ (List.mem_of_getElem? (i := 3) rfl)) (fun _ h9 => h9) rfl dX6_next_50 ?_
            refine lv_aload_n hx hb dX6_next_53 rfl (lv_at hl 0 rfl) ?_
            refine va_get (D := g.1) (ci := 6) (v := .int (iI pz)) hx hb hts kX6_next_6 hown hG.1 hP 0 rfl rfl 2 (by decide) (hts _ (List.mem_of_getElem? (i := 1) rfl)) (fun _ h9 => h9) rfl dX6_next_54 ?_
            refine iv_bald hx hb hG hP 1 rfl p9 (by omega) (by omega) (by decide) dX6_next_57 ?_
            refine lv_goto (tgt := 62) hx hb dX6_next_58 (by decide) ?_
            exact Ct.iret hx hb hr hlocks (hP.sub [0, 1] rfl) (hD.sub [0, 1] (by decide) rfl) hS ⟨by decide, by decide⟩ dX6_next_62 ⟨(ft p9), pz, rfl, rfl, (by rw [hst]; omega), (by rw [hst]; first | (exfalso; omega) | rw [if_pos (by omega)] | rw [if_neg (by omega)])⟩
        · refine lv_aload_n hx hb dX6_next_25 rfl (lv_at hl 0 rfl) ?_
          refine lv_dup hx hb dX6_next_26 rfl ?_
          refine va_get (D := g.1) (ci := 6) (v := .int (iI pz)) hx hb hts kX6_next_6 hown hG.1 hP 0 rfl rfl 2 (by decide) (hts _ (List.mem_of_getElem? (i := 1) rfl)) (fun _ h9 => h9) rfl dX6_next_27 ?_
          refine lv_iconst (v := iI (1)) hx hb dX6_next_30 rfl ?_
          refine iv_iadd hx hb dX6_next_31 ?_
          refine va_put (D := g.1) (ci := 6) (v := .int (iI (pz + 1))) hx hb hts kX6_next_6 tyX6 tyX6_ok nmX6 hown hG.1 hP hD hS 0 rfl rfl 2 (by decide) (hts _ (List.mem_of_getElem? (i := 1) rfl)) (fun _ h9 => h9) rfl (tyX6_ok 2 (by decide)) rfl rfl (Nat.le_of_ble_eq_true rfl) dX6_next_32 (fun H locs hP hD hS => ?_)
          have hP : va_P g.1 vwCl [(ht, .inr (6, [.int (iI tl), .ref tb, .int (iI (pz + 1))])), (tb, aI (g.2.1 2) 100 ft)] H := hP
          have hD : va_D A [(ht, .inr (6, [.int (iI tl), .ref tb, .int (iI (pz + 1))])), (tb, aI (g.2.1 2) 100 ft)] := hD
          refine lv_goto (tgt := 0) hx hb dX6_next_35 (by decide) ?_
          exact ih0 (pz + 1) (p9 + 1) (by omega) (by rw [← he]; exact sk_step ft (by omega) (by omega)) (by omega) H locs ls (hP.sub [0, 1] rfl) (hD.sub [0, 1] (by decide) rfl) hS (lv_sub hl [0] rfl)
  exact hloop0 _ tp q (by omega) (rfl) (Nat.lt_succ_self _) H locs ls (hP.sub [0, 1] rfl) (hD.sub [0, 1] (by decide) rfl) hS (lv_sub hl [0] rfl)
theorem kX6_pass_6 : ∀ w ∈ u_ws RX6 TX6 3, w ∈ wsX6_pass := fun _ h => List.mem_cons_of_mem _ (List.mem_append_right _ h)
abbrev q_X6_pass (g : GT) (ht : Nat) (tb : Nat) (tl : Int) (tp : Int) (ft : Nat → Int) (L : Nat) (q : Nat) (c_ : Int) : Option Value → va_W → Prop := fun v w => ∃ (tp' : Int), (v = some (.int (iI 1)) ∧ (psP ft L c_ q) ∨ v = some (.int (iI 0)) ∧ ¬ (psP ft L c_ q)) ∧ w = [(ht, .inr (6, [.int (iI tl), .ref tb, .int (iI tp')])), (tb, aI (g.2.1 2) 100 ft)] ∧ (psP ft L c_ q → tp' = (sk ft L q : Int) + 1) ∧ (¬ psP ft L c_ q → tp' = (sk ft L q : Int))
set_option maxHeartbeats 4000000 in
set_option maxRecDepth 100000 in
theorem c_X6_pass (l : Launch) (g : GT) (ht : Nat) (tb : Nat) (tl : Int) (tp : Int) (ft : Nat → Int) (L : Nat) (q : Nat) (c_ : Int) (h1 : tl = (L : Int) ∧ L ≤ 100 ∧ tp = (q : Int) ∧ q ≤ L) (hT : ∀ j, j < L → 32 ≤ ft j ∧ ft j ≤ 126) (h2 : 33 ≤ c_ ∧ c_ ≤ 126) : Ct l g yX6_pass wsX6_pass ({ frames := 1, cells := 0, slots := 0, locals := 20 } : Room) [.ref ht, .int (iI c_)] [(ht, .inr (6, [.int (iI tl), .ref tb, .int (iI tp)])), (tb, aI (g.2.1 2) 100 ft)] (q_X6_pass g ht tb tl tp ft L q c_) := by
  refine Ct.intro (maxL := 2) (ret := (some .boolean)) (by decide) rfl (Nat.le_of_ble_eq_true rfl) ?_
  intro p e s m below meth c A ls hx hb hr hml hown hts hlocks hnm hA hG hP hD hS hl
  have hown : s.vm.findClass RX6 = some m.cls := hown
  have hl : lv_has ls 2 [(0, .ref ht), (1, .int (iI c_))] := hl
  have hP : va_P g.1 vwCl [(ht, .inr (6, [.int (iI tl), .ref tb, .int (iI tp)])), (tb, aI (g.2.1 2) 100 ft)] s.heap := hP
  have hS : va_S A s.heap s.heap [] := hS
  obtain ⟨H, hHe⟩ : ∃ H : Heap, H = s.heap := ⟨_, rfl⟩
  obtain ⟨locs, hLe⟩ : ∃ L : List Loc, L = [] := ⟨_, rfl⟩
  have hP : va_P g.1 vwCl [(ht, .inr (6, [.int (iI tl), .ref tb, .int (iI tp)])), (tb, aI (g.2.1 2) 100 ft)] H := by rw [hHe]; exact hP
  have hS : va_S A s.heap H locs := by rw [hHe, hLe]; exact hS
  suffices hgo : W p l e ({ frames := 1, cells := 0, slots := 0, locals := 20 } : Room) s m [.ref ht, .int (iI c_)].toArray below meth c H locs 0 0 (MQ below (CQ g (q_X6_pass g ht tb tl tp ft L q c_) A) [.ref ht, .int (iI c_)].toArray s ({ frames := 1, cells := 0, slots := 0, locals := 20 } : Room).cells ({ frames := 1, cells := 0, slots := 0, locals := 20 } : Room).slots A) (F0 m 0 ls []) by rw [hHe, hLe] at hgo; exact hgo
  clear hHe hLe
  refine lv_aload_n hx hb dX6_pass_0 rfl (lv_at hl 0 rfl) ?_
  refine Ct.callV (ci := 6) (q0 := 0) (qc := (RX6, TX6, 3)) (As := []) (rest := []) (wr := []) (c1 := 0) (s1 := 0) ⟨hx, hb, hml, hown, hts⟩ (c_X6_next l g ht tb tl tp ft L q (by omega) (hT)) rfl rfl (cwV 0 hts gX6_pass_X6_next rfl rfl rfl (by decide +kernel) ⟨Nat.le_of_ble_eq_true rfl, Nat.le_of_ble_eq_true rfl⟩) hG hP hD hS hA [0, 1] [] rfl rfl (by decide) (by decide) (by decide) rfl hl.1 rfl (Nat.le_of_ble_eq_true rfl) dX6_pass_1 ⟨Nat.le_of_ble_eq_true rfl, Nat.le_of_ble_eq_true rfl⟩ rfl rfl (fun v w H locs hv hP hD hS => ?_)
  obtain ⟨r1, tp2, rfl, rfl, hf3, hf4⟩ := hv
  show W p l e _ s m _ below meth c H locs 0 0 _ (F0 m 4 ls (.int (iI r1) :: []))
  have hP : va_P g.1 vwCl [(ht, .inr (6, [.int (iI tl), .ref tb, .int (iI tp2)])), (tb, aI (g.2.1 2) 100 ft)] H := hP
  have hD : va_D A [(ht, .inr (6, [.int (iI tl), .ref tb, .int (iI tp2)])), (tb, aI (g.2.1 2) 100 ft)] := hD
  have hf3 : tp2 = (sk ft L q : Int) := hf3
  have hf4 : r1 = (if sk ft L q < L then ft (sk ft L q) else -1) := hf4
  have hsl := sk_le ft (L := L) (p := q) (by omega)
  have hbr : -1 ≤ (if sk ft L q < L then ft (sk ft L q) else -1) ∧ (if sk ft L q < L then ft (sk ft L q) else -1) ≤ 126 := by split <;> first | omega | (have := hT (sk ft L q) (by omega); omega)
  have hb8 : (if sk ft L q < L then ft (sk ft L q) else -1) = c_ → psP ft L c_ q := fun z => (by by_cases w9 : sk ft L q < L; (rw [if_pos w9] at z; exact ⟨w9, z⟩); (rw [if_neg w9] at z; exfalso; omega))
  have hb7 : ¬ (if sk ft L q < L then ft (sk ft L q) else -1) = c_ → ¬ psP ft L c_ q := fun z w9 => z (by rw [if_pos w9.1]; exact w9.2)
  refine lv_iload_n hx hb dX6_pass_4 rfl (lv_at hl 1 rfl) ?_
  refine iv_icmp_eq (tgt := 10) hx hb dX6_pass_5 (by decide) (by omega) (fun hc5 => ?_) (fun hc5 => ?_)
  · refine lv_aload_n hx hb dX6_pass_10 rfl (lv_at hl 0 rfl) ?_
    refine lv_dup hx hb dX6_pass_11 rfl ?_
    refine va_get (D := g.1) (ci := 6) (v := .int (iI tp2)) hx hb hts kX6_pass_6 hown hG.1 hP 0 rfl rfl 2 (by decide) (hts _ (List.mem_of_getElem? (i := 1) rfl)) (fun _ h9 => h9) rfl dX6_pass_12 ?_
    refine lv_iconst (v := iI (1)) hx hb dX6_pass_15 rfl ?_
    refine iv_iadd hx hb dX6_pass_16 ?_
    refine va_put (D := g.1) (ci := 6) (v := .int (iI (tp2 + 1))) hx hb hts kX6_pass_6 tyX6 tyX6_ok nmX6 hown hG.1 hP hD hS 0 rfl rfl 2 (by decide) (hts _ (List.mem_of_getElem? (i := 1) rfl)) (fun _ h9 => h9) rfl (tyX6_ok 2 (by decide)) rfl rfl (Nat.le_of_ble_eq_true rfl) dX6_pass_17 (fun H locs hP hD hS => ?_)
    have hP : va_P g.1 vwCl [(ht, .inr (6, [.int (iI tl), .ref tb, .int (iI (tp2 + 1))])), (tb, aI (g.2.1 2) 100 ft)] H := hP
    have hD : va_D A [(ht, .inr (6, [.int (iI tl), .ref tb, .int (iI (tp2 + 1))])), (tb, aI (g.2.1 2) 100 ft)] := hD
    refine lv_iconst (v := iI (1)) hx hb dX6_pass_20 rfl ?_
    exact Ct.zret hx hb hr hlocks (hP.sub [0, 1] rfl) (hD.sub [0, 1] (by decide) rfl) hS ⟨by decide, by decide⟩ dX6_pass_21 (by decide) ⟨(tp2 + 1), Or.inl ⟨rfl, hb8 (by omega)⟩, rfl, (fun _ => by omega), (fun z => absurd (hb8 (by omega)) z)⟩
  · refine lv_iconst (v := iI (0)) hx hb dX6_pass_8 rfl ?_
    exact Ct.zret hx hb hr hlocks (hP.sub [0, 1] rfl) (hD.sub [0, 1] (by decide) rfl) hS ⟨by decide, by decide⟩ dX6_pass_9 (by decide) ⟨tp2, Or.inr ⟨rfl, hb7 (by omega)⟩, rfl, (fun z => absurd z (hb7 (by omega))), (fun _ => by omega)⟩
abbrev q_X6_nextSkill (g : GT) (ht : Nat) (tb : Nat) (tl : Int) (tp : Int) (ft : Nat → Int) (L : Nat) (q : Nat) : Option Value → va_W → Prop := fun v w => ∃ (r : Int), ∃ (tp' : Int), v = some (.int (iI r)) ∧ w = [(ht, .inr (6, [.int (iI tl), .ref tb, .int (iI tp')])), (tb, aI (g.2.1 2) 100 ft)] ∧ (tp' = (sk ft L q : Int)) ∧ ((ltP ft L q ∧ r = (ltS ft L q : Int)) ∨ (¬ ltP ft L q ∧ r = -1))
set_option maxHeartbeats 4000000 in
set_option maxRecDepth 100000 in
theorem c_X6_nextSkill (l : Launch) (g : GT) (ht : Nat) (tb : Nat) (tl : Int) (tp : Int) (ft : Nat → Int) (L : Nat) (q : Nat) (h1 : tl = (L : Int) ∧ L ≤ 100 ∧ tp = (q : Int) ∧ q ≤ L) (hT : ∀ j, j < L → 32 ≤ ft j ∧ ft j ≤ 126) : Ct l g yX6_nextSkill wsX6_nextSkill ({ frames := 1, cells := 0, slots := 0, locals := 22 } : Room) [.ref ht] [(ht, .inr (6, [.int (iI tl), .ref tb, .int (iI tp)])), (tb, aI (g.2.1 2) 100 ft)] (q_X6_nextSkill g ht tb tl tp ft L q) := by
  refine Ct.intro (maxL := 2) (ret := (some .int)) (by decide) rfl (Nat.le_of_ble_eq_true rfl) ?_
  intro p e s m below meth c A ls hx hb hr hml hown hts hlocks hnm hA hG hP hD hS hl
  have hown : s.vm.findClass RX6 = some m.cls := hown
  have hl : lv_has ls 2 [(0, .ref ht)] := hl
  have hP : va_P g.1 vwCl [(ht, .inr (6, [.int (iI tl), .ref tb, .int (iI tp)])), (tb, aI (g.2.1 2) 100 ft)] s.heap := hP
  have hS : va_S A s.heap s.heap [] := hS
  obtain ⟨H, hHe⟩ : ∃ H : Heap, H = s.heap := ⟨_, rfl⟩
  obtain ⟨locs, hLe⟩ : ∃ L : List Loc, L = [] := ⟨_, rfl⟩
  have hP : va_P g.1 vwCl [(ht, .inr (6, [.int (iI tl), .ref tb, .int (iI tp)])), (tb, aI (g.2.1 2) 100 ft)] H := by rw [hHe]; exact hP
  have hS : va_S A s.heap H locs := by rw [hHe, hLe]; exact hS
  suffices hgo : W p l e ({ frames := 1, cells := 0, slots := 0, locals := 22 } : Room) s m [.ref ht].toArray below meth c H locs 0 0 (MQ below (CQ g (q_X6_nextSkill g ht tb tl tp ft L q) A) [.ref ht].toArray s ({ frames := 1, cells := 0, slots := 0, locals := 22 } : Room).cells ({ frames := 1, cells := 0, slots := 0, locals := 22 } : Room).slots A) (F0 m 0 ls []) by rw [hHe, hLe] at hgo; exact hgo
  clear hHe hLe
  refine lv_aload_n hx hb dX6_nextSkill_0 rfl (lv_at hl 0 rfl) ?_
  refine Ct.callV (ci := 6) (q0 := 0) (qc := (RX6, TX6, 3)) (As := []) (rest := []) (wr := []) (c1 := 0) (s1 := 0) ⟨hx, hb, hml, hown, hts⟩ (c_X6_next l g ht tb tl tp ft L q (by omega) (hT)) rfl rfl (cwV 0 hts gX6_nextSkill_X6_next rfl rfl rfl (by decide +kernel) ⟨Nat.le_of_ble_eq_true rfl, Nat.le_of_ble_eq_true rfl⟩) hG hP hD hS hA [0, 1] [] rfl rfl (by decide) (by decide) (by decide) rfl hl.1 rfl (Nat.le_of_ble_eq_true rfl) dX6_nextSkill_1 ⟨Nat.le_of_ble_eq_true rfl, Nat.le_of_ble_eq_true rfl⟩ rfl rfl (fun v w H locs hv hP hD hS => ?_)
  obtain ⟨r1, tp2, rfl, rfl, hf3, hf4⟩ := hv
  show W p l e _ s m _ below meth c H locs 0 0 _ (F0 m 4 ls (.int (iI r1) :: []))
  have hP : va_P g.1 vwCl [(ht, .inr (6, [.int (iI tl), .ref tb, .int (iI tp2)])), (tb, aI (g.2.1 2) 100 ft)] H := hP
  have hD : va_D A [(ht, .inr (6, [.int (iI tl), .ref tb, .int (iI tp2)])), (tb, aI (g.2.1 2) 100 ft)] := hD
  have hf3 : tp2 = (sk ft L q : Int) := hf3
  have hf4 : r1 = (if sk ft L q < L then ft (sk ft L q) else -1) := hf4
  have hbr : -1 ≤ (if sk ft L q < L then ft (sk ft L q) else -1) ∧ (if sk ft L q < L then ft (sk ft L q) else -1) ≤ 126 := by split <;> first | omega | (have := hT (sk ft L q) (by omega); omega)
  refine lv_istore_n (lv' := [(1, .int (iI r1)), (0, .ref ht)]) hx hb dX6_nextSkill_4 rfl hl (by decide) rfl (fun ls hl => ?_)
  refine lv_iload_n hx hb dX6_nextSkill_5 rfl (lv_at hl 0 rfl) ?_
  refine lv_bipush (v := iI (97)) hx hb dX6_nextSkill_6 (by decide) ?_
  refine lv_bipush (v := iI (104)) hx hb dX6_nextSkill_8 (by decide) ?_
  refine Ct.callSN (As := [.int (iI r1), .int (iI 97), .int (iI 104)]) (rest := []) (wr := [(ht, .inr (6, [.int (iI tl), .ref tb, .int (iI tp2)])), (tb, aI (g.2.1 2) 100 ft)]) (c1 := 0) (s1 := 0) ⟨hx, hb, hml, hown, hts⟩ (c_X8_within l g r1 97 104 (by omega)) ⟨(va_cnB 3 hts gX6_nextSkill_X8_within_n63 rfl rfl rfl (hG.2.1.m 14 rfl) (hts _ (List.mem_of_getElem? (i := 10) rfl)) (by decide +kernel) ⟨Nat.le_of_ble_eq_true rfl, Nat.le_of_ble_eq_true rfl⟩), (hts _ (List.mem_of_getElem? (i := 9) rfl)), trivial⟩ hG hP hD hS hA [] [0, 1] rfl rfl (by decide) (by decide) (by decide) rfl hl.1 rfl (Nat.le_of_ble_eq_true rfl) dX6_nextSkill_10 ⟨Nat.le_of_ble_eq_true rfl, Nat.le_of_ble_eq_true rfl⟩ rfl rfl (fun v w H locs hv hP hD hS => ?_)
  obtain ⟨⟨rfl, hb5⟩ | ⟨rfl, hb5⟩, rfl⟩ := hv
  · show W p l e _ s m _ below meth c H locs 0 0 _ (F0 m 13 ls (.int (iI 1) :: []))
    have hb5 : 97 ≤ r1 ∧ r1 ≤ 104 := hb5
    have hP : va_P g.1 vwCl [(ht, .inr (6, [.int (iI tl), .ref tb, .int (iI tp2)])), (tb, aI (g.2.1 2) 100 ft)] H := hP
    have hD : va_D A [(ht, .inr (6, [.int (iI tl), .ref tb, .int (iI tp2)])), (tb, aI (g.2.1 2) 100 ft)] := hD
    refine iv_if_eq (tgt := 23) hx hb dX6_nextSkill_13 (by decide) (by decide) (fun h => absurd h (by decide)) (fun _ => ?_)
    refine lv_iload_n hx hb dX6_nextSkill_16 rfl (lv_at hl 0 rfl) ?_
    refine lv_bipush (v := iI (97)) hx hb dX6_nextSkill_17 (by decide) ?_
    refine iv_isub hx hb dX6_nextSkill_19 ?_
    refine lv_goto (tgt := 24) hx hb dX6_nextSkill_20 (by decide) ?_
    exact Ct.iret hx hb hr hlocks (hP.sub [0, 1] rfl) (hD.sub [0, 1] (by decide) rfl) hS ⟨by decide, by decide⟩ dX6_nextSkill_24 ⟨(r1 - 97), tp2, rfl, rfl, (by omega), (by first | (refine Or.inl ⟨?_, ?_⟩ <;> first | (unfold ltP; split at * <;> omega) | (unfold ltS; split at * <;> omega)) | (refine Or.inr ⟨fun z => ?_, rfl⟩; rw [if_pos z.1] at *; omega))⟩
  · show W p l e _ s m _ below meth c H locs 0 0 _ (F0 m 13 ls (.int (iI 0) :: []))
    have hb5 : ¬ (97 ≤ r1 ∧ r1 ≤ 104) := hb5
    have hP : va_P g.1 vwCl [(ht, .inr (6, [.int (iI tl), .ref tb, .int (iI tp2)])), (tb, aI (g.2.1 2) 100 ft)] H := hP
    have hD : va_D A [(ht, .inr (6, [.int (iI tl), .ref tb, .int (iI tp2)])), (tb, aI (g.2.1 2) 100 ft)] := hD
    refine iv_if_eq (tgt := 23) hx hb dX6_nextSkill_13 (by decide) (by decide) (fun _ => ?_) (fun h => absurd h (by decide))
    refine lv_iconst (v := iI (-1)) hx hb dX6_nextSkill_23 rfl ?_
    exact Ct.iret hx hb hr hlocks (hP.sub [0, 1] rfl) (hD.sub [0, 1] (by decide) rfl) hS ⟨by decide, by decide⟩ dX6_nextSkill_24 ⟨(-1), tp2, rfl, rfl, (by omega), (by first | (refine Or.inl ⟨?_, ?_⟩ <;> first | (unfold ltP; split at * <;> omega) | (unfold ltS; split at * <;> omega)) | (refine Or.inr ⟨fun z => ?_, rfl⟩; rw [if_pos z.1] at *; omega))⟩
