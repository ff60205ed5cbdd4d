theorem kX9_letter_9 : ∀ w ∈ u_ws RX9 TX9 37, w ∈ wsX9_letter := fun _ h => List.mem_cons_of_mem _ (List.mem_append_right _ h)
abbrev q_X9_letter (g : GT) (hm : Nat) (a : Nat → Nat) (i : Nat → Int) (ft : Nat → Int) (L : Nat) (q : Nat) (td : Int) : Option Value → va_W → Prop := fun v w => ∃ (r : Int), ∃ (i' : Nat → Int), v = some (.int (iI r)) ∧ w = [(hm, .inr (9, mF a i')), ((a 15), aI (g.2.1 0) 100 ft)] ∧ (∀ k, ¬ k = 17 → ¬ k = 18 → i' k = i k) ∧ ((i 18 = 1 ∧ i' 17 = i 17 ∧ i' 18 = 1 ∧ r = 0) ∨ (i 18 = 0 ∧ (ltP ft L q ∧ hsM (i 23) (ltS ft L q) = td) ∧ i' 17 = (sk ft L q : Int) + 1 ∧ i' 18 = 0 ∧ r = (ltS ft L q : Int)) ∨ (i 18 = 0 ∧ ¬ (ltP ft L q ∧ hsM (i 23) (ltS ft L q) = td) ∧ i' 17 = (sk ft L q : Int) ∧ i' 18 = 1 ∧ r = 0))
set_option maxHeartbeats 4000000 in
set_option maxRecDepth 100000 in
theorem c_X9_letter (l : Launch) (g : GT) (hm : Nat) (a : Nat → Nat) (i : Nat → Int) (ft : Nat → Int) (L : Nat) (q : Nat) (td : Int) (h1 : i 16 = (L : Int) ∧ L ≤ 100 ∧ i 17 = (q : Int) ∧ q ≤ L ∧ (i 18 = 0 ∨ i 18 = 1)) (hT : ∀ j, j < L → 32 ≤ ft j ∧ ft j ≤ 126) (h2 : (td = 0 ∨ td = 1) ∧ 0 ≤ i 23 ∧ i 23 < 256) : Ct l g yX9_letter wsX9_letter ({ frames := 1, cells := 0, slots := 0, locals := 25 } : Room) [.ref hm, .int (iI td)] [(hm, .inr (9, mF a i)), ((a 15), aI (g.2.1 0) 100 ft)] (q_X9_letter g hm a i ft L q td) := by
  refine Ct.intro (maxL := 3) (ret := (some .int)) (by decide) rfl (Nat.le_of_ble_eq_true rfl) ?_
  intro p e s m below meth c A ls hx hb hr hml hown hts hlocks hnm hA hG hP hD hS hl
  have hown : s.vm.findClass RX9 = some m.cls := hown
  have hl : lv_has ls 3 [(0, .ref hm), (1, .int (iI td))] := hl
  have hP : va_P g.1 vwCl [(hm, .inr (9, mF a i)), ((a 15), aI (g.2.1 0) 100 ft)] s.heap := hP
  have hS : va_S A s.heap s.heap [] := hS
  obtain ⟨H, hHe⟩ : ∃ H : Heap, H = s.heap := ⟨_, rfl⟩
  obtain ⟨locs, hLe⟩ : ∃ L : List Loc, L = [] := ⟨_, rfl⟩
  have hP : va_P g.1 vwCl [(hm, .inr (9, mF a i)), ((a 15), aI (g.2.1 0) 100 ft)] H := by rw [hHe]; exact hP
  have hS : va_S A s.heap H locs := by rw [hHe, hLe]; exact hS
  suffices hgo : W p l e ({ frames := 1, cells := 0, slots := 0, locals := 25 } : Room) s m [.ref hm, .int (iI td)].toArray below meth c H locs 0 0 (MQ below (CQ g (q_X9_letter g hm a i ft L q td) A) [.ref hm, .int (iI td)].toArray s ({ frames := 1, cells := 0, slots := 0, locals := 25 } : Room).cells ({ frames := 1, cells := 0, slots := 0, locals := 25 } : Room).slots A) (F0 m 0 ls []) by rw [hHe, hLe] at hgo; exact hgo
  clear hHe hLe
  refine lv_aload_n hx hb dX9_letter_0 rfl (lv_at hl 0 rfl) ?_
  refine va_get (D := g.1) (ci := 9) (v := .int (iI (i 18))) hx hb hts kX9_letter_9 hown hG.1 hP 0 rfl rfl 18 (by decide) (hts _ (List.mem_of_getElem? (i := 1) rfl)) (fun _ h9 => h9) rfl dX9_letter_1 ?_
  refine iv_if_eq (tgt := 11) hx hb dX9_letter_4 (by decide) (by omega) (fun hc1 => ?_) (fun hc1 => ?_)
  · refine lv_aload_n hx hb dX9_letter_11 rfl (lv_at hl 0 rfl) ?_
    refine Ct.callV (ci := 9) (q0 := 0) (qc := (RX9, TX9, 37)) (As := []) (rest := []) (wr := []) (c1 := 0) (s1 := 0) ⟨hx, hb, hml, hown, hts⟩ (c_X9_next l g hm a i ft L q (⟨by omega, by omega, by omega, by omega⟩) (hT)) rfl rfl (cwV 0 hts gX9_letter_X9_next rfl rfl rfl (by decide +kernel) ⟨Nat.le_of_ble_eq_true rfl, Nat.le_of_ble_eq_true rfl⟩) hG hP hD hS hA [0, 1] [] rfl rfl (by decide) (by decide) (by decide) rfl hl.1 rfl (Nat.le_of_ble_eq_true rfl) dX9_letter_12 ⟨Nat.le_of_ble_eq_true rfl, Nat.le_of_ble_eq_true rfl⟩ rfl rfl (fun v w H locs hv hP hD hS => ?_)
    obtain ⟨r2, i3, rfl, rfl, hf4, hf5, hf6⟩ := hv
    show W p l e _ s m _ below meth c H locs 0 0 _ (F0 m 15 ls (.int (iI r2) :: []))
    have hP : va_P g.1 vwCl [(hm, .inr (9, mF a i3)), ((a 15), aI (g.2.1 0) 100 ft)] H := hP
    have hD : va_D A [(hm, .inr (9, mF a i3)), ((a 15), aI (g.2.1 0) 100 ft)] := hD
    have hf5 : i3 17 = (sk ft L q : Int) := hf5
    have hf6 : r2 = (if sk ft L q < L then ft (sk ft L q) else 0) := hf6
    have hz0 := hf4
    have hz1 := hf5
    have hz2 := hf6
    have hsl := sk_le ft (L := L) (p := q) (by omega)
    have hz16 := hf4 16 (by decide)
    have hz18 := hf4 18 (by decide)
    have hbr : 0 ≤ r2 ∧ r2 ≤ 126 := (by rw [hz2]; split <;> first | omega | (have := hT (sk ft L q) (by omega); omega))
    have hz23 := hf4 23 (by decide)
    have hl8 : (0 ≤ r2 - 97 ∧ r2 - 97 ≤ 7) → ltP ft L q ∧ r2 - 97 = (ltS ft L q : Int) := fun z => (by by_cases w9 : sk ft L q < L; (rw [if_pos w9] at hz2; have h9 : ltP ft L q := ⟨w9, by omega, by omega⟩; exact ⟨h9, by rw [(ltS_lt h9).2]; omega⟩); (rw [if_neg w9] at hz2; exfalso; omega))
    have hl7 : ¬ (0 ≤ r2 - 97 ∧ r2 - 97 ≤ 7) → ¬ ltP ft L q := fun z w9 => z (by rw [if_pos w9.1] at hz2; omega)
    refine lv_bipush (v := iI (97)) hx hb dX9_letter_15 (by decide) ?_
    refine iv_isub hx hb dX9_letter_17 ?_
    refine lv_istore_n (lv' := [(2, .int (iI (r2 - 97))), (0, .ref hm), (1, .int (iI td))]) hx hb dX9_letter_18 rfl hl (by decide) rfl (fun ls hl => ?_)
    refine lv_aload_n hx hb dX9_letter_19 rfl (lv_at hl 1 rfl) ?_
    refine lv_aload_n hx hb dX9_letter_20 rfl (lv_at hl 1 rfl) ?_
    refine va_get (D := g.1) (ci := 9) (v := .int (iI (i3 18))) hx hb hts kX9_letter_9 hown hG.1 hP 0 rfl rfl 18 (by decide) (hts _ (List.mem_of_getElem? (i := 1) rfl)) (fun _ h9 => h9) rfl dX9_letter_21 ?_
    refine iv_if_ne (tgt := 60) hx hb dX9_letter_24 (by decide) (by omega) (fun hc7 => ?_) (fun hc7 => ?_)
    · refine lv_iconst (v := iI (1)) hx hb dX9_letter_60 rfl ?_
      refine lv_goto (tgt := 65) hx hb dX9_letter_61 (by decide) ?_
      refine va_put (D := g.1) (ci := 9) (v := .int (iI 1)) hx hb hts kX9_letter_9 tyX9 tyX9_ok nmX9 hown hG.1 hP hD hS 0 rfl rfl 18 (by decide) (hts _ (List.mem_of_getElem? (i := 1) rfl)) (fun _ h9 => h9) rfl (tyX9_ok 18 (by decide)) (by decide) (by decide) (Nat.le_of_ble_eq_true rfl) dX9_letter_65 (fun H locs hP hD hS => ?_)
      have hP : va_P g.1 vwCl [(hm, .inr (9, mF a (va_up i3 18 1))), ((a 15), aI (g.2.1 0) 100 ft)] H := hP
      have hD : va_D A [(hm, .inr (9, mF a (va_up i3 18 1))), ((a 15), aI (g.2.1 0) 100 ft)] := hD
      refine lv_aload_n hx hb dX9_letter_68 rfl (lv_at hl 1 rfl) ?_
      refine lv_dup hx hb dX9_letter_69 rfl ?_
      refine va_get (D := g.1) (ci := 9) (v := .int (iI (i3 17))) hx hb hts kX9_letter_9 hown hG.1 hP 0 rfl rfl 17 (by decide) (hts _ (List.mem_of_getElem? (i := 4) rfl)) (fun _ h9 => h9) rfl dX9_letter_70 ?_
      refine lv_aload_n hx hb dX9_letter_73 rfl (lv_at hl 1 rfl) ?_
      refine va_get (D := g.1) (ci := 9) (v := .int (iI 1)) hx hb hts kX9_letter_9 hown hG.1 hP 0 rfl rfl 18 (by decide) (hts _ (List.mem_of_getElem? (i := 1) rfl)) (fun _ h9 => h9) rfl dX9_letter_74 ?_
      refine iv_if_eq (tgt := 84) hx hb dX9_letter_77 (by decide) (by decide) (fun h => absurd h (by decide)) (fun _ => ?_)
      refine lv_iconst (v := iI (0)) hx hb dX9_letter_80 rfl ?_
      refine lv_goto (tgt := 85) hx hb dX9_letter_81 (by decide) ?_
      refine iv_iadd hx hb dX9_letter_85 ?_
      refine va_put (D := g.1) (ci := 9) (v := .int (iI ((i3 17) + 0))) hx hb hts kX9_letter_9 tyX9 tyX9_ok nmX9 hown hG.1 hP hD hS 0 rfl rfl 17 (by decide) (hts _ (List.mem_of_getElem? (i := 4) rfl)) (fun _ h9 => h9) rfl (tyX9_ok 17 (by decide)) rfl rfl (Nat.le_of_ble_eq_true rfl) dX9_letter_86 (fun H locs hP hD hS => ?_)
      have hP : va_P g.1 vwCl [(hm, .inr (9, mF a (va_up (va_up i3 17 ((i3 17) + 0)) 18 1))), ((a 15), aI (g.2.1 0) 100 ft)] H := hP
      have hD : va_D A [(hm, .inr (9, mF a (va_up (va_up i3 17 ((i3 17) + 0)) 18 1))), ((a 15), aI (g.2.1 0) 100 ft)] := hD
      refine lv_aload_n hx hb dX9_letter_89 rfl (lv_at hl 1 rfl) ?_
      refine va_get (D := g.1) (ci := 9) (v := .int (iI 1)) hx hb hts kX9_letter_9 hown hG.1 hP 0 rfl rfl 18 (by decide) (hts _ (List.mem_of_getElem? (i := 1) rfl)) (fun _ h9 => h9) rfl dX9_letter_90 ?_
      refine iv_if_eq (tgt := 100) hx hb dX9_letter_93 (by decide) (by decide) (fun h => absurd h (by decide)) (fun _ => ?_)
      refine lv_iconst (v := iI (0)) hx hb dX9_letter_96 rfl ?_
      refine lv_goto (tgt := 101) hx hb dX9_letter_97 (by decide) ?_
      exact Ct.iret hx hb hr hlocks (hP.sub [0, 1] rfl) (hD.sub [0, 1] (by decide) rfl) hS ⟨by decide, by decide⟩ dX9_letter_101 ⟨0, (va_up (va_up i3 17 ((i3 17) + 0)) 18 1), rfl, rfl, (fun k h17 h18 => by simp only [va_up, h17, h18, if_false] <;> first | rfl | exact hz0 k h17), (by first | (exfalso; omega) | exact Or.inl ⟨by omega, by simp only [va_up, if_true]; omega, rfl, rfl⟩ | (refine Or.inr (Or.inl ⟨by omega, ⟨hlp1, by omega⟩, ?_, rfl, (hl8 (by assumption)).2⟩); simp only [va_up, if_true]; omega) | (refine Or.inr (Or.inr ⟨by omega, fun z => by first | exact absurd z.1 (hl7 (by assumption)) | (have z2 := z.2; omega), ?_, rfl, rfl⟩); simp only [va_up, if_true]; omega))⟩
    · refine lv_iload_n hx hb dX9_letter_27 rfl (lv_at hl 0 rfl) ?_
      refine iv_i2l hx hb dX9_letter_28 (by omega) ?_
      refine lv_lconst (v := lI (0)) hx hb dX9_letter_29 (by decide) ?_
      refine iv_ldc2 (v := 7) (z := 7) hx hb hown (hts _ (List.mem_of_getElem? (i := 2) rfl)) dX9_letter_30 (by decide) ?_
      refine Ct.callS (As := [.long (lI (r2 - 97)), .long (lI 0), .long (lI 7)]) (rest := [.ref hm]) (wr := [(hm, .inr (9, mF a i3)), ((a 15), aI (g.2.1 0) 100 ft)]) (c1 := 0) (s1 := 0) ⟨hx, hb, hml, hown, hts⟩ (c_X9_in l g (r2 - 97) 0 7 (by omega)) (va_cwS 3 hts gX9_letter_X9_in rfl rfl rfl (by decide +kernel) ⟨Nat.le_of_ble_eq_true rfl, Nat.le_of_ble_eq_true rfl⟩) hG hP hD hS hA [] [0, 1] rfl rfl (by decide) (by decide) (by decide) rfl hl.1 rfl (Nat.le_of_ble_eq_true rfl) dX9_letter_33 ⟨Nat.le_of_ble_eq_true rfl, Nat.le_of_ble_eq_true rfl⟩ rfl rfl (fun v w H locs hv hP hD hS => ?_)
      obtain ⟨⟨rfl, hb10⟩ | ⟨rfl, hb10⟩, rfl⟩ := hv
      · show W p l e _ s m _ below meth c H locs 0 0 _ (F0 m 36 ls (.int (iI 1) :: [.ref hm]))
        have hb10 : 0 ≤ (r2 - 97) ∧ (r2 - 97) ≤ 7 := hb10
        have hP : va_P g.1 vwCl [(hm, .inr (9, mF a i3)), ((a 15), aI (g.2.1 0) 100 ft)] H := hP
        have hD : va_D A [(hm, .inr (9, mF a i3)), ((a 15), aI (g.2.1 0) 100 ft)] := hD
        refine iv_if_eq (tgt := 60) hx hb dX9_letter_36 (by decide) (by decide) (fun h => absurd h (by decide)) (fun _ => ?_)
        have hlp1 : ltP ft L q := (by first | exact (hl8 (by assumption)).1 | (exfalso; omega))
        have hls := ltS_lt hlp1
        have hq9 := sh_rng (ltS ft L q) (z := i 23) (by omega)
        have hqh := hsM_01 (rb := i 23) (ltS ft L q)
        refine lv_aload_n hx hb dX9_letter_39 rfl (lv_at hl 1 rfl) ?_
        refine va_get (D := g.1) (ci := 9) (v := .int (iI (i3 23))) hx hb hts kX9_letter_9 hown hG.1 hP 0 rfl rfl 23 (by decide) (hts _ (List.mem_of_getElem? (i := 3) rfl)) (fun _ h9 => h9) rfl dX9_letter_40 ?_
        refine lv_iload_n hx hb dX9_letter_43 rfl (lv_at hl 0 rfl) ?_
        refine iv_ishr hx hb dX9_letter_44 (by omega) ?_
        refine iv_as (i 23 / 2 ^ ltS ft L q) (by first | (exfalso; omega) | rw [hz23, (hl8 (by assumption)).2, Int.toNat_natCast]) ?_
        refine lv_iconst (v := iI (1)) hx hb dX9_letter_45 rfl ?_
        refine iv_and1 hx hb dX9_letter_46 (by omega) ?_
        refine iv_as ((hsM (i 23) (ltS ft L q))) (by unfold hsM; rfl) ?_
        refine lv_iconst (v := iI (1)) hx hb dX9_letter_47 rfl ?_
        refine iv_icmp_ne (tgt := 55) hx hb dX9_letter_48 (by decide) (by omega) (fun hc12 => ?_) (fun hc12 => ?_)
        · refine lv_iconst (v := iI (0)) hx hb dX9_letter_55 rfl ?_
          refine lv_iload_n hx hb dX9_letter_56 rfl (lv_at hl 2 rfl) ?_
          refine iv_icmp_eq (tgt := 64) hx hb dX9_letter_57 (by decide) (by omega) (fun hc13 => ?_) (fun hc13 => ?_)
          · refine lv_iconst (v := iI (0)) hx hb dX9_letter_64 rfl ?_
            refine va_put (D := g.1) (ci := 9) (v := .int (iI 0)) hx hb hts kX9_letter_9 tyX9 tyX9_ok nmX9 hown hG.1 hP hD hS 0 rfl rfl 18 (by decide) (hts _ (List.mem_of_getElem? (i := 1) rfl)) (fun _ h9 => h9) rfl (tyX9_ok 18 (by decide)) (by decide) (by decide) (Nat.le_of_ble_eq_true rfl) dX9_letter_65 (fun H locs hP hD hS => ?_)
            have hP : va_P g.1 vwCl [(hm, .inr (9, mF a (va_up i3 18 0))), ((a 15), aI (g.2.1 0) 100 ft)] H := hP
            have hD : va_D A [(hm, .inr (9, mF a (va_up i3 18 0))), ((a 15), aI (g.2.1 0) 100 ft)] := hD
            refine lv_aload_n hx hb dX9_letter_68 rfl (lv_at hl 1 rfl) ?_
            refine lv_dup hx hb dX9_letter_69 rfl ?_
            refine va_get (D := g.1) (ci := 9) (v := .int (iI (i3 17))) hx hb hts kX9_letter_9 hown hG.1 hP 0 rfl rfl 17 (by decide) (hts _ (List.mem_of_getElem? (i := 4) rfl)) (fun _ h9 => h9) rfl dX9_letter_70 ?_
            refine lv_aload_n hx hb dX9_letter_73 rfl (lv_at hl 1 rfl) ?_
            refine va_get (D := g.1) (ci := 9) (v := .int (iI 0)) hx hb hts kX9_letter_9 hown hG.1 hP 0 rfl rfl 18 (by decide) (hts _ (List.mem_of_getElem? (i := 1) rfl)) (fun _ h9 => h9) rfl dX9_letter_74 ?_
            refine iv_if_eq (tgt := 84) hx hb dX9_letter_77 (by decide) (by decide) (fun _ => ?_) (fun h => absurd h (by decide))
            refine lv_iconst (v := iI (1)) hx hb dX9_letter_84 rfl ?_
            refine iv_iadd hx hb dX9_letter_85 ?_
            refine va_put (D := g.1) (ci := 9) (v := .int (iI ((i3 17) + 1))) hx hb hts kX9_letter_9 tyX9 tyX9_ok nmX9 hown hG.1 hP hD hS 0 rfl rfl 17 (by decide) (hts _ (List.mem_of_getElem? (i := 4) rfl)) (fun _ h9 => h9) rfl (tyX9_ok 17 (by decide)) rfl rfl (Nat.le_of_ble_eq_true rfl) dX9_letter_86 (fun H locs hP hD hS => ?_)
            have hP : va_P g.1 vwCl [(hm, .inr (9, mF a (va_up (va_up i3 17 ((i3 17) + 1)) 18 0))), ((a 15), aI (g.2.1 0) 100 ft)] H := hP
            have hD : va_D A [(hm, .inr (9, mF a (va_up (va_up i3 17 ((i3 17) + 1)) 18 0))), ((a 15), aI (g.2.1 0) 100 ft)] := hD
            refine lv_aload_n hx hb dX9_letter_89 rfl (lv_at hl 1 rfl) ?_
            refine va_get (D := g.1) (ci := 9) (v := .int (iI 0)) hx hb hts kX9_letter_9 hown hG.1 hP 0 rfl rfl 18 (by decide) (hts _ (List.mem_of_getElem? (i := 1) rfl)) (fun _ h9 => h9) rfl dX9_letter_90 ?_
            refine iv_if_eq (tgt := 100) hx hb dX9_letter_93 (by decide) (by decide) (fun _ => ?_) (fun h => absurd h (by decide))
            refine lv_iload_n hx hb dX9_letter_100 rfl (lv_at hl 0 rfl) ?_
            exact Ct.iret hx hb hr hlocks (hP.sub [0, 1] rfl) (hD.sub [0, 1] (by decide) rfl) hS ⟨by decide, by decide⟩ dX9_letter_101 ⟨(r2 - 97), (va_up (va_up i3 17 ((i3 17) + 1)) 18 0), rfl, rfl, (fun k h17 h18 => by simp only [va_up, h17, h18, if_false] <;> first | rfl | exact hz0 k h17), (by first | (exfalso; omega) | exact Or.inl ⟨by omega, by simp only [va_up, if_true]; omega, rfl, rfl⟩ | (refine Or.inr (Or.inl ⟨by omega, ⟨hlp1, by omega⟩, ?_, rfl, (hl8 (by assumption)).2⟩); simp only [va_up, if_true]; omega) | (refine Or.inr (Or.inr ⟨by omega, fun z => by first | exact absurd z.1 (hl7 (by assumption)) | (have z2 := z.2; omega), ?_, rfl, rfl⟩); simp only [va_up, if_true]; omega))⟩
          · refine lv_iconst (v := iI (1)) hx hb dX9_letter_60 rfl ?_
            refine lv_goto (tgt := 65) hx hb dX9_letter_61 (by decide) ?_
            refine va_put (D := g.1) (ci := 9) (v := .int (iI 1)) hx hb hts kX9_letter_9 tyX9 tyX9_ok nmX9 hown hG.1 hP hD hS 0 rfl rfl 18 (by decide) (hts _ (List.mem_of_getElem? (i := 1) rfl)) (fun _ h9 => h9) rfl (tyX9_ok 18 (by decide)) (by decide) (by decide) (Nat.le_of_ble_eq_true rfl) dX9_letter_65 (fun H locs hP hD hS => ?_)
            have hP : va_P g.1 vwCl [(hm, .inr (9, mF a (va_up i3 18 1))), ((a 15), aI (g.2.1 0) 100 ft)] H := hP
            have hD : va_D A [(hm, .inr (9, mF a (va_up i3 18 1))), ((a 15), aI (g.2.1 0) 100 ft)] := hD
            refine lv_aload_n hx hb dX9_letter_68 rfl (lv_at hl 1 rfl) ?_
            refine lv_dup hx hb dX9_letter_69 rfl ?_
            refine va_get (D := g.1) (ci := 9) (v := .int (iI (i3 17))) hx hb hts kX9_letter_9 hown hG.1 hP 0 rfl rfl 17 (by decide) (hts _ (List.mem_of_getElem? (i := 4) rfl)) (fun _ h9 => h9) rfl dX9_letter_70 ?_
            refine lv_aload_n hx hb dX9_letter_73 rfl (lv_at hl 1 rfl) ?_
            refine va_get (D := g.1) (ci := 9) (v := .int (iI 1)) hx hb hts kX9_letter_9 hown hG.1 hP 0 rfl rfl 18 (by decide) (hts _ (List.mem_of_getElem? (i := 1) rfl)) (fun _ h9 => h9) rfl dX9_letter_74 ?_
            refine iv_if_eq (tgt := 84) hx hb dX9_letter_77 (by decide) (by decide) (fun h => absurd h (by decide)) (fun _ => ?_)
            refine lv_iconst (v := iI (0)) hx hb dX9_letter_80 rfl ?_
            refine lv_goto (tgt := 85) hx hb dX9_letter_81 (by decide) ?_
            refine iv_iadd hx hb dX9_letter_85 ?_
            refine va_put (D := g.1) (ci := 9) (v := .int (iI ((i3 17) + 0))) hx hb hts kX9_letter_9 tyX9 tyX9_ok nmX9 hown hG.1 hP hD hS 0 rfl rfl 17 (by decide) (hts _ (List.mem_of_getElem? (i := 4) rfl)) (fun _ h9 => h9) rfl (tyX9_ok 17 (by decide)) rfl rfl (Nat.le_of_ble_eq_true rfl) dX9_letter_86 (fun H locs hP hD hS => ?_)
            have hP : va_P g.1 vwCl [(hm, .inr (9, mF a (va_up (va_up i3 17 ((i3 17) + 0)) 18 1))), ((a 15), aI (g.2.1 0) 100 ft)] H := hP
            have hD : va_D A [(hm, .inr (9, mF a (va_up (va_up i3 17 ((i3 17) + 0)) 18 1))), ((a 15), aI (g.2.1 0) 100 ft)] := hD
            refine lv_aload_n hx hb dX9_letter_89 rfl (lv_at hl 1 rfl) ?_
            refine va_get (D := g.1) (ci := 9) (v := .int (iI 1)) hx hb hts kX9_letter_9 hown hG.1 hP 0 rfl rfl 18 (by decide) (hts _ (List.mem_of_getElem? (i := 1) rfl)) (fun _ h9 => h9) rfl dX9_letter_90 ?_
            refine iv_if_eq (tgt := 100) hx hb dX9_letter_93 (by decide) (by decide) (fun h => absurd h (by decide)) (fun _ => ?_)
            refine lv_iconst (v := iI (0)) hx hb dX9_letter_96 rfl ?_
            refine lv_goto (tgt := 101) hx hb dX9_letter_97 (by decide) ?_
            exact Ct.iret hx hb hr hlocks (hP.sub [0, 1] rfl) (hD.sub [0, 1] (by decide) rfl) hS ⟨by decide, by decide⟩ dX9_letter_101 ⟨0, (va_up (va_up i3 17 ((i3 17) + 0)) 18 1), rfl, rfl, (fun k h17 h18 => by simp only [va_up, h17, h18, if_false] <;> first | rfl | exact hz0 k h17), (by first | (exfalso; omega) | exact Or.inl ⟨by omega, by simp only [va_up, if_true]; omega, rfl, rfl⟩ | (refine Or.inr (Or.inl ⟨by omega, ⟨hlp1, by omega⟩, ?_, rfl, (hl8 (by assumption)).2⟩); simp only [va_up, if_true]; omega) | (refine Or.inr (Or.inr ⟨by omega, fun z => by first | exact absurd z.1 (hl7 (by assumption)) | (have z2 := z.2; omega), ?_, rfl, rfl⟩); simp only [va_up, if_true]; omega))⟩
        · refine lv_iconst (v := iI (1)) hx hb dX9_letter_51 rfl ?_
          refine lv_goto (tgt := 56) hx hb dX9_letter_52 (by decide) ?_
          refine lv_iload_n hx hb dX9_letter_56 rfl (lv_at hl 2 rfl) ?_
          refine iv_icmp_eq (tgt := 64) hx hb dX9_letter_57 (by decide) (by omega) (fun hc18 => ?_) (fun hc18 => ?_)
          · refine lv_iconst (v := iI (0)) hx hb dX9_letter_64 rfl ?_
            refine va_put (D := g.1) (ci := 9) (v := .int (iI 0)) hx hb hts kX9_letter_9 tyX9 tyX9_ok nmX9 hown hG.1 hP hD hS 0 rfl rfl 18 (by decide) (hts _ (List.mem_of_getElem? (i := 1) rfl)) (fun _ h9 => h9) rfl (tyX9_ok 18 (by decide)) (by decide) (by decide) (Nat.le_of_ble_eq_true rfl) dX9_letter_65 (fun H locs hP hD hS => ?_)
            have hP : va_P g.1 vwCl [(hm, .inr (9, mF a (va_up i3 18 0))), ((a 15), aI (g.2.1 0) 100 ft)] H := hP
            have hD : va_D A [(hm, .inr (9, mF a (va_up i3 18 0))), ((a 15), aI (g.2.1 0) 100 ft)] := hD
            refine lv_aload_n hx hb dX9_letter_68 rfl (lv_at hl 1 rfl) ?_
            refine lv_dup hx hb dX9_letter_69 rfl ?_
            refine va_get (D := g.1) (ci := 9) (v := .int (iI (i3 17))) hx hb hts kX9_letter_9 hown hG.1 hP 0 rfl rfl 17 (by decide) (hts _ (List.mem_of_getElem? (i := 4) rfl)) (fun _ h9 => h9) rfl dX9_letter_70 ?_
            refine lv_aload_n hx hb dX9_letter_73 rfl (lv_at hl 1 rfl) ?_
            refine va_get (D := g.1) (ci := 9) (v := .int (iI 0)) hx hb hts kX9_letter_9 hown hG.1 hP 0 rfl rfl 18 (by decide) (hts _ (List.mem_of_getElem? (i := 1) rfl)) (fun _ h9 => h9) rfl dX9_letter_74 ?_
            refine iv_if_eq (tgt := 84) hx hb dX9_letter_77 (by decide) (by decide) (fun _ => ?_) (fun h => absurd h (by decide))
            refine lv_iconst (v := iI (1)) hx hb dX9_letter_84 rfl ?_
            refine iv_iadd hx hb dX9_letter_85 ?_
            refine va_put (D := g.1) (ci := 9) (v := .int (iI ((i3 17) + 1))) hx hb hts kX9_letter_9 tyX9 tyX9_ok nmX9 hown hG.1 hP hD hS 0 rfl rfl 17 (by decide) (hts _ (List.mem_of_getElem? (i := 4) rfl)) (fun _ h9 => h9) rfl (tyX9_ok 17 (by decide)) rfl rfl (Nat.le_of_ble_eq_true rfl) dX9_letter_86 (fun H locs hP hD hS => ?_)
            have hP : va_P g.1 vwCl [(hm, .inr (9, mF a (va_up (va_up i3 17 ((i3 17) + 1)) 18 0))), ((a 15), aI (g.2.1 0) 100 ft)] H := hP
            have hD : va_D A [(hm, .inr (9, mF a (va_up (va_up i3 17 ((i3 17) + 1)) 18 0))), ((a 15), aI (g.2.1 0) 100 ft)] := hD
            refine lv_aload_n hx hb dX9_letter_89 rfl (lv_at hl 1 rfl) ?_
            refine va_get (D := g.1) (ci := 9) (v := .int (iI 0)) hx hb hts kX9_letter_9 hown hG.1 hP 0 rfl rfl 18 (by decide) (hts _ (List.mem_of_getElem? (i := 1) rfl)) (fun _ h9 => h9) rfl dX9_letter_90 ?_
            refine iv_if_eq (tgt := 100) hx hb dX9_letter_93 (by decide) (by decide) (fun _ => ?_) (fun h => absurd h (by decide))
            refine lv_iload_n hx hb dX9_letter_100 rfl (lv_at hl 0 rfl) ?_
            exact Ct.iret hx hb hr hlocks (hP.sub [0, 1] rfl) (hD.sub [0, 1] (by decide) rfl) hS ⟨by decide, by decide⟩ dX9_letter_101 ⟨(r2 - 97), (va_up (va_up i3 17 ((i3 17) + 1)) 18 0), rfl, rfl, (fun k h17 h18 => by simp only [va_up, h17, h18, if_false] <;> first | rfl | exact hz0 k h17), (by first | (exfalso; omega) | exact Or.inl ⟨by omega, by simp only [va_up, if_true]; omega, rfl, rfl⟩ | (refine Or.inr (Or.inl ⟨by omega, ⟨hlp1, by omega⟩, ?_, rfl, (hl8 (by assumption)).2⟩); simp only [va_up, if_true]; omega) | (refine Or.inr (Or.inr ⟨by omega, fun z => by first | exact absurd z.1 (hl7 (by assumption)) | (have z2 := z.2; omega), ?_, rfl, rfl⟩); simp only [va_up, if_true]; omega))⟩
          · refine lv_iconst (v := iI (1)) hx hb dX9_letter_60 rfl ?_
            refine lv_goto (tgt := 65) hx hb dX9_letter_61 (by decide) ?_
            refine va_put (D := g.1) (ci := 9) (v := .int (iI 1)) hx hb hts kX9_letter_9 tyX9 tyX9_ok nmX9 hown hG.1 hP hD hS 0 rfl rfl 18 (by decide) (hts _ (List.mem_of_getElem? (i := 1) rfl)) (fun _ h9 => h9) rfl (tyX9_ok 18 (by decide)) (by decide) (by decide) (Nat.le_of_ble_eq_true rfl) dX9_letter_65 (fun H locs hP hD hS => ?_)
            have hP : va_P g.1 vwCl [(hm, .inr (9, mF a (va_up i3 18 1))), ((a 15), aI (g.2.1 0) 100 ft)] H := hP
            have hD : va_D A [(hm, .inr (9, mF a (va_up i3 18 1))), ((a 15), aI (g.2.1 0) 100 ft)] := hD
            refine lv_aload_n hx hb dX9_letter_68 rfl (lv_at hl 1 rfl) ?_
            refine lv_dup hx hb dX9_letter_69 rfl ?_
            refine va_get (D := g.1) (ci := 9) (v := .int (iI (i3 17))) hx hb hts kX9_letter_9 hown hG.1 hP 0 rfl rfl 17 (by decide) (hts _ (List.mem_of_getElem? (i := 4) rfl)) (fun _ h9 => h9) rfl dX9_letter_70 ?_
            refine lv_aload_n hx hb dX9_letter_73 rfl (lv_at hl 1 rfl) ?_
            refine va_get (D := g.1) (ci := 9) (v := .int (iI 1)) hx hb hts kX9_letter_9 hown hG.1 hP 0 rfl rfl 18 (by decide) (hts _ (List.mem_of_getElem? (i := 1) rfl)) (fun _ h9 => h9) rfl dX9_letter_74 ?_
            refine iv_if_eq (tgt := 84) hx hb dX9_letter_77 (by decide) (by decide) (fun h => absurd h (by decide)) (fun _ => ?_)
            refine lv_iconst (v := iI (0)) hx hb dX9_letter_80 rfl ?_
            refine lv_goto (tgt := 85) hx hb dX9_letter_81 (by decide) ?_
            refine iv_iadd hx hb dX9_letter_85 ?_
            refine va_put (D := g.1) (ci := 9) (v := .int (iI ((i3 17) + 0))) hx hb hts kX9_letter_9 tyX9 tyX9_ok nmX9 hown hG.1 hP hD hS 0 rfl rfl 17 (by decide) (hts _ (List.mem_of_getElem? (i := 4) rfl)) (fun _ h9 => h9) rfl (tyX9_ok 17 (by decide)) rfl rfl (Nat.le_of_ble_eq_true rfl) dX9_letter_86 (fun H locs hP hD hS => ?_)
            have hP : va_P g.1 vwCl [(hm, .inr (9, mF a (va_up (va_up i3 17 ((i3 17) + 0)) 18 1))), ((a 15), aI (g.2.1 0) 100 ft)] H := hP
            have hD : va_D A [(hm, .inr (9, mF a (va_up (va_up i3 17 ((i3 17) + 0)) 18 1))), ((a 15), aI (g.2.1 0) 100 ft)] := hD
            refine lv_aload_n hx hb dX9_letter_89 rfl (lv_at hl 1 rfl) ?_
            refine va_get (D := g.1) (ci := 9) (v := .int (iI 1)) hx hb hts kX9_letter_9 hown hG.1 hP 0 rfl rfl 18 (by decide) (hts _ (List.mem_of_getElem? (i := 1) rfl)) (fun _ h9 => h9) rfl dX9_letter_90 ?_
            refine iv_if_eq (tgt := 100) hx hb dX9_letter_93 (by decide) (by decide) (fun h => absurd h (by decide)) (fun _ => ?_)
            refine lv_iconst (v := iI (0)) hx hb dX9_letter_96 rfl ?_
            refine lv_goto (tgt := 101) hx hb dX9_letter_97 (by decide) ?_
            exact Ct.iret hx hb hr hlocks (hP.sub [0, 1] rfl) (hD.sub [0, 1] (by decide) rfl) hS ⟨by decide, by decide⟩ dX9_letter_101 ⟨0, (va_up (va_up i3 17 ((i3 17) + 0)) 18 1), rfl, rfl, (fun k h17 h18 => by simp only [va_up, h17, h18, if_false] <;> first | rfl | exact hz0 k h17), (by first | (exfalso; omega) | exact Or.inl ⟨by omega, by simp only [va_up, if_true]; omega, rfl, rfl⟩ | (refine Or.inr (Or.inl ⟨by omega, ⟨hlp1, by omega⟩, ?_, rfl, (hl8 (by assumption)).2⟩); simp only [va_up, if_true]; omega) | (refine Or.inr (Or.inr ⟨by omega, fun z => by first | exact absurd z.1 (hl7 (by assumption)) | (have z2 := z.2; omega), ?_, rfl, rfl⟩); simp only [va_up, if_true]; omega))⟩
      · show W p l e _ s m _ below meth c H locs 0 0 _ (F0 m 36 ls (.int (iI 0) :: [.ref hm]))
        have hb10 : ¬ (0 ≤ (r2 - 97) ∧ (r2 - 97) ≤ 7) := hb10
        have hP : va_P g.1 vwCl [(hm, .inr (9, mF a i3)), ((a 15), aI (g.2.1 0) 100 ft)] H := hP
        have hD : va_D A [(hm, .inr (9, mF a i3)), ((a 15), aI (g.2.1 0) 100 ft)] := hD
        refine iv_if_eq (tgt := 60) hx hb dX9_letter_36 (by decide) (by decide) (fun _ => ?_) (fun h => absurd h (by decide))
        refine lv_iconst (v := iI (1)) hx hb dX9_letter_60 rfl ?_
        refine lv_goto (tgt := 65) hx hb dX9_letter_61 (by decide) ?_
        refine va_put (D := g.1) (ci := 9) (v := .int (iI 1)) hx hb hts kX9_letter_9 tyX9 tyX9_ok nmX9 hown hG.1 hP hD hS 0 rfl rfl 18 (by decide) (hts _ (List.mem_of_getElem? (i := 1) rfl)) (fun _ h9 => h9) rfl (tyX9_ok 18 (by decide)) (by decide) (by decide) (Nat.le_of_ble_eq_true rfl) dX9_letter_65 (fun H locs hP hD hS => ?_)
        have hP : va_P g.1 vwCl [(hm, .inr (9, mF a (va_up i3 18 1))), ((a 15), aI (g.2.1 0) 100 ft)] H := hP
        have hD : va_D A [(hm, .inr (9, mF a (va_up i3 18 1))), ((a 15), aI (g.2.1 0) 100 ft)] := hD
        refine lv_aload_n hx hb dX9_letter_68 rfl (lv_at hl 1 rfl) ?_
        refine lv_dup hx hb dX9_letter_69 rfl ?_
        refine va_get (D := g.1) (ci := 9) (v := .int (iI (i3 17))) hx hb hts kX9_letter_9 hown hG.1 hP 0 rfl rfl 17 (by decide) (hts _ (List.mem_of_getElem? (i := 4) rfl)) (fun _ h9 => h9) rfl dX9_letter_70 ?_
        refine lv_aload_n hx hb dX9_letter_73 rfl (lv_at hl 1 rfl) ?_
        refine va_get (D := g.1) (ci := 9) (v := .int (iI 1)) hx hb hts kX9_letter_9 hown hG.1 hP 0 rfl rfl 18 (by decide) (hts _ (List.mem_of_getElem? (i := 1) rfl)) (fun _ h9 => h9) rfl dX9_letter_74 ?_
        refine iv_if_eq (tgt := 84) hx hb dX9_letter_77 (by decide) (by decide) (fun h => absurd h (by decide)) (fun _ => ?_)
        refine lv_iconst (v := iI (0)) hx hb dX9_letter_80 rfl ?_
        refine lv_goto (tgt := 85) hx hb dX9_letter_81 (by decide) ?_
        refine iv_iadd hx hb dX9_letter_85 ?_
        refine va_put (D := g.1) (ci := 9) (v := .int (iI ((i3 17) + 0))) hx hb hts kX9_letter_9 tyX9 tyX9_ok nmX9 hown hG.1 hP hD hS 0 rfl rfl 17 (by decide) (hts _ (List.mem_of_getElem? (i := 4) rfl)) (fun _ h9 => h9) rfl (tyX9_ok 17 (by decide)) rfl rfl (Nat.le_of_ble_eq_true rfl) dX9_letter_86 (fun H locs hP hD hS => ?_)
        have hP : va_P g.1 vwCl [(hm, .inr (9, mF a (va_up (va_up i3 17 ((i3 17) + 0)) 18 1))), ((a 15), aI (g.2.1 0) 100 ft)] H := hP
        have hD : va_D A [(hm, .inr (9, mF a (va_up (va_up i3 17 ((i3 17) + 0)) 18 1))), ((a 15), aI (g.2.1 0) 100 ft)] := hD
        refine lv_aload_n hx hb dX9_letter_89 rfl (lv_at hl 1 rfl) ?_
        refine va_get (D := g.1) (ci := 9) (v := .int (iI 1)) hx hb hts kX9_letter_9 hown hG.1 hP 0 rfl rfl 18 (by decide) (hts _ (List.mem_of_getElem? (i := 1) rfl)) (fun _ h9 => h9) rfl dX9_letter_90 ?_
        refine iv_if_eq (tgt := 100) hx hb dX9_letter_93 (by decide) (by decide) (fun h => absurd h (by decide)) (fun _ => ?_)
        refine lv_iconst (v := iI (0)) hx hb dX9_letter_96 rfl ?_
        refine lv_goto (tgt := 101) hx hb dX9_letter_97 (by decide) ?_
        exact Ct.iret hx hb hr hlocks (hP.sub [0, 1] rfl) (hD.sub [0, 1] (by decide) rfl) hS ⟨by decide, by decide⟩ dX9_letter_101 ⟨0, (va_up (va_up i3 17 ((i3 17) + 0)) 18 1), rfl, rfl, (fun k h17 h18 => by simp only [va_up, h17, h18, if_false] <;> first | rfl | exact hz0 k h17), (by first | (exfalso; omega) | exact Or.inl ⟨by omega, by simp only [va_up, if_true]; omega, rfl, rfl⟩ | (refine Or.inr (Or.inl ⟨by omega, ⟨hlp1, by omega⟩, ?_, rfl, (hl8 (by assumption)).2⟩); simp only [va_up, if_true]; omega) | (refine Or.inr (Or.inr ⟨by omega, fun z => by first | exact absurd z.1 (hl7 (by assumption)) | (have z2 := z.2; omega), ?_, rfl, rfl⟩); simp only [va_up, if_true]; omega))⟩
  · refine lv_iconst (v := iI (-1)) hx hb dX9_letter_7 rfl ?_
    refine lv_goto (tgt := 18) hx hb dX9_letter_8 (by decide) ?_
    refine lv_istore_n (lv' := [(2, .int (iI (-1))), (0, .ref hm), (1, .int (iI td))]) hx hb dX9_letter_18 rfl hl (by decide) rfl (fun ls hl => ?_)
    refine lv_aload_n hx hb dX9_letter_19 rfl (lv_at hl 1 rfl) ?_
    refine lv_aload_n hx hb dX9_letter_20 rfl (lv_at hl 1 rfl) ?_
    refine va_get (D := g.1) (ci := 9) (v := .int (iI (i 18))) hx hb hts kX9_letter_9 hown hG.1 hP 0 rfl rfl 18 (by decide) (hts _ (List.mem_of_getElem? (i := 1) rfl)) (fun _ h9 => h9) rfl dX9_letter_21 ?_
    refine iv_if_ne (tgt := 60) hx hb dX9_letter_24 (by decide) (by omega) (fun hc26 => ?_) (fun hc26 => ?_)
    · refine lv_iconst (v := iI (1)) hx hb dX9_letter_60 rfl ?_
      refine lv_goto (tgt := 65) hx hb dX9_letter_61 (by decide) ?_
      refine va_put (D := g.1) (ci := 9) (v := .int (iI 1)) hx hb hts kX9_letter_9 tyX9 tyX9_ok nmX9 hown hG.1 hP hD hS 0 rfl rfl 18 (by decide) (hts _ (List.mem_of_getElem? (i := 1) rfl)) (fun _ h9 => h9) rfl (tyX9_ok 18 (by decide)) (by decide) (by decide) (Nat.le_of_ble_eq_true rfl) dX9_letter_65 (fun H locs hP hD hS => ?_)
      have hP : va_P g.1 vwCl [(hm, .inr (9, mF a (va_up i 18 1))), ((a 15), aI (g.2.1 0) 100 ft)] H := hP
      have hD : va_D A [(hm, .inr (9, mF a (va_up i 18 1))), ((a 15), aI (g.2.1 0) 100 ft)] := hD
      refine lv_aload_n hx hb dX9_letter_68 rfl (lv_at hl 1 rfl) ?_
      refine lv_dup hx hb dX9_letter_69 rfl ?_
      refine va_get (D := g.1) (ci := 9) (v := .int (iI (i 17))) hx hb hts kX9_letter_9 hown hG.1 hP 0 rfl rfl 17 (by decide) (hts _ (List.mem_of_getElem? (i := 4) rfl)) (fun _ h9 => h9) rfl dX9_letter_70 ?_
      refine lv_aload_n hx hb dX9_letter_73 rfl (lv_at hl 1 rfl) ?_
      refine va_get (D := g.1) (ci := 9) (v := .int (iI 1)) hx hb hts kX9_letter_9 hown hG.1 hP 0 rfl rfl 18 (by decide) (hts _ (List.mem_of_getElem? (i := 1) rfl)) (fun _ h9 => h9) rfl dX9_letter_74 ?_
      refine iv_if_eq (tgt := 84) hx hb dX9_letter_77 (by decide) (by decide) (fun h => absurd h (by decide)) (fun _ => ?_)
      refine lv_iconst (v := iI (0)) hx hb dX9_letter_80 rfl ?_
      refine lv_goto (tgt := 85) hx hb dX9_letter_81 (by decide) ?_
      refine iv_iadd hx hb dX9_letter_85 ?_
      refine va_put (D := g.1) (ci := 9) (v := .int (iI ((i 17) + 0))) hx hb hts kX9_letter_9 tyX9 tyX9_ok nmX9 hown hG.1 hP hD hS 0 rfl rfl 17 (by decide) (hts _ (List.mem_of_getElem? (i := 4) rfl)) (fun _ h9 => h9) rfl (tyX9_ok 17 (by decide)) rfl rfl (Nat.le_of_ble_eq_true rfl) dX9_letter_86 (fun H locs hP hD hS => ?_)
      have hP : va_P g.1 vwCl [(hm, .inr (9, mF a (va_up (va_up i 17 ((i 17) + 0)) 18 1))), ((a 15), aI (g.2.1 0) 100 ft)] H := hP
      have hD : va_D A [(hm, .inr (9, mF a (va_up (va_up i 17 ((i 17) + 0)) 18 1))), ((a 15), aI (g.2.1 0) 100 ft)] := hD
      refine lv_aload_n hx hb dX9_letter_89 rfl (lv_at hl 1 rfl) ?_
      refine va_get (D := g.1) (ci := 9) (v := .int (iI 1)) hx hb hts kX9_letter_9 hown hG.1 hP 0 rfl rfl 18 (by decide) (hts _ (List.mem_of_getElem? (i := 1) rfl)) (fun _ h9 => h9) rfl dX9_letter_90 ?_
      refine iv_if_eq (tgt := 100) hx hb dX9_letter_93 (by decide) (by decide) (fun h => absurd h (by decide)) (fun _ => ?_)
      refine lv_iconst (v := iI (0)) hx hb dX9_letter_96 rfl ?_
      refine lv_goto (tgt := 101) hx hb dX9_letter_97 (by decide) ?_
      exact Ct.iret hx hb hr hlocks (hP.sub [0, 1] rfl) (hD.sub [0, 1] (by decide) rfl) hS ⟨by decide, by decide⟩ dX9_letter_101 ⟨0, (va_up (va_up i 17 ((i 17) + 0)) 18 1), rfl, rfl, (fun k h17 h18 => by simp only [va_up, h17, h18, if_false] <;> first | rfl | exact hz0 k h17), (by first | (exfalso; omega) | exact Or.inl ⟨by omega, by simp only [va_up, if_true]; omega, rfl, rfl⟩ | (refine Or.inr (Or.inl ⟨by omega, ⟨hlp1, by omega⟩, ?_, rfl, (hl8 (by assumption)).2⟩); simp only [va_up, if_true]; omega) | (refine Or.inr (Or.inr ⟨by omega, fun z => by first | exact absurd z.1 (hl7 (by assumption)) | (have z2 := z.2; omega), ?_, rfl, rfl⟩); simp only [va_up, if_true]; omega))⟩
    · refine lv_iload_n hx hb dX9_letter_27 rfl (lv_at hl 0 rfl) ?_
      refine iv_i2l hx hb dX9_letter_28 (by omega) ?_
      refine lv_lconst (v := lI (0)) hx hb dX9_letter_29 (by decide) ?_
      refine iv_ldc2 (v := 7) (z := 7) hx hb hown (hts _ (List.mem_of_getElem? (i := 2) rfl)) dX9_letter_30 (by decide) ?_
      refine Ct.callS (As := [.long (lI (-1)), .long (lI 0), .long (lI 7)]) (rest := [.ref hm]) (wr := [(hm, .inr (9, mF a i)), ((a 15), aI (g.2.1 0) 100 ft)]) (c1 := 0) (s1 := 0) ⟨hx, hb, hml, hown, hts⟩ (c_X9_in l g (-1) 0 7 (by omega)) (va_cwS 3 hts gX9_letter_X9_in rfl rfl rfl (by decide +kernel) ⟨Nat.le_of_ble_eq_true rfl, Nat.le_of_ble_eq_true rfl⟩) hG hP hD hS hA [] [0, 1] rfl rfl (by decide) (by decide) (by decide) rfl hl.1 rfl (Nat.le_of_ble_eq_true rfl) dX9_letter_33 ⟨Nat.le_of_ble_eq_true rfl, Nat.le_of_ble_eq_true rfl⟩ rfl rfl (fun v w H locs hv hP hD hS => ?_)
      obtain ⟨⟨rfl, hb29⟩ | ⟨rfl, hb29⟩, rfl⟩ := hv
      · show W p l e _ s m _ below meth c H locs 0 0 _ (F0 m 36 ls (.int (iI 1) :: [.ref hm]))
        have hb29 : 0 ≤ (-1) ∧ (-1) ≤ 7 := hb29
        have hP : va_P g.1 vwCl [(hm, .inr (9, mF a i)), ((a 15), aI (g.2.1 0) 100 ft)] H := hP
        have hD : va_D A [(hm, .inr (9, mF a i)), ((a 15), aI (g.2.1 0) 100 ft)] := hD
        refine iv_if_eq (tgt := 60) hx hb dX9_letter_36 (by decide) (by decide) (fun h => absurd h (by decide)) (fun _ => ?_)
        have hlp1 : ltP ft L q := (by first | exact (hl8 (by assumption)).1 | (exfalso; omega))
        have hls := ltS_lt hlp1
        have hq9 := sh_rng (ltS ft L q) (z := i 23) (by omega)
        have hqh := hsM_01 (rb := i 23) (ltS ft L q)
        refine lv_aload_n hx hb dX9_letter_39 rfl (lv_at hl 1 rfl) ?_
        refine va_get (D := g.1) (ci := 9) (v := .int (iI (i 23))) hx hb hts kX9_letter_9 hown hG.1 hP 0 rfl rfl 23 (by decide) (hts _ (List.mem_of_getElem? (i := 3) rfl)) (fun _ h9 => h9) rfl dX9_letter_40 ?_
        refine lv_iload_n hx hb dX9_letter_43 rfl (lv_at hl 0 rfl) ?_
        refine iv_ishr hx hb dX9_letter_44 (by omega) ?_
        refine iv_as (i 23 / 2 ^ ltS ft L q) (by first | (exfalso; omega) | rw [hz23, (hl8 (by assumption)).2, Int.toNat_natCast]) ?_
        refine lv_iconst (v := iI (1)) hx hb dX9_letter_45 rfl ?_
        refine iv_and1 hx hb dX9_letter_46 (by omega) ?_
        refine iv_as ((hsM (i 23) (ltS ft L q))) (by unfold hsM; rfl) ?_
        refine lv_iconst (v := iI (1)) hx hb dX9_letter_47 rfl ?_
        refine iv_icmp_ne (tgt := 55) hx hb dX9_letter_48 (by decide) (by omega) (fun hc31 => ?_) (fun hc31 => ?_)
        · refine lv_iconst (v := iI (0)) hx hb dX9_letter_55 rfl ?_
          refine lv_iload_n hx hb dX9_letter_56 rfl (lv_at hl 2 rfl) ?_
          refine iv_icmp_eq (tgt := 64) hx hb dX9_letter_57 (by decide) (by omega) (fun hc32 => ?_) (fun hc32 => ?_)
          · refine lv_iconst (v := iI (0)) hx hb dX9_letter_64 rfl ?_
            refine va_put (D := g.1) (ci := 9) (v := .int (iI 0)) hx hb hts kX9_letter_9 tyX9 tyX9_ok nmX9 hown hG.1 hP hD hS 0 rfl rfl 18 (by decide) (hts _ (List.mem_of_getElem? (i := 1) rfl)) (fun _ h9 => h9) rfl (tyX9_ok 18 (by decide)) (by decide) (by decide) (Nat.le_of_ble_eq_true rfl) dX9_letter_65 (fun H locs hP hD hS => ?_)
            have hP : va_P g.1 vwCl [(hm, .inr (9, mF a (va_up i 18 0))), ((a 15), aI (g.2.1 0) 100 ft)] H := hP
            have hD : va_D A [(hm, .inr (9, mF a (va_up i 18 0))), ((a 15), aI (g.2.1 0) 100 ft)] := hD
            refine lv_aload_n hx hb dX9_letter_68 rfl (lv_at hl 1 rfl) ?_
            refine lv_dup hx hb dX9_letter_69 rfl ?_
            refine va_get (D := g.1) (ci := 9) (v := .int (iI (i 17))) hx hb hts kX9_letter_9 hown hG.1 hP 0 rfl rfl 17 (by decide) (hts _ (List.mem_of_getElem? (i := 4) rfl)) (fun _ h9 => h9) rfl dX9_letter_70 ?_
            refine lv_aload_n hx hb dX9_letter_73 rfl (lv_at hl 1 rfl) ?_
            refine va_get (D := g.1) (ci := 9) (v := .int (iI 0)) hx hb hts kX9_letter_9 hown hG.1 hP 0 rfl rfl 18 (by decide) (hts _ (List.mem_of_getElem? (i := 1) rfl)) (fun _ h9 => h9) rfl dX9_letter_74 ?_
            refine iv_if_eq (tgt := 84) hx hb dX9_letter_77 (by decide) (by decide) (fun _ => ?_) (fun h => absurd h (by decide))
            refine lv_iconst (v := iI (1)) hx hb dX9_letter_84 rfl ?_
            refine iv_iadd hx hb dX9_letter_85 ?_
            refine va_put (D := g.1) (ci := 9) (v := .int (iI ((i 17) + 1))) hx hb hts kX9_letter_9 tyX9 tyX9_ok nmX9 hown hG.1 hP hD hS 0 rfl rfl 17 (by decide) (hts _ (List.mem_of_getElem? (i := 4) rfl)) (fun _ h9 => h9) rfl (tyX9_ok 17 (by decide)) rfl rfl (Nat.le_of_ble_eq_true rfl) dX9_letter_86 (fun H locs hP hD hS => ?_)
            have hP : va_P g.1 vwCl [(hm, .inr (9, mF a (va_up (va_up i 17 ((i 17) + 1)) 18 0))), ((a 15), aI (g.2.1 0) 100 ft)] H := hP
            have hD : va_D A [(hm, .inr (9, mF a (va_up (va_up i 17 ((i 17) + 1)) 18 0))), ((a 15), aI (g.2.1 0) 100 ft)] := hD
            refine lv_aload_n hx hb dX9_letter_89 rfl (lv_at hl 1 rfl) ?_
            refine va_get (D := g.1) (ci := 9) (v := .int (iI 0)) hx hb hts kX9_letter_9 hown hG.1 hP 0 rfl rfl 18 (by decide) (hts _ (List.mem_of_getElem? (i := 1) rfl)) (fun _ h9 => h9) rfl dX9_letter_90 ?_
            refine iv_if_eq (tgt := 100) hx hb dX9_letter_93 (by decide) (by decide) (fun _ => ?_) (fun h => absurd h (by decide))
            refine lv_iload_n hx hb dX9_letter_100 rfl (lv_at hl 0 rfl) ?_
            exact Ct.iret hx hb hr hlocks (hP.sub [0, 1] rfl) (hD.sub [0, 1] (by decide) rfl) hS ⟨by decide, by decide⟩ dX9_letter_101 ⟨(-1), (va_up (va_up i 17 ((i 17) + 1)) 18 0), rfl, rfl, (fun k h17 h18 => by simp only [va_up, h17, h18, if_false] <;> first | rfl | exact hz0 k h17), (by first | (exfalso; omega) | exact Or.inl ⟨by omega, by simp only [va_up, if_true]; omega, rfl, rfl⟩ | (refine Or.inr (Or.inl ⟨by omega, ⟨hlp1, by omega⟩, ?_, rfl, (hl8 (by assumption)).2⟩); simp only [va_up, if_true]; omega) | (refine Or.inr (Or.inr ⟨by omega, fun z => by first | exact absurd z.1 (hl7 (by assumption)) | (have z2 := z.2; omega), ?_, rfl, rfl⟩); simp only [va_up, if_true]; omega))⟩
          · refine lv_iconst (v := iI (1)) hx hb dX9_letter_60 rfl ?_
            refine lv_goto (tgt := 65) hx hb dX9_letter_61 (by decide) ?_
            refine va_put (D := g.1) (ci := 9) (v := .int (iI 1)) hx hb hts kX9_letter_9 tyX9 tyX9_ok nmX9 hown hG.1 hP hD hS 0 rfl rfl 18 (by decide) (hts _ (List.mem_of_getElem? (i := 1) rfl)) (fun _ h9 => h9) rfl (tyX9_ok 18 (by decide)) (by decide) (by decide) (Nat.le_of_ble_eq_true rfl) dX9_letter_65 (fun H locs hP hD hS => ?_)
            have hP : va_P g.1 vwCl [(hm, .inr (9, mF a (va_up i 18 1))), ((a 15), aI (g.2.1 0) 100 ft)] H := hP
            have hD : va_D A [(hm, .inr (9, mF a (va_up i 18 1))), ((a 15), aI (g.2.1 0) 100 ft)] := hD
            refine lv_aload_n hx hb dX9_letter_68 rfl (lv_at hl 1 rfl) ?_
            refine lv_dup hx hb dX9_letter_69 rfl ?_
            refine va_get (D := g.1) (ci := 9) (v := .int (iI (i 17))) hx hb hts kX9_letter_9 hown hG.1 hP 0 rfl rfl 17 (by decide) (hts _ (List.mem_of_getElem? (i := 4) rfl)) (fun _ h9 => h9) rfl dX9_letter_70 ?_
            refine lv_aload_n hx hb dX9_letter_73 rfl (lv_at hl 1 rfl) ?_
            refine va_get (D := g.1) (ci := 9) (v := .int (iI 1)) hx hb hts kX9_letter_9 hown hG.1 hP 0 rfl rfl 18 (by decide) (hts _ (List.mem_of_getElem? (i := 1) rfl)) (fun _ h9 => h9) rfl dX9_letter_74 ?_
            refine iv_if_eq (tgt := 84) hx hb dX9_letter_77 (by decide) (by decide) (fun h => absurd h (by decide)) (fun _ => ?_)
            refine lv_iconst (v := iI (0)) hx hb dX9_letter_80 rfl ?_
            refine lv_goto (tgt := 85) hx hb dX9_letter_81 (by decide) ?_
            refine iv_iadd hx hb dX9_letter_85 ?_
            refine va_put (D := g.1) (ci := 9) (v := .int (iI ((i 17) + 0))) hx hb hts kX9_letter_9 tyX9 tyX9_ok nmX9 hown hG.1 hP hD hS 0 rfl rfl 17 (by decide) (hts _ (List.mem_of_getElem? (i := 4) rfl)) (fun _ h9 => h9) rfl (tyX9_ok 17 (by decide)) rfl rfl (Nat.le_of_ble_eq_true rfl) dX9_letter_86 (fun H locs hP hD hS => ?_)
            have hP : va_P g.1 vwCl [(hm, .inr (9, mF a (va_up (va_up i 17 ((i 17) + 0)) 18 1))), ((a 15), aI (g.2.1 0) 100 ft)] H := hP
            have hD : va_D A [(hm, .inr (9, mF a (va_up (va_up i 17 ((i 17) + 0)) 18 1))), ((a 15), aI (g.2.1 0) 100 ft)] := hD
            refine lv_aload_n hx hb dX9_letter_89 rfl (lv_at hl 1 rfl) ?_
            refine va_get (D := g.1) (ci := 9) (v := .int (iI 1)) hx hb hts kX9_letter_9 hown hG.1 hP 0 rfl rfl 18 (by decide) (hts _ (List.mem_of_getElem? (i := 1) rfl)) (fun _ h9 => h9) rfl dX9_letter_90 ?_
            refine iv_if_eq (tgt := 100) hx hb dX9_letter_93 (by decide) (by decide) (fun h => absurd h (by decide)) (fun _ => ?_)
            refine lv_iconst (v := iI (0)) hx hb dX9_letter_96 rfl ?_
            refine lv_goto (tgt := 101) hx hb dX9_letter_97 (by decide) ?_
            exact Ct.iret hx hb hr hlocks (hP.sub [0, 1] rfl) (hD.sub [0, 1] (by decide) rfl) hS ⟨by decide, by decide⟩ dX9_letter_101 ⟨0, (va_up (va_up i 17 ((i 17) + 0)) 18 1), rfl, rfl, (fun k h17 h18 => by simp only [va_up, h17, h18, if_false] <;> first | rfl | exact hz0 k h17), (by first | (exfalso; omega) | exact Or.inl ⟨by omega, by simp only [va_up, if_true]; omega, rfl, rfl⟩ | (refine Or.inr (Or.inl ⟨by omega, ⟨hlp1, by omega⟩, ?_, rfl, (hl8 (by assumption)).2⟩); simp only [va_up, if_true]; omega) | (refine Or.inr (Or.inr ⟨by omega, fun z => by first | exact absurd z.1 (hl7 (by assumption)) | (have z2 := z.2; omega), ?_, rfl, rfl⟩); simp only [va_up, if_true]; omega))⟩
        · refine lv_iconst (v := iI (1)) hx hb dX9_letter_51 rfl ?_
          refine lv_goto (tgt := 56) hx hb dX9_letter_52 (by decide) ?_
          refine lv_iload_n hx hb dX9_letter_56 rfl (lv_at hl 2 rfl) ?_
          refine iv_icmp_eq (tgt := 64) hx hb dX9_letter_57 (by decide) (by omega) (fun hc37 => ?_) (fun hc37 => ?_)
          · refine lv_iconst (v := iI (0)) hx hb dX9_letter_64 rfl ?_
            refine va_put (D := g.1) (ci := 9) (v := .int (iI 0)) hx hb hts kX9_letter_9 tyX9 tyX9_ok nmX9 hown hG.1 hP hD hS 0 rfl rfl 18 (by decide) (hts _ (List.mem_of_getElem? (i := 1) rfl)) (fun _ h9 => h9) rfl (tyX9_ok 18 (by decide)) (by decide) (by decide) (Nat.le_of_ble_eq_true rfl) dX9_letter_65 (fun H locs hP hD hS => ?_)
            have hP : va_P g.1 vwCl [(hm, .inr (9, mF a (va_up i 18 0))), ((a 15), aI (g.2.1 0) 100 ft)] H := hP
            have hD : va_D A [(hm, .inr (9, mF a (va_up i 18 0))), ((a 15), aI (g.2.1 0) 100 ft)] := hD
            refine lv_aload_n hx hb dX9_letter_68 rfl (lv_at hl 1 rfl) ?_
            refine lv_dup hx hb dX9_letter_69 rfl ?_
            refine va_get (D := g.1) (ci := 9) (v := .int (iI (i 17))) hx hb hts kX9_letter_9 hown hG.1 hP 0 rfl rfl 17 (by decide) (hts _ (List.mem_of_getElem? (i := 4) rfl)) (fun _ h9 => h9) rfl dX9_letter_70 ?_
            refine lv_aload_n hx hb dX9_letter_73 rfl (lv_at hl 1 rfl) ?_
            refine va_get (D := g.1) (ci := 9) (v := .int (iI 0)) hx hb hts kX9_letter_9 hown hG.1 hP 0 rfl rfl 18 (by decide) (hts _ (List.mem_of_getElem? (i := 1) rfl)) (fun _ h9 => h9) rfl dX9_letter_74 ?_
            refine iv_if_eq (tgt := 84) hx hb dX9_letter_77 (by decide) (by decide) (fun _ => ?_) (fun h => absurd h (by decide))
            refine lv_iconst (v := iI (1)) hx hb dX9_letter_84 rfl ?_
            refine iv_iadd hx hb dX9_letter_85 ?_
            refine va_put (D := g.1) (ci := 9) (v := .int (iI ((i 17) + 1))) hx hb hts kX9_letter_9 tyX9 tyX9_ok nmX9 hown hG.1 hP hD hS 0 rfl rfl 17 (by decide) (hts _ (List.mem_of_getElem? (i := 4) rfl)) (fun _ h9 => h9) rfl (tyX9_ok 17 (by decide)) rfl rfl (Nat.le_of_ble_eq_true rfl) dX9_letter_86 (fun H locs hP hD hS => ?_)
            have hP : va_P g.1 vwCl [(hm, .inr (9, mF a (va_up (va_up i 17 ((i 17) + 1)) 18 0))), ((a 15), aI (g.2.1 0) 100 ft)] H := hP
            have hD : va_D A [(hm, .inr (9, mF a (va_up (va_up i 17 ((i 17) + 1)) 18 0))), ((a 15), aI (g.2.1 0) 100 ft)] := hD
            refine lv_aload_n hx hb dX9_letter_89 rfl (lv_at hl 1 rfl) ?_
            refine va_get (D := g.1) (ci := 9) (v := .int (iI 0)) hx hb hts kX9_letter_9 hown hG.1 hP 0 rfl rfl 18 (by decide) (hts _ (List.mem_of_getElem? (i := 1) rfl)) (fun _ h9 => h9) rfl dX9_letter_90 ?_
            refine iv_if_eq (tgt := 100) hx hb dX9_letter_93 (by decide) (by decide) (fun _ => ?_) (fun h => absurd h (by decide))
            refine lv_iload_n hx hb dX9_letter_100 rfl (lv_at hl 0 rfl) ?_
            exact Ct.iret hx hb hr hlocks (hP.sub [0, 1] rfl) (hD.sub [0, 1] (by decide) rfl) hS ⟨by decide, by decide⟩ dX9_letter_101 ⟨(-1), (va_up (va_up i 17 ((i 17) + 1)) 18 0), rfl, rfl, (fun k h17 h18 => by simp only [va_up, h17, h18, if_false] <;> first | rfl | exact hz0 k h17), (by first | (exfalso; omega) | exact Or.inl ⟨by omega, by simp only [va_up, if_true]; omega, rfl, rfl⟩ | (refine Or.inr (Or.inl ⟨by omega, ⟨hlp1, by omega⟩, ?_, rfl, (hl8 (by assumption)).2⟩); simp only [va_up, if_true]; omega) | (refine Or.inr (Or.inr ⟨by omega, fun z => by first | exact absurd z.1 (hl7 (by assumption)) | (have z2 := z.2; omega), ?_, rfl, rfl⟩); simp only [va_up, if_true]; omega))⟩
          · refine lv_iconst (v := iI (1)) hx hb dX9_letter_60 rfl ?_
            refine lv_goto (tgt := 65) hx hb dX9_letter_61 (by decide) ?_
            refine va_put (D := g.1) (ci := 9) (v := .int (iI 1)) hx hb hts kX9_letter_9 tyX9 tyX9_ok nmX9 hown hG.1 hP hD hS 0 rfl rfl 18 (by decide) (hts _ (List.mem_of_getElem? (i := 1) rfl)) (fun _ h9 => h9) rfl (tyX9_ok 18 (by decide)) (by decide) (by decide) (Nat.le_of_ble_eq_true rfl) dX9_letter_65 (fun H locs hP hD hS => ?_)
            have hP : va_P g.1 vwCl [(hm, .inr (9, mF a (va_up i 18 1))), ((a 15), aI (g.2.1 0) 100 ft)] H := hP
            have hD : va_D A [(hm, .inr (9, mF a (va_up i 18 1))), ((a 15), aI (g.2.1 0) 100 ft)] := hD
            refine lv_aload_n hx hb dX9_letter_68 rfl (lv_at hl 1 rfl) ?_
            refine lv_dup hx hb dX9_letter_69 rfl ?_
            refine va_get (D := g.1) (ci := 9) (v := .int (iI (i 17))) hx hb hts kX9_letter_9 hown hG.1 hP 0 rfl rfl 17 (by decide) (hts _ (List.mem_of_getElem? (i := 4) rfl)) (fun _ h9 => h9) rfl dX9_letter_70 ?_
            refine lv_aload_n hx hb dX9_letter_73 rfl (lv_at hl 1 rfl) ?_
            refine va_get (D := g.1) (ci := 9) (v := .int (iI 1)) hx hb hts kX9_letter_9 hown hG.1 hP 0 rfl rfl 18 (by decide) (hts _ (List.mem_of_getElem? (i := 1) rfl)) (fun _ h9 => h9) rfl dX9_letter_74 ?_
            refine iv_if_eq (tgt := 84) hx hb dX9_letter_77 (by decide) (by decide) (fun h => absurd h (by decide)) (fun _ => ?_)
            refine lv_iconst (v := iI (0)) hx hb dX9_letter_80 rfl ?_
            refine lv_goto (tgt := 85) hx hb dX9_letter_81 (by decide) ?_
            refine iv_iadd hx hb dX9_letter_85 ?_
            refine va_put (D := g.1) (ci := 9) (v := .int (iI ((i 17) + 0))) hx hb hts kX9_letter_9 tyX9 tyX9_ok nmX9 hown hG.1 hP hD hS 0 rfl rfl 17 (by decide) (hts _ (List.mem_of_getElem? (i := 4) rfl)) (fun _ h9 => h9) rfl (tyX9_ok 17 (by decide)) rfl rfl (Nat.le_of_ble_eq_true rfl) dX9_letter_86 (fun H locs hP hD hS => ?_)
            have hP : va_P g.1 vwCl [(hm, .inr (9, mF a (va_up (va_up i 17 ((i 17) + 0)) 18 1))), ((a 15), aI (g.2.1 0) 100 ft)] H := hP
            have hD : va_D A [(hm, .inr (9, mF a (va_up (va_up i 17 ((i 17) + 0)) 18 1))), ((a 15), aI (g.2.1 0) 100 ft)] := hD
            refine lv_aload_n hx hb dX9_letter_89 rfl (lv_at hl 1 rfl) ?_
            refine va_get (D := g.1) (ci := 9) (v := .int (iI 1)) hx hb hts kX9_letter_9 hown hG.1 hP 0 rfl rfl 18 (by decide) (hts _ (List.mem_of_getElem? (i := 1) rfl)) (fun _ h9 => h9) rfl dX9_letter_90 ?_
            refine iv_if_eq (tgt := 100) hx hb dX9_letter_93 (by decide) (by decide) (fun h => absurd h (by decide)) (fun _ => ?_)
            refine lv_iconst (v := iI (0)) hx hb dX9_letter_96 rfl ?_
            refine lv_goto (tgt := 101) hx hb dX9_letter_97 (by decide) ?_
            exact Ct.iret hx hb hr hlocks (hP.sub [0, 1] rfl) (hD.sub [0, 1] (by decide) rfl) hS ⟨by decide, by decide⟩ dX9_letter_101 ⟨0, (va_up (va_up i 17 ((i 17) + 0)) 18 1), rfl, rfl, (fun k h17 h18 => by simp only [va_up, h17, h18, if_false] <;> first | rfl | exact hz0 k h17), (by first | (exfalso; omega) | exact Or.inl ⟨by omega, by simp only [va_up, if_true]; omega, rfl, rfl⟩ | (refine Or.inr (Or.inl ⟨by omega, ⟨hlp1, by omega⟩, ?_, rfl, (hl8 (by assumption)).2⟩); simp only [va_up, if_true]; omega) | (refine Or.inr (Or.inr ⟨by omega, fun z => by first | exact absurd z.1 (hl7 (by assumption)) | (have z2 := z.2; omega), ?_, rfl, rfl⟩); simp only [va_up, if_true]; omega))⟩
      · show W p l e _ s m _ below meth c H locs 0 0 _ (F0 m 36 ls (.int (iI 0) :: [.ref hm]))
        have hb29 : ¬ (0 ≤ (-1) ∧ (-1) ≤ 7) := hb29
        have hP : va_P g.1 vwCl [(hm, .inr (9, mF a i)), ((a 15), aI (g.2.1 0) 100 ft)] H := hP
        have hD : va_D A [(hm, .inr (9, mF a i)), ((a 15), aI (g.2.1 0) 100 ft)] := hD
        refine iv_if_eq (tgt := 60) hx hb dX9_letter_36 (by decide) (by decide) (fun _ => ?_) (fun h => absurd h (by decide))
        refine lv_iconst (v := iI (1)) hx hb dX9_letter_60 rfl ?_
        refine lv_goto (tgt := 65) hx hb dX9_letter_61 (by decide) ?_
        refine va_put (D := g.1) (ci := 9) (v := .int (iI 1)) hx hb hts kX9_letter_9 tyX9 tyX9_ok nmX9 hown hG.1 hP hD hS 0 rfl rfl 18 (by decide) (hts _ (List.mem_of_getElem? (i := 1) rfl)) (fun _ h9 => h9) rfl (tyX9_ok 18 (by decide)) (by decide) (by decide) (Nat.le_of_ble_eq_true rfl) dX9_letter_65 (fun H locs hP hD hS => ?_)
        have hP : va_P g.1 vwCl [(hm, .inr (9, mF a (va_up i 18 1))), ((a 15), aI (g.2.1 0) 100 ft)] H := hP
        have hD : va_D A [(hm, .inr (9, mF a (va_up i 18 1))), ((a 15), aI (g.2.1 0) 100 ft)] := hD
        refine lv_aload_n hx hb dX9_letter_68 rfl (lv_at hl 1 rfl) ?_
        refine lv_dup hx hb dX9_letter_69 rfl ?_
        refine va_get (D := g.1) (ci := 9) (v := .int (iI (i 17))) hx hb hts kX9_letter_9 hown hG.1 hP 0 rfl rfl 17 (by decide) (hts _ (List.mem_of_getElem? (i := 4) rfl)) (fun _ h9 => h9) rfl dX9_letter_70 ?_
        refine lv_aload_n hx hb dX9_letter_73 rfl (lv_at hl 1 rfl) ?_
        refine va_get (D := g.1) (ci := 9) (v := .int (iI 1)) hx hb hts kX9_letter_9 hown hG.1 hP 0 rfl rfl 18 (by decide) (hts _ (List.mem_of_getElem? (i := 1) rfl)) (fun _ h9 => h9) rfl dX9_letter_74 ?_
        refine iv_if_eq (tgt := 84) hx hb dX9_letter_77 (by decide) (by decide) (fun h => absurd h (by decide)) (fun _ => ?_)
        refine lv_iconst (v := iI (0)) hx hb dX9_letter_80 rfl ?_
        refine lv_goto (tgt := 85) hx hb dX9_letter_81 (by decide) ?_
        refine iv_iadd hx hb dX9_letter_85 ?_
        refine va_put (D := g.1) (ci := 9) (v := .int (iI ((i 17) + 0))) hx hb hts kX9_letter_9 tyX9 tyX9_ok nmX9 hown hG.1 hP hD hS 0 rfl rfl 17 (by decide) (hts _ (List.mem_of_getElem? (i := 4) rfl)) (fun _ h9 => h9) rfl (tyX9_ok 17 (by decide)) rfl rfl (Nat.le_of_ble_eq_true rfl) dX9_letter_86 (fun H locs hP hD hS => ?_)
        have hP : va_P g.1 vwCl [(hm, .inr (9, mF a (va_up (va_up i 17 ((i 17) + 0)) 18 1))), ((a 15), aI (g.2.1 0) 100 ft)] H := hP
        have hD : va_D A [(hm, .inr (9, mF a (va_up (va_up i 17 ((i 17) + 0)) 18 1))), ((a 15), aI (g.2.1 0) 100 ft)] := hD
        refine lv_aload_n hx hb dX9_letter_89 rfl (lv_at hl 1 rfl) ?_
        refine va_get (D := g.1) (ci := 9) (v := .int (iI 1)) hx hb hts kX9_letter_9 hown hG.1 hP 0 rfl rfl 18 (by decide) (hts _ (List.mem_of_getElem? (i := 1) rfl)) (fun _ h9 => h9) rfl dX9_letter_90 ?_
        refine iv_if_eq (tgt := 100) hx hb dX9_letter_93 (by decide) (by decide) (fun h => absurd h (by decide)) (fun _ => ?_)
        refine lv_iconst (v := iI (0)) hx hb dX9_letter_96 rfl ?_
        refine lv_goto (tgt := 101) hx hb dX9_letter_97 (by decide) ?_
        exact Ct.iret hx hb hr hlocks (hP.sub [0, 1] rfl) (hD.sub [0, 1] (by decide) rfl) hS ⟨by decide, by decide⟩ dX9_letter_101 ⟨0, (va_up (va_up i 17 ((i 17) + 0)) 18 1), rfl, rfl, (fun k h17 h18 => by simp only [va_up, h17, h18, if_false] <;> first | rfl | exact hz0 k h17), (by first | (exfalso; omega) | exact Or.inl ⟨by omega, by simp only [va_up, if_true]; omega, rfl, rfl⟩ | (refine Or.inr (Or.inl ⟨by omega, ⟨hlp1, by omega⟩, ?_, rfl, (hl8 (by assumption)).2⟩); simp only [va_up, if_true]; omega) | (refine Or.inr (Or.inr ⟨by omega, fun z => by first | exact absurd z.1 (hl7 (by assumption)) | (have z2 := z.2; omega), ?_, rfl, rfl⟩); simp only [va_up, if_true]; omega))⟩
