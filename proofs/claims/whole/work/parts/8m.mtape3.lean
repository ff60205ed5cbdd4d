theorem kX9_number_9 : ∀ w ∈ u_ws RX9 TX9 37, w ∈ wsX9_number := fun _ h => List.mem_cons_of_mem _ (List.mem_append_right _ h)
abbrev q_X9_number (g : GT) (hm : Nat) (a : Nat → Nat) (i : Nat → Int) (ft : Nat → Int) (L : Nat) (q : Nat) (lo : Int) (hi_ : Int) : Option Value → va_W → Prop := fun v w => ∃ (r : Int), ∃ (i' : Nat → Int), v = some (.int (iI r)) ∧ w = [(hm, .inr (9, mF a i')), ((a 15), aI (g.2.1 0) 100 ft)] ∧ (∀ k, ¬ k = 17 → ¬ k = 18 → i' k = i k) ∧ ((i 18 = 1 ∧ i' 17 = i 17 ∧ i' 18 = 1) ∨ (i 18 = 0 ∧ nuP ft L lo hi_ q ∧ i' 17 = (nuE ft L q : Int) ∧ i' 18 = 0 ∧ r = nuV ft L q) ∨ (i 18 = 0 ∧ ¬ nuP ft L lo hi_ q ∧ i' 17 = (sk ft L q : Int) ∧ i' 18 = 1)) ∧ (0 ≤ r ∧ r ≤ 100000)
set_option maxHeartbeats 4000000 in
set_option maxRecDepth 100000 in
theorem c_X9_number (l : Launch) (g : GT) (hm : Nat) (a : Nat → Nat) (i : Nat → Int) (ft : Nat → Int) (L : Nat) (q : Nat) (lo : Int) (hi_ : Int) (h1 : i 16 = (L : Int) ∧ L ≤ 100 ∧ i 17 = (q : Int) ∧ q ≤ L ∧ (i 18 = 0 ∨ i 18 = 1)) (hT : ∀ j, j < L → 32 ≤ ft j ∧ ft j ≤ 126) (h2 : 0 ≤ lo ∧ lo ≤ hi_ ∧ hi_ ≤ 99) : Ct l g yX9_number wsX9_number ({ frames := 1, cells := 0, slots := 0, locals := 25 } : Room) [.ref hm, .int (iI lo), .int (iI hi_)] [(hm, .inr (9, mF a i)), ((a 15), aI (g.2.1 0) 100 ft)] (q_X9_number g hm a i ft L q lo hi_) := by
  refine Ct.intro (maxL := 5) (ret := (some .int)) (by decide) rfl (Nat.le_of_ble_eq_true rfl) ?_
  intro p e s m below meth c A ls hx hb hr hml hown hts hlocks hnm hA hG hP hD hS hl
  have hown : s.vm.findClass RX9 = some m.cls := hown
  have hl : lv_has ls 5 [(0, .ref hm), (1, .int (iI lo)), (2, .int (iI hi_))] := hl
  have hP : va_P g.1 vwCl [(hm, .inr (9, mF a i)), ((a 15), aI (g.2.1 0) 100 ft)] s.heap := hP
  have hS : va_S A s.heap s.heap [] := hS
  obtain ⟨H, hHe⟩ : ∃ H : Heap, H = s.heap := ⟨_, rfl⟩
  obtain ⟨locs, hLe⟩ : ∃ L : List Loc, L = [] := ⟨_, rfl⟩
  have hP : va_P g.1 vwCl [(hm, .inr (9, mF a i)), ((a 15), aI (g.2.1 0) 100 ft)] H := by rw [hHe]; exact hP
  have hS : va_S A s.heap H locs := by rw [hHe, hLe]; exact hS
  suffices hgo : W p l e ({ frames := 1, cells := 0, slots := 0, locals := 25 } : Room) s m [.ref hm, .int (iI lo), .int (iI hi_)].toArray below meth c H locs 0 0 (MQ below (CQ g (q_X9_number g hm a i ft L q lo hi_) A) [.ref hm, .int (iI lo), .int (iI hi_)].toArray s ({ frames := 1, cells := 0, slots := 0, locals := 25 } : Room).cells ({ frames := 1, cells := 0, slots := 0, locals := 25 } : Room).slots A) (F0 m 0 ls []) by rw [hHe, hLe] at hgo; exact hgo
  clear hHe hLe
  refine lv_aload_n hx hb dX9_number_0 rfl (lv_at hl 0 rfl) ?_
  refine va_get (D := g.1) (ci := 9) (v := .int (iI (i 18))) hx hb hts kX9_number_9 hown hG.1 hP 0 rfl rfl 18 (by decide) (hts _ (List.mem_of_getElem? (i := 1) rfl)) (fun _ h9 => h9) rfl dX9_number_1 ?_
  refine iv_if_ne (tgt := 24) hx hb dX9_number_4 (by decide) (by omega) (fun hc1 => ?_) (fun hc1 => ?_)
  · have hnp : i 18 = 1 ∨ ¬ nuP ft L lo hi_ q := (by first | exact Or.inl (by omega) | (refine Or.inr (fun z => ?_); have z1 := z.1; rw [if_pos z1.1] at hz2; omega))
    refine lv_aload_n hx hb dX9_number_24 rfl (lv_at hl 0 rfl) ?_
    refine lv_iconst (v := iI (1)) hx hb dX9_number_25 rfl ?_
    refine va_put (D := g.1) (ci := 9) (v := .int (iI 1)) hx hb hts kX9_number_9 tyX9 tyX9_ok nmX9 hown hG.1 hP hD hS 0 rfl rfl 18 (by decide) (hts _ (List.mem_of_getElem? (i := 1) rfl)) (fun _ h9 => h9) rfl (tyX9_ok 18 (by decide)) (by decide) (by decide) (Nat.le_of_ble_eq_true rfl) dX9_number_26 (fun H locs hP hD hS => ?_)
    have hP : va_P g.1 vwCl [(hm, .inr (9, mF a (va_up i 18 1))), ((a 15), aI (g.2.1 0) 100 ft)] H := hP
    have hD : va_D A [(hm, .inr (9, mF a (va_up i 18 1))), ((a 15), aI (g.2.1 0) 100 ft)] := hD
    refine lv_iconst (v := iI (0)) hx hb dX9_number_29 rfl ?_
    exact Ct.iret hx hb hr hlocks (hP.sub [0, 1] rfl) (hD.sub [0, 1] (by decide) rfl) hS ⟨by decide, by decide⟩ dX9_number_30 ⟨0, (va_up i 18 1), rfl, rfl, (fun k h17 h18 => by simp only [va_up, h17, h18, if_false] <;> first | rfl | exact hz0 k h17), (by first | exact Or.inl ⟨by omega, rfl, rfl⟩ | (refine Or.inr (Or.inr ⟨by omega, hnp.resolve_left (by omega), ?_, rfl⟩); show _ = _; exact hz1)), (by omega)⟩
  · refine lv_aload_n hx hb dX9_number_7 rfl (lv_at hl 0 rfl) ?_
    refine Ct.callV (ci := 9) (q0 := 0) (qc := (RX9, TX9, 37)) (As := []) (rest := []) (wr := []) (c1 := 0) (s1 := 0) ⟨hx, hb, hml, hown, hts⟩ (c_X9_next l g hm a i ft L q (⟨by omega, by omega, by omega, by omega⟩) (hT)) rfl rfl (cwV 0 hts gX9_number_X9_next rfl rfl rfl (by decide +kernel) ⟨Nat.le_of_ble_eq_true rfl, Nat.le_of_ble_eq_true rfl⟩) hG hP hD hS hA [0, 1] [] rfl rfl (by decide) (by decide) (by decide) rfl hl.1 rfl (Nat.le_of_ble_eq_true rfl) dX9_number_8 ⟨Nat.le_of_ble_eq_true rfl, Nat.le_of_ble_eq_true rfl⟩ rfl rfl (fun v w H locs hv hP hD hS => ?_)
    obtain ⟨r2, i3, rfl, rfl, hf4, hf5, hf6⟩ := hv
    show W p l e _ s m _ below meth c H locs 0 0 _ (F0 m 11 ls (.int (iI r2) :: []))
    have hP : va_P g.1 vwCl [(hm, .inr (9, mF a i3)), ((a 15), aI (g.2.1 0) 100 ft)] H := hP
    have hD : va_D A [(hm, .inr (9, mF a i3)), ((a 15), aI (g.2.1 0) 100 ft)] := hD
    have hf5 : i3 17 = (sk ft L q : Int) := hf5
    have hf6 : r2 = (if sk ft L q < L then ft (sk ft L q) else 0) := hf6
    have hz0 := hf4
    have hz1 := hf5
    have hz2 := hf6
    have hsl := sk_le ft (L := L) (p := q) (by omega)
    have hz16 := hf4 16 (by decide)
    have hz18 := hf4 18 (by decide)
    have hbr : 0 ≤ r2 ∧ r2 ≤ 126 := (by rw [hz2]; split <;> first | omega | (have := hT (sk ft L q) (by omega); omega))
    refine iv_i2l hx hb dX9_number_11 (by omega) ?_
    refine iv_ldc2 (v := 48) (z := 48) hx hb hown (hts _ (List.mem_of_getElem? (i := 2) rfl)) dX9_number_12 (by decide) ?_
    refine iv_ldc2 (v := 57) (z := 57) hx hb hown (hts _ (List.mem_of_getElem? (i := 3) rfl)) dX9_number_15 (by decide) ?_
    refine Ct.callS (As := [.long (lI r2), .long (lI 48), .long (lI 57)]) (rest := []) (wr := [(hm, .inr (9, mF a i3)), ((a 15), aI (g.2.1 0) 100 ft)]) (c1 := 0) (s1 := 0) ⟨hx, hb, hml, hown, hts⟩ (c_X9_in l g r2 48 57 (by omega)) (va_cwS 3 hts gX9_number_X9_in rfl rfl rfl (by decide +kernel) ⟨Nat.le_of_ble_eq_true rfl, Nat.le_of_ble_eq_true rfl⟩) hG hP hD hS hA [] [0, 1] rfl rfl (by decide) (by decide) (by decide) rfl hl.1 rfl (Nat.le_of_ble_eq_true rfl) dX9_number_18 ⟨Nat.le_of_ble_eq_true rfl, Nat.le_of_ble_eq_true rfl⟩ rfl rfl (fun v w H locs hv hP hD hS => ?_)
    obtain ⟨⟨rfl, hb7⟩ | ⟨rfl, hb7⟩, rfl⟩ := hv
    · show W p l e _ s m _ below meth c H locs 0 0 _ (F0 m 21 ls (.int (iI 1) :: []))
      have hb7 : 48 ≤ r2 ∧ r2 ≤ 57 := hb7
      have hP : va_P g.1 vwCl [(hm, .inr (9, mF a i3)), ((a 15), aI (g.2.1 0) 100 ft)] H := hP
      have hD : va_D A [(hm, .inr (9, mF a i3)), ((a 15), aI (g.2.1 0) 100 ft)] := hD
      refine iv_if_ne (tgt := 31) hx hb dX9_number_21 (by decide) (by decide) (fun _ => ?_) (fun h => absurd h (by decide))
      have hdg : sk ft L q < L ∧ 48 ≤ ft (sk ft L q) ∧ ft (sk ft L q) ≤ 57 := (by by_cases w9 : sk ft L q < L; (rw [if_pos w9] at hz2; exact ⟨w9, by omega, by omega⟩); (rw [if_neg w9] at hz2; exfalso; omega))
      refine lv_aload_n hx hb dX9_number_31 rfl (lv_at hl 0 rfl) ?_
      refine va_get (D := g.1) (ci := 9) (v := .int (iI (i3 17))) hx hb hts kX9_number_9 hown hG.1 hP 0 rfl rfl 17 (by decide) (hts _ (List.mem_of_getElem? (i := 4) rfl)) (fun _ h9 => h9) rfl dX9_number_32 ?_
      refine lv_istore_n (lv' := [(3, .int (iI (i3 17))), (0, .ref hm), (1, .int (iI lo)), (2, .int (iI hi_))]) hx hb dX9_number_35 rfl hl (by decide) rfl (fun ls hl => ?_)
      refine lv_iconst (v := iI (0)) hx hb dX9_number_36 rfl ?_
      refine lv_istore (lv' := [(4, .int (iI 0)), (3, .int (iI (i3 17))), (0, .ref hm), (1, .int (iI lo)), (2, .int (iI hi_))]) hx hb dX9_number_37 hl (by decide) rfl (fun ls hl => ?_)
      have hloop39 : ∀ (fuel : Nat) (vl : Int) (pz : Int) (p9 : Nat) (v9 : Int) (hc : pz = (p9 : Int) ∧ sk ft L q ≤ p9 ∧ p9 ≤ L ∧ 0 ≤ vl ∧ vl ≤ 100000 ∧ 0 ≤ v9) (hvv : (vl ≤ 9999 ∧ v9 = vl) ∨ (9999 < vl ∧ v9 = 10000)) (he : dgE ft (L - p9) p9 = nuE ft L q) (hv : dvF ft (L - p9) p9 v9 = nuV ft L q) (hmeas : L - p9 < fuel), ∀ (H : Heap) (locs : List Loc) (ls : Array Slot), va_P g.1 vwCl [(hm, .inr (9, mF a (va_up i3 17 pz))), ((a 15), aI (g.2.1 0) 100 ft)] H → va_D A [(hm, .inr (9, mF a (va_up i3 17 pz))), ((a 15), aI (g.2.1 0) 100 ft)] → va_S A s.heap H locs → lv_has ls 5 [(4, .int (iI vl)), (3, .int (iI (i3 17))), (0, .ref hm), (1, .int (iI lo)), (2, .int (iI hi_))] → W p l e ({ frames := 1, cells := 0, slots := 0, locals := 25 } : Room) s m [.ref hm, .int (iI lo), .int (iI hi_)].toArray below meth c H locs 0 0 (MQ below (CQ g (q_X9_number g hm a i ft L q lo hi_) A) [.ref hm, .int (iI lo), .int (iI hi_)].toArray s ({ frames := 1, cells := 0, slots := 0, locals := 25 } : Room).cells ({ frames := 1, cells := 0, slots := 0, locals := 25 } : Room).slots A) (F0 m 39 ls []) := by
        intro fuel
        induction fuel with
        | zero => intro vl pz p9 v9 hc hvv he hv hmeas; exact absurd hmeas (Nat.not_lt_zero _)
        | succ fuel ih39 =>
          intro vl pz p9 v9 hc hvv he hv hmeas H locs ls hP hD hS hl
          refine lv_aload_n hx hb dX9_number_39 rfl (lv_at hl 2 rfl) ?_
          refine va_get (D := g.1) (ci := 9) (v := .int (iI pz)) hx hb hts kX9_number_9 hown hG.1 hP 0 rfl rfl 17 (by decide) (hts _ (List.mem_of_getElem? (i := 4) rfl)) (fun _ h9 => h9) rfl dX9_number_40 ?_
          refine lv_aload_n hx hb dX9_number_43 rfl (lv_at hl 2 rfl) ?_
          refine va_get (D := g.1) (ci := 9) (v := .int (iI (i3 16))) hx hb hts kX9_number_9 hown hG.1 hP 0 rfl rfl 16 (by decide) (hts _ (List.mem_of_getElem? (i := 5) rfl)) (fun _ h9 => h9) rfl dX9_number_44 ?_
          refine iv_icmp_ge (tgt := 118) hx hb dX9_number_47 (by decide) (by omega) (fun hc9 => ?_) (fun hc9 => ?_)
          · have hE : nuE ft L q = p9 := (by rw [← he]; exact dgE_0 (by omega))
            have hV : nuV ft L q = v9 := (by rw [← hv]; exact dvF_0 (by omega))
            refine lv_aload_n hx hb dX9_number_118 rfl (lv_at hl 2 rfl) ?_
            refine lv_iload hx hb dX9_number_119 (lv_at hl 0 rfl) ?_
            refine iv_i2l hx hb dX9_number_121 (by omega) ?_
            refine lv_iload_n hx hb dX9_number_122 rfl (lv_at hl 3 rfl) ?_
            refine iv_i2l hx hb dX9_number_123 (by omega) ?_
            refine lv_iload_n hx hb dX9_number_124 rfl (lv_at hl 4 rfl) ?_
            refine iv_i2l hx hb dX9_number_125 (by omega) ?_
            refine Ct.callS (As := [.long (lI vl), .long (lI lo), .long (lI hi_)]) (rest := [.ref hm]) (wr := [(hm, .inr (9, mF a (va_up i3 17 pz))), ((a 15), aI (g.2.1 0) 100 ft)]) (c1 := 0) (s1 := 0) ⟨hx, hb, hml, hown, hts⟩ (c_X9_in l g vl lo hi_ (by omega)) (va_cwS 3 hts gX9_number_X9_in rfl rfl rfl (by decide +kernel) ⟨Nat.le_of_ble_eq_true rfl, Nat.le_of_ble_eq_true rfl⟩) hG hP hD hS hA [] [0, 1] rfl rfl (by decide) (by decide) (by decide) rfl hl.1 rfl (Nat.le_of_ble_eq_true rfl) dX9_number_126 ⟨Nat.le_of_ble_eq_true rfl, Nat.le_of_ble_eq_true rfl⟩ rfl rfl (fun v w H locs hv hP hD hS => ?_)
            obtain ⟨⟨rfl, hb10⟩ | ⟨rfl, hb10⟩, rfl⟩ := hv
            · show W p l e _ s m _ below meth c H locs 0 0 _ (F0 m 129 ls (.int (iI 1) :: [.ref hm]))
              have hb10 : lo ≤ vl ∧ vl ≤ hi_ := hb10
              have hP : va_P g.1 vwCl [(hm, .inr (9, mF a (va_up i3 17 pz))), ((a 15), aI (g.2.1 0) 100 ft)] H := hP
              have hD : va_D A [(hm, .inr (9, mF a (va_up i3 17 pz))), ((a 15), aI (g.2.1 0) 100 ft)] := hD
              refine iv_if_ne (tgt := 136) hx hb dX9_number_129 (by decide) (by decide) (fun _ => ?_) (fun h => absurd h (by decide))
              refine lv_iconst (v := iI (0)) hx hb dX9_number_136 rfl ?_
              refine va_put (D := g.1) (ci := 9) (v := .int (iI 0)) hx hb hts kX9_number_9 tyX9 tyX9_ok nmX9 hown hG.1 hP hD hS 0 rfl rfl 18 (by decide) (hts _ (List.mem_of_getElem? (i := 1) rfl)) (fun _ h9 => h9) rfl (tyX9_ok 18 (by decide)) (by decide) (by decide) (Nat.le_of_ble_eq_true rfl) dX9_number_137 (fun H locs hP hD hS => ?_)
              have hP : va_P g.1 vwCl [(hm, .inr (9, mF a (va_up (va_up i3 17 pz) 18 0))), ((a 15), aI (g.2.1 0) 100 ft)] H := hP
              have hD : va_D A [(hm, .inr (9, mF a (va_up (va_up i3 17 pz) 18 0))), ((a 15), aI (g.2.1 0) 100 ft)] := hD
              refine lv_aload_n hx hb dX9_number_140 rfl (lv_at hl 2 rfl) ?_
              refine lv_aload_n hx hb dX9_number_141 rfl (lv_at hl 2 rfl) ?_
              refine va_get (D := g.1) (ci := 9) (v := .int (iI 0)) hx hb hts kX9_number_9 hown hG.1 hP 0 rfl rfl 18 (by decide) (hts _ (List.mem_of_getElem? (i := 1) rfl)) (fun _ h9 => h9) rfl dX9_number_142 ?_
              refine iv_if_eq (tgt := 152) hx hb dX9_number_145 (by decide) (by decide) (fun _ => ?_) (fun h => absurd h (by decide))
              refine lv_aload_n hx hb dX9_number_152 rfl (lv_at hl 2 rfl) ?_
              refine va_get (D := g.1) (ci := 9) (v := .int (iI pz)) hx hb hts kX9_number_9 hown hG.1 hP 0 rfl rfl 17 (by decide) (hts _ (List.mem_of_getElem? (i := 4) rfl)) (fun _ h9 => h9) rfl dX9_number_153 ?_
              refine va_put (D := g.1) (ci := 9) (v := .int (iI pz)) hx hb hts kX9_number_9 tyX9 tyX9_ok nmX9 hown hG.1 hP hD hS 0 rfl rfl 17 (by decide) (hts _ (List.mem_of_getElem? (i := 4) rfl)) (fun _ h9 => h9) rfl (tyX9_ok 17 (by decide)) rfl rfl (Nat.le_of_ble_eq_true rfl) dX9_number_156 (fun H locs hP hD hS => ?_)
              have hP : va_P g.1 vwCl [(hm, .inr (9, mF a (va_up (va_up i3 17 pz) 18 0))), ((a 15), aI (g.2.1 0) 100 ft)] H := hP
              have hD : va_D A [(hm, .inr (9, mF a (va_up (va_up i3 17 pz) 18 0))), ((a 15), aI (g.2.1 0) 100 ft)] := hD
              refine lv_iload hx hb dX9_number_159 (lv_at hl 0 rfl) ?_
              exact Ct.iret hx hb hr hlocks (hP.sub [0, 1] rfl) (hD.sub [0, 1] (by decide) rfl) hS ⟨by decide, by decide⟩ dX9_number_161 ⟨vl, (va_up (va_up i3 17 pz) 18 0), rfl, rfl, (fun k h17 h18 => by simp only [va_up, h17, h18, if_false] <;> first | rfl | exact hz0 k h17), (by first | (exfalso; omega) | (refine Or.inr (Or.inl ⟨by omega, ⟨hdg, by rw [hV]; omega, by rw [hV]; omega⟩, ?_, rfl, by rw [hV]; omega⟩); rw [hE]; simp only [va_up, if_true]; omega) | (refine Or.inr (Or.inr ⟨by omega, fun z => ?_, ?_, rfl⟩); (have z2 := z.2; rw [hV] at z2; omega); simp only [va_up, if_true]; omega)), (by omega)⟩
            · show W p l e _ s m _ below meth c H locs 0 0 _ (F0 m 129 ls (.int (iI 0) :: [.ref hm]))
              have hb10 : ¬ (lo ≤ vl ∧ vl ≤ hi_) := hb10
              have hP : va_P g.1 vwCl [(hm, .inr (9, mF a (va_up i3 17 pz))), ((a 15), aI (g.2.1 0) 100 ft)] H := hP
              have hD : va_D A [(hm, .inr (9, mF a (va_up i3 17 pz))), ((a 15), aI (g.2.1 0) 100 ft)] := hD
              refine iv_if_ne (tgt := 136) hx hb dX9_number_129 (by decide) (by decide) (fun h => absurd h (by decide)) (fun _ => ?_)
              refine lv_iconst (v := iI (1)) hx hb dX9_number_132 rfl ?_
              refine lv_goto (tgt := 137) hx hb dX9_number_133 (by decide) ?_
              refine va_put (D := g.1) (ci := 9) (v := .int (iI 1)) hx hb hts kX9_number_9 tyX9 tyX9_ok nmX9 hown hG.1 hP hD hS 0 rfl rfl 18 (by decide) (hts _ (List.mem_of_getElem? (i := 1) rfl)) (fun _ h9 => h9) rfl (tyX9_ok 18 (by decide)) (by decide) (by decide) (Nat.le_of_ble_eq_true rfl) dX9_number_137 (fun H locs hP hD hS => ?_)
              have hP : va_P g.1 vwCl [(hm, .inr (9, mF a (va_up (va_up i3 17 pz) 18 1))), ((a 15), aI (g.2.1 0) 100 ft)] H := hP
              have hD : va_D A [(hm, .inr (9, mF a (va_up (va_up i3 17 pz) 18 1))), ((a 15), aI (g.2.1 0) 100 ft)] := hD
              refine lv_aload_n hx hb dX9_number_140 rfl (lv_at hl 2 rfl) ?_
              refine lv_aload_n hx hb dX9_number_141 rfl (lv_at hl 2 rfl) ?_
              refine va_get (D := g.1) (ci := 9) (v := .int (iI 1)) hx hb hts kX9_number_9 hown hG.1 hP 0 rfl rfl 18 (by decide) (hts _ (List.mem_of_getElem? (i := 1) rfl)) (fun _ h9 => h9) rfl dX9_number_142 ?_
              refine iv_if_eq (tgt := 152) hx hb dX9_number_145 (by decide) (by decide) (fun h => absurd h (by decide)) (fun _ => ?_)
              refine lv_iload_n hx hb dX9_number_148 rfl (lv_at hl 1 rfl) ?_
              refine lv_goto (tgt := 156) hx hb dX9_number_149 (by decide) ?_
              refine va_put (D := g.1) (ci := 9) (v := .int (iI (i3 17))) hx hb hts kX9_number_9 tyX9 tyX9_ok nmX9 hown hG.1 hP hD hS 0 rfl rfl 17 (by decide) (hts _ (List.mem_of_getElem? (i := 4) rfl)) (fun _ h9 => h9) rfl (tyX9_ok 17 (by decide)) rfl rfl (Nat.le_of_ble_eq_true rfl) dX9_number_156 (fun H locs hP hD hS => ?_)
              have hP : va_P g.1 vwCl [(hm, .inr (9, mF a (va_up i3 18 1))), ((a 15), aI (g.2.1 0) 100 ft)] H := hP
              have hD : va_D A [(hm, .inr (9, mF a (va_up i3 18 1))), ((a 15), aI (g.2.1 0) 100 ft)] := hD
              refine lv_iload hx hb dX9_number_159 (lv_at hl 0 rfl) ?_
              exact Ct.iret hx hb hr hlocks (hP.sub [0, 1] rfl) (hD.sub [0, 1] (by decide) rfl) hS ⟨by decide, by decide⟩ dX9_number_161 ⟨vl, (va_up i3 18 1), rfl, rfl, (fun k h17 h18 => by simp only [va_up, h17, h18, if_false] <;> first | rfl | exact hz0 k h17), (by first | (exfalso; omega) | (refine Or.inr (Or.inl ⟨by omega, ⟨hdg, by rw [hV]; omega, by rw [hV]; omega⟩, ?_, rfl, by rw [hV]; omega⟩); rw [hE]; simp only [va_up, if_true]; omega) | (refine Or.inr (Or.inr ⟨by omega, fun z => ?_, ?_, rfl⟩); (have z2 := z.2; rw [hV] at z2; omega); simp only [va_up, if_true]; omega)), (by omega)⟩
          · have hb9 := hT p9 (by omega)
            refine lv_aload_n hx hb dX9_number_50 rfl (lv_at hl 2 rfl) ?_
            refine va_get (D := g.1) (ci := 9) (v := .ref (a 15)) hx hb hts kX9_number_9 hown hG.1 hP 0 rfl rfl 15 (by decide) (hts _ (List.mem_of_getElem? (i := 6) rfl)) (fun _ h9 => h9) rfl dX9_number_51 ?_
            refine lv_aload_n hx hb dX9_number_54 rfl (lv_at hl 2 rfl) ?_
            refine va_get (D := g.1) (ci := 9) (v := .int (iI pz)) hx hb hts kX9_number_9 hown hG.1 hP 0 rfl rfl 17 (by decide) (hts _ (List.mem_of_getElem? (i := 4) rfl)) (fun _ h9 => h9) rfl dX9_number_55 ?_
            refine iv_iald hx hb hG hP 1 rfl p9 (by omega) (by omega) (by decide) dX9_number_58 ?_
            refine iv_i2l hx hb dX9_number_59 (by omega) ?_
            refine iv_ldc2 (v := 48) (z := 48) hx hb hown (hts _ (List.mem_of_getElem? (i := 2) rfl)) dX9_number_60 (by decide) ?_
            refine iv_ldc2 (v := 57) (z := 57) hx hb hown (hts _ (List.mem_of_getElem? (i := 3) rfl)) dX9_number_63 (by decide) ?_
            refine Ct.callS (As := [.long (lI (ft p9)), .long (lI 48), .long (lI 57)]) (rest := []) (wr := [(hm, .inr (9, mF a (va_up i3 17 pz))), ((a 15), aI (g.2.1 0) 100 ft)]) (c1 := 0) (s1 := 0) ⟨hx, hb, hml, hown, hts⟩ (c_X9_in l g (ft p9) 48 57 (by omega)) (va_cwS 3 hts gX9_number_X9_in rfl rfl rfl (by decide +kernel) ⟨Nat.le_of_ble_eq_true rfl, Nat.le_of_ble_eq_true rfl⟩) hG hP hD hS hA [] [0, 1] rfl rfl (by decide) (by decide) (by decide) rfl hl.1 rfl (Nat.le_of_ble_eq_true rfl) dX9_number_66 ⟨Nat.le_of_ble_eq_true rfl, Nat.le_of_ble_eq_true rfl⟩ rfl rfl (fun v w H locs hv hP hD hS => ?_)
            obtain ⟨⟨rfl, hb15⟩ | ⟨rfl, hb15⟩, rfl⟩ := hv
            · show W p l e _ s m _ below meth c H locs 0 0 _ (F0 m 69 ls (.int (iI 1) :: []))
              have hb15 : 48 ≤ (ft p9) ∧ (ft p9) ≤ 57 := hb15
              have hP : va_P g.1 vwCl [(hm, .inr (9, mF a (va_up i3 17 pz))), ((a 15), aI (g.2.1 0) 100 ft)] H := hP
              have hD : va_D A [(hm, .inr (9, mF a (va_up i3 17 pz))), ((a 15), aI (g.2.1 0) 100 ft)] := hD
              refine iv_if_eq (tgt := 118) hx hb dX9_number_69 (by decide) (by decide) (fun h => absurd h (by decide)) (fun _ => ?_)
              refine lv_iload hx hb dX9_number_72 (lv_at hl 0 rfl) ?_
              refine lv_sipush (v := iI (9999)) hx hb dX9_number_74 (by decide) ?_
              refine iv_icmp_le (tgt := 85) hx hb dX9_number_77 (by decide) (by omega) (fun hc17 => ?_) (fun hc17 => ?_)
              · refine lv_bipush (v := iI (10)) hx hb dX9_number_85 (by decide) ?_
                refine lv_iload hx hb dX9_number_87 (lv_at hl 0 rfl) ?_
                refine iv_imul hx hb dX9_number_89 ?_
                refine lv_aload_n hx hb dX9_number_90 rfl (lv_at hl 2 rfl) ?_
                refine va_get (D := g.1) (ci := 9) (v := .ref (a 15)) hx hb hts kX9_number_9 hown hG.1 hP 0 rfl rfl 15 (by decide) (hts _ (List.mem_of_getElem? (i := 6) rfl)) (fun _ h9 => h9) rfl dX9_number_91 ?_
                refine lv_aload_n hx hb dX9_number_94 rfl (lv_at hl 2 rfl) ?_
                refine va_get (D := g.1) (ci := 9) (v := .int (iI pz)) hx hb hts kX9_number_9 hown hG.1 hP 0 rfl rfl 17 (by decide) (hts _ (List.mem_of_getElem? (i := 4) rfl)) (fun _ h9 => h9) rfl dX9_number_95 ?_
                refine iv_iald hx hb hG hP 1 rfl p9 (by omega) (by omega) (by decide) dX9_number_98 ?_
                refine iv_iadd hx hb dX9_number_99 ?_
                refine lv_bipush (v := iI (48)) hx hb dX9_number_100 (by decide) ?_
                refine iv_isub hx hb dX9_number_102 ?_
                refine lv_istore (lv' := [(4, .int (iI (((10 * vl) + (ft p9)) - 48))), (3, .int (iI (i3 17))), (0, .ref hm), (1, .int (iI lo)), (2, .int (iI hi_))]) hx hb dX9_number_103 hl (by decide) rfl (fun ls hl => ?_)
                refine lv_aload_n hx hb dX9_number_105 rfl (lv_at hl 2 rfl) ?_
                refine lv_dup hx hb dX9_number_106 rfl ?_
                refine va_get (D := g.1) (ci := 9) (v := .int (iI pz)) hx hb hts kX9_number_9 hown hG.1 hP 0 rfl rfl 17 (by decide) (hts _ (List.mem_of_getElem? (i := 4) rfl)) (fun _ h9 => h9) rfl dX9_number_107 ?_
                refine lv_iconst (v := iI (1)) hx hb dX9_number_110 rfl ?_
                refine iv_iadd hx hb dX9_number_111 ?_
                refine va_put (D := g.1) (ci := 9) (v := .int (iI (pz + 1))) hx hb hts kX9_number_9 tyX9 tyX9_ok nmX9 hown hG.1 hP hD hS 0 rfl rfl 17 (by decide) (hts _ (List.mem_of_getElem? (i := 4) rfl)) (fun _ h9 => h9) rfl (tyX9_ok 17 (by decide)) rfl rfl (Nat.le_of_ble_eq_true rfl) dX9_number_112 (fun H locs hP hD hS => ?_)
                have hP : va_P g.1 vwCl [(hm, .inr (9, mF a (va_up i3 17 (pz + 1)))), ((a 15), aI (g.2.1 0) 100 ft)] H := hP
                have hD : va_D A [(hm, .inr (9, mF a (va_up i3 17 (pz + 1)))), ((a 15), aI (g.2.1 0) 100 ft)] := hD
                refine lv_goto (tgt := 39) hx hb dX9_number_115 (by decide) ?_
                exact ih39 (((10 * vl) + (ft p9)) - 48) (pz + 1) (p9 + 1) (min 10000 (10 * v9 + ft p9 - 48)) (by omega) (by omega) (by rw [← he]; exact dgE_1 (by omega)) (by rw [← hv]; exact dvF_1 (by omega)) (by omega) H locs ls (hP.sub [0, 1] rfl) (hD.sub [0, 1] (by decide) rfl) hS (lv_sub hl [0, 1, 2, 3, 4] rfl)
              · refine lv_iload hx hb dX9_number_80 (lv_at hl 0 rfl) ?_
                refine lv_goto (tgt := 103) hx hb dX9_number_82 (by decide) ?_
                refine lv_istore (lv' := [(4, .int (iI vl)), (3, .int (iI (i3 17))), (0, .ref hm), (1, .int (iI lo)), (2, .int (iI hi_))]) hx hb dX9_number_103 hl (by decide) rfl (fun ls hl => ?_)
                refine lv_aload_n hx hb dX9_number_105 rfl (lv_at hl 2 rfl) ?_
                refine lv_dup hx hb dX9_number_106 rfl ?_
                refine va_get (D := g.1) (ci := 9) (v := .int (iI pz)) hx hb hts kX9_number_9 hown hG.1 hP 0 rfl rfl 17 (by decide) (hts _ (List.mem_of_getElem? (i := 4) rfl)) (fun _ h9 => h9) rfl dX9_number_107 ?_
                refine lv_iconst (v := iI (1)) hx hb dX9_number_110 rfl ?_
                refine iv_iadd hx hb dX9_number_111 ?_
                refine va_put (D := g.1) (ci := 9) (v := .int (iI (pz + 1))) hx hb hts kX9_number_9 tyX9 tyX9_ok nmX9 hown hG.1 hP hD hS 0 rfl rfl 17 (by decide) (hts _ (List.mem_of_getElem? (i := 4) rfl)) (fun _ h9 => h9) rfl (tyX9_ok 17 (by decide)) rfl rfl (Nat.le_of_ble_eq_true rfl) dX9_number_112 (fun H locs hP hD hS => ?_)
                have hP : va_P g.1 vwCl [(hm, .inr (9, mF a (va_up i3 17 (pz + 1)))), ((a 15), aI (g.2.1 0) 100 ft)] H := hP
                have hD : va_D A [(hm, .inr (9, mF a (va_up i3 17 (pz + 1)))), ((a 15), aI (g.2.1 0) 100 ft)] := hD
                refine lv_goto (tgt := 39) hx hb dX9_number_115 (by decide) ?_
                exact ih39 vl (pz + 1) (p9 + 1) (min 10000 (10 * v9 + ft p9 - 48)) (by omega) (by omega) (by rw [← he]; exact dgE_1 (by omega)) (by rw [← hv]; exact dvF_1 (by omega)) (by omega) H locs ls (hP.sub [0, 1] rfl) (hD.sub [0, 1] (by decide) rfl) hS (lv_sub hl [0, 1, 2, 3, 4] rfl)
            · show W p l e _ s m _ below meth c H locs 0 0 _ (F0 m 69 ls (.int (iI 0) :: []))
              have hb15 : ¬ (48 ≤ (ft p9) ∧ (ft p9) ≤ 57) := hb15
              have hP : va_P g.1 vwCl [(hm, .inr (9, mF a (va_up i3 17 pz))), ((a 15), aI (g.2.1 0) 100 ft)] H := hP
              have hD : va_D A [(hm, .inr (9, mF a (va_up i3 17 pz))), ((a 15), aI (g.2.1 0) 100 ft)] := hD
              refine iv_if_eq (tgt := 118) hx hb dX9_number_69 (by decide) (by decide) (fun _ => ?_) (fun h => absurd h (by decide))
              have hE : nuE ft L q = p9 := (by rw [← he]; exact dgE_0 (by omega))
              have hV : nuV ft L q = v9 := (by rw [← hv]; exact dvF_0 (by omega))
              refine lv_aload_n hx hb dX9_number_118 rfl (lv_at hl 2 rfl) ?_
              refine lv_iload hx hb dX9_number_119 (lv_at hl 0 rfl) ?_
              refine iv_i2l hx hb dX9_number_121 (by omega) ?_
              refine lv_iload_n hx hb dX9_number_122 rfl (lv_at hl 3 rfl) ?_
              refine iv_i2l hx hb dX9_number_123 (by omega) ?_
              refine lv_iload_n hx hb dX9_number_124 rfl (lv_at hl 4 rfl) ?_
              refine iv_i2l hx hb dX9_number_125 (by omega) ?_
              refine Ct.callS (As := [.long (lI vl), .long (lI lo), .long (lI hi_)]) (rest := [.ref hm]) (wr := [(hm, .inr (9, mF a (va_up i3 17 pz))), ((a 15), aI (g.2.1 0) 100 ft)]) (c1 := 0) (s1 := 0) ⟨hx, hb, hml, hown, hts⟩ (c_X9_in l g vl lo hi_ (by omega)) (va_cwS 3 hts gX9_number_X9_in rfl rfl rfl (by decide +kernel) ⟨Nat.le_of_ble_eq_true rfl, Nat.le_of_ble_eq_true rfl⟩) hG hP hD hS hA [] [0, 1] rfl rfl (by decide) (by decide) (by decide) rfl hl.1 rfl (Nat.le_of_ble_eq_true rfl) dX9_number_126 ⟨Nat.le_of_ble_eq_true rfl, Nat.le_of_ble_eq_true rfl⟩ rfl rfl (fun v w H locs hv hP hD hS => ?_)
              obtain ⟨⟨rfl, hb19⟩ | ⟨rfl, hb19⟩, rfl⟩ := hv
              · show W p l e _ s m _ below meth c H locs 0 0 _ (F0 m 129 ls (.int (iI 1) :: [.ref hm]))
                have hb19 : lo ≤ vl ∧ vl ≤ hi_ := hb19
                have hP : va_P g.1 vwCl [(hm, .inr (9, mF a (va_up i3 17 pz))), ((a 15), aI (g.2.1 0) 100 ft)] H := hP
                have hD : va_D A [(hm, .inr (9, mF a (va_up i3 17 pz))), ((a 15), aI (g.2.1 0) 100 ft)] := hD
                refine iv_if_ne (tgt := 136) hx hb dX9_number_129 (by decide) (by decide) (fun _ => ?_) (fun h => absurd h (by decide))
                refine lv_iconst (v := iI (0)) hx hb dX9_number_136 rfl ?_
                refine va_put (D := g.1) (ci := 9) (v := .int (iI 0)) hx hb hts kX9_number_9 tyX9 tyX9_ok nmX9 hown hG.1 hP hD hS 0 rfl rfl 18 (by decide) (hts _ (List.mem_of_getElem? (i := 1) rfl)) (fun _ h9 => h9) rfl (tyX9_ok 18 (by decide)) (by decide) (by decide) (Nat.le_of_ble_eq_true rfl) dX9_number_137 (fun H locs hP hD hS => ?_)
                have hP : va_P g.1 vwCl [(hm, .inr (9, mF a (va_up (va_up i3 17 pz) 18 0))), ((a 15), aI (g.2.1 0) 100 ft)] H := hP
                have hD : va_D A [(hm, .inr (9, mF a (va_up (va_up i3 17 pz) 18 0))), ((a 15), aI (g.2.1 0) 100 ft)] := hD
                refine lv_aload_n hx hb dX9_number_140 rfl (lv_at hl 2 rfl) ?_
                refine lv_aload_n hx hb dX9_number_141 rfl (lv_at hl 2 rfl) ?_
                refine va_get (D := g.1) (ci := 9) (v := .int (iI 0)) hx hb hts kX9_number_9 hown hG.1 hP 0 rfl rfl 18 (by decide) (hts _ (List.mem_of_getElem? (i := 1) rfl)) (fun _ h9 => h9) rfl dX9_number_142 ?_
                refine iv_if_eq (tgt := 152) hx hb dX9_number_145 (by decide) (by decide) (fun _ => ?_) (fun h => absurd h (by decide))
                refine lv_aload_n hx hb dX9_number_152 rfl (lv_at hl 2 rfl) ?_
                refine va_get (D := g.1) (ci := 9) (v := .int (iI pz)) hx hb hts kX9_number_9 hown hG.1 hP 0 rfl rfl 17 (by decide) (hts _ (List.mem_of_getElem? (i := 4) rfl)) (fun _ h9 => h9) rfl dX9_number_153 ?_
                refine va_put (D := g.1) (ci := 9) (v := .int (iI pz)) hx hb hts kX9_number_9 tyX9 tyX9_ok nmX9 hown hG.1 hP hD hS 0 rfl rfl 17 (by decide) (hts _ (List.mem_of_getElem? (i := 4) rfl)) (fun _ h9 => h9) rfl (tyX9_ok 17 (by decide)) rfl rfl (Nat.le_of_ble_eq_true rfl) dX9_number_156 (fun H locs hP hD hS => ?_)
                have hP : va_P g.1 vwCl [(hm, .inr (9, mF a (va_up (va_up i3 17 pz) 18 0))), ((a 15), aI (g.2.1 0) 100 ft)] H := hP
                have hD : va_D A [(hm, .inr (9, mF a (va_up (va_up i3 17 pz) 18 0))), ((a 15), aI (g.2.1 0) 100 ft)] := hD
                refine lv_iload hx hb dX9_number_159 (lv_at hl 0 rfl) ?_
                exact Ct.iret hx hb hr hlocks (hP.sub [0, 1] rfl) (hD.sub [0, 1] (by decide) rfl) hS ⟨by decide, by decide⟩ dX9_number_161 ⟨vl, (va_up (va_up i3 17 pz) 18 0), rfl, rfl, (fun k h17 h18 => by simp only [va_up, h17, h18, if_false] <;> first | rfl | exact hz0 k h17), (by first | (exfalso; omega) | (refine Or.inr (Or.inl ⟨by omega, ⟨hdg, by rw [hV]; omega, by rw [hV]; omega⟩, ?_, rfl, by rw [hV]; omega⟩); rw [hE]; simp only [va_up, if_true]; omega) | (refine Or.inr (Or.inr ⟨by omega, fun z => ?_, ?_, rfl⟩); (have z2 := z.2; rw [hV] at z2; omega); simp only [va_up, if_true]; omega)), (by omega)⟩
              · show W p l e _ s m _ below meth c H locs 0 0 _ (F0 m 129 ls (.int (iI 0) :: [.ref hm]))
                have hb19 : ¬ (lo ≤ vl ∧ vl ≤ hi_) := hb19
                have hP : va_P g.1 vwCl [(hm, .inr (9, mF a (va_up i3 17 pz))), ((a 15), aI (g.2.1 0) 100 ft)] H := hP
                have hD : va_D A [(hm, .inr (9, mF a (va_up i3 17 pz))), ((a 15), aI (g.2.1 0) 100 ft)] := hD
                refine iv_if_ne (tgt := 136) hx hb dX9_number_129 (by decide) (by decide) (fun h => absurd h (by decide)) (fun _ => ?_)
                refine lv_iconst (v := iI (1)) hx hb dX9_number_132 rfl ?_
                refine lv_goto (tgt := 137) hx hb dX9_number_133 (by decide) ?_
                refine va_put (D := g.1) (ci := 9) (v := .int (iI 1)) hx hb hts kX9_number_9 tyX9 tyX9_ok nmX9 hown hG.1 hP hD hS 0 rfl rfl 18 (by decide) (hts _ (List.mem_of_getElem? (i := 1) rfl)) (fun _ h9 => h9) rfl (tyX9_ok 18 (by decide)) (by decide) (by decide) (Nat.le_of_ble_eq_true rfl) dX9_number_137 (fun H locs hP hD hS => ?_)
                have hP : va_P g.1 vwCl [(hm, .inr (9, mF a (va_up (va_up i3 17 pz) 18 1))), ((a 15), aI (g.2.1 0) 100 ft)] H := hP
                have hD : va_D A [(hm, .inr (9, mF a (va_up (va_up i3 17 pz) 18 1))), ((a 15), aI (g.2.1 0) 100 ft)] := hD
                refine lv_aload_n hx hb dX9_number_140 rfl (lv_at hl 2 rfl) ?_
                refine lv_aload_n hx hb dX9_number_141 rfl (lv_at hl 2 rfl) ?_
                refine va_get (D := g.1) (ci := 9) (v := .int (iI 1)) hx hb hts kX9_number_9 hown hG.1 hP 0 rfl rfl 18 (by decide) (hts _ (List.mem_of_getElem? (i := 1) rfl)) (fun _ h9 => h9) rfl dX9_number_142 ?_
                refine iv_if_eq (tgt := 152) hx hb dX9_number_145 (by decide) (by decide) (fun h => absurd h (by decide)) (fun _ => ?_)
                refine lv_iload_n hx hb dX9_number_148 rfl (lv_at hl 1 rfl) ?_
                refine lv_goto (tgt := 156) hx hb dX9_number_149 (by decide) ?_
                refine va_put (D := g.1) (ci := 9) (v := .int (iI (i3 17))) hx hb hts kX9_number_9 tyX9 tyX9_ok nmX9 hown hG.1 hP hD hS 0 rfl rfl 17 (by decide) (hts _ (List.mem_of_getElem? (i := 4) rfl)) (fun _ h9 => h9) rfl (tyX9_ok 17 (by decide)) rfl rfl (Nat.le_of_ble_eq_true rfl) dX9_number_156 (fun H locs hP hD hS => ?_)
                have hP : va_P g.1 vwCl [(hm, .inr (9, mF a (va_up i3 18 1))), ((a 15), aI (g.2.1 0) 100 ft)] H := hP
                have hD : va_D A [(hm, .inr (9, mF a (va_up i3 18 1))), ((a 15), aI (g.2.1 0) 100 ft)] := hD
                refine lv_iload hx hb dX9_number_159 (lv_at hl 0 rfl) ?_
                exact Ct.iret hx hb hr hlocks (hP.sub [0, 1] rfl) (hD.sub [0, 1] (by decide) rfl) hS ⟨by decide, by decide⟩ dX9_number_161 ⟨vl, (va_up i3 18 1), rfl, rfl, (fun k h17 h18 => by simp only [va_up, h17, h18, if_false] <;> first | rfl | exact hz0 k h17), (by first | (exfalso; omega) | (refine Or.inr (Or.inl ⟨by omega, ⟨hdg, by rw [hV]; omega, by rw [hV]; omega⟩, ?_, rfl, by rw [hV]; omega⟩); rw [hE]; simp only [va_up, if_true]; omega) | (refine Or.inr (Or.inr ⟨by omega, fun z => ?_, ?_, rfl⟩); (have z2 := z.2; rw [hV] at z2; omega); simp only [va_up, if_true]; omega)), (by omega)⟩
      exact hloop39 _ 0 (i3 17) (sk ft L q) 0 (by omega) (by omega) (rfl) (rfl) (Nat.lt_succ_self _) H locs ls (hP.sub [0, 1] rfl) (hD.sub [0, 1] (by decide) rfl) hS (lv_sub hl [0, 1, 2, 3, 4] rfl)
    · show W p l e _ s m _ below meth c H locs 0 0 _ (F0 m 21 ls (.int (iI 0) :: []))
      have hb7 : ¬ (48 ≤ r2 ∧ r2 ≤ 57) := hb7
      have hP : va_P g.1 vwCl [(hm, .inr (9, mF a i3)), ((a 15), aI (g.2.1 0) 100 ft)] H := hP
      have hD : va_D A [(hm, .inr (9, mF a i3)), ((a 15), aI (g.2.1 0) 100 ft)] := hD
      refine iv_if_ne (tgt := 31) hx hb dX9_number_21 (by decide) (by decide) (fun h => absurd h (by decide)) (fun _ => ?_)
      have hnp : i 18 = 1 ∨ ¬ nuP ft L lo hi_ q := (by first | exact Or.inl (by omega) | (refine Or.inr (fun z => ?_); have z1 := z.1; rw [if_pos z1.1] at hz2; omega))
      refine lv_aload_n hx hb dX9_number_24 rfl (lv_at hl 0 rfl) ?_
      refine lv_iconst (v := iI (1)) hx hb dX9_number_25 rfl ?_
      refine va_put (D := g.1) (ci := 9) (v := .int (iI 1)) hx hb hts kX9_number_9 tyX9 tyX9_ok nmX9 hown hG.1 hP hD hS 0 rfl rfl 18 (by decide) (hts _ (List.mem_of_getElem? (i := 1) rfl)) (fun _ h9 => h9) rfl (tyX9_ok 18 (by decide)) (by decide) (by decide) (Nat.le_of_ble_eq_true rfl) dX9_number_26 (fun H locs hP hD hS => ?_)
      have hP : va_P g.1 vwCl [(hm, .inr (9, mF a (va_up i3 18 1))), ((a 15), aI (g.2.1 0) 100 ft)] H := hP
      have hD : va_D A [(hm, .inr (9, mF a (va_up i3 18 1))), ((a 15), aI (g.2.1 0) 100 ft)] := hD
      refine lv_iconst (v := iI (0)) hx hb dX9_number_29 rfl ?_
      exact Ct.iret hx hb hr hlocks (hP.sub [0, 1] rfl) (hD.sub [0, 1] (by decide) rfl) hS ⟨by decide, by decide⟩ dX9_number_30 ⟨0, (va_up i3 18 1), rfl, rfl, (fun k h17 h18 => by simp only [va_up, h17, h18, if_false] <;> first | rfl | exact hz0 k h17), (by first | exact Or.inl ⟨by omega, rfl, rfl⟩ | (refine Or.inr (Or.inr ⟨by omega, hnp.resolve_left (by omega), ?_, rfl⟩); show _ = _; exact hz1)), (by omega)⟩
