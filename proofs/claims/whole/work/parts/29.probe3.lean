theorem kX8_probe_8 : ∀ w ∈ u_ws RX8 TX8 13, w ∈ wsX8_probe := fun _ h => List.mem_cons_of_mem _ (List.mem_append_left _ (List.mem_append_left _ (List.mem_append_right _ h)))
abbrev q_X8_probe (g : GT) (hd : Nat) (d : Nat → Nat) (i : Nat → Int) (ad : Nat) (an : Nat) (aa : Nat) (fd : Nat → Int) (fn : Nat → Int) (fa : Nat → Int) (fp : Nat → Int) (fg : Nat → Int) (fsh : Nat → Option Nat) (y : Nat) (yi : Nat) (ln : Int) (la : Int) (it : Nat → Int) (kk : Nat) (n : Int) (x : Int) (lane : Int) (x2 : Int) (k : Int) : Option Value → va_W → Prop := fun v w => ∃ (r : Int), ∃ (fd' : Nat → Int), ∃ (fn' : Nat → Int), ∃ (fa' : Nat → Int), ∃ (fg' : Nat → Int), ∃ (fp' : Nat → Int), v = some (.int (iI r)) ∧ w = [(hd, .inr (8, dF d i)), ((d 0), .inr (4, [.ref ad, .ref an, .ref aa])), (ad, aI (g.2.1 0) 3 fd'), (an, aI (g.2.1 0) 3 fn'), (aa, aI (g.2.1 0) 3 fa'), ((d 1), aI (g.2.1 0) 6 fp'), ((d 2), aI (g.2.1 0) 6 fg'), ((d 12), aQ (g.2.1 4) 4 fsh), (y, .inr (5, [.int (iI ln), .int (iI la), .ref yi])), (yi, aI (g.2.1 0) 40 it)] ∧ (r = (if ¬ (1 ≤ n ∧ n ≤ 200) ∨ ¬ (0 ≤ lane ∧ lane ≤ 2) ∨ ¬ (1 ≤ k ∧ k ≤ 6) then -1 else if refS ln la lane x2 k < 0 then refS ln la lane x2 k else probeR (fun j => it (x2.toNat + j)) k n))
set_option maxHeartbeats 4000000 in
set_option maxRecDepth 100000 in
theorem c_X8_probe (l : Launch) (g : GT) (hd : Nat) (d : Nat → Nat) (i : Nat → Int) (ad : Nat) (an : Nat) (aa : Nat) (fd : Nat → Int) (fn : Nat → Int) (fa : Nat → Int) (fp : Nat → Int) (fg : Nat → Int) (fsh : Nat → Option Nat) (y : Nat) (yi : Nat) (ln : Int) (la : Int) (it : Nat → Int) (kk : Nat) (n : Int) (x : Int) (lane : Int) (x2 : Int) (k : Int) (h1 : x = (kk : Int) ∧ kk < 4) (h2 : fsh kk = some y) (h3 : -1 ≤ ln ∧ ln ≤ 40 ∧ 0 ≤ la ∧ la ≤ 2) (h4 : (-2147483648 ≤ n ∧ n < 2147483648) ∧ (-2147483648 ≤ lane ∧ lane < 2147483648) ∧ (-2147483648 ≤ x2 ∧ x2 < 2147483648) ∧ (-2147483648 ≤ k ∧ k < 2147483648)) (h5 : ∀ j, j < 40 → -2147483648 ≤ it j ∧ it j < 2147483648) : Ct l g yX8_probe wsX8_probe ({ frames := 6, cells := 0, slots := 0, locals := 150 } : Room) [.ref hd, .int (iI n), .int (iI x), .int (iI lane), .int (iI x2), .int (iI k)] [(hd, .inr (8, dF d i)), ((d 0), .inr (4, [.ref ad, .ref an, .ref aa])), (ad, aI (g.2.1 0) 3 fd), (an, aI (g.2.1 0) 3 fn), (aa, aI (g.2.1 0) 3 fa), ((d 1), aI (g.2.1 0) 6 fp), ((d 2), aI (g.2.1 0) 6 fg), ((d 12), aQ (g.2.1 4) 4 fsh), (y, .inr (5, [.int (iI ln), .int (iI la), .ref yi])), (yi, aI (g.2.1 0) 40 it)] (q_X8_probe g hd d i ad an aa fd fn fa fp fg fsh y yi ln la it kk n x lane x2 k) := by
  refine Ct.intro (maxL := 10) (ret := (some .int)) (by decide) rfl (Nat.le_of_ble_eq_true rfl) ?_
  intro p e s m below meth c A ls hx hb hr hml hown hts hlocks hnm hA hG hP hD hS hl
  have hown : s.vm.findClass RX8 = some m.cls := hown
  have hl : lv_has ls 10 [(0, .ref hd), (1, .int (iI n)), (2, .int (iI x)), (3, .int (iI lane)), (4, .int (iI x2)), (5, .int (iI k))] := hl
  have hP : va_P g.1 vwCl [(hd, .inr (8, dF d i)), ((d 0), .inr (4, [.ref ad, .ref an, .ref aa])), (ad, aI (g.2.1 0) 3 fd), (an, aI (g.2.1 0) 3 fn), (aa, aI (g.2.1 0) 3 fa), ((d 1), aI (g.2.1 0) 6 fp), ((d 2), aI (g.2.1 0) 6 fg), ((d 12), aQ (g.2.1 4) 4 fsh), (y, .inr (5, [.int (iI ln), .int (iI la), .ref yi])), (yi, aI (g.2.1 0) 40 it)] s.heap := hP
  have hS : va_S A s.heap s.heap [] := hS
  obtain ⟨H, hHe⟩ : ∃ H : Heap, H = s.heap := ⟨_, rfl⟩
  obtain ⟨locs, hLe⟩ : ∃ L : List Loc, L = [] := ⟨_, rfl⟩
  have hP : va_P g.1 vwCl [(hd, .inr (8, dF d i)), ((d 0), .inr (4, [.ref ad, .ref an, .ref aa])), (ad, aI (g.2.1 0) 3 fd), (an, aI (g.2.1 0) 3 fn), (aa, aI (g.2.1 0) 3 fa), ((d 1), aI (g.2.1 0) 6 fp), ((d 2), aI (g.2.1 0) 6 fg), ((d 12), aQ (g.2.1 4) 4 fsh), (y, .inr (5, [.int (iI ln), .int (iI la), .ref yi])), (yi, aI (g.2.1 0) 40 it)] H := by rw [hHe]; exact hP
  have hS : va_S A s.heap H locs := by rw [hHe, hLe]; exact hS
  suffices hgo : W p l e ({ frames := 6, cells := 0, slots := 0, locals := 150 } : Room) s m [.ref hd, .int (iI n), .int (iI x), .int (iI lane), .int (iI x2), .int (iI k)].toArray below meth c H locs 0 0 (MQ below (CQ g (q_X8_probe g hd d i ad an aa fd fn fa fp fg fsh y yi ln la it kk n x lane x2 k) A) [.ref hd, .int (iI n), .int (iI x), .int (iI lane), .int (iI x2), .int (iI k)].toArray s ({ frames := 6, cells := 0, slots := 0, locals := 150 } : Room).cells ({ frames := 6, cells := 0, slots := 0, locals := 150 } : Room).slots A) (F0 m 0 ls []) by rw [hHe, hLe] at hgo; exact hgo
  clear hHe hLe
  refine lv_aload_n hx hb dX8_probe_0 rfl (lv_at hl 0 rfl) ?_
  refine lv_iload_n hx hb dX8_probe_1 rfl (lv_at hl 2 rfl) ?_
  refine Ct.callV (ci := 8) (q0 := 0) (qc := (RX8, TX8, 13)) (As := [.int (iI x)]) (rest := []) (wr := [((d 0), .inr (4, [.ref ad, .ref an, .ref aa])), (ad, aI (g.2.1 0) 3 fd), (an, aI (g.2.1 0) 3 fn), (aa, aI (g.2.1 0) 3 fa), ((d 1), aI (g.2.1 0) 6 fp), ((d 2), aI (g.2.1 0) 6 fg), (y, .inr (5, [.int (iI ln), .int (iI la), .ref yi])), (yi, aI (g.2.1 0) 40 it)]) (c1 := 0) (s1 := 0) ⟨hx, hb, hml, hown, hts⟩ (c_X8_sheetAt l g hd d i fsh x kk y (by omega) (h2)) rfl rfl (cwV 1 hts gX8_probe_X8_sheetAt rfl rfl rfl (by decide +kernel) ⟨Nat.le_of_ble_eq_true rfl, Nat.le_of_ble_eq_true rfl⟩) hG hP hD hS hA [0, 7] [1, 2, 3, 4, 5, 6, 8, 9] rfl rfl (by decide) (by decide) (by decide) rfl hl.1 rfl (Nat.le_of_ble_eq_true rfl) dX8_probe_2 ⟨Nat.le_of_ble_eq_true rfl, Nat.le_of_ble_eq_true rfl⟩ rfl rfl (fun v w H locs hv hP hD hS => ?_)
  obtain ⟨rfl, rfl⟩ := hv
  show W p l e _ s m _ below meth c H locs 0 0 _ (F0 m 5 ls (.ref y :: []))
  have hP : va_P g.1 vwCl [((d 0), .inr (4, [.ref ad, .ref an, .ref aa])), (ad, aI (g.2.1 0) 3 fd), (an, aI (g.2.1 0) 3 fn), (aa, aI (g.2.1 0) 3 fa), ((d 1), aI (g.2.1 0) 6 fp), ((d 2), aI (g.2.1 0) 6 fg), (y, .inr (5, [.int (iI ln), .int (iI la), .ref yi])), (yi, aI (g.2.1 0) 40 it), (hd, .inr (8, dF d i)), ((d 12), aQ (g.2.1 4) 4 fsh)] H := hP
  have hD : va_D A [((d 0), .inr (4, [.ref ad, .ref an, .ref aa])), (ad, aI (g.2.1 0) 3 fd), (an, aI (g.2.1 0) 3 fn), (aa, aI (g.2.1 0) 3 fa), ((d 1), aI (g.2.1 0) 6 fp), ((d 2), aI (g.2.1 0) 6 fg), (y, .inr (5, [.int (iI ln), .int (iI la), .ref yi])), (yi, aI (g.2.1 0) 40 it), (hd, .inr (8, dF d i)), ((d 12), aQ (g.2.1 4) 4 fsh)] := hD
  refine lv_astore (lv' := [(6, .ref y), (0, .ref hd), (1, .int (iI n)), (2, .int (iI x)), (3, .int (iI lane)), (4, .int (iI x2)), (5, .int (iI k))]) hx hb dX8_probe_5 hl (by decide) rfl (fun ls hl => ?_)
  refine lv_iload_n hx hb dX8_probe_7 rfl (lv_at hl 2 rfl) ?_
  refine lv_iconst (v := iI (1)) hx hb dX8_probe_8 rfl ?_
  refine lv_sipush (v := iI (200)) hx hb dX8_probe_9 (by decide) ?_
  refine Ct.callS (As := [.int (iI n), .int (iI 1), .int (iI 200)]) (rest := []) (wr := [((d 0), .inr (4, [.ref ad, .ref an, .ref aa])), (ad, aI (g.2.1 0) 3 fd), (an, aI (g.2.1 0) 3 fn), (aa, aI (g.2.1 0) 3 fa), ((d 1), aI (g.2.1 0) 6 fp), ((d 2), aI (g.2.1 0) 6 fg), (y, .inr (5, [.int (iI ln), .int (iI la), .ref yi])), (yi, aI (g.2.1 0) 40 it), (hd, .inr (8, dF d i)), ((d 12), aQ (g.2.1 4) 4 fsh)]) (c1 := 0) (s1 := 0) ⟨hx, hb, hml, hown, hts⟩ (c_X8_within l g n 1 200 (by omega)) (va_cwS 3 hts gX8_probe_X8_within rfl rfl rfl (by decide +kernel) ⟨Nat.le_of_ble_eq_true rfl, Nat.le_of_ble_eq_true rfl⟩) hG hP hD hS hA [] [0, 1, 2, 3, 4, 5, 6, 7, 8, 9] rfl rfl (by decide) (by decide) (by decide) rfl hl.1 rfl (Nat.le_of_ble_eq_true rfl) dX8_probe_12 ⟨Nat.le_of_ble_eq_true rfl, Nat.le_of_ble_eq_true rfl⟩ rfl rfl (fun v w H locs hv hP hD hS => ?_)
  obtain ⟨⟨rfl, hb1⟩ | ⟨rfl, hb1⟩, rfl⟩ := hv
  · show W p l e _ s m _ below meth c H locs 0 0 _ (F0 m 15 ls (.int (iI 1) :: []))
    have hb1 : 1 ≤ n ∧ n ≤ 200 := hb1
    have hP : va_P g.1 vwCl [((d 0), .inr (4, [.ref ad, .ref an, .ref aa])), (ad, aI (g.2.1 0) 3 fd), (an, aI (g.2.1 0) 3 fn), (aa, aI (g.2.1 0) 3 fa), ((d 1), aI (g.2.1 0) 6 fp), ((d 2), aI (g.2.1 0) 6 fg), (y, .inr (5, [.int (iI ln), .int (iI la), .ref yi])), (yi, aI (g.2.1 0) 40 it), (hd, .inr (8, dF d i)), ((d 12), aQ (g.2.1 4) 4 fsh)] H := hP
    have hD : va_D A [((d 0), .inr (4, [.ref ad, .ref an, .ref aa])), (ad, aI (g.2.1 0) 3 fd), (an, aI (g.2.1 0) 3 fn), (aa, aI (g.2.1 0) 3 fa), ((d 1), aI (g.2.1 0) 6 fp), ((d 2), aI (g.2.1 0) 6 fg), (y, .inr (5, [.int (iI ln), .int (iI la), .ref yi])), (yi, aI (g.2.1 0) 40 it), (hd, .inr (8, dF d i)), ((d 12), aQ (g.2.1 4) 4 fsh)] := hD
    refine iv_if_eq (tgt := 41) hx hb dX8_probe_15 (by decide) (by decide) (fun h => absurd h (by decide)) (fun _ => ?_)
    refine lv_aload hx hb dX8_probe_18 (lv_at hl 0 rfl) ?_
    refine lv_ifnull hx hb dX8_probe_20 ?_
    refine lv_iload_n hx hb dX8_probe_23 rfl (lv_at hl 4 rfl) ?_
    refine Ct.callS (As := [.int (iI lane)]) (rest := []) (wr := [((d 0), .inr (4, [.ref ad, .ref an, .ref aa])), (ad, aI (g.2.1 0) 3 fd), (an, aI (g.2.1 0) 3 fn), (aa, aI (g.2.1 0) 3 fa), ((d 1), aI (g.2.1 0) 6 fp), ((d 2), aI (g.2.1 0) 6 fg), (y, .inr (5, [.int (iI ln), .int (iI la), .ref yi])), (yi, aI (g.2.1 0) 40 it), (hd, .inr (8, dF d i)), ((d 12), aQ (g.2.1 4) 4 fsh)]) (c1 := 0) (s1 := 0) ⟨hx, hb, hml, hown, hts⟩ (c_X8_isLane l g lane (by omega)) (va_cwS 1 hts gX8_probe_X8_isLane rfl rfl rfl (by decide +kernel) ⟨Nat.le_of_ble_eq_true rfl, Nat.le_of_ble_eq_true rfl⟩) hG hP hD hS hA [] [0, 1, 2, 3, 4, 5, 6, 7, 8, 9] rfl rfl (by decide) (by decide) (by decide) rfl hl.1 rfl (Nat.le_of_ble_eq_true rfl) dX8_probe_24 ⟨Nat.le_of_ble_eq_true rfl, Nat.le_of_ble_eq_true rfl⟩ rfl rfl (fun v w H locs hv hP hD hS => ?_)
    obtain ⟨⟨rfl, hb3⟩ | ⟨rfl, hb3⟩, rfl⟩ := hv
    · show W p l e _ s m _ below meth c H locs 0 0 _ (F0 m 27 ls (.int (iI 1) :: []))
      have hb3 : 0 ≤ lane ∧ lane ≤ 2 := hb3
      have hP : va_P g.1 vwCl [((d 0), .inr (4, [.ref ad, .ref an, .ref aa])), (ad, aI (g.2.1 0) 3 fd), (an, aI (g.2.1 0) 3 fn), (aa, aI (g.2.1 0) 3 fa), ((d 1), aI (g.2.1 0) 6 fp), ((d 2), aI (g.2.1 0) 6 fg), (y, .inr (5, [.int (iI ln), .int (iI la), .ref yi])), (yi, aI (g.2.1 0) 40 it), (hd, .inr (8, dF d i)), ((d 12), aQ (g.2.1 4) 4 fsh)] H := hP
      have hD : va_D A [((d 0), .inr (4, [.ref ad, .ref an, .ref aa])), (ad, aI (g.2.1 0) 3 fd), (an, aI (g.2.1 0) 3 fn), (aa, aI (g.2.1 0) 3 fa), ((d 1), aI (g.2.1 0) 6 fp), ((d 2), aI (g.2.1 0) 6 fg), (y, .inr (5, [.int (iI ln), .int (iI la), .ref yi])), (yi, aI (g.2.1 0) 40 it), (hd, .inr (8, dF d i)), ((d 12), aQ (g.2.1 4) 4 fsh)] := hD
      refine iv_if_eq (tgt := 41) hx hb dX8_probe_27 (by decide) (by decide) (fun h => absurd h (by decide)) (fun _ => ?_)
      refine lv_iload hx hb dX8_probe_30 (lv_at hl 6 rfl) ?_
      refine lv_iconst (v := iI (1)) hx hb dX8_probe_32 rfl ?_
      refine lv_bipush (v := iI (6)) hx hb dX8_probe_33 (by decide) ?_
      refine Ct.callS (As := [.int (iI k), .int (iI 1), .int (iI 6)]) (rest := []) (wr := [((d 0), .inr (4, [.ref ad, .ref an, .ref aa])), (ad, aI (g.2.1 0) 3 fd), (an, aI (g.2.1 0) 3 fn), (aa, aI (g.2.1 0) 3 fa), ((d 1), aI (g.2.1 0) 6 fp), ((d 2), aI (g.2.1 0) 6 fg), (y, .inr (5, [.int (iI ln), .int (iI la), .ref yi])), (yi, aI (g.2.1 0) 40 it), (hd, .inr (8, dF d i)), ((d 12), aQ (g.2.1 4) 4 fsh)]) (c1 := 0) (s1 := 0) ⟨hx, hb, hml, hown, hts⟩ (c_X8_within l g k 1 6 (by omega)) (va_cwS 3 hts gX8_probe_X8_within rfl rfl rfl (by decide +kernel) ⟨Nat.le_of_ble_eq_true rfl, Nat.le_of_ble_eq_true rfl⟩) hG hP hD hS hA [] [0, 1, 2, 3, 4, 5, 6, 7, 8, 9] rfl rfl (by decide) (by decide) (by decide) rfl hl.1 rfl (Nat.le_of_ble_eq_true rfl) dX8_probe_35 ⟨Nat.le_of_ble_eq_true rfl, Nat.le_of_ble_eq_true rfl⟩ rfl rfl (fun v w H locs hv hP hD hS => ?_)
      obtain ⟨⟨rfl, hb5⟩ | ⟨rfl, hb5⟩, rfl⟩ := hv
      · show W p l e _ s m _ below meth c H locs 0 0 _ (F0 m 38 ls (.int (iI 1) :: []))
        have hb5 : 1 ≤ k ∧ k ≤ 6 := hb5
        have hP : va_P g.1 vwCl [((d 0), .inr (4, [.ref ad, .ref an, .ref aa])), (ad, aI (g.2.1 0) 3 fd), (an, aI (g.2.1 0) 3 fn), (aa, aI (g.2.1 0) 3 fa), ((d 1), aI (g.2.1 0) 6 fp), ((d 2), aI (g.2.1 0) 6 fg), (y, .inr (5, [.int (iI ln), .int (iI la), .ref yi])), (yi, aI (g.2.1 0) 40 it), (hd, .inr (8, dF d i)), ((d 12), aQ (g.2.1 4) 4 fsh)] H := hP
        have hD : va_D A [((d 0), .inr (4, [.ref ad, .ref an, .ref aa])), (ad, aI (g.2.1 0) 3 fd), (an, aI (g.2.1 0) 3 fn), (aa, aI (g.2.1 0) 3 fa), ((d 1), aI (g.2.1 0) 6 fp), ((d 2), aI (g.2.1 0) 6 fg), (y, .inr (5, [.int (iI ln), .int (iI la), .ref yi])), (yi, aI (g.2.1 0) 40 it), (hd, .inr (8, dF d i)), ((d 12), aQ (g.2.1 4) 4 fsh)] := hD
        refine iv_if_ne (tgt := 43) hx hb dX8_probe_38 (by decide) (by decide) (fun _ => ?_) (fun h => absurd h (by decide))
        refine lv_aload hx hb dX8_probe_43 (lv_at hl 0 rfl) ?_
        refine lv_iload_n hx hb dX8_probe_45 rfl (lv_at hl 4 rfl) ?_
        refine lv_iload hx hb dX8_probe_46 (lv_at hl 5 rfl) ?_
        refine lv_iload hx hb dX8_probe_48 (lv_at hl 6 rfl) ?_
        refine Ct.callV (ci := 5) (q0 := 6) (qc := (RX5, TX5, 3)) (As := [.int (iI lane), .int (iI x2), .int (iI k)]) (rest := []) (wr := [((d 0), .inr (4, [.ref ad, .ref an, .ref aa])), (ad, aI (g.2.1 0) 3 fd), (an, aI (g.2.1 0) 3 fn), (aa, aI (g.2.1 0) 3 fa), ((d 1), aI (g.2.1 0) 6 fp), ((d 2), aI (g.2.1 0) 6 fg), (hd, .inr (8, dF d i)), ((d 12), aQ (g.2.1 4) 4 fsh)]) (c1 := 0) (s1 := 0) ⟨hx, hb, hml, hown, hts⟩ (c_X5_refusal l g y yi ln la it lane x2 k (by omega)) rfl rfl (cwV 3 hts gX8_probe_X5_refusal rfl rfl rfl (by decide +kernel) ⟨Nat.le_of_ble_eq_true rfl, Nat.le_of_ble_eq_true rfl⟩) hG hP hD hS hA [6, 7] [0, 1, 2, 3, 4, 5, 8, 9] rfl rfl (by decide) (by decide) (by decide) rfl hl.1 rfl (Nat.le_of_ble_eq_true rfl) dX8_probe_50 ⟨Nat.le_of_ble_eq_true rfl, Nat.le_of_ble_eq_true rfl⟩ rfl rfl (fun v w H locs hv hP hD hS => ?_)
        obtain ⟨r7, rfl, rfl, hf8⟩ := hv
        show W p l e _ s m _ below meth c H locs 0 0 _ (F0 m 53 ls (.int (iI r7) :: []))
        have hP : va_P g.1 vwCl [((d 0), .inr (4, [.ref ad, .ref an, .ref aa])), (ad, aI (g.2.1 0) 3 fd), (an, aI (g.2.1 0) 3 fn), (aa, aI (g.2.1 0) 3 fa), ((d 1), aI (g.2.1 0) 6 fp), ((d 2), aI (g.2.1 0) 6 fg), (hd, .inr (8, dF d i)), ((d 12), aQ (g.2.1 4) 4 fsh), (y, .inr (5, [.int (iI ln), .int (iI la), .ref yi])), (yi, aI (g.2.1 0) 40 it)] H := hP
        have hD : va_D A [((d 0), .inr (4, [.ref ad, .ref an, .ref aa])), (ad, aI (g.2.1 0) 3 fd), (an, aI (g.2.1 0) 3 fn), (aa, aI (g.2.1 0) 3 fa), ((d 1), aI (g.2.1 0) 6 fp), ((d 2), aI (g.2.1 0) 6 fg), (hd, .inr (8, dF d i)), ((d 12), aQ (g.2.1 4) 4 fsh), (y, .inr (5, [.int (iI ln), .int (iI la), .ref yi])), (yi, aI (g.2.1 0) 40 it)] := hD
        have hf8 : r7 = refS ln la lane x2 k := hf8
        have hrf : refS ln la lane x2 k = -11 ∨ refS ln la lane x2 k = -12 ∨ refS ln la lane x2 k = -13 ∨ (refS ln la lane x2 k = 0 ∧ 0 ≤ x2 ∧ x2 + k ≤ ln) := by unfold refS; (repeat' split) <;> omega
        refine lv_istore (lv' := [(7, .int (iI r7)), (6, .ref y), (0, .ref hd), (1, .int (iI n)), (2, .int (iI x)), (3, .int (iI lane)), (4, .int (iI x2)), (5, .int (iI k))]) hx hb dX8_probe_53 hl (by decide) rfl (fun ls hl => ?_)
        refine lv_iload hx hb dX8_probe_55 (lv_at hl 0 rfl) ?_
        refine iv_if_ge (tgt := 63) hx hb dX8_probe_57 (by decide) (by omega) (fun hc9 => ?_) (fun hc9 => ?_)
        · refine lv_iconst (v := iI (0)) hx hb dX8_probe_63 rfl ?_
          refine lv_istore (lv' := [(8, .int (iI 0)), (7, .int (iI r7)), (6, .ref y), (0, .ref hd), (1, .int (iI n)), (2, .int (iI x)), (3, .int (iI lane)), (4, .int (iI x2)), (5, .int (iI k))]) hx hb dX8_probe_64 hl (by decide) rfl (fun ls hl => ?_)
          have hloop66 : ∀ (fuel : Nat) (zj : Int) (fq : Nat → Int) (j : Nat) (hc : zj = (j : Int) ∧ zj ≤ k) (hq : ∀ e, e < j → fq e = (fun j => it (x2.toNat + j)) e ∧ 0 ≤ (fun j => it (x2.toNat + j)) e ∧ (fun j => it (x2.toNat + j)) e ≤ 255) (ha : aS (fun j => it (x2.toNat + j)) (k.toNat - j) j = aS (fun j => it (x2.toNat + j)) k.toNat 0) (hmeas : k.toNat - j < fuel), ∀ (H : Heap) (locs : List Loc) (ls : Array Slot), va_P g.1 vwCl [((d 0), .inr (4, [.ref ad, .ref an, .ref aa])), (ad, aI (g.2.1 0) 3 fd), (an, aI (g.2.1 0) 3 fn), (aa, aI (g.2.1 0) 3 fa), ((d 1), aI (g.2.1 0) 6 fq), ((d 2), aI (g.2.1 0) 6 fg), (hd, .inr (8, dF d i)), ((d 12), aQ (g.2.1 4) 4 fsh), (y, .inr (5, [.int (iI ln), .int (iI la), .ref yi])), (yi, aI (g.2.1 0) 40 it)] H → va_D A [((d 0), .inr (4, [.ref ad, .ref an, .ref aa])), (ad, aI (g.2.1 0) 3 fd), (an, aI (g.2.1 0) 3 fn), (aa, aI (g.2.1 0) 3 fa), ((d 1), aI (g.2.1 0) 6 fq), ((d 2), aI (g.2.1 0) 6 fg), (hd, .inr (8, dF d i)), ((d 12), aQ (g.2.1 4) 4 fsh), (y, .inr (5, [.int (iI ln), .int (iI la), .ref yi])), (yi, aI (g.2.1 0) 40 it)] → va_S A s.heap H locs → lv_has ls 10 [(8, .int (iI zj)), (7, .int (iI r7)), (6, .ref y), (0, .ref hd), (1, .int (iI n)), (2, .int (iI x)), (3, .int (iI lane)), (4, .int (iI x2)), (5, .int (iI k))] → W p l e ({ frames := 6, cells := 0, slots := 0, locals := 150 } : Room) s m [.ref hd, .int (iI n), .int (iI x), .int (iI lane), .int (iI x2), .int (iI k)].toArray below meth c H locs 0 0 (MQ below (CQ g (q_X8_probe g hd d i ad an aa fd fn fa fp fg fsh y yi ln la it kk n x lane x2 k) A) [.ref hd, .int (iI n), .int (iI x), .int (iI lane), .int (iI x2), .int (iI k)].toArray s ({ frames := 6, cells := 0, slots := 0, locals := 150 } : Room).cells ({ frames := 6, cells := 0, slots := 0, locals := 150 } : Room).slots A) (F0 m 66 ls []) := by
            intro fuel
            induction fuel with
            | zero => intro zj fq j hc hq ha hmeas; exact absurd hmeas (Nat.not_lt_zero _)
            | succ fuel ih66 =>
              intro zj fq j hc hq ha hmeas H locs ls hP hD hS hl
              refine lv_iload hx hb dX8_probe_66 (lv_at hl 0 rfl) ?_
              refine lv_iload hx hb dX8_probe_68 (lv_at hl 8 rfl) ?_
              refine iv_icmp_ge (tgt := 111) hx hb dX8_probe_70 (by decide) (by omega) (fun hc10 => ?_) (fun hc10 => ?_)
              · refine lv_aload_n hx hb dX8_probe_111 rfl (lv_at hl 3 rfl) ?_
                refine lv_iload_n hx hb dX8_probe_112 rfl (lv_at hl 4 rfl) ?_
                refine lv_iload hx hb dX8_probe_113 (lv_at hl 8 rfl) ?_
                refine Ct.callV (ci := 8) (q0 := 6) (qc := (RX8, TX8, 13)) (As := [.int (iI n), .int (iI k)]) (rest := []) (wr := [((d 12), aQ (g.2.1 4) 4 fsh), (y, .inr (5, [.int (iI ln), .int (iI la), .ref yi])), (yi, aI (g.2.1 0) 40 it)]) (c1 := 0) (s1 := 0) ⟨hx, hb, hml, hown, hts⟩ (c_X8_bestProbe l g hd d i ad an aa fd fn fa fq fg (fun j => it (x2.toNat + j)) n k k.toNat (by omega) (fun e he => hq e (by omega))) rfl rfl (cwV 2 hts gX8_probe_X8_bestProbe rfl rfl rfl (by decide +kernel) ⟨Nat.le_of_ble_eq_true rfl, Nat.le_of_ble_eq_true rfl⟩) hG hP hD hS hA [6, 0, 1, 2, 3, 4, 5] [7, 8, 9] rfl rfl (by decide) (by decide) (by decide) rfl hl.1 rfl (Nat.le_of_ble_eq_true rfl) dX8_probe_115 ⟨Nat.le_of_ble_eq_true rfl, Nat.le_of_ble_eq_true rfl⟩ rfl rfl (fun v w H locs hv hP hD hS => ?_)
                obtain ⟨r11, fd12, fn13, fa14, fg15, rfl, rfl, hf16⟩ := hv
                show W p l e _ s m _ below meth c H locs 0 0 _ (F0 m 118 ls (.int (iI r11) :: []))
                have hP : va_P g.1 vwCl [((d 12), aQ (g.2.1 4) 4 fsh), (y, .inr (5, [.int (iI ln), .int (iI la), .ref yi])), (yi, aI (g.2.1 0) 40 it), (hd, .inr (8, dF d i)), ((d 0), .inr (4, [.ref ad, .ref an, .ref aa])), (ad, aI (g.2.1 0) 3 fd12), (an, aI (g.2.1 0) 3 fn13), (aa, aI (g.2.1 0) 3 fa14), ((d 1), aI (g.2.1 0) 6 fq), ((d 2), aI (g.2.1 0) 6 fg15)] H := hP
                have hD : va_D A [((d 12), aQ (g.2.1 4) 4 fsh), (y, .inr (5, [.int (iI ln), .int (iI la), .ref yi])), (yi, aI (g.2.1 0) 40 it), (hd, .inr (8, dF d i)), ((d 0), .inr (4, [.ref ad, .ref an, .ref aa])), (ad, aI (g.2.1 0) 3 fd12), (an, aI (g.2.1 0) 3 fn13), (aa, aI (g.2.1 0) 3 fa14), ((d 1), aI (g.2.1 0) 6 fq), ((d 2), aI (g.2.1 0) 6 fg15)] := hD
                exact Ct.iret hx hb hr hlocks (hP.sub [3, 4, 5, 6, 7, 8, 9, 0, 1, 2] rfl) (hD.sub [3, 4, 5, 6, 7, 8, 9, 0, 1, 2] (by decide) rfl) hS ⟨by decide, by decide⟩ dX8_probe_118 ⟨r11, fd12, fn13, fa14, fg15, fq, rfl, rfl, (by rw [if_neg (by omega), if_neg (by omega)]; unfold probeR; rw [← ha, show k.toNat - j = 0 from by omega, show aS (fun j => it (x2.toNat + j)) 0 j = 1 from rfl, if_neg (by omega)]; assumption)⟩
              · have hx2j : (x2 + zj).toNat = x2.toNat + j := by omega
                have hij : it (x2 + zj).toNat = it (x2.toNat + j) := by rw [hx2j]
                have h5j := h5 (x2 + zj).toNat (by omega)
                refine lv_aload hx hb dX8_probe_73 (lv_at hl 2 rfl) ?_
                refine lv_iload hx hb dX8_probe_75 (lv_at hl 7 rfl) ?_
                refine lv_iload hx hb dX8_probe_77 (lv_at hl 0 rfl) ?_
                refine iv_iadd hx hb dX8_probe_79 ?_
                refine Ct.callV (ci := 5) (q0 := 8) (qc := (RX5, TX5, 3)) (As := [.int (iI (x2 + zj))]) (rest := []) (wr := [((d 0), .inr (4, [.ref ad, .ref an, .ref aa])), (ad, aI (g.2.1 0) 3 fd), (an, aI (g.2.1 0) 3 fn), (aa, aI (g.2.1 0) 3 fa), ((d 1), aI (g.2.1 0) 6 fq), ((d 2), aI (g.2.1 0) 6 fg), (hd, .inr (8, dF d i)), ((d 12), aQ (g.2.1 4) 4 fsh)]) (c1 := 0) (s1 := 0) ⟨hx, hb, hml, hown, hts⟩ (c_X5_at l g y yi ln la it (x2 + zj) (by omega)) rfl rfl (cwV 1 hts gX8_probe_X5_at rfl rfl rfl (by decide +kernel) ⟨Nat.le_of_ble_eq_true rfl, Nat.le_of_ble_eq_true rfl⟩) hG hP hD hS hA [8, 9] [0, 1, 2, 3, 4, 5, 6, 7] rfl rfl (by decide) (by decide) (by decide) rfl hl.1 rfl (Nat.le_of_ble_eq_true rfl) dX8_probe_80 ⟨Nat.le_of_ble_eq_true rfl, Nat.le_of_ble_eq_true rfl⟩ rfl rfl (fun v w H locs hv hP hD hS => ?_)
                obtain ⟨rfl, rfl⟩ := hv
                show W p l e _ s m _ below meth c H locs 0 0 _ (F0 m 83 ls (.int (iI (it (x2 + zj).toNat)) :: []))
                have hP : va_P g.1 vwCl [((d 0), .inr (4, [.ref ad, .ref an, .ref aa])), (ad, aI (g.2.1 0) 3 fd), (an, aI (g.2.1 0) 3 fn), (aa, aI (g.2.1 0) 3 fa), ((d 1), aI (g.2.1 0) 6 fq), ((d 2), aI (g.2.1 0) 6 fg), (hd, .inr (8, dF d i)), ((d 12), aQ (g.2.1 4) 4 fsh), (y, .inr (5, [.int (iI ln), .int (iI la), .ref yi])), (yi, aI (g.2.1 0) 40 it)] H := hP
                have hD : va_D A [((d 0), .inr (4, [.ref ad, .ref an, .ref aa])), (ad, aI (g.2.1 0) 3 fd), (an, aI (g.2.1 0) 3 fn), (aa, aI (g.2.1 0) 3 fa), ((d 1), aI (g.2.1 0) 6 fq), ((d 2), aI (g.2.1 0) 6 fg), (hd, .inr (8, dF d i)), ((d 12), aQ (g.2.1 4) 4 fsh), (y, .inr (5, [.int (iI ln), .int (iI la), .ref yi])), (yi, aI (g.2.1 0) 40 it)] := hD
                refine lv_istore (lv' := [(9, .int (iI (it (x2 + zj).toNat))), (8, .int (iI zj)), (7, .int (iI r7)), (6, .ref y), (0, .ref hd), (1, .int (iI n)), (2, .int (iI x)), (3, .int (iI lane)), (4, .int (iI x2)), (5, .int (iI k))]) hx hb dX8_probe_83 hl (by decide) rfl (fun ls hl => ?_)
                refine lv_iload hx hb dX8_probe_85 (lv_at hl 0 rfl) ?_
                refine Ct.callS (As := [.int (iI (it (x2 + zj).toNat))]) (rest := []) (wr := [((d 0), .inr (4, [.ref ad, .ref an, .ref aa])), (ad, aI (g.2.1 0) 3 fd), (an, aI (g.2.1 0) 3 fn), (aa, aI (g.2.1 0) 3 fa), ((d 1), aI (g.2.1 0) 6 fq), ((d 2), aI (g.2.1 0) 6 fg), (hd, .inr (8, dF d i)), ((d 12), aQ (g.2.1 4) 4 fsh), (y, .inr (5, [.int (iI ln), .int (iI la), .ref yi])), (yi, aI (g.2.1 0) 40 it)]) (c1 := 0) (s1 := 0) ⟨hx, hb, hml, hown, hts⟩ (c_X8_isSet l g (it (x2 + zj).toNat) (by omega)) (va_cwS 1 hts gX8_probe_X8_isSet rfl rfl rfl (by decide +kernel) ⟨Nat.le_of_ble_eq_true rfl, Nat.le_of_ble_eq_true rfl⟩) hG hP hD hS hA [] [0, 1, 2, 3, 4, 5, 6, 7, 8, 9] rfl rfl (by decide) (by decide) (by decide) rfl hl.1 rfl (Nat.le_of_ble_eq_true rfl) dX8_probe_87 ⟨Nat.le_of_ble_eq_true rfl, Nat.le_of_ble_eq_true rfl⟩ rfl rfl (fun v w H locs hv hP hD hS => ?_)
                obtain ⟨⟨rfl, hb17⟩ | ⟨rfl, hb17⟩, rfl⟩ := hv
                · show W p l e _ s m _ below meth c H locs 0 0 _ (F0 m 90 ls (.int (iI 1) :: []))
                  have hb17 : 0 ≤ (it (x2 + zj).toNat) ∧ (it (x2 + zj).toNat) ≤ 255 := hb17
                  have hP : va_P g.1 vwCl [((d 0), .inr (4, [.ref ad, .ref an, .ref aa])), (ad, aI (g.2.1 0) 3 fd), (an, aI (g.2.1 0) 3 fn), (aa, aI (g.2.1 0) 3 fa), ((d 1), aI (g.2.1 0) 6 fq), ((d 2), aI (g.2.1 0) 6 fg), (hd, .inr (8, dF d i)), ((d 12), aQ (g.2.1 4) 4 fsh), (y, .inr (5, [.int (iI ln), .int (iI la), .ref yi])), (yi, aI (g.2.1 0) 40 it)] H := hP
                  have hD : va_D A [((d 0), .inr (4, [.ref ad, .ref an, .ref aa])), (ad, aI (g.2.1 0) 3 fd), (an, aI (g.2.1 0) 3 fn), (aa, aI (g.2.1 0) 3 fa), ((d 1), aI (g.2.1 0) 6 fq), ((d 2), aI (g.2.1 0) 6 fg), (hd, .inr (8, dF d i)), ((d 12), aQ (g.2.1 4) 4 fsh), (y, .inr (5, [.int (iI ln), .int (iI la), .ref yi])), (yi, aI (g.2.1 0) 40 it)] := hD
                  refine iv_if_ne (tgt := 96) hx hb dX8_probe_90 (by decide) (by decide) (fun _ => ?_) (fun h => absurd h (by decide))
                  refine lv_aload_n hx hb dX8_probe_96 rfl (lv_at hl 4 rfl) ?_
                  refine va_get (D := g.1) (ci := 8) (v := .ref (d 1)) hx hb hts kX8_probe_8 hown hG.1 hP 6 rfl rfl 1 (by decide) (hts _ (List.mem_of_getElem? (i := 1) rfl)) (fun _ h9 => h9) rfl dX8_probe_97 ?_
                  refine lv_iload hx hb dX8_probe_100 (lv_at hl 1 rfl) ?_
                  refine lv_iload hx hb dX8_probe_102 (lv_at hl 0 rfl) ?_
                  refine iv_iast hx hb hG hP hD hS 4 rfl j (by omega) (by omega) (by decide) dX8_probe_104 (fun H locs hP hD hS => ?_)
                  have hP : va_P g.1 vwCl [((d 0), .inr (4, [.ref ad, .ref an, .ref aa])), (ad, aI (g.2.1 0) 3 fd), (an, aI (g.2.1 0) 3 fn), (aa, aI (g.2.1 0) 3 fa), ((d 1), aI (g.2.1 0) 6 (va_up fq j (it (x2 + zj).toNat))), ((d 2), aI (g.2.1 0) 6 fg), (hd, .inr (8, dF d i)), ((d 12), aQ (g.2.1 4) 4 fsh), (y, .inr (5, [.int (iI ln), .int (iI la), .ref yi])), (yi, aI (g.2.1 0) 40 it)] H := hP
                  have hD : va_D A [((d 0), .inr (4, [.ref ad, .ref an, .ref aa])), (ad, aI (g.2.1 0) 3 fd), (an, aI (g.2.1 0) 3 fn), (aa, aI (g.2.1 0) 3 fa), ((d 1), aI (g.2.1 0) 6 (va_up fq j (it (x2 + zj).toNat))), ((d 2), aI (g.2.1 0) 6 fg), (hd, .inr (8, dF d i)), ((d 12), aQ (g.2.1 4) 4 fsh), (y, .inr (5, [.int (iI ln), .int (iI la), .ref yi])), (yi, aI (g.2.1 0) 40 it)] := hD
                  refine iv_iinc (k := 1) (x := zj) (lv' := [(8, .int (iI (zj + 1))), (9, .int (iI (it (x2 + zj).toNat))), (7, .int (iI r7)), (6, .ref y), (0, .ref hd), (1, .int (iI n)), (2, .int (iI x)), (3, .int (iI lane)), (4, .int (iI x2)), (5, .int (iI k))]) hx hb dX8_probe_105 hl rfl (by decide) rfl (fun ls hl => ?_)
                  refine lv_goto (tgt := 66) hx hb dX8_probe_108 (by decide) ?_
                  exact ih66 (zj + 1) (va_up fq j (it (x2 + zj).toNat)) (j + 1) (by omega) (fun e he => if q : e = j then (by rw [q, up_s]; exact ⟨hij, by show 0 ≤ it (x2.toNat + j) ∧ it (x2.toNat + j) ≤ 255; rw [← hij]; assumption⟩) else (by rw [up_n _ _ _ _ q]; exact hq e (by omega))) (by rw [← ha, show k.toNat - j = (k.toNat - (j + 1)) + 1 from by omega]; simp only [aS]; rw [if_pos (by rw [← hx2j]; omega)]) (by omega) H locs ls (hP.sub [0, 1, 2, 3, 4, 5, 6, 7, 8, 9] rfl) (hD.sub [0, 1, 2, 3, 4, 5, 6, 7, 8, 9] (by decide) rfl) hS (lv_sub hl [0, 2, 3, 4, 5, 6, 7, 8, 9] rfl)
                · show W p l e _ s m _ below meth c H locs 0 0 _ (F0 m 90 ls (.int (iI 0) :: []))
                  have hb17 : ¬ (0 ≤ (it (x2 + zj).toNat) ∧ (it (x2 + zj).toNat) ≤ 255) := hb17
                  have hP : va_P g.1 vwCl [((d 0), .inr (4, [.ref ad, .ref an, .ref aa])), (ad, aI (g.2.1 0) 3 fd), (an, aI (g.2.1 0) 3 fn), (aa, aI (g.2.1 0) 3 fa), ((d 1), aI (g.2.1 0) 6 fq), ((d 2), aI (g.2.1 0) 6 fg), (hd, .inr (8, dF d i)), ((d 12), aQ (g.2.1 4) 4 fsh), (y, .inr (5, [.int (iI ln), .int (iI la), .ref yi])), (yi, aI (g.2.1 0) 40 it)] H := hP
                  have hD : va_D A [((d 0), .inr (4, [.ref ad, .ref an, .ref aa])), (ad, aI (g.2.1 0) 3 fd), (an, aI (g.2.1 0) 3 fn), (aa, aI (g.2.1 0) 3 fa), ((d 1), aI (g.2.1 0) 6 fq), ((d 2), aI (g.2.1 0) 6 fg), (hd, .inr (8, dF d i)), ((d 12), aQ (g.2.1 4) 4 fsh), (y, .inr (5, [.int (iI ln), .int (iI la), .ref yi])), (yi, aI (g.2.1 0) 40 it)] := hD
                  refine iv_if_ne (tgt := 96) hx hb dX8_probe_90 (by decide) (by decide) (fun h => absurd h (by decide)) (fun _ => ?_)
                  refine lv_bipush (v := iI (-2)) hx hb dX8_probe_93 (by decide) ?_
                  exact Ct.iret hx hb hr hlocks (hP.sub [6, 0, 1, 2, 3, 4, 5, 7, 8, 9] rfl) (hD.sub [6, 0, 1, 2, 3, 4, 5, 7, 8, 9] (by decide) rfl) hS ⟨by decide, by decide⟩ dX8_probe_95 ⟨(-2), fd, fn, fa, fg, fq, rfl, rfl, (by rw [if_neg (by omega), if_neg (by omega)]; have hz : aS (fun j => it (x2.toNat + j)) k.toNat 0 = 0 := (by rw [← ha, show k.toNat - j = (k.toNat - (j + 1)) + 1 from by omega]; simp only [aS]; rw [if_neg (show ¬ (0 ≤ it (x2.toNat + j) ∧ it (x2.toNat + j) ≤ 255) by rw [← hx2j]; omega)]); unfold probeR; rw [if_pos hz])⟩
          exact hloop66 _ 0 fp 0 (by omega) (fun e he => absurd he (Nat.not_lt_zero e)) (rfl) (Nat.lt_succ_self _) H locs ls (hP.sub [0, 1, 2, 3, 4, 5, 6, 7, 8, 9] rfl) (hD.sub [0, 1, 2, 3, 4, 5, 6, 7, 8, 9] (by decide) rfl) hS (lv_sub hl [0, 1, 2, 3, 4, 5, 6, 7, 8] rfl)
        · refine lv_iload hx hb dX8_probe_60 (lv_at hl 0 rfl) ?_
          exact Ct.iret hx hb hr hlocks (hP.sub [6, 0, 1, 2, 3, 4, 5, 7, 8, 9] rfl) (hD.sub [6, 0, 1, 2, 3, 4, 5, 7, 8, 9] (by decide) rfl) hS ⟨by decide, by decide⟩ dX8_probe_62 ⟨r7, fd, fn, fa, fg, fp, rfl, rfl, (by rw [if_neg (by omega), if_pos (by omega)]; assumption)⟩
      · show W p l e _ s m _ below meth c H locs 0 0 _ (F0 m 38 ls (.int (iI 0) :: []))
        have hb5 : ¬ (1 ≤ k ∧ k ≤ 6) := hb5
        have hP : va_P g.1 vwCl [((d 0), .inr (4, [.ref ad, .ref an, .ref aa])), (ad, aI (g.2.1 0) 3 fd), (an, aI (g.2.1 0) 3 fn), (aa, aI (g.2.1 0) 3 fa), ((d 1), aI (g.2.1 0) 6 fp), ((d 2), aI (g.2.1 0) 6 fg), (y, .inr (5, [.int (iI ln), .int (iI la), .ref yi])), (yi, aI (g.2.1 0) 40 it), (hd, .inr (8, dF d i)), ((d 12), aQ (g.2.1 4) 4 fsh)] H := hP
        have hD : va_D A [((d 0), .inr (4, [.ref ad, .ref an, .ref aa])), (ad, aI (g.2.1 0) 3 fd), (an, aI (g.2.1 0) 3 fn), (aa, aI (g.2.1 0) 3 fa), ((d 1), aI (g.2.1 0) 6 fp), ((d 2), aI (g.2.1 0) 6 fg), (y, .inr (5, [.int (iI ln), .int (iI la), .ref yi])), (yi, aI (g.2.1 0) 40 it), (hd, .inr (8, dF d i)), ((d 12), aQ (g.2.1 4) 4 fsh)] := hD
        refine iv_if_ne (tgt := 43) hx hb dX8_probe_38 (by decide) (by decide) (fun h => absurd h (by decide)) (fun _ => ?_)
        refine lv_iconst (v := iI (-1)) hx hb dX8_probe_41 rfl ?_
        exact Ct.iret hx hb hr hlocks (hP.sub [8, 0, 1, 2, 3, 4, 5, 9, 6, 7] rfl) (hD.sub [8, 0, 1, 2, 3, 4, 5, 9, 6, 7] (by decide) rfl) hS ⟨by decide, by decide⟩ dX8_probe_42 ⟨(-1), fd, fn, fa, fg, fp, rfl, rfl, (by rw [if_pos (by omega)])⟩
    · show W p l e _ s m _ below meth c H locs 0 0 _ (F0 m 27 ls (.int (iI 0) :: []))
      have hb3 : ¬ (0 ≤ lane ∧ lane ≤ 2) := hb3
      have hP : va_P g.1 vwCl [((d 0), .inr (4, [.ref ad, .ref an, .ref aa])), (ad, aI (g.2.1 0) 3 fd), (an, aI (g.2.1 0) 3 fn), (aa, aI (g.2.1 0) 3 fa), ((d 1), aI (g.2.1 0) 6 fp), ((d 2), aI (g.2.1 0) 6 fg), (y, .inr (5, [.int (iI ln), .int (iI la), .ref yi])), (yi, aI (g.2.1 0) 40 it), (hd, .inr (8, dF d i)), ((d 12), aQ (g.2.1 4) 4 fsh)] H := hP
      have hD : va_D A [((d 0), .inr (4, [.ref ad, .ref an, .ref aa])), (ad, aI (g.2.1 0) 3 fd), (an, aI (g.2.1 0) 3 fn), (aa, aI (g.2.1 0) 3 fa), ((d 1), aI (g.2.1 0) 6 fp), ((d 2), aI (g.2.1 0) 6 fg), (y, .inr (5, [.int (iI ln), .int (iI la), .ref yi])), (yi, aI (g.2.1 0) 40 it), (hd, .inr (8, dF d i)), ((d 12), aQ (g.2.1 4) 4 fsh)] := hD
      refine iv_if_eq (tgt := 41) hx hb dX8_probe_27 (by decide) (by decide) (fun _ => ?_) (fun h => absurd h (by decide))
      refine lv_iconst (v := iI (-1)) hx hb dX8_probe_41 rfl ?_
      exact Ct.iret hx hb hr hlocks (hP.sub [8, 0, 1, 2, 3, 4, 5, 9, 6, 7] rfl) (hD.sub [8, 0, 1, 2, 3, 4, 5, 9, 6, 7] (by decide) rfl) hS ⟨by decide, by decide⟩ dX8_probe_42 ⟨(-1), fd, fn, fa, fg, fp, rfl, rfl, (by rw [if_pos (by omega)])⟩
  · show W p l e _ s m _ below meth c H locs 0 0 _ (F0 m 15 ls (.int (iI 0) :: []))
    have hb1 : ¬ (1 ≤ n ∧ n ≤ 200) := hb1
    have hP : va_P g.1 vwCl [((d 0), .inr (4, [.ref ad, .ref an, .ref aa])), (ad, aI (g.2.1 0) 3 fd), (an, aI (g.2.1 0) 3 fn), (aa, aI (g.2.1 0) 3 fa), ((d 1), aI (g.2.1 0) 6 fp), ((d 2), aI (g.2.1 0) 6 fg), (y, .inr (5, [.int (iI ln), .int (iI la), .ref yi])), (yi, aI (g.2.1 0) 40 it), (hd, .inr (8, dF d i)), ((d 12), aQ (g.2.1 4) 4 fsh)] H := hP
    have hD : va_D A [((d 0), .inr (4, [.ref ad, .ref an, .ref aa])), (ad, aI (g.2.1 0) 3 fd), (an, aI (g.2.1 0) 3 fn), (aa, aI (g.2.1 0) 3 fa), ((d 1), aI (g.2.1 0) 6 fp), ((d 2), aI (g.2.1 0) 6 fg), (y, .inr (5, [.int (iI ln), .int (iI la), .ref yi])), (yi, aI (g.2.1 0) 40 it), (hd, .inr (8, dF d i)), ((d 12), aQ (g.2.1 4) 4 fsh)] := hD
    refine iv_if_eq (tgt := 41) hx hb dX8_probe_15 (by decide) (by decide) (fun _ => ?_) (fun h => absurd h (by decide))
    refine lv_iconst (v := iI (-1)) hx hb dX8_probe_41 rfl ?_
    exact Ct.iret hx hb hr hlocks (hP.sub [8, 0, 1, 2, 3, 4, 5, 9, 6, 7] rfl) (hD.sub [8, 0, 1, 2, 3, 4, 5, 9, 6, 7] (by decide) rfl) hS ⟨by decide, by decide⟩ dX8_probe_42 ⟨(-1), fd, fn, fa, fg, fp, rfl, rfl, (by rw [if_pos (by omega)])⟩
abbrev q_X8_probeB (g : GT) (hd : Nat) (d : Nat → Nat) (i : Nat → Int) (fsh : Nat → Option Nat) (n : Int) (x : Int) (lane : Int) (x2 : Int) (k : Int) : Option Value → va_W → Prop := fun v w => ∃ (r : Int), v = some (.int (iI r)) ∧ w = [(hd, .inr (8, dF d i)), ((d 12), aQ (g.2.1 4) 4 fsh)] ∧ (r = -1)
set_option maxHeartbeats 4000000 in
set_option maxRecDepth 100000 in
theorem c_X8_probeB (l : Launch) (g : GT) (hd : Nat) (d : Nat → Nat) (i : Nat → Int) (fsh : Nat → Option Nat) (n : Int) (x : Int) (lane : Int) (x2 : Int) (k : Int) (h1 : ¬ (0 ≤ x ∧ x ≤ 3) ∧ (-2147483648 ≤ x ∧ x < 2147483648) ∧ (-2147483648 ≤ n ∧ n < 2147483648) ∧ (-2147483648 ≤ k ∧ k < 2147483648)) : Ct l g yX8_probe wsX8_probe ({ frames := 6, cells := 0, slots := 0, locals := 150 } : Room) [.ref hd, .int (iI n), .int (iI x), .int (iI lane), .int (iI x2), .int (iI k)] [(hd, .inr (8, dF d i)), ((d 12), aQ (g.2.1 4) 4 fsh)] (q_X8_probeB g hd d i fsh n x lane x2 k) := by
  refine Ct.intro (maxL := 10) (ret := (some .int)) (by decide) rfl (Nat.le_of_ble_eq_true rfl) ?_
  intro p e s m below meth c A ls hx hb hr hml hown hts hlocks hnm hA hG hP hD hS hl
  have hown : s.vm.findClass RX8 = some m.cls := hown
  have hl : lv_has ls 10 [(0, .ref hd), (1, .int (iI n)), (2, .int (iI x)), (3, .int (iI lane)), (4, .int (iI x2)), (5, .int (iI k))] := hl
  have hP : va_P g.1 vwCl [(hd, .inr (8, dF d i)), ((d 12), aQ (g.2.1 4) 4 fsh)] s.heap := hP
  have hS : va_S A s.heap s.heap [] := hS
  obtain ⟨H, hHe⟩ : ∃ H : Heap, H = s.heap := ⟨_, rfl⟩
  obtain ⟨locs, hLe⟩ : ∃ L : List Loc, L = [] := ⟨_, rfl⟩
  have hP : va_P g.1 vwCl [(hd, .inr (8, dF d i)), ((d 12), aQ (g.2.1 4) 4 fsh)] H := by rw [hHe]; exact hP
  have hS : va_S A s.heap H locs := by rw [hHe, hLe]; exact hS
  suffices hgo : W p l e ({ frames := 6, cells := 0, slots := 0, locals := 150 } : Room) s m [.ref hd, .int (iI n), .int (iI x), .int (iI lane), .int (iI x2), .int (iI k)].toArray below meth c H locs 0 0 (MQ below (CQ g (q_X8_probeB g hd d i fsh n x lane x2 k) A) [.ref hd, .int (iI n), .int (iI x), .int (iI lane), .int (iI x2), .int (iI k)].toArray s ({ frames := 6, cells := 0, slots := 0, locals := 150 } : Room).cells ({ frames := 6, cells := 0, slots := 0, locals := 150 } : Room).slots A) (F0 m 0 ls []) by rw [hHe, hLe] at hgo; exact hgo
  clear hHe hLe
  refine lv_aload_n hx hb dX8_probe_0 rfl (lv_at hl 0 rfl) ?_
  refine lv_iload_n hx hb dX8_probe_1 rfl (lv_at hl 2 rfl) ?_
  refine Ct.callV (ci := 8) (q0 := 0) (qc := (RX8, TX8, 13)) (As := [.int (iI x)]) (rest := []) (wr := []) (c1 := 0) (s1 := 0) ⟨hx, hb, hml, hown, hts⟩ (c_X8_sheetAtB l g hd d i fsh x (by omega)) rfl rfl (cwV 1 hts gX8_probe_X8_sheetAt rfl rfl rfl (by decide +kernel) ⟨Nat.le_of_ble_eq_true rfl, Nat.le_of_ble_eq_true rfl⟩) hG hP hD hS hA [0, 1] [] rfl rfl (by decide) (by decide) (by decide) rfl hl.1 rfl (Nat.le_of_ble_eq_true rfl) dX8_probe_2 ⟨Nat.le_of_ble_eq_true rfl, Nat.le_of_ble_eq_true rfl⟩ rfl rfl (fun v w H locs hv hP hD hS => ?_)
  obtain ⟨rfl, rfl⟩ := hv
  show W p l e _ s m _ below meth c H locs 0 0 _ (F0 m 5 ls (.null :: []))
  have hP : va_P g.1 vwCl [(hd, .inr (8, dF d i)), ((d 12), aQ (g.2.1 4) 4 fsh)] H := hP
  have hD : va_D A [(hd, .inr (8, dF d i)), ((d 12), aQ (g.2.1 4) 4 fsh)] := hD
  refine lv_astoreN (lv' := [(6, .null), (0, .ref hd), (1, .int (iI n)), (2, .int (iI x)), (3, .int (iI lane)), (4, .int (iI x2)), (5, .int (iI k))]) hx hb dX8_probe_5 hl (by decide) rfl (fun ls hl => ?_)
  refine lv_iload_n hx hb dX8_probe_7 rfl (lv_at hl 2 rfl) ?_
  refine lv_iconst (v := iI (1)) hx hb dX8_probe_8 rfl ?_
  refine lv_sipush (v := iI (200)) hx hb dX8_probe_9 (by decide) ?_
  refine Ct.callS (As := [.int (iI n), .int (iI 1), .int (iI 200)]) (rest := []) (wr := [(hd, .inr (8, dF d i)), ((d 12), aQ (g.2.1 4) 4 fsh)]) (c1 := 0) (s1 := 0) ⟨hx, hb, hml, hown, hts⟩ (c_X8_within l g n 1 200 (by omega)) (va_cwS 3 hts gX8_probe_X8_within rfl rfl rfl (by decide +kernel) ⟨Nat.le_of_ble_eq_true rfl, Nat.le_of_ble_eq_true rfl⟩) hG hP hD hS hA [] [0, 1] rfl rfl (by decide) (by decide) (by decide) rfl hl.1 rfl (Nat.le_of_ble_eq_true rfl) dX8_probe_12 ⟨Nat.le_of_ble_eq_true rfl, Nat.le_of_ble_eq_true rfl⟩ rfl rfl (fun v w H locs hv hP hD hS => ?_)
  obtain ⟨⟨rfl, hb1⟩ | ⟨rfl, hb1⟩, rfl⟩ := hv
  · show W p l e _ s m _ below meth c H locs 0 0 _ (F0 m 15 ls (.int (iI 1) :: []))
    have hb1 : 1 ≤ n ∧ n ≤ 200 := hb1
    have hP : va_P g.1 vwCl [(hd, .inr (8, dF d i)), ((d 12), aQ (g.2.1 4) 4 fsh)] H := hP
    have hD : va_D A [(hd, .inr (8, dF d i)), ((d 12), aQ (g.2.1 4) 4 fsh)] := hD
    refine iv_if_eq (tgt := 41) hx hb dX8_probe_15 (by decide) (by decide) (fun h => absurd h (by decide)) (fun _ => ?_)
    refine lv_aloadN hx hb dX8_probe_18 (lv_at hl 0 rfl) ?_
    refine lv_ifnullN (tgt := 41) hx hb dX8_probe_20 (by decide) ?_
    refine lv_iconst (v := iI (-1)) hx hb dX8_probe_41 rfl ?_
    exact Ct.iret hx hb hr hlocks (hP.sub [0, 1] rfl) (hD.sub [0, 1] (by decide) rfl) hS ⟨by decide, by decide⟩ dX8_probe_42 ⟨(-1), rfl, rfl, (by omega)⟩
  · show W p l e _ s m _ below meth c H locs 0 0 _ (F0 m 15 ls (.int (iI 0) :: []))
    have hb1 : ¬ (1 ≤ n ∧ n ≤ 200) := hb1
    have hP : va_P g.1 vwCl [(hd, .inr (8, dF d i)), ((d 12), aQ (g.2.1 4) 4 fsh)] H := hP
    have hD : va_D A [(hd, .inr (8, dF d i)), ((d 12), aQ (g.2.1 4) 4 fsh)] := hD
    refine iv_if_eq (tgt := 41) hx hb dX8_probe_15 (by decide) (by decide) (fun _ => ?_) (fun h => absurd h (by decide))
    refine lv_iconst (v := iI (-1)) hx hb dX8_probe_41 rfl ?_
    exact Ct.iret hx hb hr hlocks (hP.sub [0, 1] rfl) (hD.sub [0, 1] (by decide) rfl) hS ⟨by decide, by decide⟩ dX8_probe_42 ⟨(-1), rfl, rfl, (by omega)⟩
