abbrev q_X9_by (g : GT) (hm : Nat) (a : Nat → Nat) (i : Nat → Int) (fw : Nat → Int) (fo : Nat → Int) (M : Nat) (what : Int) : Option Value → va_W → Prop := fun v w => ∃ (r : Int), v = some (.int (iI r)) ∧ w = [(hm, .inr (9, mF a i)), ((a 31), aI (g.2.1 0) 12 fw), ((a 32), aI (g.2.1 0) 12 fo)] ∧ (r = byR fw fo M what)
set_option maxHeartbeats 4000000 in
set_option maxRecDepth 100000 in
theorem c_X9_by (l : Launch) (g : GT) (hm : Nat) (a : Nat → Nat) (i : Nat → Int) (fw : Nat → Int) (fo : Nat → Int) (M : Nat) (what : Int) (h1 : i 30 = (M : Int) ∧ M ≤ 12) (h2 : ∀ j, j < M → (fw j = 0 ∨ fw j = 1) ∧ -999 ≤ fo j ∧ fo j ≤ 999) (h3 : (-2147483648 ≤ what ∧ what < 2147483648)) : Ct l g yX9_by wsX9_by ({ frames := 2, cells := 0, slots := 0, locals := 43 } : Room) [.ref hm, .int (iI what)] [(hm, .inr (9, mF a i)), ((a 31), aI (g.2.1 0) 12 fw), ((a 32), aI (g.2.1 0) 12 fo)] (q_X9_by g hm a i fw fo M what) := by
  refine Ct.intro (maxL := 5) (ret := (some .int)) (by decide) rfl (Nat.le_of_ble_eq_true rfl) ?_
  intro p e s m below meth c A ls hx hb hr hml hown hts hlocks hnm hA hG hP hD hS hl
  have hown : s.vm.findClass RX9 = some m.cls := hown
  have hl : lv_has ls 5 [(0, .ref hm), (1, .int (iI what))] := hl
  have hP : va_P g.1 vwCl [(hm, .inr (9, mF a i)), ((a 31), aI (g.2.1 0) 12 fw), ((a 32), aI (g.2.1 0) 12 fo)] s.heap := hP
  have hS : va_S A s.heap s.heap [] := hS
  obtain ⟨H, hHe⟩ : ∃ H : Heap, H = s.heap := ⟨_, rfl⟩
  obtain ⟨locs, hLe⟩ : ∃ L : List Loc, L = [] := ⟨_, rfl⟩
  have hP : va_P g.1 vwCl [(hm, .inr (9, mF a i)), ((a 31), aI (g.2.1 0) 12 fw), ((a 32), aI (g.2.1 0) 12 fo)] H := by rw [hHe]; exact hP
  have hS : va_S A s.heap H locs := by rw [hHe, hLe]; exact hS
  suffices hgo : W p l e ({ frames := 2, cells := 0, slots := 0, locals := 43 } : Room) s m [.ref hm, .int (iI what)].toArray below meth c H locs 0 0 (MQ below (CQ g (q_X9_by g hm a i fw fo M what) A) [.ref hm, .int (iI what)].toArray s ({ frames := 2, cells := 0, slots := 0, locals := 43 } : Room).cells ({ frames := 2, cells := 0, slots := 0, locals := 43 } : Room).slots A) (F0 m 0 ls []) by rw [hHe, hLe] at hgo; exact hgo
  clear hHe hLe
  refine lv_iload_n hx hb dX9_by_0 rfl (lv_at hl 1 rfl) ?_
  refine iv_i2l hx hb dX9_by_1 (by omega) ?_
  refine lv_lconst (v := lI (0)) hx hb dX9_by_2 (by decide) ?_
  refine lv_lconst (v := lI (1)) hx hb dX9_by_3 (by decide) ?_
  refine Ct.callS (As := [.long (lI what), .long (lI 0), .long (lI 1)]) (rest := []) (wr := [(hm, .inr (9, mF a i)), ((a 31), aI (g.2.1 0) 12 fw), ((a 32), aI (g.2.1 0) 12 fo)]) (c1 := 0) (s1 := 0) ⟨hx, hb, hml, hown, hts⟩ (c_X9_in l g what 0 1 (by omega)) (va_cwS 3 hts gX9_by_X9_in rfl rfl rfl (by decide +kernel) ⟨Nat.le_of_ble_eq_true rfl, Nat.le_of_ble_eq_true rfl⟩) hG hP hD hS hA [] [0, 1, 2] rfl rfl (by decide) (by decide) (by decide) rfl hl.1 rfl (Nat.le_of_ble_eq_true rfl) dX9_by_4 ⟨Nat.le_of_ble_eq_true rfl, Nat.le_of_ble_eq_true rfl⟩ rfl rfl (fun v w H locs hv hP hD hS => ?_)
  obtain ⟨⟨rfl, hb1⟩ | ⟨rfl, hb1⟩, rfl⟩ := hv
  · show W p l e _ s m _ below meth c H locs 0 0 _ (F0 m 7 ls (.int (iI 1) :: []))
    have hb1 : 0 ≤ what ∧ what ≤ 1 := hb1
    have hP : va_P g.1 vwCl [(hm, .inr (9, mF a i)), ((a 31), aI (g.2.1 0) 12 fw), ((a 32), aI (g.2.1 0) 12 fo)] H := hP
    have hD : va_D A [(hm, .inr (9, mF a i)), ((a 31), aI (g.2.1 0) 12 fw), ((a 32), aI (g.2.1 0) 12 fo)] := hD
    refine iv_if_ne (tgt := 13) hx hb dX9_by_7 (by decide) (by decide) (fun _ => ?_) (fun h => absurd h (by decide))
    refine lv_aload_n hx hb dX9_by_13 rfl (lv_at hl 0 rfl) ?_
    refine Ct.callV (ci := 9) (q0 := 0) (qc := (RX9, TX9, 37)) (As := []) (rest := []) (wr := []) (c1 := 0) (s1 := 0) ⟨hx, hb, hml, hown, hts⟩ (c_X9_isTrial l g hm a i fw fo M (by omega) (h2)) rfl rfl (cwV 0 hts gX9_by_X9_isTrial rfl rfl rfl (by decide +kernel) ⟨Nat.le_of_ble_eq_true rfl, Nat.le_of_ble_eq_true rfl⟩) hG hP hD hS hA [0, 1, 2] [] rfl rfl (by decide) (by decide) (by decide) rfl hl.1 rfl (Nat.le_of_ble_eq_true rfl) dX9_by_14 ⟨Nat.le_of_ble_eq_true rfl, Nat.le_of_ble_eq_true rfl⟩ rfl rfl (fun v w H locs hv hP hD hS => ?_)
    obtain ⟨⟨rfl, hb3⟩ | ⟨rfl, hb3⟩, rfl⟩ := hv
    · show W p l e _ s m _ below meth c H locs 0 0 _ (F0 m 17 ls (.int (iI 1) :: []))
      have hb3 : ¬ (mW fw 0 M = 0 ∨ mW fw 1 M = 0) := hb3
      have hP : va_P g.1 vwCl [(hm, .inr (9, mF a i)), ((a 31), aI (g.2.1 0) 12 fw), ((a 32), aI (g.2.1 0) 12 fo)] H := hP
      have hD : va_D A [(hm, .inr (9, mF a i)), ((a 31), aI (g.2.1 0) 12 fw), ((a 32), aI (g.2.1 0) 12 fo)] := hD
      refine iv_if_ne (tgt := 24) hx hb dX9_by_17 (by decide) (by decide) (fun _ => ?_) (fun h => absurd h (by decide))
      refine lv_aload_n hx hb dX9_by_24 rfl (lv_at hl 0 rfl) ?_
      refine lv_iconst (v := iI (1)) hx hb dX9_by_25 rfl ?_
      refine Ct.callV (ci := 9) (q0 := 0) (qc := (RX9, TX9, 37)) (As := [.int (iI 1)]) (rest := []) (wr := []) (c1 := 0) (s1 := 0) ⟨hx, hb, hml, hown, hts⟩ (c_X9_sumBy l g hm a i fw fo M 1 (by omega) (h2)) rfl rfl (cwV 1 hts gX9_by_X9_sumBy rfl rfl rfl (by decide +kernel) ⟨Nat.le_of_ble_eq_true rfl, Nat.le_of_ble_eq_true rfl⟩) hG hP hD hS hA [0, 1, 2] [] rfl rfl (by decide) (by decide) (by decide) rfl hl.1 rfl (Nat.le_of_ble_eq_true rfl) dX9_by_26 ⟨Nat.le_of_ble_eq_true rfl, Nat.le_of_ble_eq_true rfl⟩ rfl rfl (fun v w H locs hv hP hD hS => ?_)
      obtain ⟨r5, rfl, rfl, hf6⟩ := hv
      show W p l e _ s m _ below meth c H locs 0 0 _ (F0 m 29 ls (.int (iI r5) :: []))
      have hP : va_P g.1 vwCl [(hm, .inr (9, mF a i)), ((a 31), aI (g.2.1 0) 12 fw), ((a 32), aI (g.2.1 0) 12 fo)] H := hP
      have hD : va_D A [(hm, .inr (9, mF a i)), ((a 31), aI (g.2.1 0) 12 fw), ((a 32), aI (g.2.1 0) 12 fo)] := hD
      have hf6 : r5 = sW fw fo 1 M := hf6
      refine lv_aload_n hx hb dX9_by_29 rfl (lv_at hl 0 rfl) ?_
      refine lv_iconst (v := iI (0)) hx hb dX9_by_30 rfl ?_
      refine Ct.callV (ci := 9) (q0 := 0) (qc := (RX9, TX9, 37)) (As := [.int (iI 0)]) (rest := [.int (iI r5)]) (wr := []) (c1 := 0) (s1 := 0) ⟨hx, hb, hml, hown, hts⟩ (c_X9_dealt l g hm a i fw fo M 0 (by omega) (h2)) rfl rfl (cwV 1 hts gX9_by_X9_dealt rfl rfl rfl (by decide +kernel) ⟨Nat.le_of_ble_eq_true rfl, Nat.le_of_ble_eq_true rfl⟩) hG hP hD hS hA [0, 1, 2] [] rfl rfl (by decide) (by decide) (by decide) rfl hl.1 rfl (Nat.le_of_ble_eq_true rfl) dX9_by_31 ⟨Nat.le_of_ble_eq_true rfl, Nat.le_of_ble_eq_true rfl⟩ rfl rfl (fun v w H locs hv hP hD hS => ?_)
      obtain ⟨r7, rfl, rfl, hf8⟩ := hv
      show W p l e _ s m _ below meth c H locs 0 0 _ (F0 m 34 ls (.int (iI r7) :: [.int (iI r5)]))
      have hP : va_P g.1 vwCl [(hm, .inr (9, mF a i)), ((a 31), aI (g.2.1 0) 12 fw), ((a 32), aI (g.2.1 0) 12 fo)] H := hP
      have hD : va_D A [(hm, .inr (9, mF a i)), ((a 31), aI (g.2.1 0) 12 fw), ((a 32), aI (g.2.1 0) 12 fo)] := hD
      have hf8 : r7 = mW fw 0 M := hf8
      refine iv_imul hx hb dX9_by_34 ?_
      refine lv_aload_n hx hb dX9_by_35 rfl (lv_at hl 0 rfl) ?_
      refine lv_iconst (v := iI (0)) hx hb dX9_by_36 rfl ?_
      refine Ct.callV (ci := 9) (q0 := 0) (qc := (RX9, TX9, 37)) (As := [.int (iI 0)]) (rest := [.int (iI (r5 * r7))]) (wr := []) (c1 := 0) (s1 := 0) ⟨hx, hb, hml, hown, hts⟩ (c_X9_sumBy l g hm a i fw fo M 0 (by omega) (h2)) rfl rfl (cwV 1 hts gX9_by_X9_sumBy rfl rfl rfl (by decide +kernel) ⟨Nat.le_of_ble_eq_true rfl, Nat.le_of_ble_eq_true rfl⟩) hG hP hD hS hA [0, 1, 2] [] rfl rfl (by decide) (by decide) (by decide) rfl hl.1 rfl (Nat.le_of_ble_eq_true rfl) dX9_by_37 ⟨Nat.le_of_ble_eq_true rfl, Nat.le_of_ble_eq_true rfl⟩ rfl rfl (fun v w H locs hv hP hD hS => ?_)
      obtain ⟨r9, rfl, rfl, hf10⟩ := hv
      show W p l e _ s m _ below meth c H locs 0 0 _ (F0 m 40 ls (.int (iI r9) :: [.int (iI (r5 * r7))]))
      have hP : va_P g.1 vwCl [(hm, .inr (9, mF a i)), ((a 31), aI (g.2.1 0) 12 fw), ((a 32), aI (g.2.1 0) 12 fo)] H := hP
      have hD : va_D A [(hm, .inr (9, mF a i)), ((a 31), aI (g.2.1 0) 12 fw), ((a 32), aI (g.2.1 0) 12 fo)] := hD
      have hf10 : r9 = sW fw fo 0 M := hf10
      refine lv_aload_n hx hb dX9_by_40 rfl (lv_at hl 0 rfl) ?_
      refine lv_iconst (v := iI (1)) hx hb dX9_by_41 rfl ?_
      refine Ct.callV (ci := 9) (q0 := 0) (qc := (RX9, TX9, 37)) (As := [.int (iI 1)]) (rest := [.int (iI r9), .int (iI (r5 * r7))]) (wr := []) (c1 := 0) (s1 := 0) ⟨hx, hb, hml, hown, hts⟩ (c_X9_dealt l g hm a i fw fo M 1 (by omega) (h2)) rfl rfl (cwV 1 hts gX9_by_X9_dealt rfl rfl rfl (by decide +kernel) ⟨Nat.le_of_ble_eq_true rfl, Nat.le_of_ble_eq_true rfl⟩) hG hP hD hS hA [0, 1, 2] [] rfl rfl (by decide) (by decide) (by decide) rfl hl.1 rfl (Nat.le_of_ble_eq_true rfl) dX9_by_42 ⟨Nat.le_of_ble_eq_true rfl, Nat.le_of_ble_eq_true rfl⟩ rfl rfl (fun v w H locs hv hP hD hS => ?_)
      obtain ⟨r11, rfl, rfl, hf12⟩ := hv
      show W p l e _ s m _ below meth c H locs 0 0 _ (F0 m 45 ls (.int (iI r11) :: [.int (iI r9), .int (iI (r5 * r7))]))
      have hP : va_P g.1 vwCl [(hm, .inr (9, mF a i)), ((a 31), aI (g.2.1 0) 12 fw), ((a 32), aI (g.2.1 0) 12 fo)] H := hP
      have hD : va_D A [(hm, .inr (9, mF a i)), ((a 31), aI (g.2.1 0) 12 fw), ((a 32), aI (g.2.1 0) 12 fo)] := hD
      have hf12 : r11 = mW fw 1 M := hf12
      refine iv_imul hx hb dX9_by_45 ?_
      refine iv_isub hx hb dX9_by_46 ?_
      refine iv_as (byAb fw fo M) (by unfold byAb; simp only [*]) ?_
      have hr0 := mW_rng fw 0 M
      have hr1 := mW_rng fw 1 M
      have hr2 := mW_two fw M
      have hs0 := sW_rng fw fo 0 M (fun j hj => (h2 j hj).2)
      have hs1 := sW_rng fw fo 1 M (fun j hj => (h2 j hj).2)
      have hp0 := mulB (s := sW fw fo 1 M) (c := mW fw 0 M) (by omega) (by omega)
      have hp1 := mulB (s := sW fw fo 0 M) (c := mW fw 1 M) (by omega) (by omega)
      have hpp := prodB (o := mW fw 1 M) (z := mW fw 0 M) (by omega) (by omega) (by omega)
      have hab9 : -287712 ≤ byAb fw fo M ∧ byAb fw fo M ≤ 287712 := by unfold byAb; omega
      refine lv_istore_n (lv' := [(2, .int (iI (byAb fw fo M))), (0, .ref hm), (1, .int (iI what))]) hx hb dX9_by_47 rfl hl (by decide) rfl (fun ls hl => ?_)
      refine lv_aload_n hx hb dX9_by_48 rfl (lv_at hl 1 rfl) ?_
      refine lv_iconst (v := iI (0)) hx hb dX9_by_49 rfl ?_
      refine Ct.callV (ci := 9) (q0 := 0) (qc := (RX9, TX9, 37)) (As := [.int (iI 0)]) (rest := []) (wr := []) (c1 := 0) (s1 := 0) ⟨hx, hb, hml, hown, hts⟩ (c_X9_dealt l g hm a i fw fo M 0 (by omega) (h2)) rfl rfl (cwV 1 hts gX9_by_X9_dealt rfl rfl rfl (by decide +kernel) ⟨Nat.le_of_ble_eq_true rfl, Nat.le_of_ble_eq_true rfl⟩) hG hP hD hS hA [0, 1, 2] [] rfl rfl (by decide) (by decide) (by decide) rfl hl.1 rfl (Nat.le_of_ble_eq_true rfl) dX9_by_50 ⟨Nat.le_of_ble_eq_true rfl, Nat.le_of_ble_eq_true rfl⟩ rfl rfl (fun v w H locs hv hP hD hS => ?_)
      obtain ⟨r13, rfl, rfl, hf14⟩ := hv
      show W p l e _ s m _ below meth c H locs 0 0 _ (F0 m 53 ls (.int (iI r13) :: []))
      have hP : va_P g.1 vwCl [(hm, .inr (9, mF a i)), ((a 31), aI (g.2.1 0) 12 fw), ((a 32), aI (g.2.1 0) 12 fo)] H := hP
      have hD : va_D A [(hm, .inr (9, mF a i)), ((a 31), aI (g.2.1 0) 12 fw), ((a 32), aI (g.2.1 0) 12 fo)] := hD
      have hf14 : r13 = mW fw 0 M := hf14
      refine lv_aload_n hx hb dX9_by_53 rfl (lv_at hl 1 rfl) ?_
      refine lv_iconst (v := iI (1)) hx hb dX9_by_54 rfl ?_
      refine Ct.callV (ci := 9) (q0 := 0) (qc := (RX9, TX9, 37)) (As := [.int (iI 1)]) (rest := [.int (iI r13)]) (wr := []) (c1 := 0) (s1 := 0) ⟨hx, hb, hml, hown, hts⟩ (c_X9_dealt l g hm a i fw fo M 1 (by omega) (h2)) rfl rfl (cwV 1 hts gX9_by_X9_dealt rfl rfl rfl (by decide +kernel) ⟨Nat.le_of_ble_eq_true rfl, Nat.le_of_ble_eq_true rfl⟩) hG hP hD hS hA [0, 1, 2] [] rfl rfl (by decide) (by decide) (by decide) rfl hl.1 rfl (Nat.le_of_ble_eq_true rfl) dX9_by_55 ⟨Nat.le_of_ble_eq_true rfl, Nat.le_of_ble_eq_true rfl⟩ rfl rfl (fun v w H locs hv hP hD hS => ?_)
      obtain ⟨r15, rfl, rfl, hf16⟩ := hv
      show W p l e _ s m _ below meth c H locs 0 0 _ (F0 m 58 ls (.int (iI r15) :: [.int (iI r13)]))
      have hP : va_P g.1 vwCl [(hm, .inr (9, mF a i)), ((a 31), aI (g.2.1 0) 12 fw), ((a 32), aI (g.2.1 0) 12 fo)] H := hP
      have hD : va_D A [(hm, .inr (9, mF a i)), ((a 31), aI (g.2.1 0) 12 fw), ((a 32), aI (g.2.1 0) 12 fo)] := hD
      have hf16 : r15 = mW fw 1 M := hf16
      refine iv_imul hx hb dX9_by_58 ?_
      refine iv_as (byBe fw M) (by unfold byBe; simp only [*]; exact Int.mul_comm _ _) ?_
      have hbe9 : 1 ≤ byBe fw M ∧ byBe fw M ≤ 36 := by unfold byBe; omega
      refine lv_istore_n (lv' := [(3, .int (iI (byBe fw M))), (2, .int (iI (byAb fw fo M))), (0, .ref hm), (1, .int (iI what))]) hx hb dX9_by_59 rfl hl (by decide) rfl (fun ls hl => ?_)
      refine lv_iload_n hx hb dX9_by_60 rfl (lv_at hl 1 rfl) ?_
      refine lv_iload_n hx hb dX9_by_61 rfl (lv_at hl 0 rfl) ?_
      refine Ct.callS (As := [.int (iI (byAb fw fo M)), .int (iI (byBe fw M))]) (rest := []) (wr := [(hm, .inr (9, mF a i)), ((a 31), aI (g.2.1 0) 12 fw), ((a 32), aI (g.2.1 0) 12 fo)]) (c1 := 0) (s1 := 0) ⟨hx, hb, hml, hown, hts⟩ (c_X9_common l g (byAb fw fo M) (byBe fw M) (by omega)) (va_cwS 2 hts gX9_by_X9_common rfl rfl rfl (by decide +kernel) ⟨Nat.le_of_ble_eq_true rfl, Nat.le_of_ble_eq_true rfl⟩) hG hP hD hS hA [] [0, 1, 2] rfl rfl (by decide) (by decide) (by decide) rfl hl.1 rfl (Nat.le_of_ble_eq_true rfl) dX9_by_62 ⟨Nat.le_of_ble_eq_true rfl, Nat.le_of_ble_eq_true rfl⟩ rfl rfl (fun v w H locs hv hP hD hS => ?_)
      obtain ⟨r17, rfl, rfl, hf18⟩ := hv
      show W p l e _ s m _ below meth c H locs 0 0 _ (F0 m 65 ls (.int (iI r17) :: []))
      have hP : va_P g.1 vwCl [(hm, .inr (9, mF a i)), ((a 31), aI (g.2.1 0) 12 fw), ((a 32), aI (g.2.1 0) 12 fo)] H := hP
      have hD : va_D A [(hm, .inr (9, mF a i)), ((a 31), aI (g.2.1 0) 12 fw), ((a 32), aI (g.2.1 0) 12 fo)] := hD
      have hf18 : r17 = ((Nat.gcd (byAb fw fo M).natAbs (byBe fw M).toNat : Nat) : Int) := hf18
      have hgg : r17 = ((Nat.gcd (byAb fw fo M).natAbs (byBe fw M).toNat : Nat) : Int) := by rw [hf18]
      have hgp : 0 < Nat.gcd (byAb fw fo M).natAbs (byBe fw M).toNat := Nat.gcd_pos_of_pos_right _ (by unfold byBe; omega)
      have hgl : Nat.gcd (byAb fw fo M).natAbs (byBe fw M).toNat ≤ 36 := Nat.le_trans (Nat.gcd_le_right _ (by unfold byBe; omega)) (by unfold byBe; omega)
      refine lv_istore (lv' := [(4, .int (iI r17)), (3, .int (iI (byBe fw M))), (2, .int (iI (byAb fw fo M))), (0, .ref hm), (1, .int (iI what))]) hx hb dX9_by_65 hl (by decide) rfl (fun ls hl => ?_)
      refine lv_iload_n hx hb dX9_by_67 rfl (lv_at hl 4 rfl) ?_
      refine iv_if_ne (tgt := 78) hx hb dX9_by_68 (by decide) (by omega) (fun hc19 => ?_) (fun hc19 => ?_)
      · refine lv_iload_n hx hb dX9_by_78 rfl (lv_at hl 1 rfl) ?_
        refine lv_iload hx hb dX9_by_79 (lv_at hl 0 rfl) ?_
        refine iv_idivT hx hb dX9_by_81 (by omega) ?_
        exact Ct.iret hx hb hr hlocks (hP.sub [0, 1, 2] rfl) (hD.sub [0, 1, 2] (by decide) rfl) hS ⟨by decide, by decide⟩ dX9_by_82 ⟨(Int.tdiv (byBe fw M) r17), rfl, rfl, (by unfold byR; rw [if_neg (by omega), if_neg (by omega), ← hgg]; first | rw [if_pos (by omega)] | rw [if_neg (by omega)])⟩
      · refine lv_iload_n hx hb dX9_by_71 rfl (lv_at hl 2 rfl) ?_
        refine lv_iload hx hb dX9_by_72 (lv_at hl 0 rfl) ?_
        refine iv_idivT hx hb dX9_by_74 (by omega) ?_
        refine lv_goto (tgt := 82) hx hb dX9_by_75 (by decide) ?_
        exact Ct.iret hx hb hr hlocks (hP.sub [0, 1, 2] rfl) (hD.sub [0, 1, 2] (by decide) rfl) hS ⟨by decide, by decide⟩ dX9_by_82 ⟨(Int.tdiv (byAb fw fo M) r17), rfl, rfl, (by unfold byR; rw [if_neg (by omega), if_neg (by omega), ← hgg]; first | rw [if_pos (by omega)] | rw [if_neg (by omega)])⟩
    · show W p l e _ s m _ below meth c H locs 0 0 _ (F0 m 17 ls (.int (iI 0) :: []))
      have hb3 : ¬ (¬ (mW fw 0 M = 0 ∨ mW fw 1 M = 0)) := hb3
      have hP : va_P g.1 vwCl [(hm, .inr (9, mF a i)), ((a 31), aI (g.2.1 0) 12 fw), ((a 32), aI (g.2.1 0) 12 fo)] H := hP
      have hD : va_D A [(hm, .inr (9, mF a i)), ((a 31), aI (g.2.1 0) 12 fw), ((a 32), aI (g.2.1 0) 12 fo)] := hD
      refine iv_if_ne (tgt := 24) hx hb dX9_by_17 (by decide) (by decide) (fun h => absurd h (by decide)) (fun _ => ?_)
      refine iv_ldcw (v := -100002) (z := -100002) hx hb hown (hts _ (List.mem_of_getElem? (i := 2) rfl)) dX9_by_20 (by decide) ?_
      exact Ct.iret hx hb hr hlocks (hP.sub [0, 1, 2] rfl) (hD.sub [0, 1, 2] (by decide) rfl) hS ⟨by decide, by decide⟩ dX9_by_23 ⟨(-100002), rfl, rfl, (by unfold byR; (repeat' split) <;> first | rfl | omega)⟩
  · show W p l e _ s m _ below meth c H locs 0 0 _ (F0 m 7 ls (.int (iI 0) :: []))
    have hb1 : ¬ (0 ≤ what ∧ what ≤ 1) := hb1
    have hP : va_P g.1 vwCl [(hm, .inr (9, mF a i)), ((a 31), aI (g.2.1 0) 12 fw), ((a 32), aI (g.2.1 0) 12 fo)] H := hP
    have hD : va_D A [(hm, .inr (9, mF a i)), ((a 31), aI (g.2.1 0) 12 fw), ((a 32), aI (g.2.1 0) 12 fo)] := hD
    refine iv_if_ne (tgt := 13) hx hb dX9_by_7 (by decide) (by decide) (fun h => absurd h (by decide)) (fun _ => ?_)
    refine iv_ldc (v := -100001) (z := -100001) hx hb hown (hts _ (List.mem_of_getElem? (i := 1) rfl)) dX9_by_10 (by decide) ?_
    exact Ct.iret hx hb hr hlocks (hP.sub [0, 1, 2] rfl) (hD.sub [0, 1, 2] (by decide) rfl) hS ⟨by decide, by decide⟩ dX9_by_12 ⟨(-100001), rfl, rfl, (by unfold byR; (repeat' split) <;> first | rfl | omega)⟩
