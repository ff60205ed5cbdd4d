theorem kX9_clause_9 : ∀ w ∈ u_ws RX9 TX9 37, w ∈ wsX9_clause := fun _ h => List.mem_cons_of_mem _ (List.mem_append_right _ h)
abbrev q_X9_clause (g : GT) (hm : Nat) (a : Nat → Nat) (i : Nat → Int) (ft : Nat → Int) (L : Nat) (q : Nat) (rh : Nat → Int) (rg : Nat → Int) (rl : Nat → Int) : Option Value → va_W → Prop := fun v w => ∃ (i' : Nat → Int), ∃ (rh' : Nat → Int), ∃ (rg' : Nat → Int), ∃ (rl' : Nat → Int), v = none ∧ w = [(hm, .inr (9, mF a i')), ((a 15), aI (g.2.1 0) 100 ft), ((a 24), aI (g.2.1 0) 8 rh'), ((a 25), aI (g.2.1 0) 8 rg'), ((a 26), aI (g.2.1 0) 8 rl')] ∧ (∀ k, ¬ k = 17 → ¬ k = 18 → ¬ k = 23 → i' k = i k) ∧ (((clF ft L (hsM (i 23)) q).1 = 1 ∧ i' 18 = 0 ∧ i' 17 = (((clF ft L (hsM (i 23)) q).2.1 : Nat) : Int) ∧ i' 23 = (((i 23).toNat ||| 2 ^ (clF ft L (hsM (i 23)) q).2.2.1 : Nat) : Int) ∧ rh' = va_up rh (clF ft L (hsM (i 23)) q).2.2.1 (clF ft L (hsM (i 23)) q).2.2.2.1 ∧ rg' = va_up rg (clF ft L (hsM (i 23)) q).2.2.1 (clF ft L (hsM (i 23)) q).2.2.2.2.1 ∧ rl' = va_up rl (clF ft L (hsM (i 23)) q).2.2.1 (((clF ft L (hsM (i 23)) q).2.2.2.2.2 : Nat) : Int)) ∨ (¬ (clF ft L (hsM (i 23)) q).1 = 1 ∧ i' 18 = 1 ∧ i' 17 = (((clF ft L (hsM (i 23)) q).2.1 : Nat) : Int) ∧ i' 23 = i 23)) ∧ (RgR rh rg rl → RgR rh' rg' rl')
set_option maxHeartbeats 4000000 in
set_option maxRecDepth 100000 in
theorem c_X9_clause (l : Launch) (g : GT) (hm : Nat) (a : Nat → Nat) (i : Nat → Int) (ft : Nat → Int) (L : Nat) (q : Nat) (rh : Nat → Int) (rg : Nat → Int) (rl : Nat → Int) (h1 : i 16 = (L : Int) ∧ L ≤ 100 ∧ i 17 = (q : Int) ∧ q ≤ L ∧ i 18 = 0 ∧ 0 ≤ i 23 ∧ i 23 < 256) (hT : ∀ j, j < L → 32 ≤ ft j ∧ ft j ≤ 126) : Ct l g yX9_clause wsX9_clause ({ frames := 2, cells := 0, slots := 0, locals := 49 } : Room) [.ref hm] [(hm, .inr (9, mF a i)), ((a 15), aI (g.2.1 0) 100 ft), ((a 24), aI (g.2.1 0) 8 rh), ((a 25), aI (g.2.1 0) 8 rg), ((a 26), aI (g.2.1 0) 8 rl)] (q_X9_clause g hm a i ft L q rh rg rl) := by
  refine Ct.intro (maxL := 6) (ret := none) (by decide) rfl (Nat.le_of_ble_eq_true rfl) ?_
  intro p e s m below meth c A ls hx hb hr hml hown hts hlocks hnm hA hG hP hD hS hl
  have hown : s.vm.findClass RX9 = some m.cls := hown
  have hl : lv_has ls 6 [(0, .ref hm)] := hl
  have hP : va_P g.1 vwCl [(hm, .inr (9, mF a i)), ((a 15), aI (g.2.1 0) 100 ft), ((a 24), aI (g.2.1 0) 8 rh), ((a 25), aI (g.2.1 0) 8 rg), ((a 26), aI (g.2.1 0) 8 rl)] s.heap := hP
  have hS : va_S A s.heap s.heap [] := hS
  obtain ⟨H, hHe⟩ : ∃ H : Heap, H = s.heap := ⟨_, rfl⟩
  obtain ⟨locs, hLe⟩ : ∃ L : List Loc, L = [] := ⟨_, rfl⟩
  have hP : va_P g.1 vwCl [(hm, .inr (9, mF a i)), ((a 15), aI (g.2.1 0) 100 ft), ((a 24), aI (g.2.1 0) 8 rh), ((a 25), aI (g.2.1 0) 8 rg), ((a 26), aI (g.2.1 0) 8 rl)] H := by rw [hHe]; exact hP
  have hS : va_S A s.heap H locs := by rw [hHe, hLe]; exact hS
  suffices hgo : W p l e ({ frames := 2, cells := 0, slots := 0, locals := 49 } : Room) s m [.ref hm].toArray below meth c H locs 0 0 (MQ below (CQ g (q_X9_clause g hm a i ft L q rh rg rl) A) [.ref hm].toArray s ({ frames := 2, cells := 0, slots := 0, locals := 49 } : Room).cells ({ frames := 2, cells := 0, slots := 0, locals := 49 } : Room).slots A) (F0 m 0 ls []) by rw [hHe, hLe] at hgo; exact hgo
  clear hHe hLe
  refine lv_aload_n hx hb dX9_clause_0 rfl (lv_at hl 0 rfl) ?_
  refine lv_iconst (v := iI (0)) hx hb dX9_clause_1 rfl ?_
  refine Ct.callV (ci := 9) (q0 := 0) (qc := (RX9, TX9, 37)) (As := [.int (iI 0)]) (rest := []) (wr := [((a 24), aI (g.2.1 0) 8 rh), ((a 25), aI (g.2.1 0) 8 rg), ((a 26), aI (g.2.1 0) 8 rl)]) (c1 := 0) (s1 := 0) ⟨hx, hb, hml, hown, hts⟩ (c_X9_letter l g hm a i ft L q 0 (⟨by omega, by omega, by omega, by omega, by omega⟩) (hT) (by omega)) rfl rfl (cwV 1 hts gX9_clause_X9_letter rfl rfl rfl (by decide +kernel) ⟨Nat.le_of_ble_eq_true rfl, Nat.le_of_ble_eq_true rfl⟩) hG hP hD hS hA [0, 1] [2, 3, 4] rfl rfl (by decide) (by decide) (by decide) rfl hl.1 rfl (Nat.le_of_ble_eq_true rfl) dX9_clause_2 ⟨Nat.le_of_ble_eq_true rfl, Nat.le_of_ble_eq_true rfl⟩ rfl rfl (fun v w H locs hv hP hD hS => ?_)
  obtain ⟨r1, i2, rfl, rfl, hf3, hf4⟩ := hv
  show W p l e _ s m _ below meth c H locs 0 0 _ (F0 m 5 ls (.int (iI r1) :: []))
  have hP : va_P g.1 vwCl [((a 24), aI (g.2.1 0) 8 rh), ((a 25), aI (g.2.1 0) 8 rg), ((a 26), aI (g.2.1 0) 8 rl), (hm, .inr (9, mF a i2)), ((a 15), aI (g.2.1 0) 100 ft)] H := hP
  have hD : va_D A [((a 24), aI (g.2.1 0) 8 rh), ((a 25), aI (g.2.1 0) 8 rg), ((a 26), aI (g.2.1 0) 8 rl), (hm, .inr (9, mF a i2)), ((a 15), aI (g.2.1 0) 100 ft)] := hD
  have hf4 : (i 18 = 1 ∧ i2 17 = i 17 ∧ i2 18 = 1 ∧ r1 = 0) ∨ (i 18 = 0 ∧ (ltP ft L q ∧ hsM (i 23) (ltS ft L q) = 0) ∧ i2 17 = (sk ft L q : Int) + 1 ∧ i2 18 = 0 ∧ r1 = (ltS ft L q : Int)) ∨ (i 18 = 0 ∧ ¬ (ltP ft L q ∧ hsM (i 23) (ltS ft L q) = 0) ∧ i2 17 = (sk ft L q : Int) ∧ i2 18 = 1 ∧ r1 = 0) := hf4
  have hr8 : 0 ≤ r1 ∧ r1 < 8 := (by rcases hf4 with z | z | z; omega; (have := ltS_lt z.2.1.1; omega); omega)
  obtain ⟨s1, hs1⟩ : ∃ s1 : Nat, r1 = (s1 : Int) ∧ s1 < 8 := ⟨r1.toNat, by omega, by omega⟩
  have H1 : StA (i2 17) (i2 18) L (cA ft L q) (ClC ft L (hsM (i 23)) q s1 1 0 0) (ClB ft L (hsM (i 23)) q) := (by rcases hf4 with z | z | z; (exfalso; omega); exact Or.inl ⟨z.2.2.2.1, ⟨⟨z.2.1.1, by rw [z.2.1.2]; omega⟩, by omega, fun h => absurd h (by omega), fun h => absurd h (by omega), fun h => absurd h (by omega), fun h => absurd h (by omega)⟩, by rw [z.2.2.1]; unfold cA; omega, cA_le z.2.1.1⟩; exact Or.inr ⟨z.2.2.2.1, sk ft L q, z.2.2.1, (sk_le ft (by omega)).2, clF_0 (fun w => z.2.1 ⟨w.1, (by have := hsM_01 (rb := i 23) (ltS ft L q); omega)⟩)⟩)
  have HC0 : ∀ k, ¬ k = 17 → ¬ k = 18 → i2 k = i k := hf3
  have hj0 := hf3
  have hj16 := hf3 16 (by decide) (by decide)
  have hj23 := hf3 23 (by decide) (by decide)
  obtain ⟨⟨q1, hq1⟩, hw1⟩ := H1.at
  refine lv_istore_n (lv' := [(1, .int (iI r1)), (0, .ref hm)]) hx hb dX9_clause_5 rfl hl (by decide) rfl (fun ls hl => ?_)
  refine lv_aload_n hx hb dX9_clause_6 rfl (lv_at hl 1 rfl) ?_
  refine lv_bipush (v := iI (61)) hx hb dX9_clause_7 (by decide) ?_
  refine Ct.callV (ci := 9) (q0 := 3) (qc := (RX9, TX9, 37)) (As := [.int (iI 61)]) (rest := []) (wr := [((a 24), aI (g.2.1 0) 8 rh), ((a 25), aI (g.2.1 0) 8 rg), ((a 26), aI (g.2.1 0) 8 rl)]) (c1 := 0) (s1 := 0) ⟨hx, hb, hml, hown, hts⟩ (c_X9_needs l g hm a i2 ft L q1 61 (⟨by omega, by omega, by omega, by omega, hw1⟩) (hT) (by omega)) rfl rfl (cwV 1 hts gX9_clause_X9_needs rfl rfl rfl (by decide +kernel) ⟨Nat.le_of_ble_eq_true rfl, Nat.le_of_ble_eq_true rfl⟩) hG hP hD hS hA [3, 4] [0, 1, 2] rfl rfl (by decide) (by decide) (by decide) rfl hl.1 rfl (Nat.le_of_ble_eq_true rfl) dX9_clause_9 ⟨Nat.le_of_ble_eq_true rfl, Nat.le_of_ble_eq_true rfl⟩ rfl rfl (fun v w H locs hv hP hD hS => ?_)
  obtain ⟨i5, rfl, rfl, hf6, hf7⟩ := hv
  show W p l e _ s m _ below meth c H locs 0 0 _ (F0 m 12 ls [])
  have hP : va_P g.1 vwCl [((a 24), aI (g.2.1 0) 8 rh), ((a 25), aI (g.2.1 0) 8 rg), ((a 26), aI (g.2.1 0) 8 rl), (hm, .inr (9, mF a i5)), ((a 15), aI (g.2.1 0) 100 ft)] H := hP
  have hD : va_D A [((a 24), aI (g.2.1 0) 8 rh), ((a 25), aI (g.2.1 0) 8 rg), ((a 26), aI (g.2.1 0) 8 rl), (hm, .inr (9, mF a i5)), ((a 15), aI (g.2.1 0) 100 ft)] := hD
  have hf7 : (i2 18 = 1 ∧ i5 17 = i2 17 ∧ i5 18 = 1) ∨ (i2 18 = 0 ∧ psP ft L 61 q1 ∧ i5 17 = (sk ft L q1 : Int) + 1 ∧ i5 18 = 0) ∨ (i2 18 = 0 ∧ ¬ psP ft L 61 q1 ∧ i5 17 = (sk ft L q1 : Int) ∧ i5 18 = 1) := hf7
  have H2 : StA (i5 17) (i5 18) L (cB ft L q) (ClC ft L (hsM (i 23)) q s1 2 0 0) (ClB ft L (hsM (i 23)) q) := H1.step (P := psP ft L 61) (X := fun z => (sk ft L z : Int) + 1) (Y := fun z => (sk ft L z : Int)) hq1.1 hf7 (fun c h => ⟨by unfold cB; omega, cB_le h, ⟨c.1, c.2.1, fun _ => h, fun h9 => absurd h9 (by omega), fun h9 => absurd h9 (by omega), fun h9 => absurd h9 (by omega)⟩⟩) (fun c h => ⟨_, rfl, (sk_le ft (cA_le c.1.1)).2, clF_1 c.1 h⟩)
  have HC0 : ∀ k, ¬ k = 17 → ¬ k = 18 → i5 k = i k := fun k h17 h18 => (hf6 k h17 h18).trans (HC0 k h17 h18)
  have hj0 := hf6
  have hj16 := hf6 16 (by decide) (by decide)
  have hj23 := hf6 23 (by decide) (by decide)
  obtain ⟨⟨q2, hq2⟩, hw2⟩ := H2.at
  refine lv_aload_n hx hb dX9_clause_12 rfl (lv_at hl 1 rfl) ?_
  refine lv_iconst (v := iI (1)) hx hb dX9_clause_13 rfl ?_
  refine lv_bipush (v := iI (20)) hx hb dX9_clause_14 (by decide) ?_
  refine Ct.callV (ci := 9) (q0 := 3) (qc := (RX9, TX9, 37)) (As := [.int (iI 1), .int (iI 20)]) (rest := []) (wr := [((a 24), aI (g.2.1 0) 8 rh), ((a 25), aI (g.2.1 0) 8 rg), ((a 26), aI (g.2.1 0) 8 rl)]) (c1 := 0) (s1 := 0) ⟨hx, hb, hml, hown, hts⟩ (c_X9_number l g hm a i5 ft L q2 1 20 (⟨by omega, by omega, by omega, by omega, hw2⟩) (hT) (by omega)) rfl rfl (cwV 2 hts gX9_clause_X9_number rfl rfl rfl (by decide +kernel) ⟨Nat.le_of_ble_eq_true rfl, Nat.le_of_ble_eq_true rfl⟩) hG hP hD hS hA [3, 4] [0, 1, 2] rfl rfl (by decide) (by decide) (by decide) rfl hl.1 rfl (Nat.le_of_ble_eq_true rfl) dX9_clause_16 ⟨Nat.le_of_ble_eq_true rfl, Nat.le_of_ble_eq_true rfl⟩ rfl rfl (fun v w H locs hv hP hD hS => ?_)
  obtain ⟨r8, i9, rfl, rfl, hf10, hf11, hf12⟩ := hv
  show W p l e _ s m _ below meth c H locs 0 0 _ (F0 m 19 ls (.int (iI r8) :: []))
  have hP : va_P g.1 vwCl [((a 24), aI (g.2.1 0) 8 rh), ((a 25), aI (g.2.1 0) 8 rg), ((a 26), aI (g.2.1 0) 8 rl), (hm, .inr (9, mF a i9)), ((a 15), aI (g.2.1 0) 100 ft)] H := hP
  have hD : va_D A [((a 24), aI (g.2.1 0) 8 rh), ((a 25), aI (g.2.1 0) 8 rg), ((a 26), aI (g.2.1 0) 8 rl), (hm, .inr (9, mF a i9)), ((a 15), aI (g.2.1 0) 100 ft)] := hD
  have hf11 : (i5 18 = 1 ∧ i9 17 = i5 17 ∧ i9 18 = 1) ∨ (i5 18 = 0 ∧ nuP ft L 1 20 q2 ∧ i9 17 = (nuE ft L q2 : Int) ∧ i9 18 = 0 ∧ r8 = nuV ft L q2) ∨ (i5 18 = 0 ∧ ¬ nuP ft L 1 20 q2 ∧ i9 17 = (sk ft L q2 : Int) ∧ i9 18 = 1) := hf11
  have hf12 : 0 ≤ r8 ∧ r8 ≤ 100000 := hf12
  have hvr1 := hf12
  obtain ⟨v1, hv1⟩ : ∃ v1 : Int, r8 = v1 := ⟨_, rfl⟩
  have H3 : StA (i9 17) (i9 18) L (cC ft L q) (ClC ft L (hsM (i 23)) q s1 3 v1 0) (ClB ft L (hsM (i 23)) q) := H2.stepE (P := nuP ft L 1 20) (X := fun z => (nuE ft L z : Int)) (Y := fun z => (sk ft L z : Int)) (E := fun z => r8 = nuV ft L z) hq2.1 hf11 (fun c h e9 => ⟨rfl, cC_le (c.2.2.1 (by omega)), ⟨c.1, c.2.1, fun _ => c.2.2.1 (by omega), fun _ => ⟨h, by rw [← hv1]; exact e9⟩, fun h9 => absurd h9 (by omega), fun h9 => absurd h9 (by omega)⟩⟩) (fun c h => ⟨_, rfl, (sk_le ft (cB_le (c.2.2.1 (by omega)))).2, clF_2 c.1 (c.2.2.1 (by omega)) h⟩)
  have HC0 : ∀ k, ¬ k = 17 → ¬ k = 18 → i9 k = i k := fun k h17 h18 => (hf10 k h17 h18).trans (HC0 k h17 h18)
  have hj0 := hf10
  have hj16 := hf10 16 (by decide) (by decide)
  have hj23 := hf10 23 (by decide) (by decide)
  obtain ⟨⟨q3, hq3⟩, hw3⟩ := H3.at
  refine lv_istore_n (lv' := [(2, .int (iI r8)), (1, .int (iI r1)), (0, .ref hm)]) hx hb dX9_clause_19 rfl hl (by decide) rfl (fun ls hl => ?_)
  refine lv_aload_n hx hb dX9_clause_20 rfl (lv_at hl 2 rfl) ?_
  refine lv_bipush (v := iI (47)) hx hb dX9_clause_21 (by decide) ?_
  refine Ct.callV (ci := 9) (q0 := 3) (qc := (RX9, TX9, 37)) (As := [.int (iI 47)]) (rest := []) (wr := [((a 24), aI (g.2.1 0) 8 rh), ((a 25), aI (g.2.1 0) 8 rg), ((a 26), aI (g.2.1 0) 8 rl)]) (c1 := 0) (s1 := 0) ⟨hx, hb, hml, hown, hts⟩ (c_X9_needs l g hm a i9 ft L q3 47 (⟨by omega, by omega, by omega, by omega, hw3⟩) (hT) (by omega)) rfl rfl (cwV 1 hts gX9_clause_X9_needs rfl rfl rfl (by decide +kernel) ⟨Nat.le_of_ble_eq_true rfl, Nat.le_of_ble_eq_true rfl⟩) hG hP hD hS hA [3, 4] [0, 1, 2] rfl rfl (by decide) (by decide) (by decide) rfl hl.1 rfl (Nat.le_of_ble_eq_true rfl) dX9_clause_23 ⟨Nat.le_of_ble_eq_true rfl, Nat.le_of_ble_eq_true rfl⟩ rfl rfl (fun v w H locs hv hP hD hS => ?_)
  obtain ⟨i13, rfl, rfl, hf14, hf15⟩ := hv
  show W p l e _ s m _ below meth c H locs 0 0 _ (F0 m 26 ls [])
  have hP : va_P g.1 vwCl [((a 24), aI (g.2.1 0) 8 rh), ((a 25), aI (g.2.1 0) 8 rg), ((a 26), aI (g.2.1 0) 8 rl), (hm, .inr (9, mF a i13)), ((a 15), aI (g.2.1 0) 100 ft)] H := hP
  have hD : va_D A [((a 24), aI (g.2.1 0) 8 rh), ((a 25), aI (g.2.1 0) 8 rg), ((a 26), aI (g.2.1 0) 8 rl), (hm, .inr (9, mF a i13)), ((a 15), aI (g.2.1 0) 100 ft)] := hD
  have hf15 : (i9 18 = 1 ∧ i13 17 = i9 17 ∧ i13 18 = 1) ∨ (i9 18 = 0 ∧ psP ft L 47 q3 ∧ i13 17 = (sk ft L q3 : Int) + 1 ∧ i13 18 = 0) ∨ (i9 18 = 0 ∧ ¬ psP ft L 47 q3 ∧ i13 17 = (sk ft L q3 : Int) ∧ i13 18 = 1) := hf15
  have H4 : StA (i13 17) (i13 18) L (cD ft L q) (ClC ft L (hsM (i 23)) q s1 4 v1 0) (ClB ft L (hsM (i 23)) q) := H3.step (P := psP ft L 47) (X := fun z => (sk ft L z : Int) + 1) (Y := fun z => (sk ft L z : Int)) hq3.1 hf15 (fun c h => ⟨by unfold cD; omega, cD_le h, ⟨c.1, c.2.1, fun _ => c.2.2.1 (by omega), fun _ => c.2.2.2.1 (by omega), fun _ => h, fun h9 => absurd h9 (by omega)⟩⟩) (fun c h => ⟨_, rfl, (sk_le ft (cC_le (c.2.2.1 (by omega)))).2, clF_3 c.1 (c.2.2.1 (by omega)) (c.2.2.2.1 (by omega)).1 h⟩)
  have HC0 : ∀ k, ¬ k = 17 → ¬ k = 18 → i13 k = i k := fun k h17 h18 => (hf14 k h17 h18).trans (HC0 k h17 h18)
  have hj0 := hf14
  have hj16 := hf14 16 (by decide) (by decide)
  have hj23 := hf14 23 (by decide) (by decide)
  obtain ⟨⟨q4, hq4⟩, hw4⟩ := H4.at
  refine lv_aload_n hx hb dX9_clause_26 rfl (lv_at hl 2 rfl) ?_
  refine lv_iconst (v := iI (0)) hx hb dX9_clause_27 rfl ?_
  refine lv_bipush (v := iI (99)) hx hb dX9_clause_28 (by decide) ?_
  refine Ct.callV (ci := 9) (q0 := 3) (qc := (RX9, TX9, 37)) (As := [.int (iI 0), .int (iI 99)]) (rest := []) (wr := [((a 24), aI (g.2.1 0) 8 rh), ((a 25), aI (g.2.1 0) 8 rg), ((a 26), aI (g.2.1 0) 8 rl)]) (c1 := 0) (s1 := 0) ⟨hx, hb, hml, hown, hts⟩ (c_X9_number l g hm a i13 ft L q4 0 99 (⟨by omega, by omega, by omega, by omega, hw4⟩) (hT) (by omega)) rfl rfl (cwV 2 hts gX9_clause_X9_number rfl rfl rfl (by decide +kernel) ⟨Nat.le_of_ble_eq_true rfl, Nat.le_of_ble_eq_true rfl⟩) hG hP hD hS hA [3, 4] [0, 1, 2] rfl rfl (by decide) (by decide) (by decide) rfl hl.1 rfl (Nat.le_of_ble_eq_true rfl) dX9_clause_30 ⟨Nat.le_of_ble_eq_true rfl, Nat.le_of_ble_eq_true rfl⟩ rfl rfl (fun v w H locs hv hP hD hS => ?_)
  obtain ⟨r16, i17, rfl, rfl, hf18, hf19, hf20⟩ := hv
  show W p l e _ s m _ below meth c H locs 0 0 _ (F0 m 33 ls (.int (iI r16) :: []))
  have hP : va_P g.1 vwCl [((a 24), aI (g.2.1 0) 8 rh), ((a 25), aI (g.2.1 0) 8 rg), ((a 26), aI (g.2.1 0) 8 rl), (hm, .inr (9, mF a i17)), ((a 15), aI (g.2.1 0) 100 ft)] H := hP
  have hD : va_D A [((a 24), aI (g.2.1 0) 8 rh), ((a 25), aI (g.2.1 0) 8 rg), ((a 26), aI (g.2.1 0) 8 rl), (hm, .inr (9, mF a i17)), ((a 15), aI (g.2.1 0) 100 ft)] := hD
  have hf19 : (i13 18 = 1 ∧ i17 17 = i13 17 ∧ i17 18 = 1) ∨ (i13 18 = 0 ∧ nuP ft L 0 99 q4 ∧ i17 17 = (nuE ft L q4 : Int) ∧ i17 18 = 0 ∧ r16 = nuV ft L q4) ∨ (i13 18 = 0 ∧ ¬ nuP ft L 0 99 q4 ∧ i17 17 = (sk ft L q4 : Int) ∧ i17 18 = 1) := hf19
  have hf20 : 0 ≤ r16 ∧ r16 ≤ 100000 := hf20
  have hvr2 := hf20
  obtain ⟨v2, hv2⟩ : ∃ v2 : Int, r16 = v2 := ⟨_, rfl⟩
  have H5 : StA (i17 17) (i17 18) L (cE ft L q) (ClC ft L (hsM (i 23)) q s1 5 v1 v2) (ClB ft L (hsM (i 23)) q) := H4.stepE (P := nuP ft L 0 99) (X := fun z => (nuE ft L z : Int)) (Y := fun z => (sk ft L z : Int)) (E := fun z => r16 = nuV ft L z) hq4.1 hf19 (fun c h e9 => ⟨rfl, cE_le (c.2.2.2.2.1 (by omega)), ⟨c.1, c.2.1, fun _ => c.2.2.1 (by omega), fun _ => c.2.2.2.1 (by omega), fun _ => c.2.2.2.2.1 (by omega), fun _ => ⟨h, by rw [← hv2]; exact e9⟩⟩⟩) (fun c h => ⟨_, rfl, (sk_le ft (cD_le (c.2.2.2.2.1 (by omega)))).2, clF_4 c.1 (c.2.2.1 (by omega)) (c.2.2.2.1 (by omega)).1 (c.2.2.2.2.1 (by omega)) h⟩)
  have HC0 : ∀ k, ¬ k = 17 → ¬ k = 18 → i17 k = i k := fun k h17 h18 => (hf18 k h17 h18).trans (HC0 k h17 h18)
  have hj0 := hf18
  have hj16 := hf18 16 (by decide) (by decide)
  have hj23 := hf18 23 (by decide) (by decide)
  obtain ⟨⟨q5, hq5⟩, hw5⟩ := H5.at
  refine lv_istore_n (lv' := [(3, .int (iI r16)), (2, .int (iI r8)), (1, .int (iI r1)), (0, .ref hm)]) hx hb dX9_clause_33 rfl hl (by decide) rfl (fun ls hl => ?_)
  refine lv_iconst (v := iI (0)) hx hb dX9_clause_34 rfl ?_
  refine lv_istore (lv' := [(4, .int (iI 0)), (3, .int (iI r16)), (2, .int (iI r8)), (1, .int (iI r1)), (0, .ref hm)]) hx hb dX9_clause_35 hl (by decide) rfl (fun ls hl => ?_)
  have hjoin58 : ∀ (mo : Int) (iz : Nat → Int) (hJ0 : ∀ k, ¬ k = 17 → ¬ k = 18 → iz k = i k) (hJ : (mo = 1 ∧ iz 18 = 0 ∧ (ClC ft L (hsM (i 23)) q s1 5 v1 v2) ∧ psP ft L 58 (cE ft L q) ∧ iz 17 = (sk ft L (cE ft L q) : Int)) ∨ (mo = 0 ∧ ClD ft L (hsM (i 23)) q s1 v1 v2 0 (iz 17) (iz 18))), ∀ (H : Heap) (locs : List Loc) (ls : Array Slot), va_P g.1 vwCl [((a 24), aI (g.2.1 0) 8 rh), ((a 25), aI (g.2.1 0) 8 rg), ((a 26), aI (g.2.1 0) 8 rl), (hm, .inr (9, mF a iz)), ((a 15), aI (g.2.1 0) 100 ft)] H → va_D A [((a 24), aI (g.2.1 0) 8 rh), ((a 25), aI (g.2.1 0) 8 rg), ((a 26), aI (g.2.1 0) 8 rl), (hm, .inr (9, mF a iz)), ((a 15), aI (g.2.1 0) 100 ft)] → va_S A s.heap H locs → lv_has ls 6 [(4, .int (iI 0)), (3, .int (iI r16)), (2, .int (iI r8)), (1, .int (iI r1)), (0, .ref hm)] → W p l e ({ frames := 2, cells := 0, slots := 0, locals := 49 } : Room) s m [.ref hm].toArray below meth c H locs 0 0 (MQ below (CQ g (q_X9_clause g hm a i ft L q rh rg rl) A) [.ref hm].toArray s ({ frames := 2, cells := 0, slots := 0, locals := 49 } : Room).cells ({ frames := 2, cells := 0, slots := 0, locals := 49 } : Room).slots A) (F0 m 58 ls [.int (iI mo)]) := by
    intro mo iz hJ0 hJ H locs ls hP hD hS hl
    refine lv_istore (lv' := [(5, .int (iI mo)), (4, .int (iI 0)), (3, .int (iI r16)), (2, .int (iI r8)), (1, .int (iI r1)), (0, .ref hm)]) hx hb dX9_clause_58 hl (by decide) rfl (fun ls hl => ?_)
    have hloop60 : ∀ (fuel : Nat) (bz : Int) (mo : Int) (iz2 : Nat → Int) (m9 : Nat) (p9 : Nat) (b9 : Nat) (hI0 : ∀ k, ¬ k = 17 → ¬ k = 18 → iz2 k = i k) (hbb : bz = (b9 : Int) ∧ b9 < 256 ∧ (mo = 0 ∨ mo = 1)) (hI : (mo = 1 ∧ iz2 18 = 0 ∧ (ClC ft L (hsM (i 23)) q s1 5 v1 v2) ∧ psP ft L 58 (cE ft L q) ∧ iz2 17 + 1 = (p9 : Int) ∧ p9 ≤ L ∧ 2 * m9 ≤ p9 ∧ lnF ft L (hsM (i 23)) (100 - m9) p9 b9 = lnF ft L (hsM (i 23)) 100 (cG ft L q) 0) ∨ (mo = 0 ∧ ClD ft L (hsM (i 23)) q s1 v1 v2 b9 (iz2 17) (iz2 18))) (hmeas : 100 - m9 < fuel), ∀ (H : Heap) (locs : List Loc) (ls : Array Slot), va_P g.1 vwCl [((a 24), aI (g.2.1 0) 8 rh), ((a 25), aI (g.2.1 0) 8 rg), ((a 26), aI (g.2.1 0) 8 rl), (hm, .inr (9, mF a iz2)), ((a 15), aI (g.2.1 0) 100 ft)] H → va_D A [((a 24), aI (g.2.1 0) 8 rh), ((a 25), aI (g.2.1 0) 8 rg), ((a 26), aI (g.2.1 0) 8 rl), (hm, .inr (9, mF a iz2)), ((a 15), aI (g.2.1 0) 100 ft)] → va_S A s.heap H locs → lv_has ls 6 [(5, .int (iI mo)), (4, .int (iI bz)), (3, .int (iI r16)), (2, .int (iI r8)), (1, .int (iI r1)), (0, .ref hm)] → W p l e ({ frames := 2, cells := 0, slots := 0, locals := 49 } : Room) s m [.ref hm].toArray below meth c H locs 0 0 (MQ below (CQ g (q_X9_clause g hm a i ft L q rh rg rl) A) [.ref hm].toArray s ({ frames := 2, cells := 0, slots := 0, locals := 49 } : Room).cells ({ frames := 2, cells := 0, slots := 0, locals := 49 } : Room).slots A) (F0 m 60 ls []) := by
      intro fuel
      induction fuel with
      | zero => intro bz mo iz2 m9 p9 b9 hI0 hbb hI hmeas; exact absurd hmeas (Nat.not_lt_zero _)
      | succ fuel ih60 =>
        intro bz mo iz2 m9 p9 b9 hI0 hbb hI hmeas H locs ls hP hD hS hl
        refine lv_iload hx hb dX9_clause_60 (lv_at hl 0 rfl) ?_
        refine iv_if_eq (tgt := 113) hx hb dX9_clause_62 (by decide) (by omega) (fun hc21 => ?_) (fun hc21 => ?_)
        · have hDn := (hI.resolve_left (fun z => by have := z.1; omega)).2
          have hw9 : iz2 18 = 0 ∨ iz2 18 = 1 := (by rcases hDn with z | z; exact Or.inl z.1; exact Or.inr z.1)
          have hi23 := hI0 23 (by decide) (by decide)
          refine lv_aload_n hx hb dX9_clause_113 rfl (lv_at hl 5 rfl) ?_
          refine lv_dup hx hb dX9_clause_114 rfl ?_
          refine va_get (D := g.1) (ci := 9) (v := .int (iI (iz2 23))) hx hb hts kX9_clause_9 hown hG.1 hP 3 rfl rfl 23 (by decide) (hts _ (List.mem_of_getElem? (i := 3) rfl)) (fun _ h9 => h9) rfl dX9_clause_115 ?_
          refine lv_aload_n hx hb dX9_clause_118 rfl (lv_at hl 5 rfl) ?_
          refine va_get (D := g.1) (ci := 9) (v := .int (iI (iz2 18))) hx hb hts kX9_clause_9 hown hG.1 hP 3 rfl rfl 18 (by decide) (hts _ (List.mem_of_getElem? (i := 1) rfl)) (fun _ h9 => h9) rfl dX9_clause_119 ?_
          refine iv_if_eq (tgt := 129) hx hb dX9_clause_122 (by decide) (by omega) (fun hc22 => ?_) (fun hc22 => ?_)
          · refine lv_iconst (v := iI (1)) hx hb dX9_clause_129 rfl ?_
            refine lv_iload_n hx hb dX9_clause_130 rfl (lv_at hl 4 rfl) ?_
            refine iv_ishl1 hx hb s1 dX9_clause_131 (by omega) ?_
            refine iv_ior (z := (((i 23).toNat ||| 2 ^ s1 : Nat) : Int)) hx hb dX9_clause_132 (by rw [hI0 23 (by decide) (by decide), show (2 : Int) ^ s1 = ((2 ^ s1 : Nat) : Int) from by simp, show i 23 = (((i 23).toNat : Nat) : Int) from by omega]; exact iI_orN _ _) ?_
            refine va_put (D := g.1) (ci := 9) (v := .int (iI (((i 23).toNat ||| 2 ^ s1 : Nat) : Int))) hx hb hts kX9_clause_9 tyX9 tyX9_ok nmX9 hown hG.1 hP hD hS 3 rfl rfl 23 (by decide) (hts _ (List.mem_of_getElem? (i := 3) rfl)) (fun _ h9 => h9) rfl (tyX9_ok 23 (by decide)) rfl rfl (Nat.le_of_ble_eq_true rfl) dX9_clause_133 (fun H locs hP hD hS => ?_)
            have hP : va_P g.1 vwCl [((a 24), aI (g.2.1 0) 8 rh), ((a 25), aI (g.2.1 0) 8 rg), ((a 26), aI (g.2.1 0) 8 rl), (hm, .inr (9, mF a (va_up iz2 23 (((i 23).toNat ||| 2 ^ s1 : Nat) : Int)))), ((a 15), aI (g.2.1 0) 100 ft)] H := hP
            have hD : va_D A [((a 24), aI (g.2.1 0) 8 rh), ((a 25), aI (g.2.1 0) 8 rg), ((a 26), aI (g.2.1 0) 8 rl), (hm, .inr (9, mF a (va_up iz2 23 (((i 23).toNat ||| 2 ^ s1 : Nat) : Int)))), ((a 15), aI (g.2.1 0) 100 ft)] := hD
            refine lv_aload_n hx hb dX9_clause_136 rfl (lv_at hl 5 rfl) ?_
            refine va_get (D := g.1) (ci := 9) (v := .ref (a 24)) hx hb hts kX9_clause_9 hown hG.1 hP 3 rfl rfl 24 (by decide) (hts _ (List.mem_of_getElem? (i := 4) rfl)) (fun _ h9 => h9) rfl dX9_clause_137 ?_
            refine lv_iload_n hx hb dX9_clause_140 rfl (lv_at hl 4 rfl) ?_
            refine lv_iload_n hx hb dX9_clause_141 rfl (lv_at hl 3 rfl) ?_
            refine iv_iast hx hb hG hP hD hS 0 rfl s1 (by omega) (by omega) (by decide) dX9_clause_142 (fun H locs hP hD hS => ?_)
            have hP : va_P g.1 vwCl [((a 24), aI (g.2.1 0) 8 (va_up rh s1 r8)), ((a 25), aI (g.2.1 0) 8 rg), ((a 26), aI (g.2.1 0) 8 rl), (hm, .inr (9, mF a (va_up iz2 23 (((i 23).toNat ||| 2 ^ s1 : Nat) : Int)))), ((a 15), aI (g.2.1 0) 100 ft)] H := hP
            have hD : va_D A [((a 24), aI (g.2.1 0) 8 (va_up rh s1 r8)), ((a 25), aI (g.2.1 0) 8 rg), ((a 26), aI (g.2.1 0) 8 rl), (hm, .inr (9, mF a (va_up iz2 23 (((i 23).toNat ||| 2 ^ s1 : Nat) : Int)))), ((a 15), aI (g.2.1 0) 100 ft)] := hD
            refine lv_aload_n hx hb dX9_clause_143 rfl (lv_at hl 5 rfl) ?_
            refine va_get (D := g.1) (ci := 9) (v := .ref (a 25)) hx hb hts kX9_clause_9 hown hG.1 hP 3 rfl rfl 25 (by decide) (hts _ (List.mem_of_getElem? (i := 5) rfl)) (fun _ h9 => h9) rfl dX9_clause_144 ?_
            refine lv_iload_n hx hb dX9_clause_147 rfl (lv_at hl 4 rfl) ?_
            refine lv_iload_n hx hb dX9_clause_148 rfl (lv_at hl 2 rfl) ?_
            refine iv_iast hx hb hG hP hD hS 1 rfl s1 (by omega) (by omega) (by decide) dX9_clause_149 (fun H locs hP hD hS => ?_)
            have hP : va_P g.1 vwCl [((a 24), aI (g.2.1 0) 8 (va_up rh s1 r8)), ((a 25), aI (g.2.1 0) 8 (va_up rg s1 r16)), ((a 26), aI (g.2.1 0) 8 rl), (hm, .inr (9, mF a (va_up iz2 23 (((i 23).toNat ||| 2 ^ s1 : Nat) : Int)))), ((a 15), aI (g.2.1 0) 100 ft)] H := hP
            have hD : va_D A [((a 24), aI (g.2.1 0) 8 (va_up rh s1 r8)), ((a 25), aI (g.2.1 0) 8 (va_up rg s1 r16)), ((a 26), aI (g.2.1 0) 8 rl), (hm, .inr (9, mF a (va_up iz2 23 (((i 23).toNat ||| 2 ^ s1 : Nat) : Int)))), ((a 15), aI (g.2.1 0) 100 ft)] := hD
            refine lv_aload_n hx hb dX9_clause_150 rfl (lv_at hl 5 rfl) ?_
            refine va_get (D := g.1) (ci := 9) (v := .ref (a 26)) hx hb hts kX9_clause_9 hown hG.1 hP 3 rfl rfl 26 (by decide) (hts _ (List.mem_of_getElem? (i := 6) rfl)) (fun _ h9 => h9) rfl dX9_clause_151 ?_
            refine lv_iload_n hx hb dX9_clause_154 rfl (lv_at hl 4 rfl) ?_
            refine lv_iload hx hb dX9_clause_155 (lv_at hl 1 rfl) ?_
            refine iv_iast hx hb hG hP hD hS 2 rfl s1 (by omega) (by omega) (by decide) dX9_clause_157 (fun H locs hP hD hS => ?_)
            have hP : va_P g.1 vwCl [((a 24), aI (g.2.1 0) 8 (va_up rh s1 r8)), ((a 25), aI (g.2.1 0) 8 (va_up rg s1 r16)), ((a 26), aI (g.2.1 0) 8 (va_up rl s1 bz)), (hm, .inr (9, mF a (va_up iz2 23 (((i 23).toNat ||| 2 ^ s1 : Nat) : Int)))), ((a 15), aI (g.2.1 0) 100 ft)] H := hP
            have hD : va_D A [((a 24), aI (g.2.1 0) 8 (va_up rh s1 r8)), ((a 25), aI (g.2.1 0) 8 (va_up rg s1 r16)), ((a 26), aI (g.2.1 0) 8 (va_up rl s1 bz)), (hm, .inr (9, mF a (va_up iz2 23 (((i 23).toNat ||| 2 ^ s1 : Nat) : Int)))), ((a 15), aI (g.2.1 0) 100 ft)] := hD
            exact Ct.vret hx hb hr hlocks (hP.sub [3, 4, 0, 1, 2] rfl) (hD.sub [3, 4, 0, 1, 2] (by decide) rfl) hS ⟨by decide, by decide⟩ dX9_clause_158 ⟨(va_up iz2 23 (((i 23).toNat ||| 2 ^ s1 : Nat) : Int)), (va_up rh s1 r8), (va_up rg s1 r16), (va_up rl s1 bz), rfl, rfl, (fun k h17 h18 h23 => (up_n _ _ _ _ h23).trans (hI0 k h17 h18)), (by rcases hDn with ⟨z1, q9, z2, z3, z4⟩ | ⟨z1, z2, z3, z4⟩; (first | (exfalso; omega) | (refine Or.inl ⟨by rw [z4], z1, by rw [z4]; exact z3, by rw [z4]; rfl, by rw [z4, hv1], by rw [z4, hv2], by rw [z4, hbb.1]⟩)); (first | (exfalso; omega) | (refine Or.inr ⟨by rw [z4]; omega, z1, z2, rfl⟩))), (fun hR j hj => if q : j = s1 then (by rw [q, up_s, up_s, up_s]; omega) else (by rw [up_n _ _ _ _ q, up_n _ _ _ _ q, up_n _ _ _ _ q]; exact hR j hj))⟩
          · refine lv_iconst (v := iI (0)) hx hb dX9_clause_125 rfl ?_
            refine lv_goto (tgt := 132) hx hb dX9_clause_126 (by decide) ?_
            refine iv_ior (z := (i 23)) hx hb dX9_clause_132 (by rw [hI0 23 (by decide) (by decide)]; exact iI_or0 (by omega)) ?_
            refine va_put (D := g.1) (ci := 9) (v := .int (iI (i 23))) hx hb hts kX9_clause_9 tyX9 tyX9_ok nmX9 hown hG.1 hP hD hS 3 rfl rfl 23 (by decide) (hts _ (List.mem_of_getElem? (i := 3) rfl)) (fun _ h9 => h9) rfl (tyX9_ok 23 (by decide)) rfl rfl (Nat.le_of_ble_eq_true rfl) dX9_clause_133 (fun H locs hP hD hS => ?_)
            have hP : va_P g.1 vwCl [((a 24), aI (g.2.1 0) 8 rh), ((a 25), aI (g.2.1 0) 8 rg), ((a 26), aI (g.2.1 0) 8 rl), (hm, .inr (9, mF a (va_up iz2 23 (i 23)))), ((a 15), aI (g.2.1 0) 100 ft)] H := hP
            have hD : va_D A [((a 24), aI (g.2.1 0) 8 rh), ((a 25), aI (g.2.1 0) 8 rg), ((a 26), aI (g.2.1 0) 8 rl), (hm, .inr (9, mF a (va_up iz2 23 (i 23)))), ((a 15), aI (g.2.1 0) 100 ft)] := hD
            refine lv_aload_n hx hb dX9_clause_136 rfl (lv_at hl 5 rfl) ?_
            refine va_get (D := g.1) (ci := 9) (v := .ref (a 24)) hx hb hts kX9_clause_9 hown hG.1 hP 3 rfl rfl 24 (by decide) (hts _ (List.mem_of_getElem? (i := 4) rfl)) (fun _ h9 => h9) rfl dX9_clause_137 ?_
            refine lv_iload_n hx hb dX9_clause_140 rfl (lv_at hl 4 rfl) ?_
            refine lv_iload_n hx hb dX9_clause_141 rfl (lv_at hl 3 rfl) ?_
            refine iv_iast hx hb hG hP hD hS 0 rfl s1 (by omega) (by omega) (by decide) dX9_clause_142 (fun H locs hP hD hS => ?_)
            have hP : va_P g.1 vwCl [((a 24), aI (g.2.1 0) 8 (va_up rh s1 r8)), ((a 25), aI (g.2.1 0) 8 rg), ((a 26), aI (g.2.1 0) 8 rl), (hm, .inr (9, mF a (va_up iz2 23 (i 23)))), ((a 15), aI (g.2.1 0) 100 ft)] H := hP
            have hD : va_D A [((a 24), aI (g.2.1 0) 8 (va_up rh s1 r8)), ((a 25), aI (g.2.1 0) 8 rg), ((a 26), aI (g.2.1 0) 8 rl), (hm, .inr (9, mF a (va_up iz2 23 (i 23)))), ((a 15), aI (g.2.1 0) 100 ft)] := hD
            refine lv_aload_n hx hb dX9_clause_143 rfl (lv_at hl 5 rfl) ?_
            refine va_get (D := g.1) (ci := 9) (v := .ref (a 25)) hx hb hts kX9_clause_9 hown hG.1 hP 3 rfl rfl 25 (by decide) (hts _ (List.mem_of_getElem? (i := 5) rfl)) (fun _ h9 => h9) rfl dX9_clause_144 ?_
            refine lv_iload_n hx hb dX9_clause_147 rfl (lv_at hl 4 rfl) ?_
            refine lv_iload_n hx hb dX9_clause_148 rfl (lv_at hl 2 rfl) ?_
            refine iv_iast hx hb hG hP hD hS 1 rfl s1 (by omega) (by omega) (by decide) dX9_clause_149 (fun H locs hP hD hS => ?_)
            have hP : va_P g.1 vwCl [((a 24), aI (g.2.1 0) 8 (va_up rh s1 r8)), ((a 25), aI (g.2.1 0) 8 (va_up rg s1 r16)), ((a 26), aI (g.2.1 0) 8 rl), (hm, .inr (9, mF a (va_up iz2 23 (i 23)))), ((a 15), aI (g.2.1 0) 100 ft)] H := hP
            have hD : va_D A [((a 24), aI (g.2.1 0) 8 (va_up rh s1 r8)), ((a 25), aI (g.2.1 0) 8 (va_up rg s1 r16)), ((a 26), aI (g.2.1 0) 8 rl), (hm, .inr (9, mF a (va_up iz2 23 (i 23)))), ((a 15), aI (g.2.1 0) 100 ft)] := hD
            refine lv_aload_n hx hb dX9_clause_150 rfl (lv_at hl 5 rfl) ?_
            refine va_get (D := g.1) (ci := 9) (v := .ref (a 26)) hx hb hts kX9_clause_9 hown hG.1 hP 3 rfl rfl 26 (by decide) (hts _ (List.mem_of_getElem? (i := 6) rfl)) (fun _ h9 => h9) rfl dX9_clause_151 ?_
            refine lv_iload_n hx hb dX9_clause_154 rfl (lv_at hl 4 rfl) ?_
            refine lv_iload hx hb dX9_clause_155 (lv_at hl 1 rfl) ?_
            refine iv_iast hx hb hG hP hD hS 2 rfl s1 (by omega) (by omega) (by decide) dX9_clause_157 (fun H locs hP hD hS => ?_)
            have hP : va_P g.1 vwCl [((a 24), aI (g.2.1 0) 8 (va_up rh s1 r8)), ((a 25), aI (g.2.1 0) 8 (va_up rg s1 r16)), ((a 26), aI (g.2.1 0) 8 (va_up rl s1 bz)), (hm, .inr (9, mF a (va_up iz2 23 (i 23)))), ((a 15), aI (g.2.1 0) 100 ft)] H := hP
            have hD : va_D A [((a 24), aI (g.2.1 0) 8 (va_up rh s1 r8)), ((a 25), aI (g.2.1 0) 8 (va_up rg s1 r16)), ((a 26), aI (g.2.1 0) 8 (va_up rl s1 bz)), (hm, .inr (9, mF a (va_up iz2 23 (i 23)))), ((a 15), aI (g.2.1 0) 100 ft)] := hD
            exact Ct.vret hx hb hr hlocks (hP.sub [3, 4, 0, 1, 2] rfl) (hD.sub [3, 4, 0, 1, 2] (by decide) rfl) hS ⟨by decide, by decide⟩ dX9_clause_158 ⟨(va_up iz2 23 (i 23)), (va_up rh s1 r8), (va_up rg s1 r16), (va_up rl s1 bz), rfl, rfl, (fun k h17 h18 h23 => (up_n _ _ _ _ h23).trans (hI0 k h17 h18)), (by rcases hDn with ⟨z1, q9, z2, z3, z4⟩ | ⟨z1, z2, z3, z4⟩; (first | (exfalso; omega) | (refine Or.inl ⟨by rw [z4], z1, by rw [z4]; exact z3, by rw [z4]; rfl, by rw [z4, hv1], by rw [z4, hv2], by rw [z4, hbb.1]⟩)); (first | (exfalso; omega) | (refine Or.inr ⟨by rw [z4]; omega, z1, z2, rfl⟩))), (fun hR j hj => if q : j = s1 then (by rw [q, up_s, up_s, up_s]; omega) else (by rw [up_n _ _ _ _ q, up_n _ _ _ _ q, up_n _ _ _ _ q]; exact hR j hj))⟩
        · obtain ⟨hA1, hA2, hA3, hA4, hA5, hA6, hA7, hA8⟩ := hI.resolve_right (fun z => by have := z.1; omega)
          have hs8 := sk_le ft (L := L) (p := p9) (by omega)
          have hi16 := hI0 16 (by decide) (by decide)
          have hi23 := hI0 23 (by decide) (by decide)
          refine lv_aload_n hx hb dX9_clause_65 rfl (lv_at hl 5 rfl) ?_
          refine lv_dup hx hb dX9_clause_66 rfl ?_
          refine va_get (D := g.1) (ci := 9) (v := .int (iI (iz2 17))) hx hb hts kX9_clause_9 hown hG.1 hP 3 rfl rfl 17 (by decide) (hts _ (List.mem_of_getElem? (i := 2) rfl)) (fun _ h9 => h9) rfl dX9_clause_67 ?_
          refine lv_iconst (v := iI (1)) hx hb dX9_clause_70 rfl ?_
          refine iv_iadd hx hb dX9_clause_71 ?_
          refine va_put (D := g.1) (ci := 9) (v := .int (iI ((iz2 17) + 1))) hx hb hts kX9_clause_9 tyX9 tyX9_ok nmX9 hown hG.1 hP hD hS 3 rfl rfl 17 (by decide) (hts _ (List.mem_of_getElem? (i := 2) rfl)) (fun _ h9 => h9) rfl (tyX9_ok 17 (by decide)) rfl rfl (Nat.le_of_ble_eq_true rfl) dX9_clause_72 (fun H locs hP hD hS => ?_)
          have hP : va_P g.1 vwCl [((a 24), aI (g.2.1 0) 8 rh), ((a 25), aI (g.2.1 0) 8 rg), ((a 26), aI (g.2.1 0) 8 rl), (hm, .inr (9, mF a (va_up iz2 17 ((iz2 17) + 1)))), ((a 15), aI (g.2.1 0) 100 ft)] H := hP
          have hD : va_D A [((a 24), aI (g.2.1 0) 8 rh), ((a 25), aI (g.2.1 0) 8 rg), ((a 26), aI (g.2.1 0) 8 rl), (hm, .inr (9, mF a (va_up iz2 17 ((iz2 17) + 1)))), ((a 15), aI (g.2.1 0) 100 ft)] := hD
          refine lv_iload hx hb dX9_clause_75 (lv_at hl 1 rfl) ?_
          refine lv_iconst (v := iI (1)) hx hb dX9_clause_77 rfl ?_
          refine lv_aload_n hx hb dX9_clause_78 rfl (lv_at hl 5 rfl) ?_
          refine lv_iconst (v := iI (1)) hx hb dX9_clause_79 rfl ?_
          refine Ct.callV (ci := 9) (q0 := 3) (qc := (RX9, TX9, 37)) (As := [.int (iI 1)]) (rest := [.int (iI 1), .int (iI bz)]) (wr := [((a 24), aI (g.2.1 0) 8 rh), ((a 25), aI (g.2.1 0) 8 rg), ((a 26), aI (g.2.1 0) 8 rl)]) (c1 := 0) (s1 := 0) ⟨hx, hb, hml, hown, hts⟩ (c_X9_letter l g hm a (va_up iz2 17 ((iz2 17) + 1)) ft L p9 1 (⟨(show iz2 16 = (L : Int) from by omega), by omega, (show iz2 17 + 1 = (p9 : Int) from by omega), by omega, (show iz2 18 = 0 ∨ iz2 18 = 1 from by omega)⟩) (hT) (⟨by omega, (show 0 ≤ iz2 23 ∧ iz2 23 < 256 from by omega)⟩)) rfl rfl (cwV 1 hts gX9_clause_X9_letter rfl rfl rfl (by decide +kernel) ⟨Nat.le_of_ble_eq_true rfl, Nat.le_of_ble_eq_true rfl⟩) hG hP hD hS hA [3, 4] [0, 1, 2] rfl rfl (by decide) (by decide) (by decide) rfl hl.1 rfl (Nat.le_of_ble_eq_true rfl) dX9_clause_80 ⟨Nat.le_of_ble_eq_true rfl, Nat.le_of_ble_eq_true rfl⟩ rfl rfl (fun v w H locs hv hP hD hS => ?_)
          obtain ⟨r23, i24, rfl, rfl, hf25, hf26⟩ := hv
          show W p l e _ s m _ below meth c H locs 0 0 _ (F0 m 83 ls (.int (iI r23) :: [.int (iI 1), .int (iI bz)]))
          have hP : va_P g.1 vwCl [((a 24), aI (g.2.1 0) 8 rh), ((a 25), aI (g.2.1 0) 8 rg), ((a 26), aI (g.2.1 0) 8 rl), (hm, .inr (9, mF a i24)), ((a 15), aI (g.2.1 0) 100 ft)] H := hP
          have hD : va_D A [((a 24), aI (g.2.1 0) 8 rh), ((a 25), aI (g.2.1 0) 8 rg), ((a 26), aI (g.2.1 0) 8 rl), (hm, .inr (9, mF a i24)), ((a 15), aI (g.2.1 0) 100 ft)] := hD
          have hf26 : ((va_up iz2 17 ((iz2 17) + 1)) 18 = 1 ∧ i24 17 = (va_up iz2 17 ((iz2 17) + 1)) 17 ∧ i24 18 = 1 ∧ r23 = 0) ∨ ((va_up iz2 17 ((iz2 17) + 1)) 18 = 0 ∧ (ltP ft L p9 ∧ hsM ((va_up iz2 17 ((iz2 17) + 1)) 23) (ltS ft L p9) = 1) ∧ i24 17 = (sk ft L p9 : Int) + 1 ∧ i24 18 = 0 ∧ r23 = (ltS ft L p9 : Int)) ∨ ((va_up iz2 17 ((iz2 17) + 1)) 18 = 0 ∧ ¬ (ltP ft L p9 ∧ hsM ((va_up iz2 17 ((iz2 17) + 1)) 23) (ltS ft L p9) = 1) ∧ i24 17 = (sk ft L p9 : Int) ∧ i24 18 = 1 ∧ r23 = 0) := hf26
          have hy1 : (iz2 18 = 1 ∧ i24 17 = iz2 17 + 1 ∧ i24 18 = 1 ∧ r23 = 0) ∨ (iz2 18 = 0 ∧ (ltP ft L p9 ∧ hsM (iz2 23) (ltS ft L p9) = 1) ∧ i24 17 = (sk ft L p9 : Int) + 1 ∧ i24 18 = 0 ∧ r23 = (ltS ft L p9 : Int)) ∨ (iz2 18 = 0 ∧ ¬ (ltP ft L p9 ∧ hsM (iz2 23) (ltS ft L p9) = 1) ∧ i24 17 = (sk ft L p9 : Int) ∧ i24 18 = 1 ∧ r23 = 0) := hf26
          have hr8 : 0 ≤ r23 ∧ r23 < 8 := (by rcases hy1 with z | z | z; omega; (have := ltS_lt z.2.1.1; omega); omega)
          obtain ⟨s9, hs9⟩ : ∃ s9 : Nat, r23 = (s9 : Int) ∧ s9 < 8 := ⟨r23.toNat, by omega, by omega⟩
          have hj0 := hf25
          have hj16 : i24 16 = iz2 16 := hf25 16 (by decide) (by decide)
          have hj23 : i24 23 = iz2 23 := hf25 23 (by decide) (by decide)
          have hw18 : i24 18 = 0 ∨ i24 18 = 1 := (by omega)
          refine iv_ishl1 hx hb s9 dX9_clause_83 (by omega) ?_
          refine iv_ior (z := ((b9 ||| 2 ^ s9 : Nat) : Int)) hx hb dX9_clause_84 (by rw [hbb.1, show (2 : Int) ^ s9 = ((2 ^ s9 : Nat) : Int) from by simp]; exact iI_orN _ _) ?_
          refine lv_istore (lv' := [(4, .int (iI ((b9 ||| 2 ^ s9 : Nat) : Int))), (5, .int (iI mo)), (3, .int (iI r16)), (2, .int (iI r8)), (1, .int (iI r1)), (0, .ref hm)]) hx hb dX9_clause_85 hl (by decide) rfl (fun ls hl => ?_)
          refine lv_aload_n hx hb dX9_clause_87 rfl (lv_at hl 5 rfl) ?_
          refine va_get (D := g.1) (ci := 9) (v := .int (iI (i24 18))) hx hb hts kX9_clause_9 hown hG.1 hP 3 rfl rfl 18 (by decide) (hts _ (List.mem_of_getElem? (i := 1) rfl)) (fun _ h9 => h9) rfl dX9_clause_88 ?_
          refine iv_if_ne (tgt := 107) hx hb dX9_clause_91 (by decide) (by omega) (fun hc27 => ?_) (fun hc27 => ?_)
          · first | have hy3 := hy4 | (have hy3 : ¬ (ltP ft L p9 ∧ 0 < (hsM (i 23)) (ltS ft L p9)) := (by rcases hy1 with z | z | z; (exfalso; omega); (exfalso; omega); (exact fun w => z.2.1 ⟨w.1, by rw [hi23]; have := hsM_01 (rb := i 23) (ltS ft L p9); omega⟩)))
            refine lv_iconst (v := iI (0)) hx hb dX9_clause_107 rfl ?_
            refine lv_istore (lv' := [(5, .int (iI 0)), (4, .int (iI ((b9 ||| 2 ^ s9 : Nat) : Int))), (3, .int (iI r16)), (2, .int (iI r8)), (1, .int (iI r1)), (0, .ref hm)]) hx hb dX9_clause_108 hl (by decide) rfl (fun ls hl => ?_)
            refine lv_goto (tgt := 60) hx hb dX9_clause_110 (by decide) ?_
            exact ih60 ((b9 ||| 2 ^ s9 : Nat) : Int) 0 i24 (m9 + 1) (sk ft L (sk ft L p9 + 1) + 1) (b9 ||| 2 ^ s9) (fun k h17 h18 => by first | exact (hz0 k h17).trans ((hj0 k h17 h18).trans ((up_n _ _ _ _ h17).trans (hI0 k h17 h18))) | exact (hj0 k h17 h18).trans ((up_n _ _ _ _ h17).trans (hI0 k h17 h18))) (⟨rfl, or_lt8 (by omega) hs9.2, by omega⟩) (by first | (exfalso; omega) | (refine Or.inr ⟨rfl, ClD.ln hA3 hA4 (show lnF ft L (hsM (i 23)) 100 (cG ft L q) 0 = (0, sk ft L p9, b9) by rw [← hA8, show 100 - m9 = (100 - (m9 + 1)) + 1 from by omega]; exact ln_bad hy3) (Or.inr ⟨rfl, by omega⟩) (by omega) _ (fun h => absurd h (by omega))⟩) | (refine Or.inl ⟨rfl, by omega, hA3, hA4, by omega, by omega, by omega, ?_⟩; rw [← hA8, show 100 - m9 = (100 - (m9 + 1)) + 1 from by omega, ln_more hy4 (hb8 (by omega)), hy5]) | (refine Or.inr ⟨rfl, ClD.ln hA3 hA4 (show lnF ft L (hsM (i 23)) 100 (cG ft L q) 0 = (1, sk ft L (sk ft L p9 + 1), b9 ||| 2 ^ ltS ft L p9) by rw [← hA8, show 100 - m9 = (100 - (m9 + 1)) + 1 from by omega]; exact ln_end hy4 (hb7 (by omega))) (Or.inl ⟨rfl, by omega⟩) (by omega) _ (fun _ => by rw [hy5])⟩)) (by omega) H locs ls (hP.sub [0, 1, 2, 3, 4] rfl) (hD.sub [0, 1, 2, 3, 4] (by decide) rfl) hS (lv_sub hl [0, 1, 2, 3, 4, 5] rfl)
          · have hy4 : ltP ft L p9 ∧ 0 < (hsM (i 23)) (ltS ft L p9) := (by rcases hy1 with z | z | z; (exfalso; omega); (exact ⟨z.2.1.1, by rw [← hi23, z.2.1.2]; omega⟩); (exfalso; omega))
            have hy5 : s9 = ltS ft L p9 := (by rcases hy1 with z | z | z <;> omega)
            have hy6 : i24 17 = (sk ft L p9 : Int) + 1 := (by rcases hy1 with z | z | z <;> omega)
            have hs0 := hy4.1.1
            refine lv_aload_n hx hb dX9_clause_94 rfl (lv_at hl 5 rfl) ?_
            refine Ct.callV (ci := 9) (q0 := 3) (qc := (RX9, TX9, 37)) (As := []) (rest := []) (wr := [((a 24), aI (g.2.1 0) 8 rh), ((a 25), aI (g.2.1 0) 8 rg), ((a 26), aI (g.2.1 0) 8 rl)]) (c1 := 0) (s1 := 0) ⟨hx, hb, hml, hown, hts⟩ (c_X9_next l g hm a i24 ft L (sk ft L p9 + 1) (⟨by omega, by omega, by omega, by omega⟩) (hT)) rfl rfl (cwV 0 hts gX9_clause_X9_next rfl rfl rfl (by decide +kernel) ⟨Nat.le_of_ble_eq_true rfl, Nat.le_of_ble_eq_true rfl⟩) hG hP hD hS hA [3, 4] [0, 1, 2] rfl rfl (by decide) (by decide) (by decide) rfl hl.1 rfl (Nat.le_of_ble_eq_true rfl) dX9_clause_95 ⟨Nat.le_of_ble_eq_true rfl, Nat.le_of_ble_eq_true rfl⟩ rfl rfl (fun v w H locs hv hP hD hS => ?_)
            obtain ⟨r28, i29, rfl, rfl, hf30, hf31, hf32⟩ := hv
            show W p l e _ s m _ below meth c H locs 0 0 _ (F0 m 98 ls (.int (iI r28) :: []))
            have hP : va_P g.1 vwCl [((a 24), aI (g.2.1 0) 8 rh), ((a 25), aI (g.2.1 0) 8 rg), ((a 26), aI (g.2.1 0) 8 rl), (hm, .inr (9, mF a i29)), ((a 15), aI (g.2.1 0) 100 ft)] H := hP
            have hD : va_D A [((a 24), aI (g.2.1 0) 8 rh), ((a 25), aI (g.2.1 0) 8 rg), ((a 26), aI (g.2.1 0) 8 rl), (hm, .inr (9, mF a i29)), ((a 15), aI (g.2.1 0) 100 ft)] := hD
            have hf31 : i29 17 = (sk ft L (sk ft L p9 + 1) : Int) := hf31
            have hf32 : r28 = (if sk ft L (sk ft L p9 + 1) < L then ft (sk ft L (sk ft L p9 + 1)) else 0) := hf32
            have hz0 := hf30
            have hz1 := hf31
            have hz2 := hf32
            have hsl := sk_le ft (L := L) (p := sk ft L p9 + 1) (by omega)
            have hz16 := hf30 16 (by decide)
            have hz18 := hf30 18 (by decide)
            have hz23 := hf30 23 (by decide)
            have hbr : 0 ≤ r28 ∧ r28 ≤ 126 := (by rw [hz2]; split <;> first | omega | (have := hT (sk ft L (sk ft L p9 + 1)) (by omega); omega))
            have hb8 : (if sk ft L (sk ft L p9 + 1) < L then ft (sk ft L (sk ft L p9 + 1)) else 0) = 44 → psP ft L 44 (sk ft L p9 + 1) := fun z => (by by_cases w9 : sk ft L (sk ft L p9 + 1) < L; (rw [if_pos w9] at z; exact ⟨w9, z⟩); (rw [if_neg w9] at z; exfalso; omega))
            have hb7 : ¬ (if sk ft L (sk ft L p9 + 1) < L then ft (sk ft L (sk ft L p9 + 1)) else 0) = 44 → ¬ psP ft L 44 (sk ft L p9 + 1) := fun z w9 => z (by rw [if_pos w9.1]; exact w9.2)
            refine lv_bipush (v := iI (44)) hx hb dX9_clause_98 (by decide) ?_
            refine iv_icmp_ne (tgt := 107) hx hb dX9_clause_100 (by decide) (by omega) (fun hc33 => ?_) (fun hc33 => ?_)
            · first | have hy3 := hy4 | (have hy3 : ¬ (ltP ft L p9 ∧ 0 < (hsM (i 23)) (ltS ft L p9)) := (by rcases hy1 with z | z | z; (exfalso; omega); (exfalso; omega); (exact fun w => z.2.1 ⟨w.1, by rw [hi23]; have := hsM_01 (rb := i 23) (ltS ft L p9); omega⟩)))
              refine lv_iconst (v := iI (0)) hx hb dX9_clause_107 rfl ?_
              refine lv_istore (lv' := [(5, .int (iI 0)), (4, .int (iI ((b9 ||| 2 ^ s9 : Nat) : Int))), (3, .int (iI r16)), (2, .int (iI r8)), (1, .int (iI r1)), (0, .ref hm)]) hx hb dX9_clause_108 hl (by decide) rfl (fun ls hl => ?_)
              refine lv_goto (tgt := 60) hx hb dX9_clause_110 (by decide) ?_
              exact ih60 ((b9 ||| 2 ^ s9 : Nat) : Int) 0 i29 (m9 + 1) (sk ft L (sk ft L p9 + 1) + 1) (b9 ||| 2 ^ s9) (fun k h17 h18 => by first | exact (hz0 k h17).trans ((hj0 k h17 h18).trans ((up_n _ _ _ _ h17).trans (hI0 k h17 h18))) | exact (hj0 k h17 h18).trans ((up_n _ _ _ _ h17).trans (hI0 k h17 h18))) (⟨rfl, or_lt8 (by omega) hs9.2, by omega⟩) (by first | (exfalso; omega) | (refine Or.inr ⟨rfl, ClD.ln hA3 hA4 (show lnF ft L (hsM (i 23)) 100 (cG ft L q) 0 = (0, sk ft L p9, b9) by rw [← hA8, show 100 - m9 = (100 - (m9 + 1)) + 1 from by omega]; exact ln_bad hy3) (Or.inr ⟨rfl, by omega⟩) (by omega) _ (fun h => absurd h (by omega))⟩) | (refine Or.inl ⟨rfl, by omega, hA3, hA4, by omega, by omega, by omega, ?_⟩; rw [← hA8, show 100 - m9 = (100 - (m9 + 1)) + 1 from by omega, ln_more hy4 (hb8 (by omega)), hy5]) | (refine Or.inr ⟨rfl, ClD.ln hA3 hA4 (show lnF ft L (hsM (i 23)) 100 (cG ft L q) 0 = (1, sk ft L (sk ft L p9 + 1), b9 ||| 2 ^ ltS ft L p9) by rw [← hA8, show 100 - m9 = (100 - (m9 + 1)) + 1 from by omega]; exact ln_end hy4 (hb7 (by omega))) (Or.inl ⟨rfl, by omega⟩) (by omega) _ (fun _ => by rw [hy5])⟩)) (by omega) H locs ls (hP.sub [0, 1, 2, 3, 4] rfl) (hD.sub [0, 1, 2, 3, 4] (by decide) rfl) hS (lv_sub hl [0, 1, 2, 3, 4, 5] rfl)
            · refine lv_iconst (v := iI (1)) hx hb dX9_clause_103 rfl ?_
              refine lv_goto (tgt := 108) hx hb dX9_clause_104 (by decide) ?_
              refine lv_istore (lv' := [(5, .int (iI 1)), (4, .int (iI ((b9 ||| 2 ^ s9 : Nat) : Int))), (3, .int (iI r16)), (2, .int (iI r8)), (1, .int (iI r1)), (0, .ref hm)]) hx hb dX9_clause_108 hl (by decide) rfl (fun ls hl => ?_)
              refine lv_goto (tgt := 60) hx hb dX9_clause_110 (by decide) ?_
              exact ih60 ((b9 ||| 2 ^ s9 : Nat) : Int) 1 i29 (m9 + 1) (sk ft L (sk ft L p9 + 1) + 1) (b9 ||| 2 ^ s9) (fun k h17 h18 => by first | exact (hz0 k h17).trans ((hj0 k h17 h18).trans ((up_n _ _ _ _ h17).trans (hI0 k h17 h18))) | exact (hj0 k h17 h18).trans ((up_n _ _ _ _ h17).trans (hI0 k h17 h18))) (⟨rfl, or_lt8 (by omega) hs9.2, by omega⟩) (by first | (exfalso; omega) | (refine Or.inr ⟨rfl, ClD.ln hA3 hA4 (show lnF ft L (hsM (i 23)) 100 (cG ft L q) 0 = (0, sk ft L p9, b9) by rw [← hA8, show 100 - m9 = (100 - (m9 + 1)) + 1 from by omega]; exact ln_bad hy3) (Or.inr ⟨rfl, by omega⟩) (by omega) _ (fun h => absurd h (by omega))⟩) | (refine Or.inl ⟨rfl, by omega, hA3, hA4, by omega, by omega, by omega, ?_⟩; rw [← hA8, show 100 - m9 = (100 - (m9 + 1)) + 1 from by omega, ln_more hy4 (hb8 (by omega)), hy5]) | (refine Or.inr ⟨rfl, ClD.ln hA3 hA4 (show lnF ft L (hsM (i 23)) 100 (cG ft L q) 0 = (1, sk ft L (sk ft L p9 + 1), b9 ||| 2 ^ ltS ft L p9) by rw [← hA8, show 100 - m9 = (100 - (m9 + 1)) + 1 from by omega]; exact ln_end hy4 (hb7 (by omega))) (Or.inl ⟨rfl, by omega⟩) (by omega) _ (fun _ => by rw [hy5])⟩)) (by omega) H locs ls (hP.sub [0, 1, 2, 3, 4] rfl) (hD.sub [0, 1, 2, 3, 4] (by decide) rfl) hS (lv_sub hl [0, 1, 2, 3, 4, 5] rfl)
    exact hloop60 _ 0 mo iz 0 (cG ft L q) 0 (hJ0) (by omega) (by rcases hJ with z | z; (have hG9 : cG ft L q = sk ft L (cE ft L q) + 1 := rfl; exact Or.inl ⟨z.1, z.2.1, z.2.2.1, z.2.2.2.1, by omega, cG_le z.2.2.2.1, by omega, rfl⟩); exact Or.inr z) (Nat.lt_succ_self _) H locs ls (hP.sub [0, 1, 2, 3, 4] rfl) (hD.sub [0, 1, 2, 3, 4] (by decide) rfl) hS (lv_sub hl [0, 1, 2, 3, 4, 5] rfl)
  refine lv_aload_n hx hb dX9_clause_37 rfl (lv_at hl 4 rfl) ?_
  refine va_get (D := g.1) (ci := 9) (v := .int (iI (i17 18))) hx hb hts kX9_clause_9 hown hG.1 hP 3 rfl rfl 18 (by decide) (hts _ (List.mem_of_getElem? (i := 1) rfl)) (fun _ h9 => h9) rfl dX9_clause_38 ?_
  refine iv_if_ne (tgt := 57) hx hb dX9_clause_41 (by decide) (by omega) (fun hc34 => ?_) (fun hc34 => ?_)
  · refine lv_iconst (v := iI (0)) hx hb dX9_clause_57 rfl ?_
    exact hjoin58 0 i17 (fun k h17 h18 => by first | (exact (hz0 k h17).trans (HC0 k h17 h18)) | exact HC0 k h17 h18) (by first | (exfalso; omega) | (refine Or.inl ⟨rfl, by omega, hC5, hb8 (by omega), by omega⟩) | (refine Or.inr ⟨rfl, ClD.no hC5 (hb7 (by omega)) (by omega) (by omega)⟩) | (refine Or.inr ⟨rfl, ClD.bad (by rcases H5 with z | z; (exfalso; omega); exact z)⟩)) H locs ls (hP.sub [0, 1, 2, 3, 4] rfl) (hD.sub [0, 1, 2, 3, 4] (by decide) rfl) hS (lv_sub hl [0, 1, 2, 3, 4] rfl)
  · have hC9 : (ClC ft L (hsM (i 23)) q s1 5 v1 v2) ∧ i17 17 = (cE ft L q : Int) ∧ cE ft L q ≤ L := (by rcases H5 with z | z; exact z.2; (exfalso; omega))
    have hC5 := hC9.1
    have hC6 := hC9.2
    refine lv_aload_n hx hb dX9_clause_44 rfl (lv_at hl 4 rfl) ?_
    refine Ct.callV (ci := 9) (q0 := 3) (qc := (RX9, TX9, 37)) (As := []) (rest := []) (wr := [((a 24), aI (g.2.1 0) 8 rh), ((a 25), aI (g.2.1 0) 8 rg), ((a 26), aI (g.2.1 0) 8 rl)]) (c1 := 0) (s1 := 0) ⟨hx, hb, hml, hown, hts⟩ (c_X9_next l g hm a i17 ft L (cE ft L q) (⟨by omega, by omega, by omega, by omega⟩) (hT)) rfl rfl (cwV 0 hts gX9_clause_X9_next rfl rfl rfl (by decide +kernel) ⟨Nat.le_of_ble_eq_true rfl, Nat.le_of_ble_eq_true rfl⟩) hG hP hD hS hA [3, 4] [0, 1, 2] rfl rfl (by decide) (by decide) (by decide) rfl hl.1 rfl (Nat.le_of_ble_eq_true rfl) dX9_clause_45 ⟨Nat.le_of_ble_eq_true rfl, Nat.le_of_ble_eq_true rfl⟩ rfl rfl (fun v w H locs hv hP hD hS => ?_)
    obtain ⟨r35, i36, rfl, rfl, hf37, hf38, hf39⟩ := hv
    show W p l e _ s m _ below meth c H locs 0 0 _ (F0 m 48 ls (.int (iI r35) :: []))
    have hP : va_P g.1 vwCl [((a 24), aI (g.2.1 0) 8 rh), ((a 25), aI (g.2.1 0) 8 rg), ((a 26), aI (g.2.1 0) 8 rl), (hm, .inr (9, mF a i36)), ((a 15), aI (g.2.1 0) 100 ft)] H := hP
    have hD : va_D A [((a 24), aI (g.2.1 0) 8 rh), ((a 25), aI (g.2.1 0) 8 rg), ((a 26), aI (g.2.1 0) 8 rl), (hm, .inr (9, mF a i36)), ((a 15), aI (g.2.1 0) 100 ft)] := hD
    have hf38 : i36 17 = (sk ft L (cE ft L q) : Int) := hf38
    have hf39 : r35 = (if sk ft L (cE ft L q) < L then ft (sk ft L (cE ft L q)) else 0) := hf39
    have hz0 := hf37
    have hz1 := hf38
    have hz2 := hf39
    have hsl := sk_le ft (L := L) (p := cE ft L q) (by omega)
    have hz16 := hf37 16 (by decide)
    have hz18 := hf37 18 (by decide)
    have hz23 := hf37 23 (by decide)
    have hbr : 0 ≤ r35 ∧ r35 ≤ 126 := (by rw [hz2]; split <;> first | omega | (have := hT (sk ft L (cE ft L q)) (by omega); omega))
    have hb8 : (if sk ft L (cE ft L q) < L then ft (sk ft L (cE ft L q)) else 0) = 58 → psP ft L 58 (cE ft L q) := fun z => (by by_cases w9 : sk ft L (cE ft L q) < L; (rw [if_pos w9] at z; exact ⟨w9, z⟩); (rw [if_neg w9] at z; exfalso; omega))
    have hb7 : ¬ (if sk ft L (cE ft L q) < L then ft (sk ft L (cE ft L q)) else 0) = 58 → ¬ psP ft L 58 (cE ft L q) := fun z w9 => z (by rw [if_pos w9.1]; exact w9.2)
    refine lv_bipush (v := iI (58)) hx hb dX9_clause_48 (by decide) ?_
    refine iv_icmp_ne (tgt := 57) hx hb dX9_clause_50 (by decide) (by omega) (fun hc40 => ?_) (fun hc40 => ?_)
    · refine lv_iconst (v := iI (0)) hx hb dX9_clause_57 rfl ?_
      exact hjoin58 0 i36 (fun k h17 h18 => by first | (exact (hz0 k h17).trans (HC0 k h17 h18)) | exact HC0 k h17 h18) (by first | (exfalso; omega) | (refine Or.inl ⟨rfl, by omega, hC5, hb8 (by omega), by omega⟩) | (refine Or.inr ⟨rfl, ClD.no hC5 (hb7 (by omega)) (by omega) (by omega)⟩) | (refine Or.inr ⟨rfl, ClD.bad (by rcases H5 with z | z; (exfalso; omega); exact z)⟩)) H locs ls (hP.sub [0, 1, 2, 3, 4] rfl) (hD.sub [0, 1, 2, 3, 4] (by decide) rfl) hS (lv_sub hl [0, 1, 2, 3, 4] rfl)
    · refine lv_iconst (v := iI (1)) hx hb dX9_clause_53 rfl ?_
      refine lv_goto (tgt := 58) hx hb dX9_clause_54 (by decide) ?_
      exact hjoin58 1 i36 (fun k h17 h18 => by first | (exact (hz0 k h17).trans (HC0 k h17 h18)) | exact HC0 k h17 h18) (by first | (exfalso; omega) | (refine Or.inl ⟨rfl, by omega, hC5, hb8 (by omega), by omega⟩) | (refine Or.inr ⟨rfl, ClD.no hC5 (hb7 (by omega)) (by omega) (by omega)⟩) | (refine Or.inr ⟨rfl, ClD.bad (by rcases H5 with z | z; (exfalso; omega); exact z)⟩)) H locs ls (hP.sub [0, 1, 2, 3, 4] rfl) (hD.sub [0, 1, 2, 3, 4] (by decide) rfl) hS (lv_sub hl [0, 1, 2, 3, 4] rfl)
