set_option maxHeartbeats 4000000 in
set_option maxRecDepth 100000 in
theorem pr_work (l : Launch) (g : GT) (much : Int) (less : Int) (st : Int) (g_much : -2147483648 ≤ much ∧ much < 2147483648) (g_less : -2147483648 ≤ less ∧ less < 2147483648) (g_st : -2147483648 ≤ st ∧ st < 2147483648) : PairOK l g yX8_work wsX8_work ({ frames := 4, cells := 0, slots := 0, locals := 95 } : Room) yX9_work wsX9_work ({ frames := 2, cells := 0, slots := 0, locals := 51 } : Room) [.int (iI much), .int (iI less), .int (iI st)] := by
  intro hd hm A z F LA LZ LT K a j G hR
  obtain ⟨hB, hMk, hHt, hTp, hCo, hTr, hSh, hLn, hMm⟩ := id hR
  have hK := hB.1
  have hz4 := hB.2.1
  have hj5 := hB.2.2.1
  refine lift8 (c_X8_work l g hd A z (A 20) (A 21) (A 22) (F 20) (F 21) (F 22) much less st (by omega)) [5, 6, 7, 8, 9, 10, 11, 12, 13, 14, 15, 16, 17, 18, 19, 20, 21, 22, 23, 24, 25, 26, 27, 28, 29, 30, 31, 32] [0, 1, 2, 3, 4] (by decide +kernel) rfl ?_
  rintro v w1 ⟨r, fd', fn', fa', rfl, rfl, e⟩
  refine ⟨r, A, z, (va_up (va_up (va_up F 20 fd') 21 fn') 22 fa'), rfl, rfl, rfl, ?_⟩
  refine lift9 (c_X9_work l g hm a j (G 1) (G 2) (G 3) much less st (by omega)) [1, 5, 6, 7, 8, 9, 10, 11, 12, 13, 14, 15, 16, 17, 18, 19, 20, 21, 22, 23, 24, 25, 26, 27] [0, 2, 3, 4] (by decide +kernel) rfl ?_
  rintro v w1 ⟨rm, fdm', fnm', fam', rfl, rfl, em⟩
  refine ⟨j, (va_up (va_up (va_up G 2 fdm') 3 fnm') 1 fam'), veq (em.trans e.symm), rfl, rfl, ?_⟩
  exact Rel.of hB hMk hHt hTp hCo hTr hSh hLn hMm
set_option maxHeartbeats 4000000 in
set_option maxRecDepth 100000 in
theorem pr_row (l : Launch) (g : GT) (much : Int) (less : Int) (st : Int) (c_ : Int) (g_much : -2147483648 ≤ much ∧ much < 2147483648) (g_less : -2147483648 ≤ less ∧ less < 2147483648) (g_st : -2147483648 ≤ st ∧ st < 2147483648) (g_c_ : -2147483648 ≤ c_ ∧ c_ < 2147483648) : PairOK l g yX8_row wsX8_row ({ frames := 4, cells := 0, slots := 0, locals := 95 } : Room) yX9_row wsX9_row ({ frames := 2, cells := 0, slots := 0, locals := 51 } : Room) [.int (iI much), .int (iI less), .int (iI st), .int (iI c_)] := by
  intro hd hm A z F LA LZ LT K a j G hR
  obtain ⟨hB, hMk, hHt, hTp, hCo, hTr, hSh, hLn, hMm⟩ := id hR
  have hK := hB.1
  have hz4 := hB.2.1
  have hj5 := hB.2.2.1
  refine lift8 (c_X8_row l g hd A z (A 20) (A 21) (A 22) (F 20) (F 21) (F 22) much less st c_ (by omega)) [5, 6, 7, 8, 9, 10, 11, 12, 13, 14, 15, 16, 17, 18, 19, 20, 21, 22, 23, 24, 25, 26, 27, 28, 29, 30, 31, 32] [0, 1, 2, 3, 4] (by decide +kernel) rfl ?_
  rintro v w1 ⟨r, fd', fn', fa', rfl, rfl, e⟩
  refine ⟨r, A, z, (va_up (va_up (va_up F 20 fd') 21 fn') 22 fa'), rfl, rfl, rfl, ?_⟩
  refine lift9 (c_X9_row l g hm a j (G 1) (G 2) (G 3) much less st c_ (by omega)) [1, 5, 6, 7, 8, 9, 10, 11, 12, 13, 14, 15, 16, 17, 18, 19, 20, 21, 22, 23, 24, 25, 26, 27] [0, 2, 3, 4] (by decide +kernel) rfl ?_
  rintro v w1 ⟨rm, fdm', fnm', fam', rfl, rfl, em⟩
  refine ⟨j, (va_up (va_up (va_up G 2 fdm') 3 fnm') 1 fam'), veq (em.trans e.symm), rfl, rfl, ?_⟩
  exact Rel.of hB hMk hHt hTp hCo hTr hSh hLn hMm
set_option maxHeartbeats 4000000 in
set_option maxRecDepth 100000 in
theorem pr_could (l : Launch) (g : GT) (much : Int) (less : Int) (ans : Int) (g_much : -2147483648 ≤ much ∧ much < 2147483648) (g_less : -2147483648 ≤ less ∧ less < 2147483648) (g_ans : -2147483648 ≤ ans ∧ ans < 2147483648) : PairOK l g yX8_could wsX8_could ({ frames := 4, cells := 0, slots := 0, locals := 95 } : Room) yX9_could wsX9_could ({ frames := 2, cells := 0, slots := 0, locals := 51 } : Room) [.int (iI much), .int (iI less), .int (iI ans)] := by
  intro hd hm A z F LA LZ LT K a j G hR
  obtain ⟨hB, hMk, hHt, hTp, hCo, hTr, hSh, hLn, hMm⟩ := id hR
  have hK := hB.1
  have hz4 := hB.2.1
  have hj5 := hB.2.2.1
  refine lift8 (c_X8_could l g hd A z (A 20) (A 21) (A 22) (F 20) (F 21) (F 22) much less ans (by omega)) [5, 6, 7, 8, 9, 10, 11, 12, 13, 14, 15, 16, 17, 18, 19, 20, 21, 22, 23, 24, 25, 26, 27, 28, 29, 30, 31, 32] [0, 1, 2, 3, 4] (by decide +kernel) rfl ?_
  rintro v w1 ⟨r, fd', fn', fa', rfl, rfl, e⟩
  refine ⟨r, A, z, (va_up (va_up (va_up F 20 fd') 21 fn') 22 fa'), rfl, rfl, rfl, ?_⟩
  refine lift9 (c_X9_could l g hm a j (G 1) (G 2) (G 3) (G 0) much less ans (by omega) (hB.2.2.2.1)) [5, 6, 7, 8, 9, 10, 11, 12, 13, 14, 15, 16, 17, 18, 19, 20, 21, 22, 23, 24, 25, 26, 27] [0, 2, 3, 4, 1] (by decide +kernel) rfl ?_
  rintro v w1 ⟨rm, fdm', fnm', fam', rfl, rfl, em⟩
  refine ⟨j, (va_up (va_up (va_up G 2 fdm') 3 fnm') 1 fam'), veq (em.trans e.symm), rfl, rfl, ?_⟩
  exact Rel.of hB hMk hHt hTp hCo hTr hSh hLn hMm
set_option maxHeartbeats 4000000 in
set_option maxRecDepth 100000 in
theorem pr_least (l : Launch) (g : GT) (much : Int) (less : Int) (ans : Int) (ix : Int) (g_much : -2147483648 ≤ much ∧ much < 2147483648) (g_less : -2147483648 ≤ less ∧ less < 2147483648) (g_ans : -2147483648 ≤ ans ∧ ans < 2147483648) (g_ix : -2147483648 ≤ ix ∧ ix < 2147483648) : PairOK l g yX8_least wsX8_least ({ frames := 4, cells := 0, slots := 0, locals := 95 } : Room) yX9_least wsX9_least ({ frames := 2, cells := 0, slots := 0, locals := 51 } : Room) [.int (iI much), .int (iI less), .int (iI ans), .int (iI ix)] := by
  intro hd hm A z F LA LZ LT K a j G hR
  obtain ⟨hB, hMk, hHt, hTp, hCo, hTr, hSh, hLn, hMm⟩ := id hR
  have hK := hB.1
  have hz4 := hB.2.1
  have hj5 := hB.2.2.1
  refine lift8 (c_X8_least l g hd A z (A 20) (A 21) (A 22) (F 20) (F 21) (F 22) much less ans ix (by omega)) [5, 6, 7, 8, 9, 10, 11, 12, 13, 14, 15, 16, 17, 18, 19, 20, 21, 22, 23, 24, 25, 26, 27, 28, 29, 30, 31, 32] [0, 1, 2, 3, 4] (by decide +kernel) rfl ?_
  rintro v w1 ⟨r, fd', fn', fa', rfl, rfl, e⟩
  refine ⟨r, A, z, (va_up (va_up (va_up F 20 fd') 21 fn') 22 fa'), rfl, rfl, rfl, ?_⟩
  refine lift9 (c_X9_least l g hm a j (G 1) (G 2) (G 3) (G 0) much less ans ix (by omega) (hB.2.2.2.1)) [5, 6, 7, 8, 9, 10, 11, 12, 13, 14, 15, 16, 17, 18, 19, 20, 21, 22, 23, 24, 25, 26, 27] [0, 2, 3, 4, 1] (by decide +kernel) rfl ?_
  rintro v w1 ⟨rm, fdm', fnm', fam', rfl, rfl, em⟩
  refine ⟨j, (va_up (va_up (va_up G 2 fdm') 3 fnm') 1 fam'), veq (em.trans e.symm), rfl, rfl, ?_⟩
  exact Rel.of hB hMk hHt hTp hCo hTr hSh hLn hMm
set_option maxHeartbeats 4000000 in
set_option maxRecDepth 100000 in
theorem pr_parts (l : Launch) (g : GT) (pa : Int) (pb : Int) (n : Int) (g_pa : -2147483648 ≤ pa ∧ pa < 2147483648) (g_pb : -2147483648 ≤ pb ∧ pb < 2147483648) (g_n : -2147483648 ≤ n ∧ n < 2147483648) : PairOK l g yX8_parts wsX8_parts ({ frames := 4, cells := 0, slots := 0, locals := 95 } : Room) yX9_parts wsX9_parts ({ frames := 2, cells := 0, slots := 0, locals := 51 } : Room) [.int (iI pa), .int (iI pb), .int (iI n)] := by
  intro hd hm A z F LA LZ LT K a j G hR
  obtain ⟨hB, hMk, hHt, hTp, hCo, hTr, hSh, hLn, hMm⟩ := id hR
  have hK := hB.1
  have hz4 := hB.2.1
  have hj5 := hB.2.2.1
  refine lift8 (c_X8_parts l g hd A z (A 20) (A 21) (A 22) (F 20) (F 21) (F 22) pa pb n (by omega)) [5, 6, 7, 8, 9, 10, 11, 12, 13, 14, 15, 16, 17, 18, 19, 20, 21, 22, 23, 24, 25, 26, 27, 28, 29, 30, 31, 32] [0, 1, 2, 3, 4] (by decide +kernel) rfl ?_
  rintro v w1 ⟨r, fd', fn', fa', rfl, rfl, e⟩
  refine ⟨r, A, z, (va_up (va_up (va_up F 20 fd') 21 fn') 22 fa'), rfl, rfl, rfl, ?_⟩
  refine lift9 (c_X9_parts l g hm a j (G 1) (G 2) (G 3) pa pb n (by omega)) [1, 5, 6, 7, 8, 9, 10, 11, 12, 13, 14, 15, 16, 17, 18, 19, 20, 21, 22, 23, 24, 25, 26, 27] [0, 2, 3, 4] (by decide +kernel) rfl ?_
  rintro v w1 ⟨rm, fdm', fnm', fam', rfl, rfl, em⟩
  refine ⟨j, (va_up (va_up (va_up G 2 fdm') 3 fnm') 1 fam'), veq (em.trans e.symm), rfl, rfl, ?_⟩
  exact Rel.of hB hMk hHt hTp hCo hTr hSh hLn hMm
set_option maxHeartbeats 4000000 in
set_option maxRecDepth 100000 in
theorem pr_set (l : Launch) (g : GT) (what : Int) (v_ : Int) (g_what : -2147483648 ≤ what ∧ what < 2147483648) (g_v_ : -2147483648 ≤ v_ ∧ v_ < 2147483648) : PairOK l g yX8_set wsX8_set ({ frames := 1, cells := 0, slots := 0, locals := 22 } : Room) yX9_set wsX9_set ({ frames := 1, cells := 0, slots := 0, locals := 25 } : Room) [.int (iI what), .int (iI v_)] := by
  intro hd hm A z F LA LZ LT K a j G hR
  obtain ⟨hB, hMk, hHt, hTp, hCo, hTr, hSh, hLn, hMm⟩ := id hR
  have hK := hB.1
  have hz4 := hB.2.1
  have hj5 := hB.2.2.1
  refine lift8 (c_X8_set l g hd A z (F 5) what v_ (by omega)) [1, 2, 3, 4, 5, 6, 7, 9, 10, 11, 12, 13, 14, 15, 16, 17, 18, 19, 20, 21, 22, 23, 24, 25, 26, 27, 28, 29, 30, 31, 32] [0, 8] (by decide +kernel) rfl ?_
  rintro v w1 ⟨r, fmk', rfl, rfl, e⟩
  refine ⟨r, A, z, (va_up F 5 fmk'), rfl, rfl, rfl, ?_⟩
  refine lift9 (c_X9_set l g hm a j (G 11) what v_ (by omega)) [1, 2, 3, 4, 5, 6, 7, 8, 9, 10, 12, 13, 14, 15, 16, 17, 18, 19, 20, 21, 22, 23, 24, 25, 26, 27] [0, 11] (by decide +kernel) rfl ?_
  rintro v w1 ⟨rm, ftom', rfl, rfl, em⟩
  refine ⟨j, (va_up G 11 ftom'), veq (by rcases e with ⟨c9, e, -⟩ | ⟨c9, e, -⟩ <;> rcases em with ⟨d9, d, -⟩ | ⟨d9, d, -⟩ <;> first | exact absurd d9 c9 | exact absurd c9 d9 | (rw [e, d, hMk.1])| (rw [e, d])), rfl, rfl, ?_⟩
  rcases e with ⟨c9, -, rfl⟩ | ⟨c9, -, rfl⟩ <;> rcases em with ⟨d9, -, rfl⟩ | ⟨d9, -, rfl⟩
  · exact Rel.of hB hMk hHt hTp hCo hTr hSh hLn hMm
  · exact absurd d9 c9
  · exact absurd c9 d9
  · exact Rel.of hB ⟨congrArg (fun f9 => va_up f9 what.toNat v_) hMk.1, set_rng c9 hMk.2.1 hMk.2.2.1 hMk.2.2.2⟩ hHt hTp hCo hTr hSh hLn hMm
set_option maxHeartbeats 4000000 in
set_option maxRecDepth 100000 in
theorem pr_hint (l : Launch) (g : GT) (much : Int) (less : Int) (w_ : Int) (k : Int) (g_much : -2147483648 ≤ much ∧ much < 2147483648) (g_less : -2147483648 ≤ less ∧ less < 2147483648) (g_w_ : -2147483648 ≤ w_ ∧ w_ < 2147483648) (g_k : -2147483648 ≤ k ∧ k < 2147483648) : PairOK l g yX8_hint wsX8_hint ({ frames := 3, cells := 0, slots := 0, locals := 63 } : Room) yX9_hint wsX9_hint ({ frames := 2, cells := 0, slots := 0, locals := 46 } : Room) [.int (iI much), .int (iI less), .int (iI w_), .int (iI k)] := by
  intro hd hm A z F LA LZ LT K a j G hR
  obtain ⟨hB, hMk, hHt, hTp, hCo, hTr, hSh, hLn, hMm⟩ := id hR
  have hK := hB.1
  have hz4 := hB.2.1
  have hj5 := hB.2.2.1
  have hht := hHt
  unfold RHt TaskP at hht
  refine lift8 (c_X8_hint l g hd A z much less w_ k (by omega)) [1, 2, 3, 4, 5, 6, 7, 8, 9, 10, 11, 12, 13, 14, 15, 16, 17, 18, 19, 20, 21, 22, 23, 24, 25, 26, 27, 28, 29, 30, 31, 32] [0] (by decide +kernel) rfl ?_
  rintro v w1 ⟨r, i', rfl, rfl, e, e2⟩
  refine ⟨r, A, (va_up (va_up z 4 (i' 4)) 7 (i' 7)), F, rfl, rfl, rfl, ?_⟩
  refine lift9 (c_X9_hint l g hm a j much less w_ k (by omega)) [1, 2, 3, 4, 5, 6, 7, 8, 9, 10, 11, 12, 13, 14, 15, 16, 17, 18, 19, 20, 21, 22, 23, 24, 25, 26, 27] [0] (by decide +kernel) rfl ?_
  rintro v w1 ⟨rm, im', rfl, rfl, em, e2m⟩
  have hre := em.trans ((hint_eq hHt).trans e.symm)
  refine ⟨im', G, veq (hre), rfl, rfl, ?_⟩
  rcases e2 with ⟨c9, rfl⟩ | ⟨c9, c8, rfl⟩ <;> rcases e2m with ⟨d9, rfl⟩ | ⟨d9, d8, rfl⟩
  · exact Rel.of hB hMk hHt hTp hCo hTr hSh hLn hMm
  · omega
  · omega
  · exact Rel.of hB hMk (Or.inr ⟨c8, rfl⟩) hTp hCo hTr hSh hLn hMm
set_option maxHeartbeats 4000000 in
set_option maxRecDepth 100000 in
theorem pr_type (l : Launch) (g : GT) (wl : Int64) (n : Int) (g_n : -2147483648 ≤ n ∧ n < 2147483648) : PairOK l g yX8_type wsX8_type ({ frames := 1, cells := 0, slots := 0, locals := 22 } : Room) yX9_type wsX9_type ({ frames := 1, cells := 0, slots := 0, locals := 25 } : Room) [.long wl, .int (iI n)] := by
  intro hd hm A z F LA LZ LT K a j G hR
  obtain ⟨hB, hMk, hHt, hTp, hCo, hTr, hSh, hLn, hMm⟩ := id hR
  have hK := hB.1
  have hz4 := hB.2.1
  have hj5 := hB.2.2.1
  obtain ⟨hft, L, hL1, hL2, hL3, hL4⟩ := hTp
  refine lift8 (c_X8_type l g hd A z (A 24) (z 32) (z 33) (F 24) L wl n (⟨hL2, hL1, g_n⟩)) [1, 2, 3, 4, 5, 6, 7, 8, 9, 10, 13, 14, 15, 16, 17, 18, 19, 20, 21, 22, 23, 24, 25, 26, 27, 28, 29, 30, 31, 32] [0, 11, 12] (by decide +kernel) rfl ?_
  rintro v w1 ⟨r, tl', ft', rfl, rfl, e, e2, e3⟩
  refine ⟨r, A, (va_up z 32 tl'), (va_up F 24 ft'), rfl, rfl, rfl, ?_⟩
  refine lift9 (c_X9_type l g hm a j (G 15) L wl n (⟨hL3, hL1, g_n⟩)) [1, 2, 3, 4, 5, 6, 7, 8, 9, 10, 11, 13, 14, 15, 16, 17, 18, 19, 20, 21, 22, 23, 24, 25, 26, 27] [0, 12] (by decide +kernel) rfl ?_
  rintro v w1 ⟨rm, im', ftm', rfl, rfl, em, e2m, e3m⟩
  have hre : rm = r := by rw [em, e, hL2, hL3]
  have htr := typ_r e (by omega)
  refine ⟨im', (va_up G 15 ftm'), veq (hre), rfl, rfl, ?_⟩
  by_cases hr0 : 0 ≤ r
  · obtain ⟨rfl, rfl, h9⟩ := e3 hr0
    obtain ⟨rfl, rfl, -⟩ := e3m (by omega)
    refine Rel.of hB hMk hHt ⟨congrArg (fun f9 => tyP f9 L wl n.toNat n.toNat) hft, L + n.toNat, by omega, ?_, ?_, fun p hp => tyP_rng hL4 (fun k9 hk9 => tyOK_all n.toNat 0 h9 k9 (by omega) (by omega)) n.toNat (Nat.le_refl _) p hp⟩ hCo hTr hSh hLn hMm
    · show z 32 + n = _; omega
    · show j 16 + n = _; omega
  · obtain ⟨rfl, rfl⟩ := e2 (by omega)
    obtain ⟨rfl, rfl⟩ := e2m (by omega)
    exact Rel.of hB hMk hHt ⟨hft, L, hL1, hL2, hL3, hL4⟩ hCo hTr hSh hLn hMm
set_option maxHeartbeats 4000000 in
set_option maxRecDepth 100000 in
theorem pr_skill (l : Launch) (g : GT) (sk : Int) (what : Int) (g_sk : -2147483648 ≤ sk ∧ sk < 2147483648) (g_what : -2147483648 ≤ what ∧ what < 2147483648) : PairOK l g yX8_skill wsX8_skill ({ frames := 2, cells := 0, slots := 0, locals := 43 } : Room) yX9_skill wsX9_skill ({ frames := 2, cells := 0, slots := 0, locals := 46 } : Room) [.int (iI sk), .int (iI what)] := by
  intro hd hm A z F LA LZ LT K a j G hR
  obtain ⟨hB, hMk, hHt, hTp, hCo, hTr, hSh, hLn, hMm⟩ := id hR
  have hK := hB.1
  have hz4 := hB.2.1
  have hj5 := hB.2.2.1
  refine lift8 (c_X8_skill l g hd A z (A 25) (A 26) (A 27) (F 25) (F 26) (F 27) sk what (by omega) (hCo.2.2.2)) [1, 2, 3, 4, 5, 6, 7, 8, 9, 10, 11, 12, 17, 18, 19, 20, 21, 22, 23, 24, 25, 26, 27, 28, 29, 30, 31, 32] [0, 13, 14, 15, 16] (by decide +kernel) rfl ?_
  rintro v w1 ⟨r, rfl, rfl, e⟩
  refine ⟨r, A, z, F, rfl, rfl, rfl, ?_⟩
  refine lift9 (c_X9_skill l g hm a j (G 20) (G 21) (G 22) sk what (⟨hCo.1.1.1, hCo.1.1.2, g_sk, g_what⟩)) [1, 2, 3, 4, 5, 6, 7, 8, 9, 10, 11, 12, 16, 17, 18, 19, 20, 21, 22, 23, 24, 25, 26, 27] [0, 13, 14, 15] (by decide +kernel) rfl ?_
  rintro v w1 ⟨rm, rfl, rfl, em⟩
  refine ⟨j, G, veq (em.trans ((skill_eq hCo.1).trans e.symm)), rfl, rfl, ?_⟩
  exact Rel.of hB hMk hHt hTp hCo hTr hSh hLn hMm
set_option maxHeartbeats 4000000 in
set_option maxRecDepth 100000 in
theorem pr_deal (l : Launch) (g : GT) (way : Int) (ou : Int) (g_way : -2147483648 ≤ way ∧ way < 2147483648) (g_ou : -2147483648 ≤ ou ∧ ou < 2147483648) : PairOK l g yX8_deal wsX8_deal ({ frames := 1, cells := 0, slots := 0, locals := 22 } : Room) yX9_deal wsX9_deal ({ frames := 1, cells := 0, slots := 0, locals := 25 } : Room) [.int (iI way), .int (iI ou)] := by
  intro hd hm A z F LA LZ LT K a j G hR
  obtain ⟨hB, hMk, hHt, hTp, hCo, hTr, hSh, hLn, hMm⟩ := id hR
  have hK := hB.1
  have hz4 := hB.2.1
  have hj5 := hB.2.2.1
  obtain ⟨hw9, ho9, M, hM1, hM2, hM3, hM4⟩ := hTr
  refine lift8 (c_X8_deal l g hd A z (A 31) (A 32) (z 34) (F 31) (F 32) M way ou (⟨hM2, hM1⟩) (by omega)) [1, 2, 3, 4, 5, 6, 7, 8, 9, 10, 11, 12, 13, 14, 15, 16, 17, 18, 19, 20, 24, 25, 26, 27, 28, 29, 30, 31, 32] [0, 21, 22, 23] (by decide +kernel) rfl ?_
  rintro v w1 ⟨r, tm', fw', fo', rfl, rfl, e⟩
  refine ⟨r, A, (va_up z 34 tm'), (va_up (va_up F 31 fw') 32 fo'), rfl, rfl, rfl, ?_⟩
  refine lift9 (c_X9_deal l g hm a j (G 31) (G 32) M way ou (⟨hM3, hM1⟩) (by omega)) [1, 2, 3, 4, 5, 6, 7, 8, 9, 10, 11, 12, 13, 14, 15, 16, 17, 18, 19, 20, 21, 24, 25, 26, 27] [0, 22, 23] (by decide +kernel) rfl ?_
  rintro v w1 ⟨rm, im', fwm', fom', rfl, rfl, em⟩
  refine ⟨im', (va_up (va_up G 31 fwm') 32 fom'), veq (by rcases e with ⟨⟨e, c9⟩, -⟩ | ⟨c9, ⟨e, c8, -⟩ | ⟨e, c8, -⟩⟩ <;> rcases em with ⟨⟨d, d9⟩, -⟩ | ⟨d9, ⟨d, d8, -⟩ | ⟨d, d8, -⟩⟩ <;> omega), rfl, rfl, ?_⟩
  rcases e with ⟨⟨-, c9⟩, rfl, rfl, rfl⟩ | ⟨c9, ⟨-, c8, rfl, rfl, rfl⟩ | ⟨-, c8, rfl, rfl, rfl⟩⟩ <;> rcases em with ⟨⟨-, d9⟩, rfl, rfl, rfl⟩ | ⟨d9, ⟨-, d8, rfl, rfl, rfl⟩ | ⟨-, d8, rfl, rfl, rfl⟩⟩
  any_goals (exfalso; omega)
  · exact Rel.of hB hMk hHt hTp hCo ⟨hw9, ho9, M, hM1, hM2, hM3, hM4⟩ hSh hLn hMm
  · exact Rel.of hB hMk hHt hTp hCo ⟨hw9, ho9, M, hM1, hM2, hM3, hM4⟩ hSh hLn hMm
  · refine Rel.of hB hMk hHt hTp hCo ⟨congrArg (fun f9 => va_up f9 M way) hw9, congrArg (fun f9 => va_up f9 M ou) ho9, M + 1, by omega, ?_, ?_, fun p hp => ?_⟩ hSh hLn hMm
    · show z 34 + 1 = _; omega
    · show j 30 + 1 = _; omega
    · show (va_up (F 31) M way p = 0 ∨ va_up (F 31) M way p = 1) ∧ -999 ≤ va_up (F 32) M ou p ∧ va_up (F 32) M ou p ≤ 999
      by_cases q9 : p = M
      · subst q9; rw [up_s, up_s]; omega
      · rw [up_n (F 31) M p way q9, up_n (F 32) M p ou q9]; exact hM4 p (by omega)
set_option maxHeartbeats 4000000 in
set_option maxRecDepth 100000 in
theorem pr_ends (l : Launch) (g : GT) : PairOK l g yX8_ends wsX8_ends ({ frames := 0, cells := 0, slots := 0, locals := 0 } : Room) yX9_ends wsX9_ends ({ frames := 0, cells := 0, slots := 0, locals := 0 } : Room) [] := by
  intro hd hm A z F LA LZ LT K a j G hR
  obtain ⟨hB, hMk, hHt, hTp, hCo, hTr, hSh, hLn, hMm⟩ := id hR
  have hK := hB.1
  have hz4 := hB.2.1
  have hj5 := hB.2.2.1
  obtain ⟨hw9, ho9, M, hM1, hM2, hM3, hM4⟩ := hTr
  refine lift8 (c_X8_ends l g hd A z (A 31) (A 32) (z 34) (F 31) (F 32) M ) [1, 2, 3, 4, 5, 6, 7, 8, 9, 10, 11, 12, 13, 14, 15, 16, 17, 18, 19, 20, 24, 25, 26, 27, 28, 29, 30, 31, 32] [0, 21, 22, 23] (by decide +kernel) rfl ?_
  rintro v w1 ⟨rfl, rfl⟩
  refine ⟨(z 34), A, (va_up z 34 0), F, rfl, rfl, rfl, ?_⟩
  refine lift9 (c_X9_ends l g hm a j ) [1, 2, 3, 4, 5, 6, 7, 8, 9, 10, 11, 12, 13, 14, 15, 16, 17, 18, 19, 20, 21, 22, 23, 24, 25, 26, 27] [0] (by decide +kernel) rfl ?_
  rintro v w1 ⟨im', rfl, rfl, em⟩
  subst em
  refine ⟨va_up j 30 0, G, veq (by omega), rfl, rfl, ?_⟩
  exact Rel.of hB hMk hHt hTp hCo ⟨hw9, ho9, 0, by omega, rfl, rfl, fun p hp => absurd hp (Nat.not_lt_zero p)⟩ hSh hLn hMm
set_option maxHeartbeats 4000000 in
set_option maxRecDepth 100000 in
theorem pr_by (l : Launch) (g : GT) (what : Int) (g_what : -2147483648 ≤ what ∧ what < 2147483648) : PairOK l g yX8_by wsX8_by ({ frames := 2, cells := 0, slots := 0, locals := 43 } : Room) yX9_by wsX9_by ({ frames := 2, cells := 0, slots := 0, locals := 43 } : Room) [.int (iI what)] := by
  intro hd hm A z F LA LZ LT K a j G hR
  obtain ⟨hB, hMk, hHt, hTp, hCo, hTr, hSh, hLn, hMm⟩ := id hR
  have hK := hB.1
  have hz4 := hB.2.1
  have hj5 := hB.2.2.1
  obtain ⟨hw9, ho9, M, hM1, hM2, hM3, hM4⟩ := hTr
  refine lift8 (c_X8_by l g hd A z (A 31) (A 32) (z 34) (F 31) (F 32) M what (⟨hM2, hM1⟩) (hM4) (by omega)) [1, 2, 3, 4, 5, 6, 7, 8, 9, 10, 11, 12, 13, 14, 15, 16, 17, 18, 19, 20, 24, 25, 26, 27, 28, 29, 30, 31, 32] [0, 21, 22, 23] (by decide +kernel) rfl ?_
  rintro v w1 ⟨r, rfl, rfl, e⟩
  refine ⟨r, A, z, F, rfl, rfl, rfl, ?_⟩
  refine lift9 (c_X9_by l g hm a j (G 31) (G 32) M what (⟨hM3, hM1⟩) (by rw [← hw9, ← ho9]; exact hM4) (by omega)) [1, 2, 3, 4, 5, 6, 7, 8, 9, 10, 11, 12, 13, 14, 15, 16, 17, 18, 19, 20, 21, 24, 25, 26, 27] [0, 22, 23] (by decide +kernel) rfl ?_
  rintro v w1 ⟨rm, rfl, rfl, em⟩
  refine ⟨j, G, veq (by rw [em, e, hw9, ho9]), rfl, rfl, ?_⟩
  exact Rel.of hB hMk hHt hTp hCo ⟨hw9, ho9, M, hM1, hM2, hM3, hM4⟩ hSh hLn hMm
set_option maxHeartbeats 4000000 in
set_option maxRecDepth 100000 in
theorem pr_share (l : Launch) (g : GT) : PairOK l g yX8_share wsX8_share ({ frames := 2, cells := 0, slots := 0, locals := 48 } : Room) yX9_share wsX9_share ({ frames := 2, cells := 0, slots := 0, locals := 49 } : Room) [] := by
  intro hd hm A z F LA LZ LT K a j G hR
  obtain ⟨hB, hMk, hHt, hTp, hCo, hTr, hSh, hLn, hMm⟩ := id hR
  have hK := hB.1
  have hz4 := hB.2.1
  have hj5 := hB.2.2.1
  obtain ⟨hw9, ho9, M, hM1, hM2, hM3, hM4⟩ := hTr
  refine lift8 (c_X8_share l g hd A z (A 31) (A 32) (z 34) (F 31) (F 32) M (⟨hM2, hM1⟩) (hM4)) [1, 2, 3, 4, 5, 6, 7, 8, 9, 10, 11, 12, 13, 14, 15, 16, 17, 18, 19, 20, 24, 25, 26, 27, 28, 29, 30, 31, 32] [0, 21, 22, 23] (by decide +kernel) rfl ?_
  rintro v w1 ⟨r, rfl, rfl, e⟩
  refine ⟨r, A, z, F, rfl, rfl, rfl, ?_⟩
  refine lift9 (c_X9_share l g hm a j (G 31) (G 32) M (⟨hM3, hM1⟩) (by rw [← hw9, ← ho9]; exact hM4)) [1, 2, 3, 4, 5, 6, 7, 8, 9, 10, 11, 12, 13, 14, 15, 16, 17, 18, 19, 20, 21, 24, 25, 26, 27] [0, 22, 23] (by decide +kernel) rfl ?_
  rintro v w1 ⟨rm, rfl, rfl, em⟩
  refine ⟨j, G, veq (by rw [em, e, hw9, ho9]), rfl, rfl, ?_⟩
  exact Rel.of hB hMk hHt hTp hCo ⟨hw9, ho9, M, hM1, hM2, hM3, hM4⟩ hSh hLn hMm
set_option maxHeartbeats 4000000 in
set_option maxRecDepth 100000 in
theorem pr_verdict (l : Launch) (g : GT) : PairOK l g yX8_verdict wsX8_verdict ({ frames := 2, cells := 0, slots := 0, locals := 48 } : Room) yX9_verdict wsX9_verdict ({ frames := 2, cells := 0, slots := 0, locals := 49 } : Room) [] := by
  intro hd hm A z F LA LZ LT K a j G hR
  obtain ⟨hB, hMk, hHt, hTp, hCo, hTr, hSh, hLn, hMm⟩ := id hR
  have hK := hB.1
  have hz4 := hB.2.1
  have hj5 := hB.2.2.1
  obtain ⟨hw9, ho9, M, hM1, hM2, hM3, hM4⟩ := hTr
  refine lift8 (c_X8_verdict l g hd A z (A 31) (A 32) (z 34) (F 31) (F 32) M (F 5) (⟨hM2, hM1⟩) (hM4) (by rw [hMk.1]; exact hMk.2.2.2)) [1, 2, 3, 4, 5, 6, 7, 9, 10, 11, 12, 13, 14, 15, 16, 17, 18, 19, 20, 24, 25, 26, 27, 28, 29, 30, 31, 32] [0, 21, 22, 23, 8] (by decide +kernel) rfl ?_
  rintro v w1 ⟨r, rfl, rfl, e⟩
  refine ⟨r, A, z, F, rfl, rfl, rfl, ?_⟩
  refine lift9 (c_X9_verdict l g hm a j (G 31) (G 32) M (G 11) (⟨hM3, hM1⟩) (by rw [← hw9, ← ho9]; exact hM4) (hMk.2.2.2)) [1, 2, 3, 4, 5, 6, 7, 8, 9, 10, 12, 13, 14, 15, 16, 17, 18, 19, 20, 21, 24, 25, 26, 27] [0, 22, 23, 11] (by decide +kernel) rfl ?_
  rintro v w1 ⟨rm, rfl, rfl, em⟩
  refine ⟨j, G, veq (by rw [em, e, hw9, ho9, hMk.1]), rfl, rfl, ?_⟩
  exact Rel.of hB hMk hHt hTp hCo ⟨hw9, ho9, M, hM1, hM2, hM3, hM4⟩ hSh hLn hMm
