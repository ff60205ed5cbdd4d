set_option maxHeartbeats 4000000 in
set_option maxRecDepth 100000 in
theorem pr_answer (l : Launch) (g : GT) (x : Int) (much : Int) (less : Int) (ans : Int) (g_x : -2147483648 ≤ x ∧ x < 2147483648) (g_much : -2147483648 ≤ much ∧ much < 2147483648) (g_less : -2147483648 ≤ less ∧ less < 2147483648) (g_ans : -2147483648 ≤ ans ∧ ans < 2147483648) : PairOK l g yX8_answer wsX8_answer ({ frames := 6, cells := 0, slots := 0, locals := 148 } : Room) yX9_answer wsX9_answer ({ frames := 2, cells := 0, slots := 0, locals := 46 } : Room) [.int (iI x), .int (iI much), .int (iI less), .int (iI ans)] := by
  intro hd hm A z F LA LZ LT K a j G hR
  obtain ⟨hB, hMk, hHt, hTp, hCo, hTr, hSh, hLn, hMm⟩ := id hR
  have hK := hB.1
  have hz4 := hB.2.1
  have hj5 := hB.2.2.1
  by_cases hx : 0 ≤ x ∧ x < z 4
  · obtain ⟨k, hxk⟩ : ∃ k : Nat, x = (k : Int) := ⟨x.toNat, by omega⟩
    have hk : k < K := by omega
    have hxn : x.toNat = k := by omega
    have hLk := hLn.2 k hk
    have hMk9 := hMm.1 k hk
    obtain ⟨M, hM1, hM2, hM3, hM4, hM5⟩ := hLk.ok
    refine lift8L hk (c_X8_answer l g hd A z (fleF LA K) (LA k 0) (LZ k 0) (LZ k 1) (LA k 1) (LA k 5) (LA k 6) (LA k 7) (LA k 8) (LT k 5) (LT k 6) (LT k 7) (LT k 8) (A 20) (A 21) (A 22) (F 20) (F 21) (F 22) k x much less ans M (⟨hxk, by omega, by omega⟩) (fle_at hk) (⟨hM2, hM1, g_much, g_less, g_ans⟩)) [5, 6, 8, 9, 10, 11, 12, 13, 14, 15, 16, 17, 18, 19, 20, 21, 22, 23, 24, 25, 26, 27, 28, 29, 30, 31, 32, 34, 35, 36, 37] [0, 7, 33, 38, 39, 40, 41, 1, 2, 3, 4] (by decide +kernel) rfl ?_
    rintro v w1 ⟨r, mn', cn', fc', fas', fst', fhi', fd', fn', fa', rfl, rfl, e⟩
    refine ⟨r, A, z, (va_up (va_up (va_up F 20 fd') 21 fn') 22 fa'), (va_up (va_up (LZ k) 0 mn') 1 cn'), (va_up (va_up (va_up (va_up (LT k) 5 fc') 6 fas') 7 fst') 8 fhi'), rfl, rfl, rfl, ?_⟩
    refine lift9 (c_X9_answer l g hm a j (G 6) (G 7) (G 8) (G 9) (G 10) x much less ans (by omega) (by omega) (hLn.1)) [1, 2, 3, 4, 5, 11, 12, 13, 14, 15, 16, 17, 18, 19, 20, 21, 22, 23, 24, 25, 26, 27] [0, 6, 7, 8, 9, 10] (by decide +kernel) rfl ?_
    rintro v w1 ⟨rm, qmm', qum', qlm', qgm', qam', rfl, rfl, em⟩
    rw [hxn, hM3, show ((M : Int)).toNat = M from by omega] at em
    refine ⟨j, (va_up (va_up (va_up (va_up (va_up G 6 qmm') 7 qum') 8 qlm') 9 qgm') 10 qam'), veq (by rcases e with e | ⟨c9, e | e⟩ <;> rcases em with d | ⟨d9, d | d⟩ <;> first | omega | (exfalso; omega)), rfl, rfl, ?_⟩
    rcases e with e | ⟨c9, e | e⟩
    · obtain ⟨e0, e9, rfl, rfl, rfl, rfl, rfl, rfl⟩ := e
      rcases em with d | ⟨d9, -⟩
      · obtain ⟨-, -, rfl, rfl, rfl, rfl, rfl⟩ := d
        exact Rel.of hB hMk hHt hTp hCo hTr hSh (hLn.keep hk rfl rfl rfl rfl rfl rfl) (hMm.keep hk rfl rfl rfl)
      · exact absurd d9.2 e9
    · obtain ⟨e0, e9, rfl, rfl, rfl, rfl, rfl, rfl⟩ := e
      rcases em with d | ⟨d9, d | d⟩
      · exact absurd ⟨by omega, c9⟩ d.2.1
      · obtain ⟨-, -, rfl, rfl, rfl, rfl, rfl⟩ := d
        exact Rel.of hB hMk hHt hTp hCo hTr hSh (hLn.keep hk rfl rfl rfl rfl rfl rfl) (hMm.keep hk rfl rfl rfl)
      · omega
    · obtain ⟨e0, e9, rfl, rfl, rfl, rfl, rfl, e8⟩ := e
      rcases em with d | ⟨d9, d | d⟩
      · exact absurd ⟨by omega, c9⟩ d.2.1
      · omega
      · obtain ⟨-, -, rfl, rfl, rfl, rfl, rfl⟩ := d
        refine Rel.of hB hMk hHt hTp hCo hTr hSh (RLn.set (fun i9 hi9 => ?_) (hLk.more (M := M) (n := 1) (cz := fun _ => 1000 * (1000 * much + less) + ans) hM2 (by omega) rfl rfl (fun e he => ⟨up_n (LT k 5) M e _ (by omega), up_n (LT k 6) M e _ (by omega), up_n (LT k 7) M e _ (by omega)⟩) (fun e he => by rw [show M + e = M from by omega]; exact ⟨up_s (LT k 5) M _, up_s (LT k 6) M _, up_s (LT k 7) M _⟩) (fun p hp => (e8 p hp).trans (by simp [hsG])) ?_ (fun e he => ⟨up_n (G 7) (40 * k + M) (40 * k + e) _ (by omega), up_n (G 8) (40 * k + M) (40 * k + e) _ (by omega), up_n (G 9) (40 * k + M) (40 * k + e) _ (by omega), up_n (G 10) (40 * k + M) (40 * k + e) _ (by omega)⟩) (fun e he => ?_)) (fun i9 hi9 q9 => (hLn.2 i9 hi9).same (up_n (G 6) k i9 _ q9) (fun e he => ⟨up_n (G 7) (40 * k + M) (40 * i9 + e) _ (by omega), up_n (G 8) (40 * k + M) (40 * i9 + e) _ (by omega), up_n (G 9) (40 * k + M) (40 * i9 + e) _ (by omega), up_n (G 10) (40 * k + M) (40 * i9 + e) _ (by omega)⟩))) (hMm.keep hk rfl rfl rfl)
        · have h9 := hLn.1 i9 hi9
          show 0 ≤ va_up (G 6) k ((M : Int) + 1) i9 ∧ va_up (G 6) k ((M : Int) + 1) i9 ≤ 40
          unfold va_up; split <;> omega
        · rw [hM3]; exact up_s (G 6) k _
        · rw [show M + e = M from by omega]
          have u7 := up_s (G 7) (40 * k + M) much
          have u8 := up_s (G 8) (40 * k + M) less
          have u9 := up_s (G 9) (40 * k + M) ans
          have u10 := up_s (G 10) (40 * k + M) 0
          show ((TaskP (va_up (G 7) (40 * k + M) much (40 * k + M)) (va_up (G 8) (40 * k + M) less (40 * k + M)) ∧ 0 ≤ va_up (G 9) (40 * k + M) ans (40 * k + M) ∧ va_up (G 9) (40 * k + M) ans (40 * k + M) ≤ 999) ∧ (va_up (G 10) (40 * k + M) 0 (40 * k + M) = 0 ∨ va_up (G 10) (40 * k + M) 0 (40 * k + M) = 1)) ∧ va_up (G 10) (40 * k + M) 0 (40 * k + M) = 0 ∧ 1000 * (1000 * va_up (G 7) (40 * k + M) much (40 * k + M) + va_up (G 8) (40 * k + M) less (40 * k + M)) + va_up (G 9) (40 * k + M) ans (40 * k + M) = 1000 * (1000 * much + less) + ans
          rw [u7, u8, u9, u10]
          exact ⟨⟨c9, Or.inl rfl⟩, rfl, rfl⟩
  · refine lift8 (c_X8_answerB l g hd A z (fleF LA K) x much less ans (by omega)) [1, 2, 3, 4, 5, 6, 8, 9, 10, 11, 12, 13, 14, 15, 16, 17, 18, 19, 20, 21, 22, 23, 24, 25, 26, 27, 28, 29, 30, 31, 32] [0, 7] (by decide +kernel) rfl ?_
    rintro v w1 ⟨r, rfl, rfl, e⟩
    refine ⟨r, A, z, F, rfl, rfl, rfl, ?_⟩
    refine lift9 (c_X9_answer l g hm a j (G 6) (G 7) (G 8) (G 9) (G 10) x much less ans (by omega) (by omega) (hLn.1)) [1, 2, 3, 4, 5, 11, 12, 13, 14, 15, 16, 17, 18, 19, 20, 21, 22, 23, 24, 25, 26, 27] [0, 6, 7, 8, 9, 10] (by decide +kernel) rfl ?_
    rintro v w1 ⟨rm, qmm', qum', qlm', qgm', qam', rfl, rfl, em⟩
    have hre : rm = -1 := by
      rcases em with ⟨h9, -⟩ | ⟨z9, -⟩
      · exact h9
      · exact absurd z9.1 (by omega)
    refine ⟨j, (va_up (va_up (va_up (va_up (va_up G 6 qmm') 7 qum') 8 qlm') 9 qgm') 10 qam'), veq (hre.trans e.symm), rfl, rfl, ?_⟩
    rcases em with ⟨-, -, rfl, rfl, rfl, rfl, rfl⟩ | ⟨z9, -⟩
    · exact Rel.of hB hMk hHt hTp hCo hTr hSh hLn hMm
    · exact absurd z9.1 (by omega)
set_option maxHeartbeats 4000000 in
set_option maxRecDepth 100000 in
theorem pr_aside (l : Launch) (g : GT) (x : Int) (az : Int) (aw : Int) (g_x : -2147483648 ≤ x ∧ x < 2147483648) (g_az : -2147483648 ≤ az ∧ az < 2147483648) (g_aw : aw = 0 ∨ aw = 1) : PairOK l g yX8_aside wsX8_aside ({ frames := 6, cells := 0, slots := 0, locals := 148 } : Room) yX9_aside wsX9_aside ({ frames := 2, cells := 0, slots := 0, locals := 46 } : Room) [.int (iI x), .int (iI az), .int (iI aw)] := by
  intro hd hm A z F LA LZ LT K a j G hR
  obtain ⟨hB, hMk, hHt, hTp, hCo, hTr, hSh, hLn, hMm⟩ := id hR
  have hK := hB.1
  have hz4 := hB.2.1
  have hj5 := hB.2.2.1
  by_cases hx : 0 ≤ x ∧ x < z 4
  · obtain ⟨k, hxk⟩ : ∃ k : Nat, x = (k : Int) := ⟨x.toNat, by omega⟩
    have hk : k < K := by omega
    have hxn : x.toNat = k := by omega
    have hLk := hLn.2 k hk
    have hMk9 := hMm.1 k hk
    obtain ⟨M, hM1, hM2, hM3, hM4, hM5⟩ := hLk.ok
    refine lift8L hk (c_X8_aside l g hd A z (fleF LA K) (LA k 0) (LZ k 0) (LZ k 1) (LA k 1) (LA k 5) (LA k 6) (LA k 7) (LA k 8) (LT k 5) (LT k 6) (LT k 7) (LT k 8) (A 20) (A 21) (A 22) (F 20) (F 21) (F 22) k x az aw M (⟨hxk, by omega, by omega⟩) (fle_at hk) (⟨hM2, hM1, g_aw, g_az⟩) (fun p hp => ⟨(hM4 p hp).1, (hM4 p hp).2.1⟩)) [5, 6, 8, 9, 10, 11, 12, 13, 14, 15, 16, 17, 18, 19, 20, 21, 22, 23, 24, 25, 26, 27, 28, 29, 30, 31, 32, 34, 35, 36, 37] [0, 7, 33, 38, 39, 40, 41, 1, 2, 3, 4] (by decide +kernel) rfl ?_
    rintro v w1 ⟨r, cn', fas', fhi', fd', fn', fa', rfl, rfl, e⟩
    refine ⟨r, A, z, (va_up (va_up (va_up F 20 fd') 21 fn') 22 fa'), (va_up (LZ k) 1 cn'), (va_up (va_up (LT k) 6 fas') 8 fhi'), rfl, rfl, rfl, ?_⟩
    refine lift9 (c_X9_aside l g hm a j (G 6) (G 10) x az aw (⟨g_x, g_az, g_aw⟩) (by omega) (hLn.1) (fun k9 h1 h2 => (hLn.vd k9 h1 (by rw [← hj5]; exact h2)).2)) [1, 2, 3, 4, 5, 7, 8, 9, 11, 12, 13, 14, 15, 16, 17, 18, 19, 20, 21, 22, 23, 24, 25, 26, 27] [0, 6, 10] (by decide +kernel) rfl ?_
    rintro v w1 ⟨rm, qam', rfl, rfl, em⟩
    rw [hxn, hM3] at em
    have has9 : 0 ≤ az ∧ az < (M : Int) → LT k 6 az.toNat = G 10 (40 * k + az.toNat) := fun z9 => by obtain ⟨M0, b1, b2, b3, b4, -⟩ := hLk; exact (b4 az.toNat (by omega)).2.2.1
    refine ⟨j, (va_up G 10 qam'), veq (by rcases e with e | ⟨c9, e, -⟩ <;> rcases em with d | ⟨d9, d, -⟩ <;> first | omega | (rw [d, e]; exact (has9 (by omega)).symm)), rfl, rfl, ?_⟩
    rcases e with e | ⟨c9, e0, rfl, rfl, e8⟩
    · obtain ⟨e0, e9, rfl, rfl, rfl⟩ := e
      rcases em with ⟨-, -, rfl⟩ | ⟨d9, -⟩
      · exact Rel.of hB hMk hHt hTp hCo hTr hSh (hLn.keep hk rfl rfl rfl rfl rfl rfl) (hMm.keep hk rfl rfl rfl)
      · omega
    · rcases em with ⟨-, d9, -⟩ | ⟨d9, -, rfl⟩
      · omega
      · exact Rel.of hB hMk hHt hTp hCo hTr hSh (RLn.set hLn.1 (hLk.put (M := M) (az := az.toNat) (w := aw) hM2 (by omega) g_aw rfl rfl rfl rfl rfl e8 rfl) (fun i9 hi9 q9 => (hLn.2 i9 hi9).same rfl (fun e he => ⟨rfl, rfl, rfl, up_n (G 10) (40 * k + az.toNat) (40 * i9 + e) aw (by omega)⟩))) (hMm.keep hk rfl rfl rfl)
  · refine lift8 (c_X8_asideB l g hd A z (fleF LA K) x az aw (by omega)) [1, 2, 3, 4, 5, 6, 8, 9, 10, 11, 12, 13, 14, 15, 16, 17, 18, 19, 20, 21, 22, 23, 24, 25, 26, 27, 28, 29, 30, 31, 32] [0, 7] (by decide +kernel) rfl ?_
    rintro v w1 ⟨r, rfl, rfl, e⟩
    refine ⟨r, A, z, F, rfl, rfl, rfl, ?_⟩
    refine lift9 (c_X9_aside l g hm a j (G 6) (G 10) x az aw (⟨g_x, g_az, g_aw⟩) (by omega) (hLn.1) (fun k9 h1 h2 => (hLn.vd k9 h1 (by rw [← hj5]; exact h2)).2)) [1, 2, 3, 4, 5, 7, 8, 9, 11, 12, 13, 14, 15, 16, 17, 18, 19, 20, 21, 22, 23, 24, 25, 26, 27] [0, 6, 10] (by decide +kernel) rfl ?_
    rintro v w1 ⟨rm, qam', rfl, rfl, em⟩
    have hre : rm = -1 := by
      rcases em with ⟨h9, -⟩ | ⟨z9, -⟩
      · exact h9
      · exact absurd z9.1 (by omega)
    refine ⟨j, (va_up G 10 qam'), veq (hre.trans e.symm), rfl, rfl, ?_⟩
    rcases em with ⟨-, -, rfl⟩ | ⟨z9, -⟩
    · exact Rel.of hB hMk hHt hTp hCo hTr hSh hLn hMm
    · exact absurd z9.1 (by omega)
set_option maxHeartbeats 4000000 in
set_option maxRecDepth 100000 in
theorem pr_strange (l : Launch) (g : GT) (what : Int) (g_what : -2147483648 ≤ what ∧ what < 2147483648) : PairOK l g yX8_strange wsX8_strange ({ frames := 2, cells := 0, slots := 0, locals := 43 } : Room) yX9_strange wsX9_strange ({ frames := 3, cells := 0, slots := 0, locals := 74 } : Room) [.int (iI what)] := by
  intro hd hm A z F LA LZ LT K a j G hR
  obtain ⟨hB, hMk, hHt, hTp, hCo, hTr, hSh, hLn, hMm⟩ := id hR
  have hK := hB.1
  have hz4 := hB.2.1
  have hj5 := hB.2.2.1
  refine lift8B (c_X8_strange l g hd A z (fleF LA K) (A 23) (z 30) (F 23) (z 31) LA LZ LT K what ⟨hz4, hK, hB.2.2.2.2.1, hB.2.2.2.2.2, g_what⟩ (fun k9 hk9 => ⟨fle_at hk9, ?_⟩)) [1, 2, 3, 4, 5, 6, 8, 11, 12, 13, 14, 15, 16, 17, 18, 19, 20, 21, 22, 23, 24, 25, 26, 27, 28, 29, 30, 31, 32] [0, 7, 9, 10] (by decide +kernel) rfl ?_
  · obtain ⟨M, hM1, hM2, hM3, hM4, hM5⟩ := (hLn.2 k9 hk9).ok
    exact ⟨by omega, fun i9 hi9 => hM4 i9 (by omega)⟩
  rintro v w1 ⟨r, fu', fo', kz', rfl, rfl, e, e2⟩
  refine ⟨r, A, va_up (va_up z 30 fu') 31 kz', va_up F 23 fo', LT, _, [0, 1, 2, 3, 4, 5, 6, 7, 8, 9, 10, 11, 12, 13, 14, 15, 16, 17, 18, 19, 20, 21, 22, 23, 24, 25, 26, 27, 28, 29, 30, 31, 32], rfl, rfl, rfl, by decide +kernel, rfl, ?_⟩
  refine lift9 (c_X9_strange l g hm a j (G 6) (G 7) (G 8) (G 9) (G 10) (G 1) (G 2) (G 3) (G 0) what (by omega) (by omega) (hLn.1) (by rw [hj5]; exact hLn.vd) (hB.2.2.2.1)) [5, 11, 12, 13, 14, 15, 16, 17, 18, 19, 20, 21, 22, 23, 24, 25, 26, 27] [0, 6, 7, 8, 9, 10, 2, 3, 4, 1] (by decide +kernel) rfl ?_
  rintro v w1 ⟨rm, fam', fdm', fnm', rfl, rfl, em⟩
  have hre : rm = r := by
    rcases em with ⟨c9, d9⟩ | ⟨c9, bs9, ms9, s9, d9⟩
    · rw [d9, e]; unfold stR; rw [if_pos c9]
    · rw [hj5] at s9; rw [d9, e]; exact strange_eq hK hLn c9 s9
  refine ⟨j, (va_up (va_up (va_up G 1 fam') 2 fdm') 3 fnm'), veq (hre), rfl, rfl, ?_⟩
  exact Rel.of ⟨hB.1, hB.2.1, hB.2.2.1, hB.2.2.2.1, e2⟩ hMk hHt hTp hCo hTr hSh hLn hMm
set_option maxHeartbeats 4000000 in
set_option maxRecDepth 100000 in
theorem pr_skills (l : Launch) (g : GT) : PairOK l g yX8_skills wsX8_skills ({ frames := 5, cells := 0, slots := 0, locals := 114 } : Room) yX9_skills wsX9_skills ({ frames := 3, cells := 0, slots := 0, locals := 74 } : Room) [] := by
  intro hd hm A z F LA LZ LT K a j G hR
  obtain ⟨hB, hMk, hHt, hTp, hCo, hTr, hSh, hLn, hMm⟩ := id hR
  have hK := hB.1
  have hz4 := hB.2.1
  have hj5 := hB.2.2.1
  obtain ⟨hft, L, hL1, hL2, hL3, hL4⟩ := hTp
  refine lift8B (c_X8_skills l g hd A z (fleF LA K) (A 24) (z 32) (z 33) (F 24) L (A 28) (A 29) (A 30) (F 28) (F 29) (F 30) LA LZ LT K ⟨hL2, hL1, hz4, hK⟩ hL4 (fun k9 hk9 => fle_at hk9)) [1, 2, 3, 4, 5, 6, 8, 9, 10, 13, 14, 15, 16, 21, 22, 23, 24, 25, 26, 27, 28, 29, 30, 31, 32] [0, 7, 11, 12, 17, 18, 19, 20] (by decide +kernel) rfl ?_
  rintro v w1 ⟨r, d', LT', tp', fh', fg', fl', rfl, rfl, e, e2, e3, e4⟩
  have hok := rdF_ok (t := F 24) (L := L) 8 1 0 (fun _ => 0, fun _ => 0, fun _ => 0) (by omega) (fun j9 _ => ⟨(by decide : (0 : Int) ≤ 0), (by decide : (0 : Int) ≤ 20), (by decide : (0 : Int) ≤ 0), (by decide : (0 : Int) ≤ 99), (by decide : (0 : Int) ≤ 0), (by decide : (0 : Int) < 256)⟩)
  rw [← e2] at hok
  by_cases hr0 : 0 ≤ r
  · obtain ⟨rfl, rfl⟩ := e4 hr0
    refine ⟨r, (va_up (va_up (va_up (va_up (va_up (va_up (va_up (va_up A 9 (A 10)) 10 (A 9)) 25 (A 28)) 26 (A 29)) 27 (A 30)) 28 (A 25)) 29 (A 26)) 30 (A 27)), va_up (va_up z 32 0) 33 tp', (va_up (va_up (va_up (va_up (va_up (va_up F 25 fh') 26 fg') 27 fl') 28 (F 25)) 29 (F 26)) 30 (F 27)), fgT LT K, _, [0, 1, 2, 3, 4, 5, 6, 7, 8, 9, 10, 11, 12, 17, 18, 19, 20, 13, 14, 15, 16, 21, 22, 23, 24, 25, 26, 27, 28, 29, 30, 31, 32], rfl, rfl, rfl, by decide +kernel, by unfold DX; rw [fsh_sw]; rfl, ?_⟩
    refine lift9 (c_X9_skills l g hm a j (G 15) L (G 24) (G 25) (G 26) (G 20) (G 21) (G 22) (G 27) (G 28) (G 29) (⟨hL3, hL1⟩) (by rw [← hft]; exact hL4)) [1, 2, 3, 4, 5, 6, 7, 8, 9, 10, 11, 22, 23, 24, 25, 26, 27] [0, 12, 16, 17, 18, 13, 14, 15, 19, 20, 21] (by decide +kernel) rfl ?_
    rintro v w1 ⟨rm, im', rhm', rgm', rlm', fhm', fgm', flm', hvm', ltm', knm', rfl, rfl, e0m, em, e1m, e2m, e3m, e4m⟩
    rw [← hft] at em e3m
    have hre : rm = r := em.trans e.symm
    refine ⟨im', (va_up (va_up (va_up (va_up (va_up (va_up (va_up (va_up (va_up G 24 rhm') 25 rgm') 26 rlm') 20 fhm') 21 fgm') 22 flm') 27 hvm') 28 ltm') 29 knm'), veq (hre), rfl, rfl, ?_⟩
    obtain ⟨s1, s2⟩ := e3m (by omega)
    have s4 := e4m hCo.2.2.1
    rw [← e2] at s1
    have i5 := e0m 5 (by decide) (by decide) (by decide) (by decide) (by decide)
    have i13 := e0m 13 (by decide) (by decide) (by decide) (by decide) (by decide)
    have i14 := e0m 14 (by decide) (by decide) (by decide) (by decide) (by decide)
    have i30 := e0m 30 (by decide) (by decide) (by decide) (by decide) (by decide)
    refine Rel.of ⟨hB.1, hB.2.1, by rw [i5]; exact hj5, hB.2.2.2⟩ hMk (by rw [i13, i14]; exact hHt) ⟨hft, 0, by omega, rfl, e1m, fun p hp => absurd hp (Nat.not_lt_zero p)⟩ ⟨s1, s4.2 (by omega), s4.1, hok⟩ (by rw [i30]; exact hTr) hSh ⟨hLn.1, fun k9 hk9 => ?_⟩ ⟨fun k9 hk9 s9 hs9 => ?_, fun q9 _ h2 => s2 q9 h2⟩
    · have a9 : ∀ t9, ¬ t9 = 2 → ¬ t9 = 3 → ¬ t9 = 4 → fgT LT K k9 t9 = LT k9 t9 := fun t9 z2 z3 z4 => by unfold fgT; rw [if_pos hk9, if_neg z2, if_neg z3, if_neg z4]
      exact (hLn.2 k9 hk9).T (a9 5 (by decide) (by decide) (by decide)) (a9 6 (by decide) (by decide) (by decide)) (a9 7 (by decide) (by decide) (by decide)) (a9 8 (by decide) (by decide) (by decide))
    · have b9 := s2 (8 * k9 + s9) (by omega)
      refine Or.inl ⟨?_, ?_, ?_, b9.1, b9.2.1, b9.2.2⟩
      · show fgT LT K k9 2 s9 = -1; unfold fgT; rw [if_pos hk9]; rfl
      · show fgT LT K k9 3 s9 = 0; unfold fgT; rw [if_pos hk9]; rfl
      · show fgT LT K k9 4 s9 = 8; unfold fgT; rw [if_pos hk9]; rfl
  · obtain ⟨a1, a2⟩ := e3 (by omega)
    obtain rfl := a1.symm
    obtain rfl := a2.symm
    refine ⟨r, A, va_up (va_up z 32 0) 33 tp', va_up (va_up (va_up F 28 fh') 29 fg') 30 fl', LT, _, [0, 1, 2, 3, 4, 5, 6, 7, 8, 9, 10, 11, 12, 13, 14, 15, 16, 17, 18, 19, 20, 21, 22, 23, 24, 25, 26, 27, 28, 29, 30, 31, 32], rfl, rfl, rfl, by decide +kernel, rfl, ?_⟩
    refine lift9 (c_X9_skills l g hm a j (G 15) L (G 24) (G 25) (G 26) (G 20) (G 21) (G 22) (G 27) (G 28) (G 29) (⟨hL3, hL1⟩) (by rw [← hft]; exact hL4)) [1, 2, 3, 4, 5, 6, 7, 8, 9, 10, 11, 22, 23, 24, 25, 26, 27] [0, 12, 16, 17, 18, 13, 14, 15, 19, 20, 21] (by decide +kernel) rfl ?_
    rintro v w1 ⟨rm, im', rhm', rgm', rlm', fhm', fgm', flm', hvm', ltm', knm', rfl, rfl, e0m, em, e1m, e2m, e3m, e4m⟩
    rw [← hft] at em
    have hre : rm = r := em.trans e.symm
    refine ⟨im', (va_up (va_up (va_up (va_up (va_up (va_up (va_up (va_up (va_up G 24 rhm') 25 rgm') 26 rlm') 20 fhm') 21 fgm') 22 flm') 27 hvm') 28 ltm') 29 knm'), veq (hre), rfl, rfl, ?_⟩
    obtain ⟨i19, rfl, rfl, rfl, rfl, rfl, rfl⟩ := e2m (by omega)
    have s4 := e4m hCo.2.2.1
    have i5 := e0m 5 (by decide) (by decide) (by decide) (by decide) (by decide)
    have i13 := e0m 13 (by decide) (by decide) (by decide) (by decide) (by decide)
    have i14 := e0m 14 (by decide) (by decide) (by decide) (by decide) (by decide)
    have i30 := e0m 30 (by decide) (by decide) (by decide) (by decide) (by decide)
    exact Rel.of ⟨hB.1, hB.2.1, by rw [i5]; exact hj5, hB.2.2.2⟩ hMk (by rw [i13, i14]; exact hHt) ⟨hft, 0, by omega, rfl, e1m, fun p hp => absurd hp (Nat.not_lt_zero p)⟩ ⟨by rw [i19]; exact hCo.1, hCo.2.1, s4.1, hCo.2.2.2⟩ (by rw [i30]; exact hTr) hSh hLn hMm
