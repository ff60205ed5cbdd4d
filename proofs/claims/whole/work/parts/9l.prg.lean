set_option maxHeartbeats 4000000 in
set_option maxRecDepth 100000 in
theorem pr_answers (l : Launch) (g : GT) (x : Int) (xs : Int) (lane : Int) (x2 : Int) (n : Int) (g_x : -2147483648 ≤ x ∧ x < 2147483648) (g_xs : -2147483648 ≤ xs ∧ xs < 2147483648) (g_lane : -2147483648 ≤ lane ∧ lane < 2147483648) (g_x2 : -2147483648 ≤ x2 ∧ x2 < 2147483648) (g_n : -2147483648 ≤ n ∧ n < 2147483648) : PairOK l g yX8_answers wsX8_answers ({ frames := 6, cells := 0, slots := 0, locals := 148 } : Room) yX9_answers wsX9_answers ({ frames := 2, cells := 0, slots := 0, locals := 46 } : Room) [.int (iI x), .int (iI xs), .int (iI lane), .int (iI x2), .int (iI n)] := by
  intro hd hm A z F LA LZ LT K a j G hR
  obtain ⟨hB, hMk, hHt, hTp, hCo, hTr, hSh, hLn, hMm⟩ := id hR
  have hK := hB.1
  have hz4 := hB.2.1
  have hj5 := hB.2.2.1
  by_cases hx : 0 ≤ x ∧ x < z 4
  · by_cases hs : 0 ≤ xs ∧ xs ≤ 3
    · obtain ⟨k, hxk⟩ : ∃ k : Nat, x = (k : Int) := ⟨x.toNat, by omega⟩
      have hk : k < K := by omega
      have hxn : x.toNat = k := by omega
      have hLk := hLn.2 k hk
      have hMk9 := hMm.1 k hk
      obtain ⟨M, hM1, hM2, hM3, hM4, hM5⟩ := hLk.ok
      rcases (show xs = 0 ∨ xs = 1 ∨ xs = 2 ∨ xs = 3 by omega) with hse | hse | hse | hse <;> subst hse
      · refine lift8L hk (c_X8_answers l g hd A z (fleF LA K) (LA k 0) (LZ k 0) (LZ k 1) (LA k 1) (LA k 5) (LA k 6) (LA k 7) (LA k 8) (LT k 5) (LT k 6) (LT k 7) (LT k 8) (A 20) (A 21) (A 22) (F 20) (F 21) (F 22) (fshF A) (A 40) (A 50) (z 40) (z 50) (F 50) k x 0 (0 : Int) lane x2 n M (⟨hxk, by omega, by omega⟩) (fle_at hk) (⟨hM2, hM1, rfl, by decide, hSh.1.1.1, hSh.1.1.2.1, hSh.1.1.2.2.1, hSh.1.1.2.2.2, g_lane, g_x2, g_n⟩) (rfl) (fun p hp => (hSh.1.2.2.2 p hp).2)) [5, 6, 8, 9, 10, 11, 12, 13, 14, 15, 16, 17, 18, 19, 20, 21, 22, 23, 27, 28, 29, 30, 31, 32, 34, 35, 36, 37] [0, 7, 33, 38, 39, 40, 41, 1, 2, 3, 4, 24, 25, 26] (by decide +kernel) rfl ?_
        rintro v w1 ⟨r, mn', cn', fc', fas', fst', fhi', fd', fn', fa', rfl, rfl, e, e2, e3⟩
        refine ⟨r, A, z, (va_up (va_up (va_up F 20 fd') 21 fn') 22 fa'), (va_up (va_up (LZ k) 0 mn') 1 cn'), (va_up (va_up (va_up (va_up (LT k) 5 fc') 6 fas') 7 fst') 8 fhi'), rfl, rfl, rfl, ?_⟩
        have har := ans_r e
        refine lift9 (c_X9_answers l g hm a j (G 6) (G 7) (G 8) (G 9) (G 10) (G 33) (G 34) (G 35) x (0 : Int) lane x2 n (by omega) (by omega) (hLn.1) (hSh.L) (hSh.I)) [1, 2, 3, 4, 5, 11, 12, 13, 14, 15, 16, 17, 18, 19, 20, 21, 22, 23, 27] [0, 6, 7, 8, 9, 10, 24, 25, 26] (by decide +kernel) rfl ?_
        rintro v w1 ⟨rm, qmm', qum', qlm', qgm', qam', rfl, rfl, em, e2m, e3m⟩
        rw [if_pos (by omega), hxn, hM3, ← hM2] at em
        have hre := em.trans ((ans_eq hSh.1 rfl).trans e.symm)
        refine ⟨j, (va_up (va_up (va_up (va_up (va_up G 6 qmm') 7 qum') 8 qlm') 9 qgm') 10 qam'), veq (hre), rfl, rfl, ?_⟩
        by_cases hr0 : 0 ≤ r
        · obtain ⟨q1, q2, q3, q4⟩ := har hr0
          obtain ⟨a1, a2, a3, a4, a5, a6, a7, a8⟩ := e3 hr0
          obtain ⟨b1, b2, b3, b4, b5, b6, b7⟩ := e3m (by omega)
          rw [hxn] at b3 b5 b6 b7
          rw [hM3] at b3 b5
          rw [hM3, show ((M : Int)).toNat = M from by omega] at b6 b7
          have hps : ∀ i9, i9 < 3 * n.toNat → G 35 (40 * (0 : Int).toNat + x2.toNat + i9) = F 50 (x2.toNat + i9) := fun i9 hi9 => by rw [(hSh.1.2.2.2 (x2.toNat + i9) (by have h9 := hSh.1.1; omega)).1, Nat.add_assoc]; rfl
          exact Rel.of hB hMk hHt hTp hCo hTr hSh (hLn.answers hk hLk hM2 hM3 hM1 (n := n.toNat) (ps := fun i9 => F 50 (x2.toNat + i9)) (by omega) (show mn' = LZ k 0 + (n.toNat : Int) by omega) (show cn' = LZ k 1 + (n.toNat : Int) by omega) a5 a6 a7 a8 (show qmm' k = G 6 k + (n.toNat : Int) by omega) b5.2 (fun e9 he9 => by have h6 := b6 e9 he9; rw [← hps _ (by omega), ← hps _ (by omega), ← hps _ (by omega)]; exact h6) (fun k9 hk9 => b7 k9 (by omega))) (hMm.keep hk rfl rfl rfl)
        · obtain ⟨rfl, rfl, rfl, rfl, rfl⟩ := e2m (by omega)
          obtain ⟨rfl, rfl, rfl, rfl, rfl, rfl⟩ := e2 (by omega)
          exact Rel.of hB hMk hHt hTp hCo hTr hSh (hLn.keep hk rfl rfl rfl rfl rfl rfl) (hMm.keep hk rfl rfl rfl)
      · refine lift8L hk (c_X8_answers l g hd A z (fleF LA K) (LA k 0) (LZ k 0) (LZ k 1) (LA k 1) (LA k 5) (LA k 6) (LA k 7) (LA k 8) (LT k 5) (LT k 6) (LT k 7) (LT k 8) (A 20) (A 21) (A 22) (F 20) (F 21) (F 22) (fshF A) (A 41) (A 51) (z 41) (z 51) (F 51) k x 1 (1 : Int) lane x2 n M (⟨hxk, by omega, by omega⟩) (fle_at hk) (⟨hM2, hM1, rfl, by decide, hSh.2.1.1.1, hSh.2.1.1.2.1, hSh.2.1.1.2.2.1, hSh.2.1.1.2.2.2, g_lane, g_x2, g_n⟩) (rfl) (fun p hp => (hSh.2.1.2.2.2 p hp).2)) [5, 6, 8, 9, 10, 11, 12, 13, 14, 15, 16, 17, 18, 19, 20, 21, 22, 23, 25, 26, 29, 30, 31, 32, 34, 35, 36, 37] [0, 7, 33, 38, 39, 40, 41, 1, 2, 3, 4, 24, 27, 28] (by decide +kernel) rfl ?_
        rintro v w1 ⟨r, mn', cn', fc', fas', fst', fhi', fd', fn', fa', rfl, rfl, e, e2, e3⟩
        refine ⟨r, A, z, (va_up (va_up (va_up F 20 fd') 21 fn') 22 fa'), (va_up (va_up (LZ k) 0 mn') 1 cn'), (va_up (va_up (va_up (va_up (LT k) 5 fc') 6 fas') 7 fst') 8 fhi'), rfl, rfl, rfl, ?_⟩
        have har := ans_r e
        refine lift9 (c_X9_answers l g hm a j (G 6) (G 7) (G 8) (G 9) (G 10) (G 33) (G 34) (G 35) x (1 : Int) lane x2 n (by omega) (by omega) (hLn.1) (hSh.L) (hSh.I)) [1, 2, 3, 4, 5, 11, 12, 13, 14, 15, 16, 17, 18, 19, 20, 21, 22, 23, 27] [0, 6, 7, 8, 9, 10, 24, 25, 26] (by decide +kernel) rfl ?_
        rintro v w1 ⟨rm, qmm', qum', qlm', qgm', qam', rfl, rfl, em, e2m, e3m⟩
        rw [if_pos (by omega), hxn, hM3, ← hM2] at em
        have hre := em.trans ((ans_eq hSh.2.1 rfl).trans e.symm)
        refine ⟨j, (va_up (va_up (va_up (va_up (va_up G 6 qmm') 7 qum') 8 qlm') 9 qgm') 10 qam'), veq (hre), rfl, rfl, ?_⟩
        by_cases hr0 : 0 ≤ r
        · obtain ⟨q1, q2, q3, q4⟩ := har hr0
          obtain ⟨a1, a2, a3, a4, a5, a6, a7, a8⟩ := e3 hr0
          obtain ⟨b1, b2, b3, b4, b5, b6, b7⟩ := e3m (by omega)
          rw [hxn] at b3 b5 b6 b7
          rw [hM3] at b3 b5
          rw [hM3, show ((M : Int)).toNat = M from by omega] at b6 b7
          have hps : ∀ i9, i9 < 3 * n.toNat → G 35 (40 * (1 : Int).toNat + x2.toNat + i9) = F 51 (x2.toNat + i9) := fun i9 hi9 => by rw [(hSh.2.1.2.2.2 (x2.toNat + i9) (by have h9 := hSh.2.1.1; omega)).1, Nat.add_assoc]; rfl
          exact Rel.of hB hMk hHt hTp hCo hTr hSh (hLn.answers hk hLk hM2 hM3 hM1 (n := n.toNat) (ps := fun i9 => F 51 (x2.toNat + i9)) (by omega) (show mn' = LZ k 0 + (n.toNat : Int) by omega) (show cn' = LZ k 1 + (n.toNat : Int) by omega) a5 a6 a7 a8 (show qmm' k = G 6 k + (n.toNat : Int) by omega) b5.2 (fun e9 he9 => by have h6 := b6 e9 he9; rw [← hps _ (by omega), ← hps _ (by omega), ← hps _ (by omega)]; exact h6) (fun k9 hk9 => b7 k9 (by omega))) (hMm.keep hk rfl rfl rfl)
        · obtain ⟨rfl, rfl, rfl, rfl, rfl⟩ := e2m (by omega)
          obtain ⟨rfl, rfl, rfl, rfl, rfl, rfl⟩ := e2 (by omega)
          exact Rel.of hB hMk hHt hTp hCo hTr hSh (hLn.keep hk rfl rfl rfl rfl rfl rfl) (hMm.keep hk rfl rfl rfl)
      · refine lift8L hk (c_X8_answers l g hd A z (fleF LA K) (LA k 0) (LZ k 0) (LZ k 1) (LA k 1) (LA k 5) (LA k 6) (LA k 7) (LA k 8) (LT k 5) (LT k 6) (LT k 7) (LT k 8) (A 20) (A 21) (A 22) (F 20) (F 21) (F 22) (fshF A) (A 42) (A 52) (z 42) (z 52) (F 52) k x 2 (2 : Int) lane x2 n M (⟨hxk, by omega, by omega⟩) (fle_at hk) (⟨hM2, hM1, rfl, by decide, hSh.2.2.1.1.1, hSh.2.2.1.1.2.1, hSh.2.2.1.1.2.2.1, hSh.2.2.1.1.2.2.2, g_lane, g_x2, g_n⟩) (rfl) (fun p hp => (hSh.2.2.1.2.2.2 p hp).2)) [5, 6, 8, 9, 10, 11, 12, 13, 14, 15, 16, 17, 18, 19, 20, 21, 22, 23, 25, 26, 27, 28, 31, 32, 34, 35, 36, 37] [0, 7, 33, 38, 39, 40, 41, 1, 2, 3, 4, 24, 29, 30] (by decide +kernel) rfl ?_
        rintro v w1 ⟨r, mn', cn', fc', fas', fst', fhi', fd', fn', fa', rfl, rfl, e, e2, e3⟩
        refine ⟨r, A, z, (va_up (va_up (va_up F 20 fd') 21 fn') 22 fa'), (va_up (va_up (LZ k) 0 mn') 1 cn'), (va_up (va_up (va_up (va_up (LT k) 5 fc') 6 fas') 7 fst') 8 fhi'), rfl, rfl, rfl, ?_⟩
        have har := ans_r e
        refine lift9 (c_X9_answers l g hm a j (G 6) (G 7) (G 8) (G 9) (G 10) (G 33) (G 34) (G 35) x (2 : Int) lane x2 n (by omega) (by omega) (hLn.1) (hSh.L) (hSh.I)) [1, 2, 3, 4, 5, 11, 12, 13, 14, 15, 16, 17, 18, 19, 20, 21, 22, 23, 27] [0, 6, 7, 8, 9, 10, 24, 25, 26] (by decide +kernel) rfl ?_
        rintro v w1 ⟨rm, qmm', qum', qlm', qgm', qam', rfl, rfl, em, e2m, e3m⟩
        rw [if_pos (by omega), hxn, hM3, ← hM2] at em
        have hre := em.trans ((ans_eq hSh.2.2.1 rfl).trans e.symm)
        refine ⟨j, (va_up (va_up (va_up (va_up (va_up G 6 qmm') 7 qum') 8 qlm') 9 qgm') 10 qam'), veq (hre), rfl, rfl, ?_⟩
        by_cases hr0 : 0 ≤ r
        · obtain ⟨q1, q2, q3, q4⟩ := har hr0
          obtain ⟨a1, a2, a3, a4, a5, a6, a7, a8⟩ := e3 hr0
          obtain ⟨b1, b2, b3, b4, b5, b6, b7⟩ := e3m (by omega)
          rw [hxn] at b3 b5 b6 b7
          rw [hM3] at b3 b5
          rw [hM3, show ((M : Int)).toNat = M from by omega] at b6 b7
          have hps : ∀ i9, i9 < 3 * n.toNat → G 35 (40 * (2 : Int).toNat + x2.toNat + i9) = F 52 (x2.toNat + i9) := fun i9 hi9 => by rw [(hSh.2.2.1.2.2.2 (x2.toNat + i9) (by have h9 := hSh.2.2.1.1; omega)).1, Nat.add_assoc]; rfl
          exact Rel.of hB hMk hHt hTp hCo hTr hSh (hLn.answers hk hLk hM2 hM3 hM1 (n := n.toNat) (ps := fun i9 => F 52 (x2.toNat + i9)) (by omega) (show mn' = LZ k 0 + (n.toNat : Int) by omega) (show cn' = LZ k 1 + (n.toNat : Int) by omega) a5 a6 a7 a8 (show qmm' k = G 6 k + (n.toNat : Int) by omega) b5.2 (fun e9 he9 => by have h6 := b6 e9 he9; rw [← hps _ (by omega), ← hps _ (by omega), ← hps _ (by omega)]; exact h6) (fun k9 hk9 => b7 k9 (by omega))) (hMm.keep hk rfl rfl rfl)
        · obtain ⟨rfl, rfl, rfl, rfl, rfl⟩ := e2m (by omega)
          obtain ⟨rfl, rfl, rfl, rfl, rfl, rfl⟩ := e2 (by omega)
          exact Rel.of hB hMk hHt hTp hCo hTr hSh (hLn.keep hk rfl rfl rfl rfl rfl rfl) (hMm.keep hk rfl rfl rfl)
      · refine lift8L hk (c_X8_answers l g hd A z (fleF LA K) (LA k 0) (LZ k 0) (LZ k 1) (LA k 1) (LA k 5) (LA k 6) (LA k 7) (LA k 8) (LT k 5) (LT k 6) (LT k 7) (LT k 8) (A 20) (A 21) (A 22) (F 20) (F 21) (F 22) (fshF A) (A 43) (A 53) (z 43) (z 53) (F 53) k x 3 (3 : Int) lane x2 n M (⟨hxk, by omega, by omega⟩) (fle_at hk) (⟨hM2, hM1, rfl, by decide, hSh.2.2.2.1.1, hSh.2.2.2.1.2.1, hSh.2.2.2.1.2.2.1, hSh.2.2.2.1.2.2.2, g_lane, g_x2, g_n⟩) (rfl) (fun p hp => (hSh.2.2.2.2.2.2 p hp).2)) [5, 6, 8, 9, 10, 11, 12, 13, 14, 15, 16, 17, 18, 19, 20, 21, 22, 23, 25, 26, 27, 28, 29, 30, 34, 35, 36, 37] [0, 7, 33, 38, 39, 40, 41, 1, 2, 3, 4, 24, 31, 32] (by decide +kernel) rfl ?_
        rintro v w1 ⟨r, mn', cn', fc', fas', fst', fhi', fd', fn', fa', rfl, rfl, e, e2, e3⟩
        refine ⟨r, A, z, (va_up (va_up (va_up F 20 fd') 21 fn') 22 fa'), (va_up (va_up (LZ k) 0 mn') 1 cn'), (va_up (va_up (va_up (va_up (LT k) 5 fc') 6 fas') 7 fst') 8 fhi'), rfl, rfl, rfl, ?_⟩
        have har := ans_r e
        refine lift9 (c_X9_answers l g hm a j (G 6) (G 7) (G 8) (G 9) (G 10) (G 33) (G 34) (G 35) x (3 : Int) lane x2 n (by omega) (by omega) (hLn.1) (hSh.L) (hSh.I)) [1, 2, 3, 4, 5, 11, 12, 13, 14, 15, 16, 17, 18, 19, 20, 21, 22, 23, 27] [0, 6, 7, 8, 9, 10, 24, 25, 26] (by decide +kernel) rfl ?_
        rintro v w1 ⟨rm, qmm', qum', qlm', qgm', qam', rfl, rfl, em, e2m, e3m⟩
        rw [if_pos (by omega), hxn, hM3, ← hM2] at em
        have hre := em.trans ((ans_eq hSh.2.2.2 rfl).trans e.symm)
        refine ⟨j, (va_up (va_up (va_up (va_up (va_up G 6 qmm') 7 qum') 8 qlm') 9 qgm') 10 qam'), veq (hre), rfl, rfl, ?_⟩
        by_cases hr0 : 0 ≤ r
        · obtain ⟨q1, q2, q3, q4⟩ := har hr0
          obtain ⟨a1, a2, a3, a4, a5, a6, a7, a8⟩ := e3 hr0
          obtain ⟨b1, b2, b3, b4, b5, b6, b7⟩ := e3m (by omega)
          rw [hxn] at b3 b5 b6 b7
          rw [hM3] at b3 b5
          rw [hM3, show ((M : Int)).toNat = M from by omega] at b6 b7
          have hps : ∀ i9, i9 < 3 * n.toNat → G 35 (40 * (3 : Int).toNat + x2.toNat + i9) = F 53 (x2.toNat + i9) := fun i9 hi9 => by rw [(hSh.2.2.2.2.2.2 (x2.toNat + i9) (by have h9 := hSh.2.2.2.1; omega)).1, Nat.add_assoc]; rfl
          exact Rel.of hB hMk hHt hTp hCo hTr hSh (hLn.answers hk hLk hM2 hM3 hM1 (n := n.toNat) (ps := fun i9 => F 53 (x2.toNat + i9)) (by omega) (show mn' = LZ k 0 + (n.toNat : Int) by omega) (show cn' = LZ k 1 + (n.toNat : Int) by omega) a5 a6 a7 a8 (show qmm' k = G 6 k + (n.toNat : Int) by omega) b5.2 (fun e9 he9 => by have h6 := b6 e9 he9; rw [← hps _ (by omega), ← hps _ (by omega), ← hps _ (by omega)]; exact h6) (fun k9 hk9 => b7 k9 (by omega))) (hMm.keep hk rfl rfl rfl)
        · obtain ⟨rfl, rfl, rfl, rfl, rfl⟩ := e2m (by omega)
          obtain ⟨rfl, rfl, rfl, rfl, rfl, rfl⟩ := e2 (by omega)
          exact Rel.of hB hMk hHt hTp hCo hTr hSh (hLn.keep hk rfl rfl rfl rfl rfl rfl) (hMm.keep hk rfl rfl rfl)
    · obtain ⟨k, hxk⟩ : ∃ k : Nat, x = (k : Int) := ⟨x.toNat, by omega⟩
      have hk : k < K := by omega
      refine lift8 (c_X8_answersB3 l g hd A z (fleF LA K) (fshF A) k x (LA k 0) xs lane x2 n (⟨hxk, by omega, by omega⟩) (fle_at hk) (⟨hs, g_xs⟩)) [1, 2, 3, 4, 5, 6, 8, 9, 10, 11, 12, 13, 14, 15, 16, 17, 18, 19, 20, 21, 22, 23, 25, 26, 27, 28, 29, 30, 31, 32] [0, 7, 24] (by decide +kernel) rfl ?_
      rintro v w1 ⟨r, rfl, rfl, e⟩
      refine ⟨r, A, z, F, rfl, rfl, rfl, ?_⟩
      refine lift9 (c_X9_answers l g hm a j (G 6) (G 7) (G 8) (G 9) (G 10) (G 33) (G 34) (G 35) x xs lane x2 n (by omega) (by omega) (hLn.1) (hSh.L) (hSh.I)) [1, 2, 3, 4, 5, 11, 12, 13, 14, 15, 16, 17, 18, 19, 20, 21, 22, 23, 27] [0, 6, 7, 8, 9, 10, 24, 25, 26] (by decide +kernel) rfl ?_
      rintro v w1 ⟨rm, qmm', qum', qlm', qgm', qam', rfl, rfl, em, e2m, e3m⟩
      have hre : rm = -1 := em.trans (if_neg (fun z9 => absurd z9 (by omega)))
      refine ⟨j, (va_up (va_up (va_up (va_up (va_up G 6 qmm') 7 qum') 8 qlm') 9 qgm') 10 qam'), veq (hre.trans e.symm), rfl, rfl, ?_⟩
      obtain ⟨rfl, rfl, rfl, rfl, rfl⟩ := e2m (by omega)
      exact Rel.of hB hMk hHt hTp hCo hTr hSh hLn hMm
  · by_cases hs : 0 ≤ xs ∧ xs ≤ 3
    · obtain ⟨ks, hxk⟩ : ∃ k : Nat, xs = (k : Int) := ⟨xs.toNat, by omega⟩
      refine lift8 (c_X8_answersB2 l g hd A z (fleF LA K) (fshF A) x xs lane x2 n ks (A (40 + ks)) (by omega) (⟨hxk, by omega⟩) (if_pos (by omega))) [1, 2, 3, 4, 5, 6, 8, 9, 10, 11, 12, 13, 14, 15, 16, 17, 18, 19, 20, 21, 22, 23, 25, 26, 27, 28, 29, 30, 31, 32] [0, 7, 24] (by decide +kernel) rfl ?_
      rintro v w1 ⟨r, rfl, rfl, e⟩
      refine ⟨r, A, z, F, rfl, rfl, rfl, ?_⟩
      refine lift9 (c_X9_answers l g hm a j (G 6) (G 7) (G 8) (G 9) (G 10) (G 33) (G 34) (G 35) x xs lane x2 n (by omega) (by omega) (hLn.1) (hSh.L) (hSh.I)) [1, 2, 3, 4, 5, 11, 12, 13, 14, 15, 16, 17, 18, 19, 20, 21, 22, 23, 27] [0, 6, 7, 8, 9, 10, 24, 25, 26] (by decide +kernel) rfl ?_
      rintro v w1 ⟨rm, qmm', qum', qlm', qgm', qam', rfl, rfl, em, e2m, e3m⟩
      have hre : rm = -1 := em.trans (if_neg (fun z9 => absurd z9 (by omega)))
      refine ⟨j, (va_up (va_up (va_up (va_up (va_up G 6 qmm') 7 qum') 8 qlm') 9 qgm') 10 qam'), veq (hre.trans e.symm), rfl, rfl, ?_⟩
      obtain ⟨rfl, rfl, rfl, rfl, rfl⟩ := e2m (by omega)
      exact Rel.of hB hMk hHt hTp hCo hTr hSh hLn hMm
    · refine lift8 (c_X8_answersB1 l g hd A z (fleF LA K) (fshF A) x xs lane x2 n (by omega) (⟨hs, g_xs⟩)) [1, 2, 3, 4, 5, 6, 8, 9, 10, 11, 12, 13, 14, 15, 16, 17, 18, 19, 20, 21, 22, 23, 25, 26, 27, 28, 29, 30, 31, 32] [0, 7, 24] (by decide +kernel) rfl ?_
      rintro v w1 ⟨r, rfl, rfl, e⟩
      refine ⟨r, A, z, F, rfl, rfl, rfl, ?_⟩
      refine lift9 (c_X9_answers l g hm a j (G 6) (G 7) (G 8) (G 9) (G 10) (G 33) (G 34) (G 35) x xs lane x2 n (by omega) (by omega) (hLn.1) (hSh.L) (hSh.I)) [1, 2, 3, 4, 5, 11, 12, 13, 14, 15, 16, 17, 18, 19, 20, 21, 22, 23, 27] [0, 6, 7, 8, 9, 10, 24, 25, 26] (by decide +kernel) rfl ?_
      rintro v w1 ⟨rm, qmm', qum', qlm', qgm', qam', rfl, rfl, em, e2m, e3m⟩
      have hre : rm = -1 := em.trans (if_neg (fun z9 => absurd z9 (by omega)))
      refine ⟨j, (va_up (va_up (va_up (va_up (va_up G 6 qmm') 7 qum') 8 qlm') 9 qgm') 10 qam'), veq (hre.trans e.symm), rfl, rfl, ?_⟩
      obtain ⟨rfl, rfl, rfl, rfl, rfl⟩ := e2m (by omega)
      exact Rel.of hB hMk hHt hTp hCo hTr hSh hLn hMm
