set_option maxHeartbeats 4000000 in
set_option maxRecDepth 100000 in
theorem pr_odds (l : Launch) (g : GT) (x : Int) (sk : Int) (day : Int) (g_x : -2147483648 ≤ x ∧ x < 2147483648) (g_sk : -2147483648 ≤ sk ∧ sk < 2147483648) (g_day : -2147483648 ≤ day ∧ day < 2147483648) : PairOK l g yX8_odds wsX8_odds ({ frames := 2, cells := 0, slots := 0, locals := 43 } : Room) yX9_odds wsX9_odds ({ frames := 2, cells := 0, slots := 0, locals := 46 } : Room) [.int (iI x), .int (iI sk), .int (iI day)] := by
  intro hd hm A z F LA LZ LT K a j G hR
  obtain ⟨hB, hMk, hHt, hTp, hCo, hTr, hSh, hLn, hMm⟩ := id hR
  have hK := hB.1
  have hz4 := hB.2.1
  have hj5 := hB.2.2.1
  by_cases hx : 0 ≤ x ∧ x < z 4
  · obtain ⟨k, hxk⟩ : ∃ k : Nat, x = (k : Int) := ⟨x.toNat, by omega⟩
    have hk : k < K := by omega
    have hxn : x.toNat = k := by omega
    have hLk := hLn.2 k hk
    have hMk9 := hMm.1 k hk
    refine lift8L hk (c_X8_odds l g hd A z (fleF LA K) (LA k 0) (LZ k 0) (LZ k 1) (LA k 5) (LA k 6) (LA k 7) (LA k 8) (LA k 1) (LA k 2) (LA k 3) (LA k 4) (LT k 2) (LT k 3) (LT k 4) (A 25) (A 26) (A 27) (F 25) (F 26) (F 27) k x sk day (⟨hxk, by omega, by omega⟩) (fle_at hk) (by omega) (hMk9.M) (hCo.2.2.2)) [1, 2, 3, 4, 5, 6, 8, 9, 10, 11, 12, 17, 18, 19, 20, 21, 22, 23, 24, 25, 26, 27, 28, 29, 30, 31, 32, 38, 39, 40, 41] [0, 7, 33, 34, 35, 36, 37, 13, 14, 15, 16] (by decide +kernel) rfl ?_
    rintro v w1 ⟨r, rfl, rfl, e⟩
    refine ⟨r, A, z, F, (LZ k), (LT k), rfl, rfl, rfl, ?_⟩
    refine lift9 (c_X9_odds l g hm a j (G 27) (G 28) (G 29) x sk day (⟨by omega, by omega, hCo.1.1.1, hCo.1.1.2⟩) (by omega) (hMm.N)) [1, 2, 3, 4, 5, 6, 7, 8, 9, 10, 11, 12, 13, 14, 15, 16, 17, 18, 22, 23, 24, 25, 26, 27] [0, 19, 20, 21] (by decide +kernel) rfl ?_
    rintro v w1 ⟨rm, rfl, rfl, em⟩
    refine ⟨j, G, veq (em.trans ((odds_eq hCo.1 hMk9 hxn (by omega)).trans e.symm)), rfl, rfl, ?_⟩
    exact Rel.of hB hMk hHt hTp hCo hTr hSh (hLn.keep hk rfl rfl rfl rfl rfl rfl) (hMm.keep hk rfl rfl rfl)
  · refine lift8 (c_X8_oddsB l g hd A z (fleF LA K) x sk day (by omega)) [1, 2, 3, 4, 5, 6, 8, 9, 10, 11, 12, 13, 14, 15, 16, 17, 18, 19, 20, 21, 22, 23, 24, 25, 26, 27, 28, 29, 30, 31, 32] [0, 7] (by decide +kernel) rfl ?_
    rintro v w1 ⟨r, rfl, rfl, e⟩
    refine ⟨r, A, z, F, rfl, rfl, rfl, ?_⟩
    refine lift9 (c_X9_odds l g hm a j (G 27) (G 28) (G 29) x sk day (⟨by omega, by omega, hCo.1.1.1, hCo.1.1.2⟩) (by omega) (hMm.N)) [1, 2, 3, 4, 5, 6, 7, 8, 9, 10, 11, 12, 13, 14, 15, 16, 17, 18, 22, 23, 24, 25, 26, 27] [0, 19, 20, 21] (by decide +kernel) rfl ?_
    rintro v w1 ⟨rm, rfl, rfl, em⟩
    refine ⟨j, G, veq (by rw [em, e, if_pos (by omega)]), rfl, rfl, ?_⟩
    exact Rel.of hB hMk hHt hTp hCo hTr hSh hLn hMm
set_option maxHeartbeats 4000000 in
set_option maxRecDepth 100000 in
theorem pr_again (l : Launch) (g : GT) (x : Int) (sk : Int) (v_ : Int) (g_x : -2147483648 ≤ x ∧ x < 2147483648) (g_sk : -2147483648 ≤ sk ∧ sk < 2147483648) (g_v_ : -2147483648 ≤ v_ ∧ v_ < 2147483648) : PairOK l g yX8_again wsX8_again ({ frames := 2, cells := 0, slots := 0, locals := 43 } : Room) yX9_again wsX9_again ({ frames := 2, cells := 0, slots := 0, locals := 46 } : Room) [.int (iI x), .int (iI sk), .int (iI v_)] := by
  intro hd hm A z F LA LZ LT K a j G hR
  obtain ⟨hB, hMk, hHt, hTp, hCo, hTr, hSh, hLn, hMm⟩ := id hR
  have hK := hB.1
  have hz4 := hB.2.1
  have hj5 := hB.2.2.1
  by_cases hx : 0 ≤ x ∧ x < z 4
  · obtain ⟨k, hxk⟩ : ∃ k : Nat, x = (k : Int) := ⟨x.toNat, by omega⟩
    have hk : k < K := by omega
    have hxn : x.toNat = k := by omega
    have hLk := hLn.2 k hk
    have hMk9 := hMm.1 k hk
    refine lift8L hk (c_X8_again l g hd A z (fleF LA K) (LA k 0) (LZ k 0) (LZ k 1) (LA k 5) (LA k 6) (LA k 7) (LA k 8) (LA k 1) (LA k 2) (LA k 3) (LA k 4) (LT k 2) (LT k 3) (LT k 4) (A 25) (A 26) (A 27) (F 25) (F 26) (F 27) k x sk v_ (⟨hxk, by omega, by omega⟩) (fle_at hk) (by omega) (hMk9.M) (hCo.2.2.2)) [1, 2, 3, 4, 5, 6, 8, 9, 10, 11, 12, 17, 18, 19, 20, 21, 22, 23, 24, 25, 26, 27, 28, 29, 30, 31, 32, 38, 39, 40, 41] [0, 7, 33, 34, 35, 36, 37, 13, 14, 15, 16] (by decide +kernel) rfl ?_
    rintro v w1 ⟨r, rfl, rfl, e⟩
    refine ⟨r, A, z, F, (LZ k), (LT k), rfl, rfl, rfl, ?_⟩
    refine lift9 (c_X9_again l g hm a j (G 27) (G 28) (G 29) x sk v_ (⟨by omega, by omega, hCo.1.1.1, hCo.1.1.2⟩) (by omega) (hMm.N)) [1, 2, 3, 4, 5, 6, 7, 8, 9, 10, 11, 12, 13, 14, 15, 16, 17, 18, 22, 23, 24, 25, 26, 27] [0, 19, 20, 21] (by decide +kernel) rfl ?_
    rintro v w1 ⟨rm, rfl, rfl, em⟩
    refine ⟨j, G, veq (em.trans ((again_eq hCo.1 hMk9 hxn (by omega)).trans e.symm)), rfl, rfl, ?_⟩
    exact Rel.of hB hMk hHt hTp hCo hTr hSh (hLn.keep hk rfl rfl rfl rfl rfl rfl) (hMm.keep hk rfl rfl rfl)
  · refine lift8 (c_X8_againB l g hd A z (fleF LA K) x sk v_ (by omega)) [1, 2, 3, 4, 5, 6, 8, 9, 10, 11, 12, 13, 14, 15, 16, 17, 18, 19, 20, 21, 22, 23, 24, 25, 26, 27, 28, 29, 30, 31, 32] [0, 7] (by decide +kernel) rfl ?_
    rintro v w1 ⟨r, rfl, rfl, e⟩
    refine ⟨r, A, z, F, rfl, rfl, rfl, ?_⟩
    refine lift9 (c_X9_again l g hm a j (G 27) (G 28) (G 29) x sk v_ (⟨by omega, by omega, hCo.1.1.1, hCo.1.1.2⟩) (by omega) (hMm.N)) [1, 2, 3, 4, 5, 6, 7, 8, 9, 10, 11, 12, 13, 14, 15, 16, 17, 18, 22, 23, 24, 25, 26, 27] [0, 19, 20, 21] (by decide +kernel) rfl ?_
    rintro v w1 ⟨rm, rfl, rfl, em⟩
    refine ⟨j, G, veq (by rw [em, e, if_pos (by omega)]), rfl, rfl, ?_⟩
    exact Rel.of hB hMk hHt hTp hCo hTr hSh hLn hMm
set_option maxHeartbeats 4000000 in
set_option maxRecDepth 100000 in
theorem pr_way (l : Launch) (g : GT) (x : Int) (day : Int) (hm_ : Int) (what : Int) (g_x : -2147483648 ≤ x ∧ x < 2147483648) (g_day : -2147483648 ≤ day ∧ day < 2147483648) (g_hm_ : -2147483648 ≤ hm_ ∧ hm_ < 2147483648) (g_what : -2147483648 ≤ what ∧ what < 2147483648) : PairOK l g yX8_way wsX8_way ({ frames := 4, cells := 0, slots := 0, locals := 95 } : Room) yX9_way wsX9_way ({ frames := 2, cells := 0, slots := 0, locals := 46 } : Room) [.int (iI x), .int (iI day), .int (iI hm_), .int (iI what)] := by
  intro hd hm A z F LA LZ LT K a j G hR
  obtain ⟨hB, hMk, hHt, hTp, hCo, hTr, hSh, hLn, hMm⟩ := id hR
  have hK := hB.1
  have hz4 := hB.2.1
  have hj5 := hB.2.2.1
  by_cases hx : 0 ≤ x ∧ x < z 4
  · obtain ⟨k, hxk⟩ : ∃ k : Nat, x = (k : Int) := ⟨x.toNat, by omega⟩
    have hk : k < K := by omega
    have hxn : x.toNat = k := by omega
    have hLk := hLn.2 k hk
    have hMk9 := hMm.1 k hk
    refine lift8L hk (c_X8_way l g hd A z (fleF LA K) (LA k 0) (LZ k 0) (LZ k 1) (LA k 5) (LA k 6) (LA k 7) (LA k 8) (LA k 1) (LA k 2) (LA k 3) (LA k 4) (LT k 2) (LT k 3) (LT k 4) (A 25) (A 26) (A 27) (F 25) (F 26) (F 27) k x day hm_ what (⟨hxk, by omega, by omega⟩) (fle_at hk) (by omega) (hMk9.M) (hCo.2.2.2)) [1, 2, 3, 4, 5, 6, 8, 9, 10, 11, 12, 17, 18, 19, 20, 21, 22, 23, 24, 25, 26, 27, 28, 29, 30, 31, 32, 38, 39, 40, 41] [0, 7, 33, 34, 35, 36, 37, 13, 14, 15, 16] (by decide +kernel) rfl ?_
    rintro v w1 ⟨r, rfl, rfl, e⟩
    refine ⟨r, A, z, F, (LZ k), (LT k), rfl, rfl, rfl, ?_⟩
    refine lift9 (c_X9_wayG l g hm a j (G 27) (G 28) (G 29) (G 20) (G 21) (G 22) x day hm_ what (⟨by omega, by omega, hCo.1.1.1, hCo.1.1.2⟩) (by omega) (hMm.N) (fun s hs => (hCo.2.1 s hs).2.2) (fun s hs => ⟨(hCo.2.1 s hs).1.1, (hCo.2.1 s hs).1.2, (hCo.2.1 s hs).2.1⟩)) [1, 2, 3, 4, 5, 6, 7, 8, 9, 10, 11, 12, 16, 17, 18, 22, 23, 24, 25, 26, 27] [0, 19, 20, 21, 13, 14, 15] (by decide +kernel) rfl ?_
    rintro v w1 ⟨rm, rfl, rfl, em⟩
    refine ⟨j, G, veq (way_eq hCo.1 hMk9 hxn (by omega) e em), rfl, rfl, ?_⟩
    exact Rel.of hB hMk hHt hTp hCo hTr hSh (hLn.keep hk rfl rfl rfl rfl rfl rfl) (hMm.keep hk rfl rfl rfl)
  · refine lift8 (c_X8_wayB l g hd A z (fleF LA K) x day hm_ what (by omega)) [1, 2, 3, 4, 5, 6, 8, 9, 10, 11, 12, 13, 14, 15, 16, 17, 18, 19, 20, 21, 22, 23, 24, 25, 26, 27, 28, 29, 30, 31, 32] [0, 7] (by decide +kernel) rfl ?_
    rintro v w1 ⟨r, rfl, rfl, e⟩
    refine ⟨r, A, z, F, rfl, rfl, rfl, ?_⟩
    refine lift9 (c_X9_wayG l g hm a j (G 27) (G 28) (G 29) (G 20) (G 21) (G 22) x day hm_ what (⟨by omega, by omega, hCo.1.1.1, hCo.1.1.2⟩) (by omega) (hMm.N) (fun s hs => (hCo.2.1 s hs).2.2) (fun s hs => ⟨(hCo.2.1 s hs).1.1, (hCo.2.1 s hs).1.2, (hCo.2.1 s hs).2.1⟩)) [1, 2, 3, 4, 5, 6, 7, 8, 9, 10, 11, 12, 16, 17, 18, 22, 23, 24, 25, 26, 27] [0, 19, 20, 21, 13, 14, 15] (by decide +kernel) rfl ?_
    rintro v w1 ⟨rm, rfl, rfl, em⟩
    refine ⟨j, G, veq (by rcases em with ⟨e9, -⟩ | ⟨e9, -⟩; exact e9.trans e.symm; exact absurd e9.1 (by omega)), rfl, rfl, ?_⟩
    exact Rel.of hB hMk hHt hTp hCo hTr hSh hLn hMm
set_option maxHeartbeats 4000000 in
set_option maxRecDepth 100000 in
theorem pr_exercise (l : Launch) (g : GT) (x : Int) (sk : Int) (day : Int) (rt : Int) (g_x : -2147483648 ≤ x ∧ x < 2147483648) (g_sk : -2147483648 ≤ sk ∧ sk < 2147483648) (g_day : -2147483648 ≤ day ∧ day < 2147483648) (g_rt : rt = 0 ∨ rt = 1) : PairOK l g yX8_exercise wsX8_exercise ({ frames := 2, cells := 0, slots := 0, locals := 43 } : Room) yX9_exercise wsX9_exercise ({ frames := 2, cells := 0, slots := 0, locals := 46 } : Room) [.int (iI x), .int (iI sk), .int (iI day), .int (iI rt)] := by
  intro hd hm A z F LA LZ LT K a j G hR
  obtain ⟨hB, hMk, hHt, hTp, hCo, hTr, hSh, hLn, hMm⟩ := id hR
  have hK := hB.1
  have hz4 := hB.2.1
  have hj5 := hB.2.2.1
  by_cases hx : 0 ≤ x ∧ x < z 4
  · obtain ⟨k, hxk⟩ : ∃ k : Nat, x = (k : Int) := ⟨x.toNat, by omega⟩
    have hk : k < K := by omega
    have hxn : x.toNat = k := by omega
    have hLk := hLn.2 k hk
    have hMk9 := hMm.1 k hk
    refine lift8L hk (c_X8_exercise l g hd A z (fleF LA K) (LA k 0) (LZ k 0) (LZ k 1) (LA k 5) (LA k 6) (LA k 7) (LA k 8) (LA k 1) (LA k 2) (LA k 3) (LA k 4) (LT k 2) (LT k 3) (LT k 4) (A 25) (A 26) (A 27) (F 25) (F 26) (F 27) k x sk day rt (⟨hxk, by omega, by omega⟩) (fle_at hk) (⟨g_sk, g_day, g_rt⟩) (hMk9.M) (hCo.2.2.2)) [1, 2, 3, 4, 5, 6, 8, 9, 10, 11, 12, 17, 18, 19, 20, 21, 22, 23, 24, 25, 26, 27, 28, 29, 30, 31, 32, 38, 39, 40, 41] [0, 7, 33, 34, 35, 36, 37, 13, 14, 15, 16] (by decide +kernel) rfl ?_
    rintro v w1 ⟨r, lt', kn', hf', rfl, rfl, e, e2, e3⟩
    refine ⟨r, A, z, F, (LZ k), (va_up (va_up (va_up (LT k) 2 lt') 3 kn') 4 hf'), rfl, rfl, rfl, ?_⟩
    have hx9 := ex_r e
    refine lift9 (c_X9_exercise l g hm a j (G 27) (G 28) (G 29) x sk day rt (⟨by omega, by omega, hCo.1.1.1, hCo.1.1.2⟩) (⟨g_x, g_sk, g_day, g_rt⟩) (hMm.N)) [1, 2, 3, 4, 5, 6, 7, 8, 9, 10, 11, 12, 13, 14, 15, 16, 17, 18, 22, 23, 24, 25, 26, 27] [0, 19, 20, 21] (by decide +kernel) rfl ?_
    rintro v w1 ⟨rm, nhfm', nltm', nknm', rfl, rfl, em, e2m, e3m⟩
    have hre := em.trans ((ex_eq hCo.1 hMk9 hxn (by omega)).trans e.symm)
    refine ⟨j, (va_up (va_up (va_up G 27 nhfm') 28 nltm') 29 nknm'), veq (hre), rfl, rfl, ?_⟩
    by_cases hr0 : 0 ≤ r
    · obtain ⟨c1, c2, c3, c4⟩ := hx9 hr0
      obtain ⟨d1, d2, rfl, rfl, rfl⟩ := e3 hr0
      obtain ⟨f1, f2, f3, f4, rfl, rfl, rfl⟩ := e3m (by omega)
      have hm9 := hMk9.M sk.toNat (by omega)
      have hm8 := hMk9 sk.toNat (by omega)
      have hval : (if G 27 (8 * x.toNat + sk.toNat) = 0 then 8 else G 27 (8 * x.toNat + sk.toNat)) = LT k 4 sk.toNat := by
        rw [hxn]; split <;> omega
      rw [hval, hxn]
      refine Rel.of hB hMk hHt hTp hCo hTr hSh (hLn.keep hk rfl rfl rfl rfl rfl rfl) (RMm.set (fun q9 h1 h2 => ?_) ((hMm.1 k hk).put (rt := rt) (sk := sk.toNat) (day := day) (by omega) c2 ⟨c3, c4⟩ (prS_rng (rt := rt) ⟨hm9.2.2.2.1, hm9.2.2.2.2⟩) rfl rfl rfl rfl rfl rfl) (fun k9 hk9 q9 => (hMm.1 k9 hk9).same (fun s9 hs9 => ⟨up_n (G 27) (8 * k + sk.toNat) (8 * k9 + s9) _ (by omega), up_n (G 28) (8 * k + sk.toNat) (8 * k9 + s9) _ (by omega), up_n (G 29) (8 * k + sk.toNat) (8 * k9 + s9) _ (by omega)⟩)))
      have h9 := hMm.2 q9 h1 h2
      exact ⟨(up_n (G 27) (8 * k + sk.toNat) q9 _ (by omega)).trans h9.1, (up_n (G 28) (8 * k + sk.toNat) q9 _ (by omega)).trans h9.2.1, (up_n (G 29) (8 * k + sk.toNat) q9 _ (by omega)).trans h9.2.2⟩
    · obtain ⟨rfl, rfl, rfl⟩ := e2m (by omega)
      obtain ⟨rfl, rfl, rfl⟩ := e2 (by omega)
      exact Rel.of hB hMk hHt hTp hCo hTr hSh (hLn.keep hk rfl rfl rfl rfl rfl rfl) (hMm.keep hk rfl rfl rfl)
  · refine lift8 (c_X8_exerciseB l g hd A z (fleF LA K) x sk day rt (by omega)) [1, 2, 3, 4, 5, 6, 8, 9, 10, 11, 12, 13, 14, 15, 16, 17, 18, 19, 20, 21, 22, 23, 24, 25, 26, 27, 28, 29, 30, 31, 32] [0, 7] (by decide +kernel) rfl ?_
    rintro v w1 ⟨r, rfl, rfl, e⟩
    refine ⟨r, A, z, F, rfl, rfl, rfl, ?_⟩
    refine lift9 (c_X9_exercise l g hm a j (G 27) (G 28) (G 29) x sk day rt (⟨by omega, by omega, hCo.1.1.1, hCo.1.1.2⟩) (⟨g_x, g_sk, g_day, g_rt⟩) (hMm.N)) [1, 2, 3, 4, 5, 6, 7, 8, 9, 10, 11, 12, 13, 14, 15, 16, 17, 18, 22, 23, 24, 25, 26, 27] [0, 19, 20, 21] (by decide +kernel) rfl ?_
    rintro v w1 ⟨rm, nhfm', nltm', nknm', rfl, rfl, em, e2m, e3m⟩
    have hre : rm = -1 := em.trans (if_pos (by omega))
    refine ⟨j, (va_up (va_up (va_up G 27 nhfm') 28 nltm') 29 nknm'), veq (hre.trans e.symm), rfl, rfl, ?_⟩
    obtain ⟨rfl, rfl, rfl⟩ := e2m (by omega)
    exact Rel.of hB hMk hHt hTp hCo hTr hSh hLn hMm
