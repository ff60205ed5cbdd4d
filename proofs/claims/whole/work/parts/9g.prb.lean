set_option maxHeartbeats 4000000 in
set_option maxRecDepth 100000 in
theorem pr_probe (l : Launch) (g : GT) (n : Int) (x : Int) (lane : Int) (x2 : Int) (k : Int) (g_n : -2147483648 ≤ n ∧ n < 2147483648) (g_x : -2147483648 ≤ x ∧ x < 2147483648) (g_lane : -2147483648 ≤ lane ∧ lane < 2147483648) (g_x2 : -2147483648 ≤ x2 ∧ x2 < 2147483648) (g_k : -2147483648 ≤ k ∧ k < 2147483648) : PairOK l g yX8_probe wsX8_probe ({ frames := 6, cells := 0, slots := 0, locals := 150 } : Room) yX9_probe wsX9_probe ({ frames := 3, cells := 0, slots := 0, locals := 80 } : Room) [.int (iI n), .int (iI x), .int (iI lane), .int (iI x2), .int (iI k)] := by
  intro hd hm A z F LA LZ LT K a j G hR
  obtain ⟨hB, hMk, hHt, hTp, hCo, hTr, hSh, hLn, hMm⟩ := id hR
  have hK := hB.1
  have hz4 := hB.2.1
  have hj5 := hB.2.2.1
  by_cases hx : 0 ≤ x ∧ x ≤ 3
  · rcases (show x = 0 ∨ x = 1 ∨ x = 2 ∨ x = 3 by omega) with hxe | hxe | hxe | hxe <;> subst hxe
    · refine lift8 (c_X8_probe l g hd A z (A 20) (A 21) (A 22) (F 20) (F 21) (F 22) (F 1) (F 2) (fshF A) (A 40) (A 50) (z 40) (z 50) (F 50) 0 n (0 : Int) lane x2 k (⟨rfl, by decide⟩) (rfl) (hSh.1.1) (by omega) (fun p hp => (hSh.1.2.2.2 p hp).2)) [7, 8, 9, 10, 11, 12, 13, 14, 15, 16, 17, 18, 19, 20, 21, 22, 23, 27, 28, 29, 30, 31, 32] [0, 1, 2, 3, 4, 5, 6, 24, 25, 26] (by decide +kernel) rfl ?_
      rintro v w1 ⟨r, fd', fn', fa', fg', fp', rfl, rfl, e⟩
      refine ⟨r, A, z, (va_up (va_up (va_up (va_up (va_up F 20 fd') 21 fn') 22 fa') 2 fg') 1 fp'), rfl, rfl, rfl, ?_⟩
      refine lift9 (c_X9_probe l g hm a j (G 1) (G 2) (G 3) (G 4) (G 35) (G 33) (G 34) n (0 : Int) lane x2 k (by omega) (hSh.L) (hSh.I)) [1, 6, 7, 8, 9, 10, 11, 12, 13, 14, 15, 16, 17, 18, 19, 20, 21, 22, 23, 27] [0, 2, 3, 4, 5, 26, 24, 25] (by decide +kernel) rfl ?_
      rintro v w1 ⟨rm, fam', fdm', fnm', fpm', rfl, rfl, em⟩
      refine ⟨j, (va_up (va_up (va_up (va_up G 1 fam') 2 fdm') 3 fnm') 4 fpm'), veq (em.trans ((probe_eq hSh.1 rfl (by omega)).trans e.symm)), rfl, rfl, ?_⟩
      exact Rel.of hB hMk hHt hTp hCo hTr hSh hLn hMm
    · refine lift8 (c_X8_probe l g hd A z (A 20) (A 21) (A 22) (F 20) (F 21) (F 22) (F 1) (F 2) (fshF A) (A 41) (A 51) (z 41) (z 51) (F 51) 1 n (1 : Int) lane x2 k (⟨rfl, by decide⟩) (rfl) (hSh.2.1.1) (by omega) (fun p hp => (hSh.2.1.2.2.2 p hp).2)) [7, 8, 9, 10, 11, 12, 13, 14, 15, 16, 17, 18, 19, 20, 21, 22, 23, 25, 26, 29, 30, 31, 32] [0, 1, 2, 3, 4, 5, 6, 24, 27, 28] (by decide +kernel) rfl ?_
      rintro v w1 ⟨r, fd', fn', fa', fg', fp', rfl, rfl, e⟩
      refine ⟨r, A, z, (va_up (va_up (va_up (va_up (va_up F 20 fd') 21 fn') 22 fa') 2 fg') 1 fp'), rfl, rfl, rfl, ?_⟩
      refine lift9 (c_X9_probe l g hm a j (G 1) (G 2) (G 3) (G 4) (G 35) (G 33) (G 34) n (1 : Int) lane x2 k (by omega) (hSh.L) (hSh.I)) [1, 6, 7, 8, 9, 10, 11, 12, 13, 14, 15, 16, 17, 18, 19, 20, 21, 22, 23, 27] [0, 2, 3, 4, 5, 26, 24, 25] (by decide +kernel) rfl ?_
      rintro v w1 ⟨rm, fam', fdm', fnm', fpm', rfl, rfl, em⟩
      refine ⟨j, (va_up (va_up (va_up (va_up G 1 fam') 2 fdm') 3 fnm') 4 fpm'), veq (em.trans ((probe_eq hSh.2.1 rfl (by omega)).trans e.symm)), rfl, rfl, ?_⟩
      exact Rel.of hB hMk hHt hTp hCo hTr hSh hLn hMm
    · refine lift8 (c_X8_probe l g hd A z (A 20) (A 21) (A 22) (F 20) (F 21) (F 22) (F 1) (F 2) (fshF A) (A 42) (A 52) (z 42) (z 52) (F 52) 2 n (2 : Int) lane x2 k (⟨rfl, by decide⟩) (rfl) (hSh.2.2.1.1) (by omega) (fun p hp => (hSh.2.2.1.2.2.2 p hp).2)) [7, 8, 9, 10, 11, 12, 13, 14, 15, 16, 17, 18, 19, 20, 21, 22, 23, 25, 26, 27, 28, 31, 32] [0, 1, 2, 3, 4, 5, 6, 24, 29, 30] (by decide +kernel) rfl ?_
      rintro v w1 ⟨r, fd', fn', fa', fg', fp', rfl, rfl, e⟩
      refine ⟨r, A, z, (va_up (va_up (va_up (va_up (va_up F 20 fd') 21 fn') 22 fa') 2 fg') 1 fp'), rfl, rfl, rfl, ?_⟩
      refine lift9 (c_X9_probe l g hm a j (G 1) (G 2) (G 3) (G 4) (G 35) (G 33) (G 34) n (2 : Int) lane x2 k (by omega) (hSh.L) (hSh.I)) [1, 6, 7, 8, 9, 10, 11, 12, 13, 14, 15, 16, 17, 18, 19, 20, 21, 22, 23, 27] [0, 2, 3, 4, 5, 26, 24, 25] (by decide +kernel) rfl ?_
      rintro v w1 ⟨rm, fam', fdm', fnm', fpm', rfl, rfl, em⟩
      refine ⟨j, (va_up (va_up (va_up (va_up G 1 fam') 2 fdm') 3 fnm') 4 fpm'), veq (em.trans ((probe_eq hSh.2.2.1 rfl (by omega)).trans e.symm)), rfl, rfl, ?_⟩
      exact Rel.of hB hMk hHt hTp hCo hTr hSh hLn hMm
    · refine lift8 (c_X8_probe l g hd A z (A 20) (A 21) (A 22) (F 20) (F 21) (F 22) (F 1) (F 2) (fshF A) (A 43) (A 53) (z 43) (z 53) (F 53) 3 n (3 : Int) lane x2 k (⟨rfl, by decide⟩) (rfl) (hSh.2.2.2.1) (by omega) (fun p hp => (hSh.2.2.2.2.2.2 p hp).2)) [7, 8, 9, 10, 11, 12, 13, 14, 15, 16, 17, 18, 19, 20, 21, 22, 23, 25, 26, 27, 28, 29, 30] [0, 1, 2, 3, 4, 5, 6, 24, 31, 32] (by decide +kernel) rfl ?_
      rintro v w1 ⟨r, fd', fn', fa', fg', fp', rfl, rfl, e⟩
      refine ⟨r, A, z, (va_up (va_up (va_up (va_up (va_up F 20 fd') 21 fn') 22 fa') 2 fg') 1 fp'), rfl, rfl, rfl, ?_⟩
      refine lift9 (c_X9_probe l g hm a j (G 1) (G 2) (G 3) (G 4) (G 35) (G 33) (G 34) n (3 : Int) lane x2 k (by omega) (hSh.L) (hSh.I)) [1, 6, 7, 8, 9, 10, 11, 12, 13, 14, 15, 16, 17, 18, 19, 20, 21, 22, 23, 27] [0, 2, 3, 4, 5, 26, 24, 25] (by decide +kernel) rfl ?_
      rintro v w1 ⟨rm, fam', fdm', fnm', fpm', rfl, rfl, em⟩
      refine ⟨j, (va_up (va_up (va_up (va_up G 1 fam') 2 fdm') 3 fnm') 4 fpm'), veq (em.trans ((probe_eq hSh.2.2.2 rfl (by omega)).trans e.symm)), rfl, rfl, ?_⟩
      exact Rel.of hB hMk hHt hTp hCo hTr hSh hLn hMm
  · refine lift8 (c_X8_probeB l g hd A z (fshF A) n x lane x2 k (by omega)) [1, 2, 3, 4, 5, 6, 7, 8, 9, 10, 11, 12, 13, 14, 15, 16, 17, 18, 19, 20, 21, 22, 23, 25, 26, 27, 28, 29, 30, 31, 32] [0, 24] (by decide +kernel) rfl ?_
    rintro v w1 ⟨r, rfl, rfl, e⟩
    refine ⟨r, A, z, F, rfl, rfl, rfl, ?_⟩
    refine lift9 (c_X9_probe l g hm a j (G 1) (G 2) (G 3) (G 4) (G 35) (G 33) (G 34) n x lane x2 k (by omega) (hSh.L) (hSh.I)) [1, 6, 7, 8, 9, 10, 11, 12, 13, 14, 15, 16, 17, 18, 19, 20, 21, 22, 23, 27] [0, 2, 3, 4, 5, 26, 24, 25] (by decide +kernel) rfl ?_
    rintro v w1 ⟨rm, fam', fdm', fnm', fpm', rfl, rfl, em⟩
    refine ⟨j, (va_up (va_up (va_up (va_up G 1 fam') 2 fdm') 3 fnm') 4 fpm'), veq (by rw [em, e, if_pos (by omega)]), rfl, rfl, ?_⟩
    exact Rel.of hB hMk hHt hTp hCo hTr hSh hLn hMm
set_option maxHeartbeats 4000000 in
set_option maxRecDepth 100000 in
theorem pr_sheet (l : Launch) (g : GT) (x : Int) (lane : Int) (n : Int) (g_x : -2147483648 ≤ x ∧ x < 2147483648) (g_lane : -2147483648 ≤ lane ∧ lane < 2147483648) (g_n : -2147483648 ≤ n ∧ n < 2147483648) : PairOK l g yX8_sheet wsX8_sheet ({ frames := 2, cells := 0, slots := 0, locals := 43 } : Room) yX9_sheet wsX9_sheet ({ frames := 2, cells := 0, slots := 0, locals := 45 } : Room) [.int (iI x), .int (iI lane), .int (iI n)] := by
  intro hd hm A z F LA LZ LT K a j G hR
  obtain ⟨hB, hMk, hHt, hTp, hCo, hTr, hSh, hLn, hMm⟩ := id hR
  have hK := hB.1
  have hz4 := hB.2.1
  have hj5 := hB.2.2.1
  by_cases hx : 0 ≤ x ∧ x ≤ 3
  · rcases (show x = 0 ∨ x = 1 ∨ x = 2 ∨ x = 3 by omega) with hxe | hxe | hxe | hxe <;> subst hxe
    · refine lift8 (c_X8_sheet l g hd A z (fshF A) (A 40) (A 50) (z 40) (z 50) (F 50) 0 (0 : Int) lane n (⟨rfl, by decide⟩) (rfl) (hSh.1.1) (by omega)) [1, 2, 3, 4, 5, 6, 7, 8, 9, 10, 11, 12, 13, 14, 15, 16, 17, 18, 19, 20, 21, 22, 23, 27, 28, 29, 30, 31, 32] [0, 24, 25, 26] (by decide +kernel) rfl ?_
      rintro v w1 ⟨r, ln', la', it', rfl, rfl, e, e2, e3⟩
      refine ⟨r, A, (va_up (va_up z 40 ln') 50 la'), (va_up F 50 it'), rfl, rfl, rfl, ?_⟩
      refine lift9 (c_X9_sheet l g hm a j (G 33) (G 34) (G 35) (0 : Int) lane n (by omega) (hSh.L)) [1, 2, 3, 4, 5, 6, 7, 8, 9, 10, 11, 12, 13, 14, 15, 16, 17, 18, 19, 20, 21, 22, 23, 27] [0, 24, 25, 26] (by decide +kernel) rfl ?_
      rintro v w1 ⟨rm, flm', fzm', fim', rfl, rfl, em, e2m, e3m⟩
      have hre : rm = r := by rw [em, e]
      refine ⟨j, (va_up (va_up (va_up G 33 flm') 34 fzm') 35 fim'), veq (hre), rfl, rfl, ?_⟩
      rcases sheet_r e with hr0 | hr0
      · obtain ⟨rfl, rfl, rfl⟩ := e3 hr0
        obtain ⟨rfl, rfl, rfl⟩ := e3m (by omega)
        exact Rel.of hB hMk hHt hTp hCo hTr hSh hLn hMm
      · obtain ⟨a1, a2, a3⟩ := e2 hr0.1
        obtain rfl := a1.symm
        obtain rfl := a2.symm
        obtain ⟨rfl, rfl, b3, b4⟩ := e2m (by omega)
        exact Rel.of hB hMk hHt hTp hCo hTr (RSh.of (RSk.of (show -1 ≤ n ∧ n ≤ 40 ∧ 0 ≤ lane ∧ lane ≤ 2 by omega) (show -1 ≤ lane ∧ lane ≤ 2 ∧ 0 ≤ n ∧ n ≤ 40 by omega) (Or.inr ⟨show 0 ≤ n by omega, rfl, rfl⟩) (fun p hp => ⟨(a3 p hp).trans (b3 p hp).symm, zr (a3 p hp)⟩)) (hSh.2.1.keep (up_n (G 33) 0 1 lane (by decide)) (up_n (G 34) 0 1 n (by decide)) (fun p hp => b4 _ (by omega))) (hSh.2.2.1.keep (up_n (G 33) 0 2 lane (by decide)) (up_n (G 34) 0 2 n (by decide)) (fun p hp => b4 _ (by omega))) (hSh.2.2.2.keep (up_n (G 33) 0 3 lane (by decide)) (up_n (G 34) 0 3 n (by decide)) (fun p hp => b4 _ (by omega)))) hLn hMm
    · refine lift8 (c_X8_sheet l g hd A z (fshF A) (A 41) (A 51) (z 41) (z 51) (F 51) 1 (1 : Int) lane n (⟨rfl, by decide⟩) (rfl) (hSh.2.1.1) (by omega)) [1, 2, 3, 4, 5, 6, 7, 8, 9, 10, 11, 12, 13, 14, 15, 16, 17, 18, 19, 20, 21, 22, 23, 25, 26, 29, 30, 31, 32] [0, 24, 27, 28] (by decide +kernel) rfl ?_
      rintro v w1 ⟨r, ln', la', it', rfl, rfl, e, e2, e3⟩
      refine ⟨r, A, (va_up (va_up z 41 ln') 51 la'), (va_up F 51 it'), rfl, rfl, rfl, ?_⟩
      refine lift9 (c_X9_sheet l g hm a j (G 33) (G 34) (G 35) (1 : Int) lane n (by omega) (hSh.L)) [1, 2, 3, 4, 5, 6, 7, 8, 9, 10, 11, 12, 13, 14, 15, 16, 17, 18, 19, 20, 21, 22, 23, 27] [0, 24, 25, 26] (by decide +kernel) rfl ?_
      rintro v w1 ⟨rm, flm', fzm', fim', rfl, rfl, em, e2m, e3m⟩
      have hre : rm = r := by rw [em, e]
      refine ⟨j, (va_up (va_up (va_up G 33 flm') 34 fzm') 35 fim'), veq (hre), rfl, rfl, ?_⟩
      rcases sheet_r e with hr0 | hr0
      · obtain ⟨rfl, rfl, rfl⟩ := e3 hr0
        obtain ⟨rfl, rfl, rfl⟩ := e3m (by omega)
        exact Rel.of hB hMk hHt hTp hCo hTr hSh hLn hMm
      · obtain ⟨a1, a2, a3⟩ := e2 hr0.1
        obtain rfl := a1.symm
        obtain rfl := a2.symm
        obtain ⟨rfl, rfl, b3, b4⟩ := e2m (by omega)
        exact Rel.of hB hMk hHt hTp hCo hTr (RSh.of (hSh.1.keep (up_n (G 33) 1 0 lane (by decide)) (up_n (G 34) 1 0 n (by decide)) (fun p hp => b4 _ (by omega))) (RSk.of (show -1 ≤ n ∧ n ≤ 40 ∧ 0 ≤ lane ∧ lane ≤ 2 by omega) (show -1 ≤ lane ∧ lane ≤ 2 ∧ 0 ≤ n ∧ n ≤ 40 by omega) (Or.inr ⟨show 0 ≤ n by omega, rfl, rfl⟩) (fun p hp => ⟨(a3 p hp).trans (b3 p hp).symm, zr (a3 p hp)⟩)) (hSh.2.2.1.keep (up_n (G 33) 1 2 lane (by decide)) (up_n (G 34) 1 2 n (by decide)) (fun p hp => b4 _ (by omega))) (hSh.2.2.2.keep (up_n (G 33) 1 3 lane (by decide)) (up_n (G 34) 1 3 n (by decide)) (fun p hp => b4 _ (by omega)))) hLn hMm
    · refine lift8 (c_X8_sheet l g hd A z (fshF A) (A 42) (A 52) (z 42) (z 52) (F 52) 2 (2 : Int) lane n (⟨rfl, by decide⟩) (rfl) (hSh.2.2.1.1) (by omega)) [1, 2, 3, 4, 5, 6, 7, 8, 9, 10, 11, 12, 13, 14, 15, 16, 17, 18, 19, 20, 21, 22, 23, 25, 26, 27, 28, 31, 32] [0, 24, 29, 30] (by decide +kernel) rfl ?_
      rintro v w1 ⟨r, ln', la', it', rfl, rfl, e, e2, e3⟩
      refine ⟨r, A, (va_up (va_up z 42 ln') 52 la'), (va_up F 52 it'), rfl, rfl, rfl, ?_⟩
      refine lift9 (c_X9_sheet l g hm a j (G 33) (G 34) (G 35) (2 : Int) lane n (by omega) (hSh.L)) [1, 2, 3, 4, 5, 6, 7, 8, 9, 10, 11, 12, 13, 14, 15, 16, 17, 18, 19, 20, 21, 22, 23, 27] [0, 24, 25, 26] (by decide +kernel) rfl ?_
      rintro v w1 ⟨rm, flm', fzm', fim', rfl, rfl, em, e2m, e3m⟩
      have hre : rm = r := by rw [em, e]
      refine ⟨j, (va_up (va_up (va_up G 33 flm') 34 fzm') 35 fim'), veq (hre), rfl, rfl, ?_⟩
      rcases sheet_r e with hr0 | hr0
      · obtain ⟨rfl, rfl, rfl⟩ := e3 hr0
        obtain ⟨rfl, rfl, rfl⟩ := e3m (by omega)
        exact Rel.of hB hMk hHt hTp hCo hTr hSh hLn hMm
      · obtain ⟨a1, a2, a3⟩ := e2 hr0.1
        obtain rfl := a1.symm
        obtain rfl := a2.symm
        obtain ⟨rfl, rfl, b3, b4⟩ := e2m (by omega)
        exact Rel.of hB hMk hHt hTp hCo hTr (RSh.of (hSh.1.keep (up_n (G 33) 2 0 lane (by decide)) (up_n (G 34) 2 0 n (by decide)) (fun p hp => b4 _ (by omega))) (hSh.2.1.keep (up_n (G 33) 2 1 lane (by decide)) (up_n (G 34) 2 1 n (by decide)) (fun p hp => b4 _ (by omega))) (RSk.of (show -1 ≤ n ∧ n ≤ 40 ∧ 0 ≤ lane ∧ lane ≤ 2 by omega) (show -1 ≤ lane ∧ lane ≤ 2 ∧ 0 ≤ n ∧ n ≤ 40 by omega) (Or.inr ⟨show 0 ≤ n by omega, rfl, rfl⟩) (fun p hp => ⟨(a3 p hp).trans (b3 p hp).symm, zr (a3 p hp)⟩)) (hSh.2.2.2.keep (up_n (G 33) 2 3 lane (by decide)) (up_n (G 34) 2 3 n (by decide)) (fun p hp => b4 _ (by omega)))) hLn hMm
    · refine lift8 (c_X8_sheet l g hd A z (fshF A) (A 43) (A 53) (z 43) (z 53) (F 53) 3 (3 : Int) lane n (⟨rfl, by decide⟩) (rfl) (hSh.2.2.2.1) (by omega)) [1, 2, 3, 4, 5, 6, 7, 8, 9, 10, 11, 12, 13, 14, 15, 16, 17, 18, 19, 20, 21, 22, 23, 25, 26, 27, 28, 29, 30] [0, 24, 31, 32] (by decide +kernel) rfl ?_
      rintro v w1 ⟨r, ln', la', it', rfl, rfl, e, e2, e3⟩
      refine ⟨r, A, (va_up (va_up z 43 ln') 53 la'), (va_up F 53 it'), rfl, rfl, rfl, ?_⟩
      refine lift9 (c_X9_sheet l g hm a j (G 33) (G 34) (G 35) (3 : Int) lane n (by omega) (hSh.L)) [1, 2, 3, 4, 5, 6, 7, 8, 9, 10, 11, 12, 13, 14, 15, 16, 17, 18, 19, 20, 21, 22, 23, 27] [0, 24, 25, 26] (by decide +kernel) rfl ?_
      rintro v w1 ⟨rm, flm', fzm', fim', rfl, rfl, em, e2m, e3m⟩
      have hre : rm = r := by rw [em, e]
      refine ⟨j, (va_up (va_up (va_up G 33 flm') 34 fzm') 35 fim'), veq (hre), rfl, rfl, ?_⟩
      rcases sheet_r e with hr0 | hr0
      · obtain ⟨rfl, rfl, rfl⟩ := e3 hr0
        obtain ⟨rfl, rfl, rfl⟩ := e3m (by omega)
        exact Rel.of hB hMk hHt hTp hCo hTr hSh hLn hMm
      · obtain ⟨a1, a2, a3⟩ := e2 hr0.1
        obtain rfl := a1.symm
        obtain rfl := a2.symm
        obtain ⟨rfl, rfl, b3, b4⟩ := e2m (by omega)
        exact Rel.of hB hMk hHt hTp hCo hTr (RSh.of (hSh.1.keep (up_n (G 33) 3 0 lane (by decide)) (up_n (G 34) 3 0 n (by decide)) (fun p hp => b4 _ (by omega))) (hSh.2.1.keep (up_n (G 33) 3 1 lane (by decide)) (up_n (G 34) 3 1 n (by decide)) (fun p hp => b4 _ (by omega))) (hSh.2.2.1.keep (up_n (G 33) 3 2 lane (by decide)) (up_n (G 34) 3 2 n (by decide)) (fun p hp => b4 _ (by omega))) (RSk.of (show -1 ≤ n ∧ n ≤ 40 ∧ 0 ≤ lane ∧ lane ≤ 2 by omega) (show -1 ≤ lane ∧ lane ≤ 2 ∧ 0 ≤ n ∧ n ≤ 40 by omega) (Or.inr ⟨show 0 ≤ n by omega, rfl, rfl⟩) (fun p hp => ⟨(a3 p hp).trans (b3 p hp).symm, zr (a3 p hp)⟩))) hLn hMm
  · refine lift8 (c_X8_sheetB l g hd A z (fshF A) x lane n (by omega)) [1, 2, 3, 4, 5, 6, 7, 8, 9, 10, 11, 12, 13, 14, 15, 16, 17, 18, 19, 20, 21, 22, 23, 25, 26, 27, 28, 29, 30, 31, 32] [0, 24] (by decide +kernel) rfl ?_
    rintro v w1 ⟨r, rfl, rfl, e⟩
    refine ⟨r, A, z, F, rfl, rfl, rfl, ?_⟩
    refine lift9 (c_X9_sheet l g hm a j (G 33) (G 34) (G 35) x lane n (by omega) (hSh.L)) [1, 2, 3, 4, 5, 6, 7, 8, 9, 10, 11, 12, 13, 14, 15, 16, 17, 18, 19, 20, 21, 22, 23, 27] [0, 24, 25, 26] (by decide +kernel) rfl ?_
    rintro v w1 ⟨rm, flm', fzm', fim', rfl, rfl, em, e2m, e3m⟩
    have hre : rm = -1 := em.trans (if_pos (by omega))
    refine ⟨j, (va_up (va_up (va_up G 33 flm') 34 fzm') 35 fim'), veq (hre.trans e.symm), rfl, rfl, ?_⟩
    obtain ⟨rfl, rfl, rfl⟩ := e3m (by omega)
    exact Rel.of hB hMk hHt hTp hCo hTr hSh hLn hMm
set_option maxHeartbeats 4000000 in
set_option maxRecDepth 100000 in
theorem pr_drop (l : Launch) (g : GT) (x : Int) (g_x : -2147483648 ≤ x ∧ x < 2147483648) : PairOK l g yX8_drop wsX8_drop ({ frames := 2, cells := 0, slots := 0, locals := 43 } : Room) yX9_drop wsX9_drop ({ frames := 2, cells := 0, slots := 0, locals := 45 } : Room) [.int (iI x)] := by
  intro hd hm A z F LA LZ LT K a j G hR
  obtain ⟨hB, hMk, hHt, hTp, hCo, hTr, hSh, hLn, hMm⟩ := id hR
  have hK := hB.1
  have hz4 := hB.2.1
  have hj5 := hB.2.2.1
  by_cases hx : 0 ≤ x ∧ x ≤ 3
  · rcases (show x = 0 ∨ x = 1 ∨ x = 2 ∨ x = 3 by omega) with hxe | hxe | hxe | hxe <;> subst hxe
    · refine lift8 (c_X8_drop l g hd A z (fshF A) (A 40) (A 50) (z 40) (z 50) (F 50) 0 (0 : Int) (⟨rfl, by decide⟩) (rfl) (hSh.1.1)) [1, 2, 3, 4, 5, 6, 7, 8, 9, 10, 11, 12, 13, 14, 15, 16, 17, 18, 19, 20, 21, 22, 23, 27, 28, 29, 30, 31, 32] [0, 24, 25, 26] (by decide +kernel) rfl ?_
      rintro v w1 ⟨r, ln', rfl, rfl, e, e2⟩
      refine ⟨r, A, (va_up z 40 ln'), F, rfl, rfl, rfl, ?_⟩
      refine lift9 (c_X9_drop l g hm a j (G 33) (G 34) (0 : Int) (by omega) (hSh.L)) [1, 2, 3, 4, 5, 6, 7, 8, 9, 10, 11, 12, 13, 14, 15, 16, 17, 18, 19, 20, 21, 22, 23, 26, 27] [0, 24, 25] (by decide +kernel) rfl ?_
      rintro v w1 ⟨rm, flm', rfl, rfl, em⟩
      have em9 : rm = (if G 33 0 < 0 then -11 else G 34 0) ∧ flm' = va_up (G 33) 0 (-1) := by
        rcases em with ⟨-, z9, -⟩ | ⟨-, em, h9⟩
        · omega
        · exact ⟨em, h9⟩
      have hre : rm = r := by
        have h9 := hSh.1.2.2.1
        have h8 := hSh.1.1
        rw [em9.1, e]
        rcases h9 with h9 | h9
        · rw [if_pos h9.1, if_pos h9.2]
        · rw [if_neg (show ¬ G 33 0 < 0 by omega), if_neg (show ¬ z 40 < 0 by omega), h9.2.2]
      refine ⟨j, (va_up G 33 flm'), veq (hre), rfl, rfl, ?_⟩
      subst e2
      obtain ⟨-, rfl⟩ := em9
      exact Rel.of hB hMk hHt hTp hCo hTr (RSh.of (RSk.of ⟨(by decide : (-1 : Int) ≤ -1), (by decide : (-1 : Int) ≤ 40), hSh.1.1.2.2⟩ ⟨(by decide : (-1 : Int) ≤ -1), (by decide : (-1 : Int) ≤ 2), hSh.1.2.1.2.2⟩ (Or.inl ⟨(by decide : (-1 : Int) < 0), (by decide : (-1 : Int) < 0)⟩) hSh.1.2.2.2) (hSh.2.1.keep (up_n (G 33) 0 1 (-1) (by decide)) rfl (fun p hp => rfl)) (hSh.2.2.1.keep (up_n (G 33) 0 2 (-1) (by decide)) rfl (fun p hp => rfl)) (hSh.2.2.2.keep (up_n (G 33) 0 3 (-1) (by decide)) rfl (fun p hp => rfl))) hLn hMm
    · refine lift8 (c_X8_drop l g hd A z (fshF A) (A 41) (A 51) (z 41) (z 51) (F 51) 1 (1 : Int) (⟨rfl, by decide⟩) (rfl) (hSh.2.1.1)) [1, 2, 3, 4, 5, 6, 7, 8, 9, 10, 11, 12, 13, 14, 15, 16, 17, 18, 19, 20, 21, 22, 23, 25, 26, 29, 30, 31, 32] [0, 24, 27, 28] (by decide +kernel) rfl ?_
      rintro v w1 ⟨r, ln', rfl, rfl, e, e2⟩
      refine ⟨r, A, (va_up z 41 ln'), F, rfl, rfl, rfl, ?_⟩
      refine lift9 (c_X9_drop l g hm a j (G 33) (G 34) (1 : Int) (by omega) (hSh.L)) [1, 2, 3, 4, 5, 6, 7, 8, 9, 10, 11, 12, 13, 14, 15, 16, 17, 18, 19, 20, 21, 22, 23, 26, 27] [0, 24, 25] (by decide +kernel) rfl ?_
      rintro v w1 ⟨rm, flm', rfl, rfl, em⟩
      have em9 : rm = (if G 33 1 < 0 then -11 else G 34 1) ∧ flm' = va_up (G 33) 1 (-1) := by
        rcases em with ⟨-, z9, -⟩ | ⟨-, em, h9⟩
        · omega
        · exact ⟨em, h9⟩
      have hre : rm = r := by
        have h9 := hSh.2.1.2.2.1
        have h8 := hSh.2.1.1
        rw [em9.1, e]
        rcases h9 with h9 | h9
        · rw [if_pos h9.1, if_pos h9.2]
        · rw [if_neg (show ¬ G 33 1 < 0 by omega), if_neg (show ¬ z 41 < 0 by omega), h9.2.2]
      refine ⟨j, (va_up G 33 flm'), veq (hre), rfl, rfl, ?_⟩
      subst e2
      obtain ⟨-, rfl⟩ := em9
      exact Rel.of hB hMk hHt hTp hCo hTr (RSh.of (hSh.1.keep (up_n (G 33) 1 0 (-1) (by decide)) rfl (fun p hp => rfl)) (RSk.of ⟨(by decide : (-1 : Int) ≤ -1), (by decide : (-1 : Int) ≤ 40), hSh.2.1.1.2.2⟩ ⟨(by decide : (-1 : Int) ≤ -1), (by decide : (-1 : Int) ≤ 2), hSh.2.1.2.1.2.2⟩ (Or.inl ⟨(by decide : (-1 : Int) < 0), (by decide : (-1 : Int) < 0)⟩) hSh.2.1.2.2.2) (hSh.2.2.1.keep (up_n (G 33) 1 2 (-1) (by decide)) rfl (fun p hp => rfl)) (hSh.2.2.2.keep (up_n (G 33) 1 3 (-1) (by decide)) rfl (fun p hp => rfl))) hLn hMm
    · refine lift8 (c_X8_drop l g hd A z (fshF A) (A 42) (A 52) (z 42) (z 52) (F 52) 2 (2 : Int) (⟨rfl, by decide⟩) (rfl) (hSh.2.2.1.1)) [1, 2, 3, 4, 5, 6, 7, 8, 9, 10, 11, 12, 13, 14, 15, 16, 17, 18, 19, 20, 21, 22, 23, 25, 26, 27, 28, 31, 32] [0, 24, 29, 30] (by decide +kernel) rfl ?_
      rintro v w1 ⟨r, ln', rfl, rfl, e, e2⟩
      refine ⟨r, A, (va_up z 42 ln'), F, rfl, rfl, rfl, ?_⟩
      refine lift9 (c_X9_drop l g hm a j (G 33) (G 34) (2 : Int) (by omega) (hSh.L)) [1, 2, 3, 4, 5, 6, 7, 8, 9, 10, 11, 12, 13, 14, 15, 16, 17, 18, 19, 20, 21, 22, 23, 26, 27] [0, 24, 25] (by decide +kernel) rfl ?_
      rintro v w1 ⟨rm, flm', rfl, rfl, em⟩
      have em9 : rm = (if G 33 2 < 0 then -11 else G 34 2) ∧ flm' = va_up (G 33) 2 (-1) := by
        rcases em with ⟨-, z9, -⟩ | ⟨-, em, h9⟩
        · omega
        · exact ⟨em, h9⟩
      have hre : rm = r := by
        have h9 := hSh.2.2.1.2.2.1
        have h8 := hSh.2.2.1.1
        rw [em9.1, e]
        rcases h9 with h9 | h9
        · rw [if_pos h9.1, if_pos h9.2]
        · rw [if_neg (show ¬ G 33 2 < 0 by omega), if_neg (show ¬ z 42 < 0 by omega), h9.2.2]
      refine ⟨j, (va_up G 33 flm'), veq (hre), rfl, rfl, ?_⟩
      subst e2
      obtain ⟨-, rfl⟩ := em9
      exact Rel.of hB hMk hHt hTp hCo hTr (RSh.of (hSh.1.keep (up_n (G 33) 2 0 (-1) (by decide)) rfl (fun p hp => rfl)) (hSh.2.1.keep (up_n (G 33) 2 1 (-1) (by decide)) rfl (fun p hp => rfl)) (RSk.of ⟨(by decide : (-1 : Int) ≤ -1), (by decide : (-1 : Int) ≤ 40), hSh.2.2.1.1.2.2⟩ ⟨(by decide : (-1 : Int) ≤ -1), (by decide : (-1 : Int) ≤ 2), hSh.2.2.1.2.1.2.2⟩ (Or.inl ⟨(by decide : (-1 : Int) < 0), (by decide : (-1 : Int) < 0)⟩) hSh.2.2.1.2.2.2) (hSh.2.2.2.keep (up_n (G 33) 2 3 (-1) (by decide)) rfl (fun p hp => rfl))) hLn hMm
    · refine lift8 (c_X8_drop l g hd A z (fshF A) (A 43) (A 53) (z 43) (z 53) (F 53) 3 (3 : Int) (⟨rfl, by decide⟩) (rfl) (hSh.2.2.2.1)) [1, 2, 3, 4, 5, 6, 7, 8, 9, 10, 11, 12, 13, 14, 15, 16, 17, 18, 19, 20, 21, 22, 23, 25, 26, 27, 28, 29, 30] [0, 24, 31, 32] (by decide +kernel) rfl ?_
      rintro v w1 ⟨r, ln', rfl, rfl, e, e2⟩
      refine ⟨r, A, (va_up z 43 ln'), F, rfl, rfl, rfl, ?_⟩
      refine lift9 (c_X9_drop l g hm a j (G 33) (G 34) (3 : Int) (by omega) (hSh.L)) [1, 2, 3, 4, 5, 6, 7, 8, 9, 10, 11, 12, 13, 14, 15, 16, 17, 18, 19, 20, 21, 22, 23, 26, 27] [0, 24, 25] (by decide +kernel) rfl ?_
      rintro v w1 ⟨rm, flm', rfl, rfl, em⟩
      have em9 : rm = (if G 33 3 < 0 then -11 else G 34 3) ∧ flm' = va_up (G 33) 3 (-1) := by
        rcases em with ⟨-, z9, -⟩ | ⟨-, em, h9⟩
        · omega
        · exact ⟨em, h9⟩
      have hre : rm = r := by
        have h9 := hSh.2.2.2.2.2.1
        have h8 := hSh.2.2.2.1
        rw [em9.1, e]
        rcases h9 with h9 | h9
        · rw [if_pos h9.1, if_pos h9.2]
        · rw [if_neg (show ¬ G 33 3 < 0 by omega), if_neg (show ¬ z 43 < 0 by omega), h9.2.2]
      refine ⟨j, (va_up G 33 flm'), veq (hre), rfl, rfl, ?_⟩
      subst e2
      obtain ⟨-, rfl⟩ := em9
      exact Rel.of hB hMk hHt hTp hCo hTr (RSh.of (hSh.1.keep (up_n (G 33) 3 0 (-1) (by decide)) rfl (fun p hp => rfl)) (hSh.2.1.keep (up_n (G 33) 3 1 (-1) (by decide)) rfl (fun p hp => rfl)) (hSh.2.2.1.keep (up_n (G 33) 3 2 (-1) (by decide)) rfl (fun p hp => rfl)) (RSk.of ⟨(by decide : (-1 : Int) ≤ -1), (by decide : (-1 : Int) ≤ 40), hSh.2.2.2.1.2.2⟩ ⟨(by decide : (-1 : Int) ≤ -1), (by decide : (-1 : Int) ≤ 2), hSh.2.2.2.2.1.2.2⟩ (Or.inl ⟨(by decide : (-1 : Int) < 0), (by decide : (-1 : Int) < 0)⟩) hSh.2.2.2.2.2.2)) hLn hMm
  · refine lift8 (c_X8_dropB l g hd A z (fshF A) x (by omega)) [1, 2, 3, 4, 5, 6, 7, 8, 9, 10, 11, 12, 13, 14, 15, 16, 17, 18, 19, 20, 21, 22, 23, 25, 26, 27, 28, 29, 30, 31, 32] [0, 24] (by decide +kernel) rfl ?_
    rintro v w1 ⟨r, rfl, rfl, e⟩
    refine ⟨r, A, z, F, rfl, rfl, rfl, ?_⟩
    refine lift9 (c_X9_drop l g hm a j (G 33) (G 34) x (by omega) (hSh.L)) [1, 2, 3, 4, 5, 6, 7, 8, 9, 10, 11, 12, 13, 14, 15, 16, 17, 18, 19, 20, 21, 22, 23, 26, 27] [0, 24, 25] (by decide +kernel) rfl ?_
    rintro v w1 ⟨rm, flm', rfl, rfl, em⟩
    have hre : rm = -1 := by
      rcases em with ⟨h9, -⟩ | ⟨z9, -⟩
      · exact h9
      · omega
    refine ⟨j, (va_up G 33 flm'), veq (hre.trans e.symm), rfl, rfl, ?_⟩
    rcases em with ⟨-, -, rfl⟩ | ⟨z9, -⟩
    · exact Rel.of hB hMk hHt hTp hCo hTr hSh hLn hMm
    · omega
set_option maxHeartbeats 4000000 in
set_option maxRecDepth 100000 in
theorem pr_item (l : Launch) (g : GT) (x : Int) (lane : Int) (x2 : Int) (v_ : Int) (g_x : -2147483648 ≤ x ∧ x < 2147483648) (g_lane : -2147483648 ≤ lane ∧ lane < 2147483648) (g_x2 : -2147483648 ≤ x2 ∧ x2 < 2147483648) (g_v_ : -2147483648 ≤ v_ ∧ v_ < 2147483648) : PairOK l g yX8_item wsX8_item ({ frames := 2, cells := 0, slots := 0, locals := 45 } : Room) yX9_item wsX9_item ({ frames := 2, cells := 0, slots := 0, locals := 45 } : Room) [.int (iI x), .int (iI lane), .int (iI x2), .int (iI v_)] := by
  intro hd hm A z F LA LZ LT K a j G hR
  obtain ⟨hB, hMk, hHt, hTp, hCo, hTr, hSh, hLn, hMm⟩ := id hR
  have hK := hB.1
  have hz4 := hB.2.1
  have hj5 := hB.2.2.1
  by_cases hx : 0 ≤ x ∧ x ≤ 3
  · rcases (show x = 0 ∨ x = 1 ∨ x = 2 ∨ x = 3 by omega) with hxe | hxe | hxe | hxe <;> subst hxe
    · refine lift8 (c_X8_item l g hd A z (fshF A) (A 40) (A 50) (z 40) (z 50) (F 50) 0 (0 : Int) lane x2 v_ (⟨rfl, by decide⟩) (rfl) (hSh.1.1) (by omega)) [1, 2, 3, 4, 5, 6, 7, 8, 9, 10, 11, 12, 13, 14, 15, 16, 17, 18, 19, 20, 21, 22, 23, 27, 28, 29, 30, 31, 32] [0, 24, 25, 26] (by decide +kernel) rfl ?_
      rintro v w1 ⟨r, it', rfl, rfl, e, e2, e3⟩
      refine ⟨r, A, z, (va_up F 50 it'), rfl, rfl, rfl, ?_⟩
      refine lift9 (c_X9_item l g hm a j (G 33) (G 34) (G 35) (0 : Int) lane x2 v_ (by omega) (hSh.L)) [1, 2, 3, 4, 5, 6, 7, 8, 9, 10, 11, 12, 13, 14, 15, 16, 17, 18, 19, 20, 21, 22, 23, 27] [0, 24, 25, 26] (by decide +kernel) rfl ?_
      rintro v w1 ⟨rm, fim', rfl, rfl, em, e2m, e3m⟩
      have hre := em.trans ((item_eq hSh.1 rfl (by omega)).trans e.symm)
      refine ⟨j, (va_up G 35 fim'), veq (hre), rfl, rfl, ?_⟩
      have hb9 := hSh.1.1
      rcases item_r e with hr0 | h9
      · obtain rfl := e3 hr0
        obtain rfl := e3m (by omega)
        exact Rel.of hB hMk hHt hTp hCo hTr hSh hLn hMm
      · obtain rfl := e2 h9.1
        obtain rfl := e2m (by omega)
        exact Rel.of hB hMk hHt hTp hCo hTr (RSh.of (RSk.of hSh.1.1 hSh.1.2.1 hSh.1.2.2.1 (fun p hp => itm_up (q := x2.toNat) (v := v_) hSh.1 hp (by have h8 := hSh.1.1; omega) h9.2.2.1 g_v_)) (hSh.2.1.keep rfl rfl (fun p hp => up_n (G 35) (40 * 0 + x2.toNat) (40 * 1 + p) (cutS lane v_) (by omega))) (hSh.2.2.1.keep rfl rfl (fun p hp => up_n (G 35) (40 * 0 + x2.toNat) (40 * 2 + p) (cutS lane v_) (by omega))) (hSh.2.2.2.keep rfl rfl (fun p hp => up_n (G 35) (40 * 0 + x2.toNat) (40 * 3 + p) (cutS lane v_) (by omega)))) hLn hMm
    · refine lift8 (c_X8_item l g hd A z (fshF A) (A 41) (A 51) (z 41) (z 51) (F 51) 1 (1 : Int) lane x2 v_ (⟨rfl, by decide⟩) (rfl) (hSh.2.1.1) (by omega)) [1, 2, 3, 4, 5, 6, 7, 8, 9, 10, 11, 12, 13, 14, 15, 16, 17, 18, 19, 20, 21, 22, 23, 25, 26, 29, 30, 31, 32] [0, 24, 27, 28] (by decide +kernel) rfl ?_
      rintro v w1 ⟨r, it', rfl, rfl, e, e2, e3⟩
      refine ⟨r, A, z, (va_up F 51 it'), rfl, rfl, rfl, ?_⟩
      refine lift9 (c_X9_item l g hm a j (G 33) (G 34) (G 35) (1 : Int) lane x2 v_ (by omega) (hSh.L)) [1, 2, 3, 4, 5, 6, 7, 8, 9, 10, 11, 12, 13, 14, 15, 16, 17, 18, 19, 20, 21, 22, 23, 27] [0, 24, 25, 26] (by decide +kernel) rfl ?_
      rintro v w1 ⟨rm, fim', rfl, rfl, em, e2m, e3m⟩
      have hre := em.trans ((item_eq hSh.2.1 rfl (by omega)).trans e.symm)
      refine ⟨j, (va_up G 35 fim'), veq (hre), rfl, rfl, ?_⟩
      have hb9 := hSh.2.1.1
      rcases item_r e with hr0 | h9
      · obtain rfl := e3 hr0
        obtain rfl := e3m (by omega)
        exact Rel.of hB hMk hHt hTp hCo hTr hSh hLn hMm
      · obtain rfl := e2 h9.1
        obtain rfl := e2m (by omega)
        exact Rel.of hB hMk hHt hTp hCo hTr (RSh.of (hSh.1.keep rfl rfl (fun p hp => up_n (G 35) (40 * 1 + x2.toNat) (40 * 0 + p) (cutS lane v_) (by omega))) (RSk.of hSh.2.1.1 hSh.2.1.2.1 hSh.2.1.2.2.1 (fun p hp => itm_up (q := x2.toNat) (v := v_) hSh.2.1 hp (by have h8 := hSh.2.1.1; omega) h9.2.2.1 g_v_)) (hSh.2.2.1.keep rfl rfl (fun p hp => up_n (G 35) (40 * 1 + x2.toNat) (40 * 2 + p) (cutS lane v_) (by omega))) (hSh.2.2.2.keep rfl rfl (fun p hp => up_n (G 35) (40 * 1 + x2.toNat) (40 * 3 + p) (cutS lane v_) (by omega)))) hLn hMm
    · refine lift8 (c_X8_item l g hd A z (fshF A) (A 42) (A 52) (z 42) (z 52) (F 52) 2 (2 : Int) lane x2 v_ (⟨rfl, by decide⟩) (rfl) (hSh.2.2.1.1) (by omega)) [1, 2, 3, 4, 5, 6, 7, 8, 9, 10, 11, 12, 13, 14, 15, 16, 17, 18, 19, 20, 21, 22, 23, 25, 26, 27, 28, 31, 32] [0, 24, 29, 30] (by decide +kernel) rfl ?_
      rintro v w1 ⟨r, it', rfl, rfl, e, e2, e3⟩
      refine ⟨r, A, z, (va_up F 52 it'), rfl, rfl, rfl, ?_⟩
      refine lift9 (c_X9_item l g hm a j (G 33) (G 34) (G 35) (2 : Int) lane x2 v_ (by omega) (hSh.L)) [1, 2, 3, 4, 5, 6, 7, 8, 9, 10, 11, 12, 13, 14, 15, 16, 17, 18, 19, 20, 21, 22, 23, 27] [0, 24, 25, 26] (by decide +kernel) rfl ?_
      rintro v w1 ⟨rm, fim', rfl, rfl, em, e2m, e3m⟩
      have hre := em.trans ((item_eq hSh.2.2.1 rfl (by omega)).trans e.symm)
      refine ⟨j, (va_up G 35 fim'), veq (hre), rfl, rfl, ?_⟩
      have hb9 := hSh.2.2.1.1
      rcases item_r e with hr0 | h9
      · obtain rfl := e3 hr0
        obtain rfl := e3m (by omega)
        exact Rel.of hB hMk hHt hTp hCo hTr hSh hLn hMm
      · obtain rfl := e2 h9.1
        obtain rfl := e2m (by omega)
        exact Rel.of hB hMk hHt hTp hCo hTr (RSh.of (hSh.1.keep rfl rfl (fun p hp => up_n (G 35) (40 * 2 + x2.toNat) (40 * 0 + p) (cutS lane v_) (by omega))) (hSh.2.1.keep rfl rfl (fun p hp => up_n (G 35) (40 * 2 + x2.toNat) (40 * 1 + p) (cutS lane v_) (by omega))) (RSk.of hSh.2.2.1.1 hSh.2.2.1.2.1 hSh.2.2.1.2.2.1 (fun p hp => itm_up (q := x2.toNat) (v := v_) hSh.2.2.1 hp (by have h8 := hSh.2.2.1.1; omega) h9.2.2.1 g_v_)) (hSh.2.2.2.keep rfl rfl (fun p hp => up_n (G 35) (40 * 2 + x2.toNat) (40 * 3 + p) (cutS lane v_) (by omega)))) hLn hMm
    · refine lift8 (c_X8_item l g hd A z (fshF A) (A 43) (A 53) (z 43) (z 53) (F 53) 3 (3 : Int) lane x2 v_ (⟨rfl, by decide⟩) (rfl) (hSh.2.2.2.1) (by omega)) [1, 2, 3, 4, 5, 6, 7, 8, 9, 10, 11, 12, 13, 14, 15, 16, 17, 18, 19, 20, 21, 22, 23, 25, 26, 27, 28, 29, 30] [0, 24, 31, 32] (by decide +kernel) rfl ?_
      rintro v w1 ⟨r, it', rfl, rfl, e, e2, e3⟩
      refine ⟨r, A, z, (va_up F 53 it'), rfl, rfl, rfl, ?_⟩
      refine lift9 (c_X9_item l g hm a j (G 33) (G 34) (G 35) (3 : Int) lane x2 v_ (by omega) (hSh.L)) [1, 2, 3, 4, 5, 6, 7, 8, 9, 10, 11, 12, 13, 14, 15, 16, 17, 18, 19, 20, 21, 22, 23, 27] [0, 24, 25, 26] (by decide +kernel) rfl ?_
      rintro v w1 ⟨rm, fim', rfl, rfl, em, e2m, e3m⟩
      have hre := em.trans ((item_eq hSh.2.2.2 rfl (by omega)).trans e.symm)
      refine ⟨j, (va_up G 35 fim'), veq (hre), rfl, rfl, ?_⟩
      have hb9 := hSh.2.2.2.1
      rcases item_r e with hr0 | h9
      · obtain rfl := e3 hr0
        obtain rfl := e3m (by omega)
        exact Rel.of hB hMk hHt hTp hCo hTr hSh hLn hMm
      · obtain rfl := e2 h9.1
        obtain rfl := e2m (by omega)
        exact Rel.of hB hMk hHt hTp hCo hTr (RSh.of (hSh.1.keep rfl rfl (fun p hp => up_n (G 35) (40 * 3 + x2.toNat) (40 * 0 + p) (cutS lane v_) (by omega))) (hSh.2.1.keep rfl rfl (fun p hp => up_n (G 35) (40 * 3 + x2.toNat) (40 * 1 + p) (cutS lane v_) (by omega))) (hSh.2.2.1.keep rfl rfl (fun p hp => up_n (G 35) (40 * 3 + x2.toNat) (40 * 2 + p) (cutS lane v_) (by omega))) (RSk.of hSh.2.2.2.1 hSh.2.2.2.2.1 hSh.2.2.2.2.2.1 (fun p hp => itm_up (q := x2.toNat) (v := v_) hSh.2.2.2 hp (by have h8 := hSh.2.2.2.1; omega) h9.2.2.1 g_v_))) hLn hMm
  · refine lift8 (c_X8_itemB l g hd A z (fshF A) x lane x2 v_ (by omega)) [1, 2, 3, 4, 5, 6, 7, 8, 9, 10, 11, 12, 13, 14, 15, 16, 17, 18, 19, 20, 21, 22, 23, 25, 26, 27, 28, 29, 30, 31, 32] [0, 24] (by decide +kernel) rfl ?_
    rintro v w1 ⟨r, rfl, rfl, e⟩
    refine ⟨r, A, z, F, rfl, rfl, rfl, ?_⟩
    refine lift9 (c_X9_item l g hm a j (G 33) (G 34) (G 35) x lane x2 v_ (by omega) (hSh.L)) [1, 2, 3, 4, 5, 6, 7, 8, 9, 10, 11, 12, 13, 14, 15, 16, 17, 18, 19, 20, 21, 22, 23, 27] [0, 24, 25, 26] (by decide +kernel) rfl ?_
    rintro v w1 ⟨rm, fim', rfl, rfl, em, e2m, e3m⟩
    have hre : rm = -1 := em.trans (if_pos (by omega))
    refine ⟨j, (va_up G 35 fim'), veq (hre.trans e.symm), rfl, rfl, ?_⟩
    obtain rfl := e3m (by omega)
    exact Rel.of hB hMk hHt hTp hCo hTr hSh hLn hMm
