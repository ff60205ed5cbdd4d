set_option maxHeartbeats 4000000 in
set_option maxRecDepth 100000 in
theorem pr_copy (l : Launch) (g : GT) (x : Int) (xi : Int) (x2 : Int) (xj : Int) (n : Int) (g_x : -2147483648 ≤ x ∧ x < 2147483648) (g_xi : -2147483648 ≤ xi ∧ xi < 2147483648) (g_x2 : -2147483648 ≤ x2 ∧ x2 < 2147483648) (g_xj : -2147483648 ≤ xj ∧ xj < 2147483648) (g_n : -2147483648 ≤ n ∧ n < 2147483648) : PairOK l g yX8_copy wsX8_copy ({ frames := 2, cells := 0, slots := 0, locals := 43 } : Room) yX9_copy wsX9_copy ({ frames := 2, cells := 0, slots := 0, locals := 45 } : Room) [.int (iI x), .int (iI xi), .int (iI x2), .int (iI xj), .int (iI n)] := by
  intro hd hm A z F LA LZ LT K a j G hR
  obtain ⟨hB, hMk, hHt, hTp, hCo, hTr, hSh, hLn, hMm⟩ := id hR
  have hK := hB.1
  have hz4 := hB.2.1
  have hj5 := hB.2.2.1
  by_cases hx : 0 ≤ x ∧ x ≤ 3
  · by_cases hy : 0 ≤ x2 ∧ x2 ≤ 3
    · rcases (show x = 0 ∨ x = 1 ∨ x = 2 ∨ x = 3 by omega) with hxe | hxe | hxe | hxe <;> subst hxe <;> rcases (show x2 = 0 ∨ x2 = 1 ∨ x2 = 2 ∨ x2 = 3 by omega) with hye | hye | hye | hye <;> subst hye
      · refine lift8 (c_X8_copyE l g hd A z (fshF A) (A 40) (A 50) (z 40) (z 50) (F 50) 0 0 (0 : Int) xi (0 : Int) xj n (⟨rfl, by decide, rfl, by decide⟩) (rfl) (rfl) (hSh.1.1) (by omega)) [1, 2, 3, 4, 5, 6, 7, 8, 9, 10, 11, 12, 13, 14, 15, 16, 17, 18, 19, 20, 21, 22, 23, 27, 28, 29, 30, 31, 32] [0, 24, 25, 26] (by decide +kernel) rfl ?_
        rintro v w1 ⟨r, it', rfl, rfl, e, e2, e3⟩
        refine ⟨r, A, z, (va_up F 50 it'), rfl, rfl, rfl, ?_⟩
        refine lift9 (c_X9_copy l g hm a j (G 33) (G 34) (G 35) (G 36) (0 : Int) xi (0 : Int) xj n (by omega) (hSh.L)) [1, 2, 3, 4, 5, 6, 7, 8, 9, 10, 11, 12, 13, 14, 15, 16, 17, 18, 19, 20, 21, 22, 23] [0, 24, 25, 26, 27] (by decide +kernel) rfl ?_
        rintro v w1 ⟨rm, fim', fmm', rfl, rfl, em, e2m, e3m⟩
        have hre := em.trans ((copy_eq hSh.1 hSh.1 rfl rfl (by omega) (by omega)).trans e.symm)
        have hb1 := hSh.1.1
        have hb2 := hSh.1.1
        refine ⟨j, (va_up (va_up G 35 fim') 36 fmm'), veq (hre), rfl, rfl, ?_⟩
        rcases copy_r e with hr0 | h9
        · obtain rfl := e3 hr0
          obtain rfl := e3m (by omega)
          exact Rel.of hB hMk hHt hTp hCo hTr hSh hLn hMm
        · obtain rfl := e2 (by omega)
          obtain rfl := e2m (by omega)
          exact Rel.of hB hMk hHt hTp hCo hTr (RSh.of (RSk.of hSh.1.1 hSh.1.2.1 hSh.1.2.2.1 (fun p hp => cpy_in (a := xi.toNat) (b := xj.toNat) (n := n.toNat) hSh.1 hSh.1 (by omega) (by omega) hp)) (hSh.2.1.keep rfl rfl (fun p hp => cpy_out (f := G 35) (h := G 35) (sp := 40 * 0 + xi.toNat) (dp := 40 * 0 + xj.toNat) (n := n.toNat) (i := 40 * 1 + p) (by omega))) (hSh.2.2.1.keep rfl rfl (fun p hp => cpy_out (f := G 35) (h := G 35) (sp := 40 * 0 + xi.toNat) (dp := 40 * 0 + xj.toNat) (n := n.toNat) (i := 40 * 2 + p) (by omega))) (hSh.2.2.2.keep rfl rfl (fun p hp => cpy_out (f := G 35) (h := G 35) (sp := 40 * 0 + xi.toNat) (dp := 40 * 0 + xj.toNat) (n := n.toNat) (i := 40 * 3 + p) (by omega)))) hLn hMm
      · refine lift8 (c_X8_copy l g hd A z (fshF A) (A 40) (A 50) (z 40) (z 50) (F 50) (A 41) (A 51) (z 41) (z 51) (F 51) 0 1 (0 : Int) xi (1 : Int) xj n (⟨rfl, by decide, rfl, by decide⟩) (rfl) (rfl) (⟨hSh.1.1.1, hSh.1.1.2.1, hSh.1.1.2.2.1, hSh.1.1.2.2.2, hSh.2.1.1⟩) (by omega)) [1, 2, 3, 4, 5, 6, 7, 8, 9, 10, 11, 12, 13, 14, 15, 16, 17, 18, 19, 20, 21, 22, 23, 29, 30, 31, 32] [0, 24, 25, 26, 27, 28] (by decide +kernel) rfl ?_
        rintro v w1 ⟨r, it2', rfl, rfl, e, e2, e3⟩
        refine ⟨r, A, z, (va_up F 51 it2'), rfl, rfl, rfl, ?_⟩
        refine lift9 (c_X9_copy l g hm a j (G 33) (G 34) (G 35) (G 36) (0 : Int) xi (1 : Int) xj n (by omega) (hSh.L)) [1, 2, 3, 4, 5, 6, 7, 8, 9, 10, 11, 12, 13, 14, 15, 16, 17, 18, 19, 20, 21, 22, 23] [0, 24, 25, 26, 27] (by decide +kernel) rfl ?_
        rintro v w1 ⟨rm, fim', fmm', rfl, rfl, em, e2m, e3m⟩
        have hre := em.trans ((copy_eq hSh.1 hSh.2.1 rfl rfl (by omega) (by omega)).trans e.symm)
        have hb1 := hSh.1.1
        have hb2 := hSh.2.1.1
        refine ⟨j, (va_up (va_up G 35 fim') 36 fmm'), veq (hre), rfl, rfl, ?_⟩
        rcases copy_r e with hr0 | h9
        · obtain rfl := e3 hr0
          obtain rfl := e3m (by omega)
          exact Rel.of hB hMk hHt hTp hCo hTr hSh hLn hMm
        · obtain rfl := e2 (by omega)
          obtain rfl := e2m (by omega)
          exact Rel.of hB hMk hHt hTp hCo hTr (RSh.of (hSh.1.keep rfl rfl (fun p hp => cpy_out (f := G 35) (h := G 35) (sp := 40 * 0 + xi.toNat) (dp := 40 * 1 + xj.toNat) (n := n.toNat) (i := 40 * 0 + p) (by omega))) (RSk.of hSh.2.1.1 hSh.2.1.2.1 hSh.2.1.2.2.1 (fun p hp => cpy_in (a := xi.toNat) (b := xj.toNat) (n := n.toNat) hSh.1 hSh.2.1 (by omega) (by omega) hp)) (hSh.2.2.1.keep rfl rfl (fun p hp => cpy_out (f := G 35) (h := G 35) (sp := 40 * 0 + xi.toNat) (dp := 40 * 1 + xj.toNat) (n := n.toNat) (i := 40 * 2 + p) (by omega))) (hSh.2.2.2.keep rfl rfl (fun p hp => cpy_out (f := G 35) (h := G 35) (sp := 40 * 0 + xi.toNat) (dp := 40 * 1 + xj.toNat) (n := n.toNat) (i := 40 * 3 + p) (by omega)))) hLn hMm
      · refine lift8 (c_X8_copy l g hd A z (fshF A) (A 40) (A 50) (z 40) (z 50) (F 50) (A 42) (A 52) (z 42) (z 52) (F 52) 0 2 (0 : Int) xi (2 : Int) xj n (⟨rfl, by decide, rfl, by decide⟩) (rfl) (rfl) (⟨hSh.1.1.1, hSh.1.1.2.1, hSh.1.1.2.2.1, hSh.1.1.2.2.2, hSh.2.2.1.1⟩) (by omega)) [1, 2, 3, 4, 5, 6, 7, 8, 9, 10, 11, 12, 13, 14, 15, 16, 17, 18, 19, 20, 21, 22, 23, 27, 28, 31, 32] [0, 24, 25, 26, 29, 30] (by decide +kernel) rfl ?_
        rintro v w1 ⟨r, it2', rfl, rfl, e, e2, e3⟩
        refine ⟨r, A, z, (va_up F 52 it2'), rfl, rfl, rfl, ?_⟩
        refine lift9 (c_X9_copy l g hm a j (G 33) (G 34) (G 35) (G 36) (0 : Int) xi (2 : Int) xj n (by omega) (hSh.L)) [1, 2, 3, 4, 5, 6, 7, 8, 9, 10, 11, 12, 13, 14, 15, 16, 17, 18, 19, 20, 21, 22, 23] [0, 24, 25, 26, 27] (by decide +kernel) rfl ?_
        rintro v w1 ⟨rm, fim', fmm', rfl, rfl, em, e2m, e3m⟩
        have hre := em.trans ((copy_eq hSh.1 hSh.2.2.1 rfl rfl (by omega) (by omega)).trans e.symm)
        have hb1 := hSh.1.1
        have hb2 := hSh.2.2.1.1
        refine ⟨j, (va_up (va_up G 35 fim') 36 fmm'), veq (hre), rfl, rfl, ?_⟩
        rcases copy_r e with hr0 | h9
        · obtain rfl := e3 hr0
          obtain rfl := e3m (by omega)
          exact Rel.of hB hMk hHt hTp hCo hTr hSh hLn hMm
        · obtain rfl := e2 (by omega)
          obtain rfl := e2m (by omega)
          exact Rel.of hB hMk hHt hTp hCo hTr (RSh.of (hSh.1.keep rfl rfl (fun p hp => cpy_out (f := G 35) (h := G 35) (sp := 40 * 0 + xi.toNat) (dp := 40 * 2 + xj.toNat) (n := n.toNat) (i := 40 * 0 + p) (by omega))) (hSh.2.1.keep rfl rfl (fun p hp => cpy_out (f := G 35) (h := G 35) (sp := 40 * 0 + xi.toNat) (dp := 40 * 2 + xj.toNat) (n := n.toNat) (i := 40 * 1 + p) (by omega))) (RSk.of hSh.2.2.1.1 hSh.2.2.1.2.1 hSh.2.2.1.2.2.1 (fun p hp => cpy_in (a := xi.toNat) (b := xj.toNat) (n := n.toNat) hSh.1 hSh.2.2.1 (by omega) (by omega) hp)) (hSh.2.2.2.keep rfl rfl (fun p hp => cpy_out (f := G 35) (h := G 35) (sp := 40 * 0 + xi.toNat) (dp := 40 * 2 + xj.toNat) (n := n.toNat) (i := 40 * 3 + p) (by omega)))) hLn hMm
      · refine lift8 (c_X8_copy l g hd A z (fshF A) (A 40) (A 50) (z 40) (z 50) (F 50) (A 43) (A 53) (z 43) (z 53) (F 53) 0 3 (0 : Int) xi (3 : Int) xj n (⟨rfl, by decide, rfl, by decide⟩) (rfl) (rfl) (⟨hSh.1.1.1, hSh.1.1.2.1, hSh.1.1.2.2.1, hSh.1.1.2.2.2, hSh.2.2.2.1⟩) (by omega)) [1, 2, 3, 4, 5, 6, 7, 8, 9, 10, 11, 12, 13, 14, 15, 16, 17, 18, 19, 20, 21, 22, 23, 27, 28, 29, 30] [0, 24, 25, 26, 31, 32] (by decide +kernel) rfl ?_
        rintro v w1 ⟨r, it2', rfl, rfl, e, e2, e3⟩
        refine ⟨r, A, z, (va_up F 53 it2'), rfl, rfl, rfl, ?_⟩
        refine lift9 (c_X9_copy l g hm a j (G 33) (G 34) (G 35) (G 36) (0 : Int) xi (3 : Int) xj n (by omega) (hSh.L)) [1, 2, 3, 4, 5, 6, 7, 8, 9, 10, 11, 12, 13, 14, 15, 16, 17, 18, 19, 20, 21, 22, 23] [0, 24, 25, 26, 27] (by decide +kernel) rfl ?_
        rintro v w1 ⟨rm, fim', fmm', rfl, rfl, em, e2m, e3m⟩
        have hre := em.trans ((copy_eq hSh.1 hSh.2.2.2 rfl rfl (by omega) (by omega)).trans e.symm)
        have hb1 := hSh.1.1
        have hb2 := hSh.2.2.2.1
        refine ⟨j, (va_up (va_up G 35 fim') 36 fmm'), veq (hre), rfl, rfl, ?_⟩
        rcases copy_r e with hr0 | h9
        · obtain rfl := e3 hr0
          obtain rfl := e3m (by omega)
          exact Rel.of hB hMk hHt hTp hCo hTr hSh hLn hMm
        · obtain rfl := e2 (by omega)
          obtain rfl := e2m (by omega)
          exact Rel.of hB hMk hHt hTp hCo hTr (RSh.of (hSh.1.keep rfl rfl (fun p hp => cpy_out (f := G 35) (h := G 35) (sp := 40 * 0 + xi.toNat) (dp := 40 * 3 + xj.toNat) (n := n.toNat) (i := 40 * 0 + p) (by omega))) (hSh.2.1.keep rfl rfl (fun p hp => cpy_out (f := G 35) (h := G 35) (sp := 40 * 0 + xi.toNat) (dp := 40 * 3 + xj.toNat) (n := n.toNat) (i := 40 * 1 + p) (by omega))) (hSh.2.2.1.keep rfl rfl (fun p hp => cpy_out (f := G 35) (h := G 35) (sp := 40 * 0 + xi.toNat) (dp := 40 * 3 + xj.toNat) (n := n.toNat) (i := 40 * 2 + p) (by omega))) (RSk.of hSh.2.2.2.1 hSh.2.2.2.2.1 hSh.2.2.2.2.2.1 (fun p hp => cpy_in (a := xi.toNat) (b := xj.toNat) (n := n.toNat) hSh.1 hSh.2.2.2 (by omega) (by omega) hp))) hLn hMm
      · refine lift8 (c_X8_copy l g hd A z (fshF A) (A 41) (A 51) (z 41) (z 51) (F 51) (A 40) (A 50) (z 40) (z 50) (F 50) 1 0 (1 : Int) xi (0 : Int) xj n (⟨rfl, by decide, rfl, by decide⟩) (rfl) (rfl) (⟨hSh.2.1.1.1, hSh.2.1.1.2.1, hSh.2.1.1.2.2.1, hSh.2.1.1.2.2.2, hSh.1.1⟩) (by omega)) [1, 2, 3, 4, 5, 6, 7, 8, 9, 10, 11, 12, 13, 14, 15, 16, 17, 18, 19, 20, 21, 22, 23, 29, 30, 31, 32] [0, 24, 27, 28, 25, 26] (by decide +kernel) rfl ?_
        rintro v w1 ⟨r, it2', rfl, rfl, e, e2, e3⟩
        refine ⟨r, A, z, (va_up F 50 it2'), rfl, rfl, rfl, ?_⟩
        refine lift9 (c_X9_copy l g hm a j (G 33) (G 34) (G 35) (G 36) (1 : Int) xi (0 : Int) xj n (by omega) (hSh.L)) [1, 2, 3, 4, 5, 6, 7, 8, 9, 10, 11, 12, 13, 14, 15, 16, 17, 18, 19, 20, 21, 22, 23] [0, 24, 25, 26, 27] (by decide +kernel) rfl ?_
        rintro v w1 ⟨rm, fim', fmm', rfl, rfl, em, e2m, e3m⟩
        have hre := em.trans ((copy_eq hSh.2.1 hSh.1 rfl rfl (by omega) (by omega)).trans e.symm)
        have hb1 := hSh.2.1.1
        have hb2 := hSh.1.1
        refine ⟨j, (va_up (va_up G 35 fim') 36 fmm'), veq (hre), rfl, rfl, ?_⟩
        rcases copy_r e with hr0 | h9
        · obtain rfl := e3 hr0
          obtain rfl := e3m (by omega)
          exact Rel.of hB hMk hHt hTp hCo hTr hSh hLn hMm
        · obtain rfl := e2 (by omega)
          obtain rfl := e2m (by omega)
          exact Rel.of hB hMk hHt hTp hCo hTr (RSh.of (RSk.of hSh.1.1 hSh.1.2.1 hSh.1.2.2.1 (fun p hp => cpy_in (a := xi.toNat) (b := xj.toNat) (n := n.toNat) hSh.2.1 hSh.1 (by omega) (by omega) hp)) (hSh.2.1.keep rfl rfl (fun p hp => cpy_out (f := G 35) (h := G 35) (sp := 40 * 1 + xi.toNat) (dp := 40 * 0 + xj.toNat) (n := n.toNat) (i := 40 * 1 + p) (by omega))) (hSh.2.2.1.keep rfl rfl (fun p hp => cpy_out (f := G 35) (h := G 35) (sp := 40 * 1 + xi.toNat) (dp := 40 * 0 + xj.toNat) (n := n.toNat) (i := 40 * 2 + p) (by omega))) (hSh.2.2.2.keep rfl rfl (fun p hp => cpy_out (f := G 35) (h := G 35) (sp := 40 * 1 + xi.toNat) (dp := 40 * 0 + xj.toNat) (n := n.toNat) (i := 40 * 3 + p) (by omega)))) hLn hMm
      · refine lift8 (c_X8_copyE l g hd A z (fshF A) (A 41) (A 51) (z 41) (z 51) (F 51) 1 1 (1 : Int) xi (1 : Int) xj n (⟨rfl, by decide, rfl, by decide⟩) (rfl) (rfl) (hSh.2.1.1) (by omega)) [1, 2, 3, 4, 5, 6, 7, 8, 9, 10, 11, 12, 13, 14, 15, 16, 17, 18, 19, 20, 21, 22, 23, 25, 26, 29, 30, 31, 32] [0, 24, 27, 28] (by decide +kernel) rfl ?_
        rintro v w1 ⟨r, it', rfl, rfl, e, e2, e3⟩
        refine ⟨r, A, z, (va_up F 51 it'), rfl, rfl, rfl, ?_⟩
        refine lift9 (c_X9_copy l g hm a j (G 33) (G 34) (G 35) (G 36) (1 : Int) xi (1 : Int) xj n (by omega) (hSh.L)) [1, 2, 3, 4, 5, 6, 7, 8, 9, 10, 11, 12, 13, 14, 15, 16, 17, 18, 19, 20, 21, 22, 23] [0, 24, 25, 26, 27] (by decide +kernel) rfl ?_
        rintro v w1 ⟨rm, fim', fmm', rfl, rfl, em, e2m, e3m⟩
        have hre := em.trans ((copy_eq hSh.2.1 hSh.2.1 rfl rfl (by omega) (by omega)).trans e.symm)
        have hb1 := hSh.2.1.1
        have hb2 := hSh.2.1.1
        refine ⟨j, (va_up (va_up G 35 fim') 36 fmm'), veq (hre), rfl, rfl, ?_⟩
        rcases copy_r e with hr0 | h9
        · obtain rfl := e3 hr0
          obtain rfl := e3m (by omega)
          exact Rel.of hB hMk hHt hTp hCo hTr hSh hLn hMm
        · obtain rfl := e2 (by omega)
          obtain rfl := e2m (by omega)
          exact Rel.of hB hMk hHt hTp hCo hTr (RSh.of (hSh.1.keep rfl rfl (fun p hp => cpy_out (f := G 35) (h := G 35) (sp := 40 * 1 + xi.toNat) (dp := 40 * 1 + xj.toNat) (n := n.toNat) (i := 40 * 0 + p) (by omega))) (RSk.of hSh.2.1.1 hSh.2.1.2.1 hSh.2.1.2.2.1 (fun p hp => cpy_in (a := xi.toNat) (b := xj.toNat) (n := n.toNat) hSh.2.1 hSh.2.1 (by omega) (by omega) hp)) (hSh.2.2.1.keep rfl rfl (fun p hp => cpy_out (f := G 35) (h := G 35) (sp := 40 * 1 + xi.toNat) (dp := 40 * 1 + xj.toNat) (n := n.toNat) (i := 40 * 2 + p) (by omega))) (hSh.2.2.2.keep rfl rfl (fun p hp => cpy_out (f := G 35) (h := G 35) (sp := 40 * 1 + xi.toNat) (dp := 40 * 1 + xj.toNat) (n := n.toNat) (i := 40 * 3 + p) (by omega)))) hLn hMm
      · refine lift8 (c_X8_copy l g hd A z (fshF A) (A 41) (A 51) (z 41) (z 51) (F 51) (A 42) (A 52) (z 42) (z 52) (F 52) 1 2 (1 : Int) xi (2 : Int) xj n (⟨rfl, by decide, rfl, by decide⟩) (rfl) (rfl) (⟨hSh.2.1.1.1, hSh.2.1.1.2.1, hSh.2.1.1.2.2.1, hSh.2.1.1.2.2.2, hSh.2.2.1.1⟩) (by omega)) [1, 2, 3, 4, 5, 6, 7, 8, 9, 10, 11, 12, 13, 14, 15, 16, 17, 18, 19, 20, 21, 22, 23, 25, 26, 31, 32] [0, 24, 27, 28, 29, 30] (by decide +kernel) rfl ?_
        rintro v w1 ⟨r, it2', rfl, rfl, e, e2, e3⟩
        refine ⟨r, A, z, (va_up F 52 it2'), rfl, rfl, rfl, ?_⟩
        refine lift9 (c_X9_copy l g hm a j (G 33) (G 34) (G 35) (G 36) (1 : Int) xi (2 : Int) xj n (by omega) (hSh.L)) [1, 2, 3, 4, 5, 6, 7, 8, 9, 10, 11, 12, 13, 14, 15, 16, 17, 18, 19, 20, 21, 22, 23] [0, 24, 25, 26, 27] (by decide +kernel) rfl ?_
        rintro v w1 ⟨rm, fim', fmm', rfl, rfl, em, e2m, e3m⟩
        have hre := em.trans ((copy_eq hSh.2.1 hSh.2.2.1 rfl rfl (by omega) (by omega)).trans e.symm)
        have hb1 := hSh.2.1.1
        have hb2 := hSh.2.2.1.1
        refine ⟨j, (va_up (va_up G 35 fim') 36 fmm'), veq (hre), rfl, rfl, ?_⟩
        rcases copy_r e with hr0 | h9
        · obtain rfl := e3 hr0
          obtain rfl := e3m (by omega)
          exact Rel.of hB hMk hHt hTp hCo hTr hSh hLn hMm
        · obtain rfl := e2 (by omega)
          obtain rfl := e2m (by omega)
          exact Rel.of hB hMk hHt hTp hCo hTr (RSh.of (hSh.1.keep rfl rfl (fun p hp => cpy_out (f := G 35) (h := G 35) (sp := 40 * 1 + xi.toNat) (dp := 40 * 2 + xj.toNat) (n := n.toNat) (i := 40 * 0 + p) (by omega))) (hSh.2.1.keep rfl rfl (fun p hp => cpy_out (f := G 35) (h := G 35) (sp := 40 * 1 + xi.toNat) (dp := 40 * 2 + xj.toNat) (n := n.toNat) (i := 40 * 1 + p) (by omega))) (RSk.of hSh.2.2.1.1 hSh.2.2.1.2.1 hSh.2.2.1.2.2.1 (fun p hp => cpy_in (a := xi.toNat) (b := xj.toNat) (n := n.toNat) hSh.2.1 hSh.2.2.1 (by omega) (by omega) hp)) (hSh.2.2.2.keep rfl rfl (fun p hp => cpy_out (f := G 35) (h := G 35) (sp := 40 * 1 + xi.toNat) (dp := 40 * 2 + xj.toNat) (n := n.toNat) (i := 40 * 3 + p) (by omega)))) hLn hMm
      · refine lift8 (c_X8_copy l g hd A z (fshF A) (A 41) (A 51) (z 41) (z 51) (F 51) (A 43) (A 53) (z 43) (z 53) (F 53) 1 3 (1 : Int) xi (3 : Int) xj n (⟨rfl, by decide, rfl, by decide⟩) (rfl) (rfl) (⟨hSh.2.1.1.1, hSh.2.1.1.2.1, hSh.2.1.1.2.2.1, hSh.2.1.1.2.2.2, hSh.2.2.2.1⟩) (by omega)) [1, 2, 3, 4, 5, 6, 7, 8, 9, 10, 11, 12, 13, 14, 15, 16, 17, 18, 19, 20, 21, 22, 23, 25, 26, 29, 30] [0, 24, 27, 28, 31, 32] (by decide +kernel) rfl ?_
        rintro v w1 ⟨r, it2', rfl, rfl, e, e2, e3⟩
        refine ⟨r, A, z, (va_up F 53 it2'), rfl, rfl, rfl, ?_⟩
        refine lift9 (c_X9_copy l g hm a j (G 33) (G 34) (G 35) (G 36) (1 : Int) xi (3 : Int) xj n (by omega) (hSh.L)) [1, 2, 3, 4, 5, 6, 7, 8, 9, 10, 11, 12, 13, 14, 15, 16, 17, 18, 19, 20, 21, 22, 23] [0, 24, 25, 26, 27] (by decide +kernel) rfl ?_
        rintro v w1 ⟨rm, fim', fmm', rfl, rfl, em, e2m, e3m⟩
        have hre := em.trans ((copy_eq hSh.2.1 hSh.2.2.2 rfl rfl (by omega) (by omega)).trans e.symm)
        have hb1 := hSh.2.1.1
        have hb2 := hSh.2.2.2.1
        refine ⟨j, (va_up (va_up G 35 fim') 36 fmm'), veq (hre), rfl, rfl, ?_⟩
        rcases copy_r e with hr0 | h9
        · obtain rfl := e3 hr0
          obtain rfl := e3m (by omega)
          exact Rel.of hB hMk hHt hTp hCo hTr hSh hLn hMm
        · obtain rfl := e2 (by omega)
          obtain rfl := e2m (by omega)
          exact Rel.of hB hMk hHt hTp hCo hTr (RSh.of (hSh.1.keep rfl rfl (fun p hp => cpy_out (f := G 35) (h := G 35) (sp := 40 * 1 + xi.toNat) (dp := 40 * 3 + xj.toNat) (n := n.toNat) (i := 40 * 0 + p) (by omega))) (hSh.2.1.keep rfl rfl (fun p hp => cpy_out (f := G 35) (h := G 35) (sp := 40 * 1 + xi.toNat) (dp := 40 * 3 + xj.toNat) (n := n.toNat) (i := 40 * 1 + p) (by omega))) (hSh.2.2.1.keep rfl rfl (fun p hp => cpy_out (f := G 35) (h := G 35) (sp := 40 * 1 + xi.toNat) (dp := 40 * 3 + xj.toNat) (n := n.toNat) (i := 40 * 2 + p) (by omega))) (RSk.of hSh.2.2.2.1 hSh.2.2.2.2.1 hSh.2.2.2.2.2.1 (fun p hp => cpy_in (a := xi.toNat) (b := xj.toNat) (n := n.toNat) hSh.2.1 hSh.2.2.2 (by omega) (by omega) hp))) hLn hMm
      · refine lift8 (c_X8_copy l g hd A z (fshF A) (A 42) (A 52) (z 42) (z 52) (F 52) (A 40) (A 50) (z 40) (z 50) (F 50) 2 0 (2 : Int) xi (0 : Int) xj n (⟨rfl, by decide, rfl, by decide⟩) (rfl) (rfl) (⟨hSh.2.2.1.1.1, hSh.2.2.1.1.2.1, hSh.2.2.1.1.2.2.1, hSh.2.2.1.1.2.2.2, hSh.1.1⟩) (by omega)) [1, 2, 3, 4, 5, 6, 7, 8, 9, 10, 11, 12, 13, 14, 15, 16, 17, 18, 19, 20, 21, 22, 23, 27, 28, 31, 32] [0, 24, 29, 30, 25, 26] (by decide +kernel) rfl ?_
        rintro v w1 ⟨r, it2', rfl, rfl, e, e2, e3⟩
        refine ⟨r, A, z, (va_up F 50 it2'), rfl, rfl, rfl, ?_⟩
        refine lift9 (c_X9_copy l g hm a j (G 33) (G 34) (G 35) (G 36) (2 : Int) xi (0 : Int) xj n (by omega) (hSh.L)) [1, 2, 3, 4, 5, 6, 7, 8, 9, 10, 11, 12, 13, 14, 15, 16, 17, 18, 19, 20, 21, 22, 23] [0, 24, 25, 26, 27] (by decide +kernel) rfl ?_
        rintro v w1 ⟨rm, fim', fmm', rfl, rfl, em, e2m, e3m⟩
        have hre := em.trans ((copy_eq hSh.2.2.1 hSh.1 rfl rfl (by omega) (by omega)).trans e.symm)
        have hb1 := hSh.2.2.1.1
        have hb2 := hSh.1.1
        refine ⟨j, (va_up (va_up G 35 fim') 36 fmm'), veq (hre), rfl, rfl, ?_⟩
        rcases copy_r e with hr0 | h9
        · obtain rfl := e3 hr0
          obtain rfl := e3m (by omega)
          exact Rel.of hB hMk hHt hTp hCo hTr hSh hLn hMm
        · obtain rfl := e2 (by omega)
          obtain rfl := e2m (by omega)
          exact Rel.of hB hMk hHt hTp hCo hTr (RSh.of (RSk.of hSh.1.1 hSh.1.2.1 hSh.1.2.2.1 (fun p hp => cpy_in (a := xi.toNat) (b := xj.toNat) (n := n.toNat) hSh.2.2.1 hSh.1 (by omega) (by omega) hp)) (hSh.2.1.keep rfl rfl (fun p hp => cpy_out (f := G 35) (h := G 35) (sp := 40 * 2 + xi.toNat) (dp := 40 * 0 + xj.toNat) (n := n.toNat) (i := 40 * 1 + p) (by omega))) (hSh.2.2.1.keep rfl rfl (fun p hp => cpy_out (f := G 35) (h := G 35) (sp := 40 * 2 + xi.toNat) (dp := 40 * 0 + xj.toNat) (n := n.toNat) (i := 40 * 2 + p) (by omega))) (hSh.2.2.2.keep rfl rfl (fun p hp => cpy_out (f := G 35) (h := G 35) (sp := 40 * 2 + xi.toNat) (dp := 40 * 0 + xj.toNat) (n := n.toNat) (i := 40 * 3 + p) (by omega)))) hLn hMm
      · refine lift8 (c_X8_copy l g hd A z (fshF A) (A 42) (A 52) (z 42) (z 52) (F 52) (A 41) (A 51) (z 41) (z 51) (F 51) 2 1 (2 : Int) xi (1 : Int) xj n (⟨rfl, by decide, rfl, by decide⟩) (rfl) (rfl) (⟨hSh.2.2.1.1.1, hSh.2.2.1.1.2.1, hSh.2.2.1.1.2.2.1, hSh.2.2.1.1.2.2.2, hSh.2.1.1⟩) (by omega)) [1, 2, 3, 4, 5, 6, 7, 8, 9, 10, 11, 12, 13, 14, 15, 16, 17, 18, 19, 20, 21, 22, 23, 25, 26, 31, 32] [0, 24, 29, 30, 27, 28] (by decide +kernel) rfl ?_
        rintro v w1 ⟨r, it2', rfl, rfl, e, e2, e3⟩
        refine ⟨r, A, z, (va_up F 51 it2'), rfl, rfl, rfl, ?_⟩
        refine lift9 (c_X9_copy l g hm a j (G 33) (G 34) (G 35) (G 36) (2 : Int) xi (1 : Int) xj n (by omega) (hSh.L)) [1, 2, 3, 4, 5, 6, 7, 8, 9, 10, 11, 12, 13, 14, 15, 16, 17, 18, 19, 20, 21, 22, 23] [0, 24, 25, 26, 27] (by decide +kernel) rfl ?_
        rintro v w1 ⟨rm, fim', fmm', rfl, rfl, em, e2m, e3m⟩
        have hre := em.trans ((copy_eq hSh.2.2.1 hSh.2.1 rfl rfl (by omega) (by omega)).trans e.symm)
        have hb1 := hSh.2.2.1.1
        have hb2 := hSh.2.1.1
        refine ⟨j, (va_up (va_up G 35 fim') 36 fmm'), veq (hre), rfl, rfl, ?_⟩
        rcases copy_r e with hr0 | h9
        · obtain rfl := e3 hr0
          obtain rfl := e3m (by omega)
          exact Rel.of hB hMk hHt hTp hCo hTr hSh hLn hMm
        · obtain rfl := e2 (by omega)
          obtain rfl := e2m (by omega)
          exact Rel.of hB hMk hHt hTp hCo hTr (RSh.of (hSh.1.keep rfl rfl (fun p hp => cpy_out (f := G 35) (h := G 35) (sp := 40 * 2 + xi.toNat) (dp := 40 * 1 + xj.toNat) (n := n.toNat) (i := 40 * 0 + p) (by omega))) (RSk.of hSh.2.1.1 hSh.2.1.2.1 hSh.2.1.2.2.1 (fun p hp => cpy_in (a := xi.toNat) (b := xj.toNat) (n := n.toNat) hSh.2.2.1 hSh.2.1 (by omega) (by omega) hp)) (hSh.2.2.1.keep rfl rfl (fun p hp => cpy_out (f := G 35) (h := G 35) (sp := 40 * 2 + xi.toNat) (dp := 40 * 1 + xj.toNat) (n := n.toNat) (i := 40 * 2 + p) (by omega))) (hSh.2.2.2.keep rfl rfl (fun p hp => cpy_out (f := G 35) (h := G 35) (sp := 40 * 2 + xi.toNat) (dp := 40 * 1 + xj.toNat) (n := n.toNat) (i := 40 * 3 + p) (by omega)))) hLn hMm
      · refine lift8 (c_X8_copyE l g hd A z (fshF A) (A 42) (A 52) (z 42) (z 52) (F 52) 2 2 (2 : Int) xi (2 : Int) xj n (⟨rfl, by decide, rfl, by decide⟩) (rfl) (rfl) (hSh.2.2.1.1) (by omega)) [1, 2, 3, 4, 5, 6, 7, 8, 9, 10, 11, 12, 13, 14, 15, 16, 17, 18, 19, 20, 21, 22, 23, 25, 26, 27, 28, 31, 32] [0, 24, 29, 30] (by decide +kernel) rfl ?_
        rintro v w1 ⟨r, it', rfl, rfl, e, e2, e3⟩
        refine ⟨r, A, z, (va_up F 52 it'), rfl, rfl, rfl, ?_⟩
        refine lift9 (c_X9_copy l g hm a j (G 33) (G 34) (G 35) (G 36) (2 : Int) xi (2 : Int) xj n (by omega) (hSh.L)) [1, 2, 3, 4, 5, 6, 7, 8, 9, 10, 11, 12, 13, 14, 15, 16, 17, 18, 19, 20, 21, 22, 23] [0, 24, 25, 26, 27] (by decide +kernel) rfl ?_
        rintro v w1 ⟨rm, fim', fmm', rfl, rfl, em, e2m, e3m⟩
        have hre := em.trans ((copy_eq hSh.2.2.1 hSh.2.2.1 rfl rfl (by omega) (by omega)).trans e.symm)
        have hb1 := hSh.2.2.1.1
        have hb2 := hSh.2.2.1.1
        refine ⟨j, (va_up (va_up G 35 fim') 36 fmm'), veq (hre), rfl, rfl, ?_⟩
        rcases copy_r e with hr0 | h9
        · obtain rfl := e3 hr0
          obtain rfl := e3m (by omega)
          exact Rel.of hB hMk hHt hTp hCo hTr hSh hLn hMm
        · obtain rfl := e2 (by omega)
          obtain rfl := e2m (by omega)
          exact Rel.of hB hMk hHt hTp hCo hTr (RSh.of (hSh.1.keep rfl rfl (fun p hp => cpy_out (f := G 35) (h := G 35) (sp := 40 * 2 + xi.toNat) (dp := 40 * 2 + xj.toNat) (n := n.toNat) (i := 40 * 0 + p) (by omega))) (hSh.2.1.keep rfl rfl (fun p hp => cpy_out (f := G 35) (h := G 35) (sp := 40 * 2 + xi.toNat) (dp := 40 * 2 + xj.toNat) (n := n.toNat) (i := 40 * 1 + p) (by omega))) (RSk.of hSh.2.2.1.1 hSh.2.2.1.2.1 hSh.2.2.1.2.2.1 (fun p hp => cpy_in (a := xi.toNat) (b := xj.toNat) (n := n.toNat) hSh.2.2.1 hSh.2.2.1 (by omega) (by omega) hp)) (hSh.2.2.2.keep rfl rfl (fun p hp => cpy_out (f := G 35) (h := G 35) (sp := 40 * 2 + xi.toNat) (dp := 40 * 2 + xj.toNat) (n := n.toNat) (i := 40 * 3 + p) (by omega)))) hLn hMm
      · refine lift8 (c_X8_copy l g hd A z (fshF A) (A 42) (A 52) (z 42) (z 52) (F 52) (A 43) (A 53) (z 43) (z 53) (F 53) 2 3 (2 : Int) xi (3 : Int) xj n (⟨rfl, by decide, rfl, by decide⟩) (rfl) (rfl) (⟨hSh.2.2.1.1.1, hSh.2.2.1.1.2.1, hSh.2.2.1.1.2.2.1, hSh.2.2.1.1.2.2.2, hSh.2.2.2.1⟩) (by omega)) [1, 2, 3, 4, 5, 6, 7, 8, 9, 10, 11, 12, 13, 14, 15, 16, 17, 18, 19, 20, 21, 22, 23, 25, 26, 27, 28] [0, 24, 29, 30, 31, 32] (by decide +kernel) rfl ?_
        rintro v w1 ⟨r, it2', rfl, rfl, e, e2, e3⟩
        refine ⟨r, A, z, (va_up F 53 it2'), rfl, rfl, rfl, ?_⟩
        refine lift9 (c_X9_copy l g hm a j (G 33) (G 34) (G 35) (G 36) (2 : Int) xi (3 : Int) xj n (by omega) (hSh.L)) [1, 2, 3, 4, 5, 6, 7, 8, 9, 10, 11, 12, 13, 14, 15, 16, 17, 18, 19, 20, 21, 22, 23] [0, 24, 25, 26, 27] (by decide +kernel) rfl ?_
        rintro v w1 ⟨rm, fim', fmm', rfl, rfl, em, e2m, e3m⟩
        have hre := em.trans ((copy_eq hSh.2.2.1 hSh.2.2.2 rfl rfl (by omega) (by omega)).trans e.symm)
        have hb1 := hSh.2.2.1.1
        have hb2 := hSh.2.2.2.1
        refine ⟨j, (va_up (va_up G 35 fim') 36 fmm'), veq (hre), rfl, rfl, ?_⟩
        rcases copy_r e with hr0 | h9
        · obtain rfl := e3 hr0
          obtain rfl := e3m (by omega)
          exact Rel.of hB hMk hHt hTp hCo hTr hSh hLn hMm
        · obtain rfl := e2 (by omega)
          obtain rfl := e2m (by omega)
          exact Rel.of hB hMk hHt hTp hCo hTr (RSh.of (hSh.1.keep rfl rfl (fun p hp => cpy_out (f := G 35) (h := G 35) (sp := 40 * 2 + xi.toNat) (dp := 40 * 3 + xj.toNat) (n := n.toNat) (i := 40 * 0 + p) (by omega))) (hSh.2.1.keep rfl rfl (fun p hp => cpy_out (f := G 35) (h := G 35) (sp := 40 * 2 + xi.toNat) (dp := 40 * 3 + xj.toNat) (n := n.toNat) (i := 40 * 1 + p) (by omega))) (hSh.2.2.1.keep rfl rfl (fun p hp => cpy_out (f := G 35) (h := G 35) (sp := 40 * 2 + xi.toNat) (dp := 40 * 3 + xj.toNat) (n := n.toNat) (i := 40 * 2 + p) (by omega))) (RSk.of hSh.2.2.2.1 hSh.2.2.2.2.1 hSh.2.2.2.2.2.1 (fun p hp => cpy_in (a := xi.toNat) (b := xj.toNat) (n := n.toNat) hSh.2.2.1 hSh.2.2.2 (by omega) (by omega) hp))) hLn hMm
      · refine lift8 (c_X8_copy l g hd A z (fshF A) (A 43) (A 53) (z 43) (z 53) (F 53) (A 40) (A 50) (z 40) (z 50) (F 50) 3 0 (3 : Int) xi (0 : Int) xj n (⟨rfl, by decide, rfl, by decide⟩) (rfl) (rfl) (⟨hSh.2.2.2.1.1, hSh.2.2.2.1.2.1, hSh.2.2.2.1.2.2.1, hSh.2.2.2.1.2.2.2, hSh.1.1⟩) (by omega)) [1, 2, 3, 4, 5, 6, 7, 8, 9, 10, 11, 12, 13, 14, 15, 16, 17, 18, 19, 20, 21, 22, 23, 27, 28, 29, 30] [0, 24, 31, 32, 25, 26] (by decide +kernel) rfl ?_
        rintro v w1 ⟨r, it2', rfl, rfl, e, e2, e3⟩
        refine ⟨r, A, z, (va_up F 50 it2'), rfl, rfl, rfl, ?_⟩
        refine lift9 (c_X9_copy l g hm a j (G 33) (G 34) (G 35) (G 36) (3 : Int) xi (0 : Int) xj n (by omega) (hSh.L)) [1, 2, 3, 4, 5, 6, 7, 8, 9, 10, 11, 12, 13, 14, 15, 16, 17, 18, 19, 20, 21, 22, 23] [0, 24, 25, 26, 27] (by decide +kernel) rfl ?_
        rintro v w1 ⟨rm, fim', fmm', rfl, rfl, em, e2m, e3m⟩
        have hre := em.trans ((copy_eq hSh.2.2.2 hSh.1 rfl rfl (by omega) (by omega)).trans e.symm)
        have hb1 := hSh.2.2.2.1
        have hb2 := hSh.1.1
        refine ⟨j, (va_up (va_up G 35 fim') 36 fmm'), veq (hre), rfl, rfl, ?_⟩
        rcases copy_r e with hr0 | h9
        · obtain rfl := e3 hr0
          obtain rfl := e3m (by omega)
          exact Rel.of hB hMk hHt hTp hCo hTr hSh hLn hMm
        · obtain rfl := e2 (by omega)
          obtain rfl := e2m (by omega)
          exact Rel.of hB hMk hHt hTp hCo hTr (RSh.of (RSk.of hSh.1.1 hSh.1.2.1 hSh.1.2.2.1 (fun p hp => cpy_in (a := xi.toNat) (b := xj.toNat) (n := n.toNat) hSh.2.2.2 hSh.1 (by omega) (by omega) hp)) (hSh.2.1.keep rfl rfl (fun p hp => cpy_out (f := G 35) (h := G 35) (sp := 40 * 3 + xi.toNat) (dp := 40 * 0 + xj.toNat) (n := n.toNat) (i := 40 * 1 + p) (by omega))) (hSh.2.2.1.keep rfl rfl (fun p hp => cpy_out (f := G 35) (h := G 35) (sp := 40 * 3 + xi.toNat) (dp := 40 * 0 + xj.toNat) (n := n.toNat) (i := 40 * 2 + p) (by omega))) (hSh.2.2.2.keep rfl rfl (fun p hp => cpy_out (f := G 35) (h := G 35) (sp := 40 * 3 + xi.toNat) (dp := 40 * 0 + xj.toNat) (n := n.toNat) (i := 40 * 3 + p) (by omega)))) hLn hMm
      · refine lift8 (c_X8_copy l g hd A z (fshF A) (A 43) (A 53) (z 43) (z 53) (F 53) (A 41) (A 51) (z 41) (z 51) (F 51) 3 1 (3 : Int) xi (1 : Int) xj n (⟨rfl, by decide, rfl, by decide⟩) (rfl) (rfl) (⟨hSh.2.2.2.1.1, hSh.2.2.2.1.2.1, hSh.2.2.2.1.2.2.1, hSh.2.2.2.1.2.2.2, hSh.2.1.1⟩) (by omega)) [1, 2, 3, 4, 5, 6, 7, 8, 9, 10, 11, 12, 13, 14, 15, 16, 17, 18, 19, 20, 21, 22, 23, 25, 26, 29, 30] [0, 24, 31, 32, 27, 28] (by decide +kernel) rfl ?_
        rintro v w1 ⟨r, it2', rfl, rfl, e, e2, e3⟩
        refine ⟨r, A, z, (va_up F 51 it2'), rfl, rfl, rfl, ?_⟩
        refine lift9 (c_X9_copy l g hm a j (G 33) (G 34) (G 35) (G 36) (3 : Int) xi (1 : Int) xj n (by omega) (hSh.L)) [1, 2, 3, 4, 5, 6, 7, 8, 9, 10, 11, 12, 13, 14, 15, 16, 17, 18, 19, 20, 21, 22, 23] [0, 24, 25, 26, 27] (by decide +kernel) rfl ?_
        rintro v w1 ⟨rm, fim', fmm', rfl, rfl, em, e2m, e3m⟩
        have hre := em.trans ((copy_eq hSh.2.2.2 hSh.2.1 rfl rfl (by omega) (by omega)).trans e.symm)
        have hb1 := hSh.2.2.2.1
        have hb2 := hSh.2.1.1
        refine ⟨j, (va_up (va_up G 35 fim') 36 fmm'), veq (hre), rfl, rfl, ?_⟩
        rcases copy_r e with hr0 | h9
        · obtain rfl := e3 hr0
          obtain rfl := e3m (by omega)
          exact Rel.of hB hMk hHt hTp hCo hTr hSh hLn hMm
        · obtain rfl := e2 (by omega)
          obtain rfl := e2m (by omega)
          exact Rel.of hB hMk hHt hTp hCo hTr (RSh.of (hSh.1.keep rfl rfl (fun p hp => cpy_out (f := G 35) (h := G 35) (sp := 40 * 3 + xi.toNat) (dp := 40 * 1 + xj.toNat) (n := n.toNat) (i := 40 * 0 + p) (by omega))) (RSk.of hSh.2.1.1 hSh.2.1.2.1 hSh.2.1.2.2.1 (fun p hp => cpy_in (a := xi.toNat) (b := xj.toNat) (n := n.toNat) hSh.2.2.2 hSh.2.1 (by omega) (by omega) hp)) (hSh.2.2.1.keep rfl rfl (fun p hp => cpy_out (f := G 35) (h := G 35) (sp := 40 * 3 + xi.toNat) (dp := 40 * 1 + xj.toNat) (n := n.toNat) (i := 40 * 2 + p) (by omega))) (hSh.2.2.2.keep rfl rfl (fun p hp => cpy_out (f := G 35) (h := G 35) (sp := 40 * 3 + xi.toNat) (dp := 40 * 1 + xj.toNat) (n := n.toNat) (i := 40 * 3 + p) (by omega)))) hLn hMm
      · refine lift8 (c_X8_copy l g hd A z (fshF A) (A 43) (A 53) (z 43) (z 53) (F 53) (A 42) (A 52) (z 42) (z 52) (F 52) 3 2 (3 : Int) xi (2 : Int) xj n (⟨rfl, by decide, rfl, by decide⟩) (rfl) (rfl) (⟨hSh.2.2.2.1.1, hSh.2.2.2.1.2.1, hSh.2.2.2.1.2.2.1, hSh.2.2.2.1.2.2.2, hSh.2.2.1.1⟩) (by omega)) [1, 2, 3, 4, 5, 6, 7, 8, 9, 10, 11, 12, 13, 14, 15, 16, 17, 18, 19, 20, 21, 22, 23, 25, 26, 27, 28] [0, 24, 31, 32, 29, 30] (by decide +kernel) rfl ?_
        rintro v w1 ⟨r, it2', rfl, rfl, e, e2, e3⟩
        refine ⟨r, A, z, (va_up F 52 it2'), rfl, rfl, rfl, ?_⟩
        refine lift9 (c_X9_copy l g hm a j (G 33) (G 34) (G 35) (G 36) (3 : Int) xi (2 : Int) xj n (by omega) (hSh.L)) [1, 2, 3, 4, 5, 6, 7, 8, 9, 10, 11, 12, 13, 14, 15, 16, 17, 18, 19, 20, 21, 22, 23] [0, 24, 25, 26, 27] (by decide +kernel) rfl ?_
        rintro v w1 ⟨rm, fim', fmm', rfl, rfl, em, e2m, e3m⟩
        have hre := em.trans ((copy_eq hSh.2.2.2 hSh.2.2.1 rfl rfl (by omega) (by omega)).trans e.symm)
        have hb1 := hSh.2.2.2.1
        have hb2 := hSh.2.2.1.1
        refine ⟨j, (va_up (va_up G 35 fim') 36 fmm'), veq (hre), rfl, rfl, ?_⟩
        rcases copy_r e with hr0 | h9
        · obtain rfl := e3 hr0
          obtain rfl := e3m (by omega)
          exact Rel.of hB hMk hHt hTp hCo hTr hSh hLn hMm
        · obtain rfl := e2 (by omega)
          obtain rfl := e2m (by omega)
          exact Rel.of hB hMk hHt hTp hCo hTr (RSh.of (hSh.1.keep rfl rfl (fun p hp => cpy_out (f := G 35) (h := G 35) (sp := 40 * 3 + xi.toNat) (dp := 40 * 2 + xj.toNat) (n := n.toNat) (i := 40 * 0 + p) (by omega))) (hSh.2.1.keep rfl rfl (fun p hp => cpy_out (f := G 35) (h := G 35) (sp := 40 * 3 + xi.toNat) (dp := 40 * 2 + xj.toNat) (n := n.toNat) (i := 40 * 1 + p) (by omega))) (RSk.of hSh.2.2.1.1 hSh.2.2.1.2.1 hSh.2.2.1.2.2.1 (fun p hp => cpy_in (a := xi.toNat) (b := xj.toNat) (n := n.toNat) hSh.2.2.2 hSh.2.2.1 (by omega) (by omega) hp)) (hSh.2.2.2.keep rfl rfl (fun p hp => cpy_out (f := G 35) (h := G 35) (sp := 40 * 3 + xi.toNat) (dp := 40 * 2 + xj.toNat) (n := n.toNat) (i := 40 * 3 + p) (by omega)))) hLn hMm
      · refine lift8 (c_X8_copyE l g hd A z (fshF A) (A 43) (A 53) (z 43) (z 53) (F 53) 3 3 (3 : Int) xi (3 : Int) xj n (⟨rfl, by decide, rfl, by decide⟩) (rfl) (rfl) (hSh.2.2.2.1) (by omega)) [1, 2, 3, 4, 5, 6, 7, 8, 9, 10, 11, 12, 13, 14, 15, 16, 17, 18, 19, 20, 21, 22, 23, 25, 26, 27, 28, 29, 30] [0, 24, 31, 32] (by decide +kernel) rfl ?_
        rintro v w1 ⟨r, it', rfl, rfl, e, e2, e3⟩
        refine ⟨r, A, z, (va_up F 53 it'), rfl, rfl, rfl, ?_⟩
        refine lift9 (c_X9_copy l g hm a j (G 33) (G 34) (G 35) (G 36) (3 : Int) xi (3 : Int) xj n (by omega) (hSh.L)) [1, 2, 3, 4, 5, 6, 7, 8, 9, 10, 11, 12, 13, 14, 15, 16, 17, 18, 19, 20, 21, 22, 23] [0, 24, 25, 26, 27] (by decide +kernel) rfl ?_
        rintro v w1 ⟨rm, fim', fmm', rfl, rfl, em, e2m, e3m⟩
        have hre := em.trans ((copy_eq hSh.2.2.2 hSh.2.2.2 rfl rfl (by omega) (by omega)).trans e.symm)
        have hb1 := hSh.2.2.2.1
        have hb2 := hSh.2.2.2.1
        refine ⟨j, (va_up (va_up G 35 fim') 36 fmm'), veq (hre), rfl, rfl, ?_⟩
        rcases copy_r e with hr0 | h9
        · obtain rfl := e3 hr0
          obtain rfl := e3m (by omega)
          exact Rel.of hB hMk hHt hTp hCo hTr hSh hLn hMm
        · obtain rfl := e2 (by omega)
          obtain rfl := e2m (by omega)
          exact Rel.of hB hMk hHt hTp hCo hTr (RSh.of (hSh.1.keep rfl rfl (fun p hp => cpy_out (f := G 35) (h := G 35) (sp := 40 * 3 + xi.toNat) (dp := 40 * 3 + xj.toNat) (n := n.toNat) (i := 40 * 0 + p) (by omega))) (hSh.2.1.keep rfl rfl (fun p hp => cpy_out (f := G 35) (h := G 35) (sp := 40 * 3 + xi.toNat) (dp := 40 * 3 + xj.toNat) (n := n.toNat) (i := 40 * 1 + p) (by omega))) (hSh.2.2.1.keep rfl rfl (fun p hp => cpy_out (f := G 35) (h := G 35) (sp := 40 * 3 + xi.toNat) (dp := 40 * 3 + xj.toNat) (n := n.toNat) (i := 40 * 2 + p) (by omega))) (RSk.of hSh.2.2.2.1 hSh.2.2.2.2.1 hSh.2.2.2.2.2.1 (fun p hp => cpy_in (a := xi.toNat) (b := xj.toNat) (n := n.toNat) hSh.2.2.2 hSh.2.2.2 (by omega) (by omega) hp))) hLn hMm
    · obtain ⟨kk, hxk⟩ : ∃ k : Nat, x = (k : Int) := ⟨x.toNat, by omega⟩
      refine lift8 (c_X8_copyB3 l g hd A z (fshF A) kk (A (40 + kk)) x xi x2 xj n (⟨hxk, by omega⟩) (⟨hy, g_x2⟩) (if_pos (by omega))) [1, 2, 3, 4, 5, 6, 7, 8, 9, 10, 11, 12, 13, 14, 15, 16, 17, 18, 19, 20, 21, 22, 23, 25, 26, 27, 28, 29, 30, 31, 32] [0, 24] (by decide +kernel) rfl ?_
      rintro v w1 ⟨r, rfl, rfl, e⟩
      refine ⟨r, A, z, F, rfl, rfl, rfl, ?_⟩
      refine lift9 (c_X9_copy l g hm a j (G 33) (G 34) (G 35) (G 36) x xi x2 xj n (by omega) (hSh.L)) [1, 2, 3, 4, 5, 6, 7, 8, 9, 10, 11, 12, 13, 14, 15, 16, 17, 18, 19, 20, 21, 22, 23] [0, 24, 25, 26, 27] (by decide +kernel) rfl ?_
      rintro v w1 ⟨rm, fim', fmm', rfl, rfl, em, e2m, e3m⟩
      have hre : rm = -1 := em.trans (if_pos (by omega))
      refine ⟨j, (va_up (va_up G 35 fim') 36 fmm'), veq (hre.trans e.symm), rfl, rfl, ?_⟩
      obtain rfl := e3m (by omega)
      exact Rel.of hB hMk hHt hTp hCo hTr hSh hLn hMm
  · by_cases hy : 0 ≤ x2 ∧ x2 ≤ 3
    · obtain ⟨kk, hxk⟩ : ∃ k : Nat, x2 = (k : Int) := ⟨x2.toNat, by omega⟩
      refine lift8 (c_X8_copyB2 l g hd A z (fshF A) kk (A (40 + kk)) x xi x2 xj n (by omega) (⟨hxk, by omega⟩) (if_pos (by omega))) [1, 2, 3, 4, 5, 6, 7, 8, 9, 10, 11, 12, 13, 14, 15, 16, 17, 18, 19, 20, 21, 22, 23, 25, 26, 27, 28, 29, 30, 31, 32] [0, 24] (by decide +kernel) rfl ?_
      rintro v w1 ⟨r, rfl, rfl, e⟩
      refine ⟨r, A, z, F, rfl, rfl, rfl, ?_⟩
      refine lift9 (c_X9_copy l g hm a j (G 33) (G 34) (G 35) (G 36) x xi x2 xj n (by omega) (hSh.L)) [1, 2, 3, 4, 5, 6, 7, 8, 9, 10, 11, 12, 13, 14, 15, 16, 17, 18, 19, 20, 21, 22, 23] [0, 24, 25, 26, 27] (by decide +kernel) rfl ?_
      rintro v w1 ⟨rm, fim', fmm', rfl, rfl, em, e2m, e3m⟩
      have hre : rm = -1 := em.trans (if_pos (by omega))
      refine ⟨j, (va_up (va_up G 35 fim') 36 fmm'), veq (hre.trans e.symm), rfl, rfl, ?_⟩
      obtain rfl := e3m (by omega)
      exact Rel.of hB hMk hHt hTp hCo hTr hSh hLn hMm
    · refine lift8 (c_X8_copyB1 l g hd A z (fshF A) x xi x2 xj n (by omega) (by omega)) [1, 2, 3, 4, 5, 6, 7, 8, 9, 10, 11, 12, 13, 14, 15, 16, 17, 18, 19, 20, 21, 22, 23, 25, 26, 27, 28, 29, 30, 31, 32] [0, 24] (by decide +kernel) rfl ?_
      rintro v w1 ⟨r, rfl, rfl, e⟩
      refine ⟨r, A, z, F, rfl, rfl, rfl, ?_⟩
      refine lift9 (c_X9_copy l g hm a j (G 33) (G 34) (G 35) (G 36) x xi x2 xj n (by omega) (hSh.L)) [1, 2, 3, 4, 5, 6, 7, 8, 9, 10, 11, 12, 13, 14, 15, 16, 17, 18, 19, 20, 21, 22, 23] [0, 24, 25, 26, 27] (by decide +kernel) rfl ?_
      rintro v w1 ⟨rm, fim', fmm', rfl, rfl, em, e2m, e3m⟩
      have hre : rm = -1 := em.trans (if_pos (by omega))
      refine ⟨j, (va_up (va_up G 35 fim') 36 fmm'), veq (hre.trans e.symm), rfl, rfl, ?_⟩
      obtain rfl := e3m (by omega)
      exact Rel.of hB hMk hHt hTp hCo hTr hSh hLn hMm
