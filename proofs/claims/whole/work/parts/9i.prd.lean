set_option maxHeartbeats 4000000 in
set_option maxRecDepth 100000 in
theorem pr_learner (l : Launch) (g : GT) : PairOK l g yX8_learner wsX8_learner ({ frames := 3, cells := 9, slots := 247, locals := 61 } : Room) yX9_learner wsX9_learner ({ frames := 0, cells := 0, slots := 0, locals := 0 } : Room) [] := by
  intro hd hm A z F LA LZ LT K a j G hR
  obtain ⟨hB, hMk, hHt, hTp, hCo, hTr, hSh, hLn, hMm⟩ := id hR
  have hK := hB.1
  have hz4 := hB.2.1
  have hj5 := hB.2.2.1
  by_cases hk : K < 12
  · refine lift8N (c_X8_learner l g hd A z (fleF LA K) K ⟨hz4, hk⟩) [1, 2, 3, 4, 5, 6, 8, 9, 10, 11, 12, 13, 14, 15, 16, 17, 18, 19, 20, 21, 22, 23, 24, 25, 26, 27, 28, 29, 30, 31, 32] [0, 7] (by decide +kernel) rfl ?_
    rintro v w1 ⟨r, i', fle', y', w0', w1', w2', w3', w4', u1', u2', u3', rfl, rfl, e, e1, e3⟩
    have hfl := fle_up (LA := LA) (K := K) (Ak := va_up (va_up (va_up (va_up (va_up (va_up (va_up (va_up (va_up (fun _ => 0) 0 y') 1 w0') 2 u1') 3 u2') 4 u3') 5 w1') 6 w2') 7 w3') 8 w4')
    have hfl : va_up (fleF LA K) K (some y') = _ := hfl
    subst e1
    rw [hfl] at e3
    subst e3
    refine ⟨r, va_up z 4 (z 4 + 1), va_up (va_up (va_up (va_up (va_up (va_up (va_up (va_up (va_up (fun _ => 0) 0 y') 1 w0') 2 u1') 3 u2') 4 u3') 5 w1') 6 w2') 7 w3') 8 w4', fun _ => 0, va_up (va_up (va_up (fun _ _ => 0) 2 (fun _ => -1)) 3 (fun _ => 0)) 4 (fun _ => 8), [(hd, .inr (8, dF A (va_up z 4 (z 4 + 1)))), (A 3, aQ (g.2.1 3) 12 (fleF (va_up LA K (va_up (va_up (va_up (va_up (va_up (va_up (va_up (va_up (va_up (fun _ => 0) 0 y') 1 w0') 2 u1') 3 u2') 4 u3') 5 w1') 6 w2') 7 w3') 8 w4')) (K + 1)))], rfl, rfl, rfl, rfl, ?_⟩
    refine lift9 (c_X9_learner l g hm a j (G 6) K (⟨hj5, hk⟩)) [1, 2, 3, 4, 5, 7, 8, 9, 10, 11, 12, 13, 14, 15, 16, 17, 18, 19, 20, 21, 22, 23, 24, 25, 26, 27] [0, 6] (by decide +kernel) rfl ?_
    rintro v w1 ⟨rm, im', qmm', rfl, rfl, em, e2m, e3m⟩
    subst e2m
    subst e3m
    refine ⟨va_up j 5 (j 5 + 1), va_up G 6 (va_up (G 6) K 0), veq (by omega), rfl, rfl, ?_⟩
    refine Rel.of ⟨by omega, ?_, ?_, hB.2.2.2⟩ hMk hHt hTp hCo hTr hSh ⟨fun k9 hk9 => ?_, fun k9 hk9 => ?_⟩ ⟨fun k9 hk9 => ?_, fun q9 h1 h2 => hMm.2 q9 (by omega) h2⟩
    · show z 4 + 1 = _; omega
    · show j 5 + 1 = _; omega
    · show 0 ≤ va_up (G 6) K 0 k9 ∧ va_up (G 6) K 0 k9 ≤ 40
      unfold va_up
      split
      · omega
      · exact hLn.1 k9 hk9
    · by_cases q9 : k9 = K
      · subst q9
        rw [up_s, up_s]
        exact ⟨0, by omega, rfl, up_s (G 6) k9 0, fun e9 he9 => absurd he9 (Nat.not_lt_zero e9), rfl, fun p9 _ => rfl⟩
      · rw [up_n _ _ _ _ q9, up_n _ _ _ _ q9]
        exact (hLn.2 k9 (by omega)).same (up_n (G 6) K k9 0 q9) (fun _ _ => ⟨rfl, rfl, rfl, rfl⟩)
    · by_cases q9 : k9 = K
      · subst q9
        rw [up_s]
        intro s9 hs9
        have hz9 := hMm.2 (8 * k9 + s9) (by omega) (by omega)
        exact Or.inl ⟨rfl, rfl, rfl, hz9.1, hz9.2.1, hz9.2.2⟩
      · rw [up_n _ _ _ _ q9]
        exact hMm.1 k9 (by omega)
  · refine lift8 (c_X8_learnerF l g hd A z (fleF LA K) (by omega)) [1, 2, 3, 4, 5, 6, 8, 9, 10, 11, 12, 13, 14, 15, 16, 17, 18, 19, 20, 21, 22, 23, 24, 25, 26, 27, 28, 29, 30, 31, 32] [0, 7] (by decide +kernel) rfl ?_
    rintro v w1 ⟨r, rfl, rfl, e⟩
    refine ⟨r, A, z, F, rfl, rfl, rfl, ?_⟩
    refine lift9 (c_X9_learnerF l g hm a j (G 6) (by omega)) [1, 2, 3, 4, 5, 7, 8, 9, 10, 11, 12, 13, 14, 15, 16, 17, 18, 19, 20, 21, 22, 23, 24, 25, 26, 27] [0, 6] (by decide +kernel) rfl ?_
    rintro v w1 ⟨rm, rfl, rfl, em⟩
    refine ⟨j, G, veq (em.trans e.symm), rfl, rfl, ?_⟩
    exact Rel.of hB hMk hHt hTp hCo hTr hSh hLn hMm
set_option maxHeartbeats 4000000 in
set_option maxRecDepth 100000 in
theorem pr_points (l : Launch) (g : GT) (x : Int) (st : Int) (g_x : -2147483648 ≤ x ∧ x < 2147483648) (g_st : -2147483648 ≤ st ∧ st < 2147483648) : PairOK l g yX8_points wsX8_points ({ frames := 2, cells := 0, slots := 0, locals := 43 } : Room) yX9_points wsX9_points ({ frames := 3, cells := 0, slots := 0, locals := 76 } : Room) [.int (iI x), .int (iI st)] := by
  intro hd hm A z F LA LZ LT K a j G hR
  obtain ⟨hB, hMk, hHt, hTp, hCo, hTr, hSh, hLn, hMm⟩ := id hR
  have hK := hB.1
  have hz4 := hB.2.1
  have hj5 := hB.2.2.1
  by_cases hx : 0 ≤ x ∧ x < z 4
  · obtain ⟨k, hxk⟩ : ∃ k : Nat, x = (k : Int) := ⟨x.toNat, by omega⟩
    have hk : k < K := by omega
    have hxn : x.toNat = k := by omega
    have hLk := hLn.2 k hk
    have hMk9 := hMm.1 k hk
    have hpts : ∀ r r2 : Int, r = (if plF st 93 0 < 0 then -100001 else pts (LT k 8) (LZ k 1) (F 5) (plF st 93 0).toNat) → r2 = (if (0 ≤ x ∧ x < j 5) ∧ (0 ≤ st ∧ st ≤ 255) ∧ szB st 12 ≤ 3 then mpR (G 7) (G 8) (G 9) (G 10) (40 * x.toNat) (G 11) (G 6 x.toNat).toNat st else -100001) → r2 = r := by
      intro r r2 e e2
      rw [hxn, hMk.1.symm] at e2
      rw [e, e2]
      rcases plF_rng st 93 0 (by omega) with hp9 | ⟨hp1, hp2, hp3⟩
      · have hn : ¬ ((0 ≤ x ∧ x < j 5) ∧ (0 ≤ st ∧ st ≤ 255) ∧ szB st 12 ≤ 3) := by
          intro z9
          have h9 := plF_set st.toNat (by omega)
          rw [show ((st.toNat : Nat) : Int) = st from by omega, hp9] at h9
          exact absurd (h9.mp z9.2.2) (by omega)
        rw [if_neg hn, if_pos (show plF st 93 0 < 0 by omega)]
      · have h8 := oT_rng (plF st 93 0).toNat (by omega)
        rw [hp3] at h8
        have h9 := plF_set st.toNat (by omega)
        rw [show ((st.toNat : Nat) : Int) = st from by omega] at h9
        rw [if_pos (show (0 ≤ x ∧ x < j 5) ∧ (0 ≤ st ∧ st ≤ 255) ∧ szB st 12 ≤ 3 from ⟨by omega, h8, h9.mpr hp1⟩), if_neg (show ¬ plF st 93 0 < 0 by omega), pts_mp hLk (by omega), hp3]
    refine lift8L hk (c_X8_points l g hd A z (fleF LA K) (LA k 0) (LZ k 0) (LZ k 1) (LA k 1) (LA k 5) (LA k 6) (LA k 7) (LA k 8) (LT k 8) (F 5) k x st (⟨hxk, by omega, by omega⟩) (fle_at hk) (by omega)) [1, 2, 3, 4, 5, 6, 9, 10, 11, 12, 13, 14, 15, 16, 17, 18, 19, 20, 21, 22, 23, 24, 25, 26, 27, 28, 29, 30, 31, 32, 34, 35, 36, 37, 38, 39, 40] [0, 7, 33, 41, 8] (by decide +kernel) rfl ?_
    rintro v w1 ⟨r, rfl, rfl, e⟩
    refine ⟨r, A, z, F, (LZ k), (LT k), rfl, rfl, rfl, ?_⟩
    refine lift9 (c_X9_points l g hm a j (G 6) (G 7) (G 8) (G 9) (G 10) (G 1) (G 2) (G 3) (G 11) x st (by omega) (by omega) (hLn.1) (by rw [hj5]; exact hLn.vd) (hMk.2.1)) [1, 5, 12, 13, 14, 15, 16, 17, 18, 19, 20, 21, 22, 23, 24, 25, 26, 27] [0, 6, 7, 8, 9, 10, 2, 3, 4, 11] (by decide +kernel) rfl ?_
    rintro v w1 ⟨rm, fam', fdm', fnm', rfl, rfl, em⟩
    refine ⟨j, (va_up (va_up (va_up G 1 fam') 2 fdm') 3 fnm'), veq (hpts r rm e em), rfl, rfl, ?_⟩
    exact Rel.of hB hMk hHt hTp hCo hTr hSh (hLn.keep hk rfl rfl rfl rfl rfl rfl) (hMm.keep hk rfl rfl rfl)
  · refine lift8 (c_X8_pointsB l g hd A z (fleF LA K) x st (by omega) (by omega)) [1, 2, 3, 4, 5, 6, 8, 9, 10, 11, 12, 13, 14, 15, 16, 17, 18, 19, 20, 21, 22, 23, 24, 25, 26, 27, 28, 29, 30, 31, 32] [0, 7] (by decide +kernel) rfl ?_
    rintro v w1 ⟨r, rfl, rfl, e⟩
    refine ⟨r, A, z, F, rfl, rfl, rfl, ?_⟩
    refine lift9 (c_X9_points l g hm a j (G 6) (G 7) (G 8) (G 9) (G 10) (G 1) (G 2) (G 3) (G 11) x st (by omega) (by omega) (hLn.1) (by rw [hj5]; exact hLn.vd) (hMk.2.1)) [1, 5, 12, 13, 14, 15, 16, 17, 18, 19, 20, 21, 22, 23, 24, 25, 26, 27] [0, 6, 7, 8, 9, 10, 2, 3, 4, 11] (by decide +kernel) rfl ?_
    rintro v w1 ⟨rm, fam', fdm', fnm', rfl, rfl, em⟩
    refine ⟨j, (va_up (va_up (va_up G 1 fam') 2 fdm') 3 fnm'), veq (by rw [em, e, if_neg (fun z9 => hx (by omega))]), rfl, rfl, ?_⟩
    exact Rel.of hB hMk hHt hTp hCo hTr hSh hLn hMm
set_option maxHeartbeats 4000000 in
set_option maxRecDepth 100000 in
theorem pr_guess (l : Launch) (g : GT) (x : Int) (g_x : -2147483648 ≤ x ∧ x < 2147483648) : PairOK l g yX8_guess wsX8_guess ({ frames := 3, cells := 0, slots := 0, locals := 68 } : Room) yX9_guess wsX9_guess ({ frames := 4, cells := 0, slots := 0, locals := 103 } : Room) [.int (iI x)] := by
  intro hd hm A z F LA LZ LT K a j G hR
  obtain ⟨hB, hMk, hHt, hTp, hCo, hTr, hSh, hLn, hMm⟩ := id hR
  have hK := hB.1
  have hz4 := hB.2.1
  have hj5 := hB.2.2.1
  by_cases hx : 0 ≤ x ∧ x < z 4
  · obtain ⟨k, hxk⟩ : ∃ k : Nat, x = (k : Int) := ⟨x.toNat, by omega⟩
    have hk : k < K := by omega
    have hxn : x.toNat = k := by omega
    have hLk := hLn.2 k hk
    have hMk9 := hMm.1 k hk
    obtain ⟨M, hM1, hM2, hM3, hM4, hM5⟩ := hLk.ok
    have hle := lead_eq (kw := G 0) (pt := pts (LT k 8) (LZ k 1) (F 5)) (pt' := fun p => mpR (G 7) (G 8) (G 9) (G 10) (40 * x.toNat) (G 11) (G 6 x.toNat).toNat (G 0 p)) hB.2.2.2.1 (fun p hp => by rw [hB.2.2.2.1 p hp, hxn, hMk.1]; exact pts_mp hLk hp) (fun p hp => by have h9 := mpR_rng (qu := G 7) (ql := G 8) (qg := G 9) (qa := G 10) (B := 40 * x.toNat) (qt := G 11) (M := (G 6 x.toNat).toNat) (st := G 0 p) hMk.2.1 (by have h8 := hLn.1 x.toNat (by omega); omega); show -100000 < mpR _ _ _ _ _ _ _ _; omega)
    refine lift8L hk (c_X8_guess l g hd A z (fleF LA K) (LA k 0) (LZ k 0) (LZ k 1) (LA k 1) (LA k 5) (LA k 6) (LA k 7) (LA k 8) (LT k 8) (F 5) k x (⟨hxk, by omega, by omega⟩) (fle_at hk) (hM5) (by rw [hMk.1]; exact hMk.2.1) (by rw [hMk.1]; exact hMk.2.2.1)) [1, 2, 3, 4, 5, 6, 9, 10, 11, 12, 13, 14, 15, 16, 17, 18, 19, 20, 21, 22, 23, 24, 25, 26, 27, 28, 29, 30, 31, 32, 34, 35, 36, 37, 38, 39, 40] [0, 7, 33, 41, 8] (by decide +kernel) rfl ?_
    rintro v w1 ⟨r, rfl, rfl, e⟩
    refine ⟨r, A, z, F, (LZ k), (LT k), rfl, rfl, rfl, ?_⟩
    refine lift9 (c_X9_guess l g hm a j (G 6) (G 7) (G 8) (G 9) (G 10) (G 1) (G 2) (G 3) (G 11) (G 0) x (by omega) (by omega) (hLn.1) (by rw [hj5]; exact hLn.vd) (hMk.2.1) (hB.2.2.2.1) (hMk.2.2.1)) [5, 12, 13, 14, 15, 16, 17, 18, 19, 20, 21, 22, 23, 24, 25, 26, 27] [0, 6, 7, 8, 9, 10, 2, 3, 4, 11, 1] (by decide +kernel) rfl ?_
    rintro v w1 ⟨rm, im', fam', fdm', fnm', rfl, rfl, em, e2m⟩
    obtain ⟨z9, rfl⟩ := e2m
    refine ⟨va_up j 12 z9, (va_up (va_up (va_up G 1 fam') 2 fdm') 3 fnm'), veq (by rw [em, e, if_neg (fun z9 => z9 (by omega)), hle.2, hle.1, ← hMk.1]; exact guess_if _ _), rfl, rfl, ?_⟩
    exact Rel.of hB hMk hHt hTp hCo hTr hSh (hLn.keep hk rfl rfl rfl rfl rfl rfl) (hMm.keep hk rfl rfl rfl)
  · refine lift8 (c_X8_guessB l g hd A z (fleF LA K) x (by omega)) [1, 2, 3, 4, 5, 6, 8, 9, 10, 11, 12, 13, 14, 15, 16, 17, 18, 19, 20, 21, 22, 23, 24, 25, 26, 27, 28, 29, 30, 31, 32] [0, 7] (by decide +kernel) rfl ?_
    rintro v w1 ⟨r, rfl, rfl, e⟩
    refine ⟨r, A, z, F, rfl, rfl, rfl, ?_⟩
    refine lift9 (c_X9_guess l g hm a j (G 6) (G 7) (G 8) (G 9) (G 10) (G 1) (G 2) (G 3) (G 11) (G 0) x (by omega) (by omega) (hLn.1) (by rw [hj5]; exact hLn.vd) (hMk.2.1) (hB.2.2.2.1) (hMk.2.2.1)) [5, 12, 13, 14, 15, 16, 17, 18, 19, 20, 21, 22, 23, 24, 25, 26, 27] [0, 6, 7, 8, 9, 10, 2, 3, 4, 11, 1] (by decide +kernel) rfl ?_
    rintro v w1 ⟨rm, im', fam', fdm', fnm', rfl, rfl, em, e2m⟩
    obtain ⟨z9, rfl⟩ := e2m
    refine ⟨va_up j 12 z9, (va_up (va_up (va_up G 1 fam') 2 fdm') 3 fnm'), veq (by rw [em, e, if_pos (by omega)]), rfl, rfl, ?_⟩
    exact Rel.of hB hMk hHt hTp hCo hTr hSh hLn hMm
set_option maxHeartbeats 4000000 in
set_option maxRecDepth 100000 in
theorem pr_lead (l : Launch) (g : GT) (x : Int) (g_x : -2147483648 ≤ x ∧ x < 2147483648) : PairOK l g yX8_lead wsX8_lead ({ frames := 3, cells := 0, slots := 0, locals := 68 } : Room) yX9_lead wsX9_lead ({ frames := 4, cells := 0, slots := 0, locals := 103 } : Room) [.int (iI x)] := by
  intro hd hm A z F LA LZ LT K a j G hR
  obtain ⟨hB, hMk, hHt, hTp, hCo, hTr, hSh, hLn, hMm⟩ := id hR
  have hK := hB.1
  have hz4 := hB.2.1
  have hj5 := hB.2.2.1
  by_cases hx : 0 ≤ x ∧ x < z 4
  · obtain ⟨k, hxk⟩ : ∃ k : Nat, x = (k : Int) := ⟨x.toNat, by omega⟩
    have hk : k < K := by omega
    have hxn : x.toNat = k := by omega
    have hLk := hLn.2 k hk
    have hMk9 := hMm.1 k hk
    obtain ⟨M, hM1, hM2, hM3, hM4, hM5⟩ := hLk.ok
    have hle := lead_eq (kw := G 0) (pt := pts (LT k 8) (LZ k 1) (F 5)) (pt' := fun p => mpR (G 7) (G 8) (G 9) (G 10) (40 * x.toNat) (G 11) (G 6 x.toNat).toNat (G 0 p)) hB.2.2.2.1 (fun p hp => by rw [hB.2.2.2.1 p hp, hxn, hMk.1]; exact pts_mp hLk hp) (fun p hp => by have h9 := mpR_rng (qu := G 7) (ql := G 8) (qg := G 9) (qa := G 10) (B := 40 * x.toNat) (qt := G 11) (M := (G 6 x.toNat).toNat) (st := G 0 p) hMk.2.1 (by have h8 := hLn.1 x.toNat (by omega); omega); show -100000 < mpR _ _ _ _ _ _ _ _; omega)
    refine lift8L hk (c_X8_lead l g hd A z (fleF LA K) (LA k 0) (LZ k 0) (LZ k 1) (LA k 1) (LA k 5) (LA k 6) (LA k 7) (LA k 8) (LT k 8) (F 5) k x (⟨hxk, by omega, by omega⟩) (fle_at hk) (hM5) (by rw [hMk.1]; exact hMk.2.1)) [1, 2, 3, 4, 5, 6, 9, 10, 11, 12, 13, 14, 15, 16, 17, 18, 19, 20, 21, 22, 23, 24, 25, 26, 27, 28, 29, 30, 31, 32, 34, 35, 36, 37, 38, 39, 40] [0, 7, 33, 41, 8] (by decide +kernel) rfl ?_
    rintro v w1 ⟨r, rfl, rfl, e⟩
    refine ⟨r, A, z, F, (LZ k), (LT k), rfl, rfl, rfl, ?_⟩
    refine lift9 (c_X9_lead l g hm a j (G 6) (G 7) (G 8) (G 9) (G 10) (G 1) (G 2) (G 3) (G 11) (G 0) x (by omega) (by omega) (hLn.1) (by rw [hj5]; exact hLn.vd) (hMk.2.1) (hB.2.2.2.1)) [5, 12, 13, 14, 15, 16, 17, 18, 19, 20, 21, 22, 23, 24, 25, 26, 27] [0, 6, 7, 8, 9, 10, 2, 3, 4, 11, 1] (by decide +kernel) rfl ?_
    rintro v w1 ⟨rm, im', fam', fdm', fnm', rfl, rfl, em, e2m⟩
    obtain ⟨z9, rfl⟩ := e2m
    refine ⟨va_up j 12 z9, (va_up (va_up (va_up G 1 fam') 2 fdm') 3 fnm'), veq (by rw [em, e, if_neg (fun z9 => z9 (by omega)), hle.2]), rfl, rfl, ?_⟩
    exact Rel.of hB hMk hHt hTp hCo hTr hSh (hLn.keep hk rfl rfl rfl rfl rfl rfl) (hMm.keep hk rfl rfl rfl)
  · refine lift8 (c_X8_leadB l g hd A z (fleF LA K) x (by omega)) [1, 2, 3, 4, 5, 6, 8, 9, 10, 11, 12, 13, 14, 15, 16, 17, 18, 19, 20, 21, 22, 23, 24, 25, 26, 27, 28, 29, 30, 31, 32] [0, 7] (by decide +kernel) rfl ?_
    rintro v w1 ⟨r, rfl, rfl, e⟩
    refine ⟨r, A, z, F, rfl, rfl, rfl, ?_⟩
    refine lift9 (c_X9_lead l g hm a j (G 6) (G 7) (G 8) (G 9) (G 10) (G 1) (G 2) (G 3) (G 11) (G 0) x (by omega) (by omega) (hLn.1) (by rw [hj5]; exact hLn.vd) (hMk.2.1) (hB.2.2.2.1)) [5, 12, 13, 14, 15, 16, 17, 18, 19, 20, 21, 22, 23, 24, 25, 26, 27] [0, 6, 7, 8, 9, 10, 2, 3, 4, 11, 1] (by decide +kernel) rfl ?_
    rintro v w1 ⟨rm, im', fam', fdm', fnm', rfl, rfl, em, e2m⟩
    obtain ⟨z9, rfl⟩ := e2m
    refine ⟨va_up j 12 z9, (va_up (va_up (va_up G 1 fam') 2 fdm') 3 fnm'), veq (by rw [em, e, if_pos (by omega)]), rfl, rfl, ?_⟩
    exact Rel.of hB hMk hHt hTp hCo hTr hSh hLn hMm
set_option maxHeartbeats 4000000 in
set_option maxRecDepth 100000 in
theorem pr_count (l : Launch) (g : GT) (x : Int) (what : Int) (g_x : -2147483648 ≤ x ∧ x < 2147483648) (g_what : -2147483648 ≤ what ∧ what < 2147483648) : PairOK l g yX8_count wsX8_count ({ frames := 2, cells := 0, slots := 0, locals := 43 } : Room) yX9_count wsX9_count ({ frames := 3, cells := 0, slots := 0, locals := 74 } : Room) [.int (iI x), .int (iI what)] := by
  intro hd hm A z F LA LZ LT K a j G hR
  obtain ⟨hB, hMk, hHt, hTp, hCo, hTr, hSh, hLn, hMm⟩ := id hR
  have hK := hB.1
  have hz4 := hB.2.1
  have hj5 := hB.2.2.1
  by_cases hx : 0 ≤ x ∧ x < z 4
  · obtain ⟨k, hxk⟩ : ∃ k : Nat, x = (k : Int) := ⟨x.toNat, by omega⟩
    have hk : k < K := by omega
    have hxn : x.toNat = k := by omega
    have hLk := hLn.2 k hk
    have hMk9 := hMm.1 k hk
    obtain ⟨M, hM1, hM2, hM3, hM4, hM5⟩ := hLk.ok
    have hcnt : ∀ r r2 : Int, r = (if ¬ (0 ≤ what ∧ what ≤ 3) then -1 else if what = 0 then LZ k 0 else if what = 1 then LZ k 0 - LZ k 1 else if what = 2 then LT k 8 0 else cntS (LT k 7) (LT k 6) M) → r2 = (if ¬ ((0 ≤ x ∧ x < j 5) ∧ 0 ≤ what ∧ what ≤ 3) then -1 else cnM (G 7) (G 8) (G 9) (G 10) (40 * x.toNat) what (G 6 x.toNat).toNat) → r2 = r := by
      intro r r2 e e2
      rw [e, e2, hxn]
      by_cases c9 : 0 ≤ what ∧ what ≤ 3
      · rw [if_neg (fun z9 => z9 ⟨by omega, c9⟩), if_neg (fun z9 => z9 c9), count_eq hLk c9, hM2, show ((M : Int)).toNat = M from by omega]
      · rw [if_pos (fun z9 => c9 z9.2), if_pos c9]
    refine lift8L hk (c_X8_count l g hd A z (fleF LA K) (LA k 0) (LZ k 0) (LZ k 1) (LA k 1) (LA k 5) (LA k 6) (LA k 7) (LA k 8) (LT k 6) (LT k 7) (LT k 8) k x what M (⟨hxk, by omega, by omega⟩) (fle_at hk) (⟨hM2, hM1, by omega⟩) (fun p hp => (hM4 p hp).2)) [1, 2, 3, 4, 5, 6, 8, 9, 10, 11, 12, 13, 14, 15, 16, 17, 18, 19, 20, 21, 22, 23, 24, 25, 26, 27, 28, 29, 30, 31, 32, 34, 35, 36, 37, 38] [0, 7, 33, 39, 40, 41] (by decide +kernel) rfl ?_
    rintro v w1 ⟨r, rfl, rfl, e⟩
    refine ⟨r, A, z, F, (LZ k), (LT k), rfl, rfl, rfl, ?_⟩
    refine lift9 (c_X9_count l g hm a j (G 6) (G 7) (G 8) (G 9) (G 10) (G 1) (G 2) (G 3) (G 0) x what (by omega) (by omega) (hLn.1) (by rw [hj5]; exact hLn.vd) (hB.2.2.2.1)) [5, 11, 12, 13, 14, 15, 16, 17, 18, 19, 20, 21, 22, 23, 24, 25, 26, 27] [0, 6, 7, 8, 9, 10, 2, 3, 4, 1] (by decide +kernel) rfl ?_
    rintro v w1 ⟨rm, fam', fdm', fnm', rfl, rfl, em⟩
    refine ⟨j, (va_up (va_up (va_up G 1 fam') 2 fdm') 3 fnm'), veq (hcnt r rm e em), rfl, rfl, ?_⟩
    exact Rel.of hB hMk hHt hTp hCo hTr hSh (hLn.keep hk rfl rfl rfl rfl rfl rfl) (hMm.keep hk rfl rfl rfl)
  · refine lift8 (c_X8_countB l g hd A z (fleF LA K) x what (by omega)) [1, 2, 3, 4, 5, 6, 8, 9, 10, 11, 12, 13, 14, 15, 16, 17, 18, 19, 20, 21, 22, 23, 24, 25, 26, 27, 28, 29, 30, 31, 32] [0, 7] (by decide +kernel) rfl ?_
    rintro v w1 ⟨r, rfl, rfl, e⟩
    refine ⟨r, A, z, F, rfl, rfl, rfl, ?_⟩
    refine lift9 (c_X9_count l g hm a j (G 6) (G 7) (G 8) (G 9) (G 10) (G 1) (G 2) (G 3) (G 0) x what (by omega) (by omega) (hLn.1) (by rw [hj5]; exact hLn.vd) (hB.2.2.2.1)) [5, 11, 12, 13, 14, 15, 16, 17, 18, 19, 20, 21, 22, 23, 24, 25, 26, 27] [0, 6, 7, 8, 9, 10, 2, 3, 4, 1] (by decide +kernel) rfl ?_
    rintro v w1 ⟨rm, fam', fdm', fnm', rfl, rfl, em⟩
    refine ⟨j, (va_up (va_up (va_up G 1 fam') 2 fdm') 3 fnm'), veq (by rw [em, e, if_pos (by omega)]), rfl, rfl, ?_⟩
    exact Rel.of hB hMk hHt hTp hCo hTr hSh hLn hMm
