set_option maxHeartbeats 4000000 in
theorem lw_end {p : Program} {l : Launch} {e : Env} {s : State} {m : MethodId} {below : List Frame} {meth : Method} {c : Code} {b L : Nat} {xs : Nat → Int32} {g : GT} {hd hm i : Nat} {a : Nat → Nat} (C : lw_C p s m meth c b L xs g) (h1 : L < i + 6) (h2 : i ≤ L + 6) : lw_K p l e s m below meth c (lw_Z below #[Value.ref b] s) b g hd hm a i 18 0 := by
  obtain ⟨hx, hb, hr, hml, hown, hts, hX, hbl, hlocks, hG, hL⟩ := id C
  have hbA : ¬ lwA s b := Nat.not_le.mpr hbl
  intro A z F LA LZ LT K j G H locs ls hR hP hD hS hl
  refine lv_iload_n hx hb dL_law_18 rfl (lv_at hl 0 rfl) ?_
  refine lv_aload_n hx hb dL_law_19 rfl (lv_at hl 3 rfl) ?_
  refine va_slen hx hb hX hbl hbA hS dL_law_20 ?_
  rw [ofNat_iI L]
  refine lv_bipush (v := iI 6) hx hb dL_law_21 (by decide) ?_
  refine iv_isub hx hb dL_law_23 ?_
  refine iv_icmp_gt (tgt := 1487) hx hb dL_law_24 (by decide) (by omega) (fun _ => ?_) (fun h9 => absurd (show (L : Int) - 6 < i by omega) h9)
  refine lv_iconst (v := 1) hx hb dL_law_1487 (by decide) ?_
  refine va_forget (fun q hq => hS.2.2 q hq) ?_
  refine W.widen (k := 600000) (n := 7302250) (by omega) (by omega) ?_
  exact lw_ret hx hb hr hlocks dL_law_1488
set_option maxHeartbeats 4000000 in
set_option maxRecDepth 100000 in
theorem law_loop {p : Program} {l : Launch} {e : Env} {s : State} {m : MethodId} {below : List Frame} {meth : Method} {c : Code} {b L : Nat} {xs : Nat → Int32} {g : GT} {hd hm : Nat} {a : Nat → Nat} (C : lw_C p s m meth c b L xs g) : ∀ n i : Nat, L + 1 ≤ i + n → i ≤ L + 6 → lw_K p l e s m below meth c (lw_Z below #[Value.ref b] s) b g hd hm a i 18 0 := by
  obtain ⟨hx, hb, hr, hml, hown, hts, hX, hbl, hlocks, hG, hL⟩ := id C
  have hbA : ¬ lwA s b := Nat.not_le.mpr hbl
  intro n
  induction n with
  | zero => intro i h1 h2; exact lw_end C (by omega) h2
  | succ n ih =>
    intro i h1 h2
    by_cases hi : i + 6 ≤ L
    · have kont : lw_K p l e s m below meth c (lw_Z below #[Value.ref b] s) b g hd hm a i 1481 6 := by
        intro A z F LA LZ LT K j G H locs ls hR hP hD hS hl
        refine iv_iinc (k := 0) (x := (i : Int)) (lv' := [(3, .int (iI ((i : Int) + 6))), (2, .ref hm), (1, .ref hd), (0, .ref b)]) hx hb dL_law_1481 hl rfl (by decide) rfl (fun ls hl => ?_)
        refine lv_goto (tgt := 18) hx hb dL_law_1484 (by decide) ?_
        exact ih (i + 6) (by omega) (by omega) A z F LA LZ LT K j G H locs ls hR hP hD hS (by rw [show (((i + 6 : Nat)) : Int) = (i : Int) + 6 from by omega]; exact hl)
      intro A z F LA LZ LT K j G H locs ls hR hP hD hS hl
      refine lv_iload_n hx hb dL_law_18 rfl (lv_at hl 0 rfl) ?_
      refine lv_aload_n hx hb dL_law_19 rfl (lv_at hl 3 rfl) ?_
      refine va_slen hx hb hX hbl hbA hS dL_law_20 ?_
      rw [ofNat_iI L]
      refine lv_bipush (v := iI 6) hx hb dL_law_21 (by decide) ?_
      refine iv_isub hx hb dL_law_23 ?_
      refine iv_icmp_gt (tgt := 1487) hx hb dL_law_24 (by decide) (by omega) (fun h9 => absurd h9 (by omega)) (fun _ => ?_)
      refine lv_aload_n hx hb dL_law_27 rfl (lv_at hl 3 rfl) ?_
      refine lv_iload_n hx hb dL_law_28 rfl (lv_at hl 0 rfl) ?_
      obtain ⟨g1, g2⟩ := iv_ix (z := (i : Int)) (k := i) (n := L) rfl (by omega) (by omega)
      refine va_sld hx hb hX hbl hbA hS g1 dL_law_29 ?_
      refine lv_bipush (v := iI 63) hx hb dL_law_30 (by decide) ?_
      refine lv_iand hx hb dL_law_32 ?_
      refine lv_topi (fun y hy => ?_)
      clear hy
      by_cases ho : y.toInt < 0 ∨ 32 < y.toInt
      · refine lv_tableOut (tgt := 1481) hx hb dL_law_33 ho (by decide) ?_
        refine W.widen (k := 100 + 2 * (i + 6)) (n := 4000 + 50 * (i + 6)) (by omega) (by omega) ?_
        exact kont A z F LA LZ LT K j G H locs ls hR hP hD hS hl
      · rcases (show y.toInt = 0 ∨ y.toInt = 1 ∨ y.toInt = 2 ∨ y.toInt = 3 ∨ y.toInt = 4 ∨ y.toInt = 5 ∨ y.toInt = 6 ∨ y.toInt = 7 ∨ y.toInt = 8 ∨ y.toInt = 9 ∨ y.toInt = 10 ∨ y.toInt = 11 ∨ y.toInt = 12 ∨ y.toInt = 13 ∨ y.toInt = 14 ∨ y.toInt = 15 ∨ y.toInt = 16 ∨ y.toInt = 17 ∨ y.toInt = 18 ∨ y.toInt = 19 ∨ y.toInt = 20 ∨ y.toInt = 21 ∨ y.toInt = 22 ∨ y.toInt = 23 ∨ y.toInt = 24 ∨ y.toInt = 25 ∨ y.toInt = 26 ∨ y.toInt = 27 ∨ y.toInt = 28 ∨ y.toInt = 29 ∨ y.toInt = 30 ∨ y.toInt = 31 ∨ y.toInt = 32 by omega) with hk | hk | hk | hk | hk | hk | hk | hk | hk | hk | hk | hk | hk | hk | hk | hk | hk | hk | hk | hk | hk | hk | hk | hk | hk | hk | hk | hk | hk | hk | hk | hk | hk
        · refine lv_tableIn (off := 147) (tgt := 180) hx hb dL_law_33 (by omega) (by omega) (by rw [hk]; rfl) (by decide) ?_
          exact lw_case0 C hi kont A z F LA LZ LT K j G H locs ls hR hP hD hS hl
        · refine lv_tableIn (off := 190) (tgt := 223) hx hb dL_law_33 (by omega) (by omega) (by rw [hk]; rfl) (by decide) ?_
          exact lw_case1 C hi kont A z F LA LZ LT K j G H locs ls hR hP hD hS hl
        · refine lv_tableIn (off := 243) (tgt := 276) hx hb dL_law_33 (by omega) (by omega) (by rw [hk]; rfl) (by decide) ?_
          exact lw_case2 C hi kont A z F LA LZ LT K j G H locs ls hR hP hD hS hl
        · refine lv_tableIn (off := 286) (tgt := 319) hx hb dL_law_33 (by omega) (by omega) (by rw [hk]; rfl) (by decide) ?_
          exact lw_case3 C hi kont A z F LA LZ LT K j G H locs ls hR hP hD hS hl
        · refine lv_tableIn (off := 339) (tgt := 372) hx hb dL_law_33 (by omega) (by omega) (by rw [hk]; rfl) (by decide) ?_
          exact lw_case4 C hi kont A z F LA LZ LT K j G H locs ls hR hP hD hS hl
        · refine lv_tableIn (off := 382) (tgt := 415) hx hb dL_law_33 (by omega) (by omega) (by rw [hk]; rfl) (by decide) ?_
          exact lw_case5 C hi kont A z F LA LZ LT K j G H locs ls hR hP hD hS hl
        · refine lv_tableIn (off := 445) (tgt := 478) hx hb dL_law_33 (by omega) (by omega) (by rw [hk]; rfl) (by decide) ?_
          exact lw_case6 C hi kont A z F LA LZ LT K j G H locs ls hR hP hD hS hl
        · refine lv_tableIn (off := 458) (tgt := 491) hx hb dL_law_33 (by omega) (by omega) (by rw [hk]; rfl) (by decide) ?_
          exact lw_case7 C hi kont A z F LA LZ LT K j G H locs ls hR hP hD hS hl
        · refine lv_tableIn (off := 511) (tgt := 544) hx hb dL_law_33 (by omega) (by omega) (by rw [hk]; rfl) (by decide) ?_
          exact lw_case8 C hi kont A z F LA LZ LT K j G H locs ls hR hP hD hS hl
        · refine lv_tableIn (off := 574) (tgt := 607) hx hb dL_law_33 (by omega) (by omega) (by rw [hk]; rfl) (by decide) ?_
          exact lw_case9 C hi kont A z F LA LZ LT K j G H locs ls hR hP hD hS hl
        · refine lv_tableIn (off := 633) (tgt := 666) hx hb dL_law_33 (by omega) (by omega) (by rw [hk]; rfl) (by decide) ?_
          exact lw_case10 C hi kont A z F LA LZ LT K j G H locs ls hR hP hD hS hl
        · refine lv_tableIn (off := 666) (tgt := 699) hx hb dL_law_33 (by omega) (by omega) (by rw [hk]; rfl) (by decide) ?_
          exact lw_case11 C hi kont A z F LA LZ LT K j G H locs ls hR hP hD hS hl
        · refine lv_tableIn (off := 699) (tgt := 732) hx hb dL_law_33 (by omega) (by omega) (by rw [hk]; rfl) (by decide) ?_
          exact lw_case12 C hi kont A z F LA LZ LT K j G H locs ls hR hP hD hS hl
        · refine lv_tableIn (off := 722) (tgt := 755) hx hb dL_law_33 (by omega) (by omega) (by rw [hk]; rfl) (by decide) ?_
          exact lw_case13 C hi kont A z F LA LZ LT K j G H locs ls hR hP hD hS hl
        · refine lv_tableIn (off := 745) (tgt := 778) hx hb dL_law_33 (by omega) (by omega) (by rw [hk]; rfl) (by decide) ?_
          exact lw_case14 C hi kont A z F LA LZ LT K j G H locs ls hR hP hD hS hl
        · refine lv_tableIn (off := 778) (tgt := 811) hx hb dL_law_33 (by omega) (by omega) (by rw [hk]; rfl) (by decide) ?_
          exact lw_case15 C hi kont A z F LA LZ LT K j G H locs ls hR hP hD hS hl
        · refine lv_tableIn (off := 801) (tgt := 834) hx hb dL_law_33 (by omega) (by omega) (by rw [hk]; rfl) (by decide) ?_
          exact lw_case16 C hi kont A z F LA LZ LT K j G H locs ls hR hP hD hS hl
        · refine lv_tableIn (off := 854) (tgt := 887) hx hb dL_law_33 (by omega) (by omega) (by rw [hk]; rfl) (by decide) ?_
          exact lw_case17 C hi kont A z F LA LZ LT K j G H locs ls hR hP hD hS hl
        · refine lv_tableIn (off := 917) (tgt := 950) hx hb dL_law_33 (by omega) (by omega) (by rw [hk]; rfl) (by decide) ?_
          exact lw_case18 C hi kont A z F LA LZ LT K j G H locs ls hR hP hD hS hl
        · refine lv_tableIn (off := 930) (tgt := 963) hx hb dL_law_33 (by omega) (by omega) (by rw [hk]; rfl) (by decide) ?_
          exact lw_case19 C hi kont A z F LA LZ LT K j G H locs ls hR hP hD hS hl
        · refine lv_tableIn (off := 963) (tgt := 996) hx hb dL_law_33 (by omega) (by omega) (by rw [hk]; rfl) (by decide) ?_
          exact lw_case20 C hi kont A z F LA LZ LT K j G H locs ls hR hP hD hS hl
        · refine lv_tableIn (off := 1032) (tgt := 1065) hx hb dL_law_33 (by omega) (by omega) (by rw [hk]; rfl) (by decide) ?_
          exact lw_case21 C hi kont A z F LA LZ LT K j G H locs ls hR hP hD hS hl
        · refine lv_tableIn (off := 1075) (tgt := 1108) hx hb dL_law_33 (by omega) (by omega) (by rw [hk]; rfl) (by decide) ?_
          exact lw_case22 C hi kont A z F LA LZ LT K j G H locs ls hR hP hD hS hl
        · refine lv_tableIn (off := 1118) (tgt := 1151) hx hb dL_law_33 (by omega) (by omega) (by rw [hk]; rfl) (by decide) ?_
          exact lw_case23 C hi kont A z F LA LZ LT K j G H locs ls hR hP hD hS hl
        · refine lv_tableIn (off := 1171) (tgt := 1204) hx hb dL_law_33 (by omega) (by omega) (by rw [hk]; rfl) (by decide) ?_
          exact lw_case24 C hi kont A z F LA LZ LT K j G H locs ls hR hP hD hS hl
        · refine lv_tableIn (off := 1204) (tgt := 1237) hx hb dL_law_33 (by omega) (by omega) (by rw [hk]; rfl) (by decide) ?_
          exact lw_case25 C hi kont A z F LA LZ LT K j G H locs ls hR hP hD hS hl
        · refine lv_tableIn (off := 1217) (tgt := 1250) hx hb dL_law_33 (by omega) (by omega) (by rw [hk]; rfl) (by decide) ?_
          exact lw_case26 C hi kont A z F LA LZ LT K j G H locs ls hR hP hD hS hl
        · refine lv_tableIn (off := 1240) (tgt := 1273) hx hb dL_law_33 (by omega) (by omega) (by rw [hk]; rfl) (by decide) ?_
          exact lw_case27 C hi kont A z F LA LZ LT K j G H locs ls hR hP hD hS hl
        · refine lv_tableIn (off := 1253) (tgt := 1286) hx hb dL_law_33 (by omega) (by omega) (by rw [hk]; rfl) (by decide) ?_
          exact lw_case28 C hi kont A z F LA LZ LT K j G H locs ls hR hP hD hS hl
        · refine lv_tableIn (off := 1266) (tgt := 1299) hx hb dL_law_33 (by omega) (by omega) (by rw [hk]; rfl) (by decide) ?_
          exact lw_case29 C hi kont A z F LA LZ LT K j G H locs ls hR hP hD hS hl
        · refine lv_tableIn (off := 1309) (tgt := 1342) hx hb dL_law_33 (by omega) (by omega) (by rw [hk]; rfl) (by decide) ?_
          exact lw_case30 C hi kont A z F LA LZ LT K j G H locs ls hR hP hD hS hl
        · refine lv_tableIn (off := 1332) (tgt := 1365) hx hb dL_law_33 (by omega) (by omega) (by rw [hk]; rfl) (by decide) ?_
          exact lw_case31 C hi kont A z F LA LZ LT K j G H locs ls hR hP hD hS hl
        · refine lv_tableIn (off := 1385) (tgt := 1418) hx hb dL_law_33 (by omega) (by omega) (by rw [hk]; rfl) (by decide) ?_
          exact lw_case32 C hi kont A z F LA LZ LT K j G H locs ls hR hP hD hS hl
    · exact lw_end C (by omega) h2
