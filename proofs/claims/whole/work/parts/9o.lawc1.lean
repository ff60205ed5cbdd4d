set_option maxHeartbeats 4000000 in
set_option maxRecDepth 100000 in
theorem lw_case7 {p : Program} {l : Launch} {e : Env} {s : State} {m : MethodId} {below : List Frame} {meth : Method} {c : Code} {Q : State → Prop} {b L : Nat} {xs : Nat → Int32} {g : GT} {hd hm i : Nat} {a : Nat → Nat} (C : lw_C p s m meth c b L xs g) (hi : i + 6 ≤ L) (kont : lw_K p l e s m below meth c Q b g hd hm a i 1481 6) : lw_K p l e s m below meth c Q b g hd hm a i 491 0 := by
  intro A z F LA LZ LT K j G H locs ls hR hP hD hS hl
  have hx := C.1
  have hb := C.2.1
  have hts := C.2.2.2.2.2.1
  have hL := C.2.2.2.2.2.2.2.2.2.2
  refine lv_aload_n hx hb dL_law_491 rfl (lv_at hl 2 rfl) ?_
  refine lw_arg C hS hl 1 rfl (by omega) dL_law_492 dL_law_493 dL_law_494 dL_law_495 dL_law_496 ?_
  refine lw_arg C hS hl 2 rfl (by omega) dL_law_497 dL_law_498 dL_law_499 dL_law_500 dL_law_501 ?_
  refine lw_arg C hS hl 3 rfl (by omega) dL_law_502 dL_law_503 dL_law_504 dL_law_505 dL_law_506 ?_
  refine lw_arg C hS hl 4 rfl (by omega) dL_law_507 dL_law_508 dL_law_509 dL_law_510 dL_law_511 ?_
  refine lw_call8 (as := [.int (iI ((xs (i + 1)).toInt)), .int (iI ((xs (i + 2)).toInt)), .int (iI ((xs (i + 3)).toInt)), .int (iI ((xs (i + 4)).toInt))]) (y9 := yX9_answer) (ws9 := wsX9_answer) (rm9 := ({ frames := 2, cells := 0, slots := 0, locals := 46 } : Room)) C (pr_answer l g ((xs (i + 1)).toInt) ((xs (i + 2)).toInt) ((xs (i + 3)).toInt) ((xs (i + 4)).toInt) (xr _) (xr _) (xr _) (xr _) hd hm A z F LA LZ LT K a j G hR) (cwV 4 hts gL_law_X8_answer rfl rfl rfl (by decide +kernel) ⟨Nat.le_of_ble_eq_true rfl, Nat.le_of_ble_eq_true rfl⟩) hP hD hS rfl hl.1 rfl dL_law_512 (by show _ + 0 ≤ 600000 ∧ _ + 0 ≤ 7302250; omega) (fun r A z F LA LZ LT K H locs hQ hP hD hS => ?_)
  refine lv_aload_n hx hb dL_law_515 rfl (lv_at hl 1 rfl) ?_
  refine lw_arg C hS hl 1 rfl (by omega) dL_law_516 dL_law_517 dL_law_518 dL_law_519 dL_law_520 ?_
  refine lw_arg C hS hl 2 rfl (by omega) dL_law_521 dL_law_522 dL_law_523 dL_law_524 dL_law_525 ?_
  refine lw_arg C hS hl 3 rfl (by omega) dL_law_526 dL_law_527 dL_law_528 dL_law_529 dL_law_530 ?_
  refine lw_arg C hS hl 4 rfl (by omega) dL_law_531 dL_law_532 dL_law_533 dL_law_534 dL_law_535 ?_
  refine lw_call9 C hQ (cwV 4 hts gL_law_X9_answer rfl rfl rfl (by decide +kernel) ⟨Nat.le_of_ble_eq_true rfl, Nat.le_of_ble_eq_true rfl⟩) hP hD hS rfl hl.1 rfl dL_law_536 (by show _ + 0 + 0 ≤ 600000 ∧ _ + 0 + 0 ≤ 7302250; omega) (fun j G H locs hR hP hD hS => ?_)
  refine lv_icmp_eq (tgt := 1481) hx hb dL_law_539 (by decide) (fun _ => ?_) (fun h9 => absurd rfl h9)
  refine W.widen (k := 100 + 2 * (i + 6)) (n := 4000 + 50 * (i + 6)) (by show _ + 0 + 0 ≤ _; omega) (by show _ + 0 + 0 ≤ _; omega) ?_
  exact kont A z F LA LZ LT K j G H locs ls hR hP hD hS hl
set_option maxHeartbeats 4000000 in
set_option maxRecDepth 100000 in
theorem lw_case8 {p : Program} {l : Launch} {e : Env} {s : State} {m : MethodId} {below : List Frame} {meth : Method} {c : Code} {Q : State → Prop} {b L : Nat} {xs : Nat → Int32} {g : GT} {hd hm i : Nat} {a : Nat → Nat} (C : lw_C p s m meth c b L xs g) (hi : i + 6 ≤ L) (kont : lw_K p l e s m below meth c Q b g hd hm a i 1481 6) : lw_K p l e s m below meth c Q b g hd hm a i 544 0 := by
  intro A z F LA LZ LT K j G H locs ls hR hP hD hS hl
  have hx := C.1
  have hb := C.2.1
  have hts := C.2.2.2.2.2.1
  have hL := C.2.2.2.2.2.2.2.2.2.2
  refine lv_aload_n hx hb dL_law_544 rfl (lv_at hl 2 rfl) ?_
  refine lw_arg C hS hl 1 rfl (by omega) dL_law_545 dL_law_546 dL_law_547 dL_law_548 dL_law_549 ?_
  refine lw_arg C hS hl 2 rfl (by omega) dL_law_550 dL_law_551 dL_law_552 dL_law_553 dL_law_554 ?_
  refine lw_arg C hS hl 3 rfl (by omega) dL_law_555 dL_law_556 dL_law_557 dL_law_558 dL_law_559 ?_
  refine lw_arg C hS hl 4 rfl (by omega) dL_law_560 dL_law_561 dL_law_562 dL_law_563 dL_law_564 ?_
  refine lw_arg C hS hl 5 rfl (by omega) dL_law_565 dL_law_566 dL_law_567 dL_law_568 dL_law_569 ?_
  refine lw_call8 (as := [.int (iI ((xs (i + 1)).toInt)), .int (iI ((xs (i + 2)).toInt)), .int (iI ((xs (i + 3)).toInt)), .int (iI ((xs (i + 4)).toInt)), .int (iI ((xs (i + 5)).toInt))]) (y9 := yX9_answers) (ws9 := wsX9_answers) (rm9 := ({ frames := 2, cells := 0, slots := 0, locals := 46 } : Room)) C (pr_answers l g ((xs (i + 1)).toInt) ((xs (i + 2)).toInt) ((xs (i + 3)).toInt) ((xs (i + 4)).toInt) ((xs (i + 5)).toInt) (xr _) (xr _) (xr _) (xr _) (xr _) hd hm A z F LA LZ LT K a j G hR) (cwV 5 hts gL_law_X8_answers rfl rfl rfl (by decide +kernel) ⟨Nat.le_of_ble_eq_true rfl, Nat.le_of_ble_eq_true rfl⟩) hP hD hS rfl hl.1 rfl dL_law_570 (by show _ + 0 ≤ 600000 ∧ _ + 0 ≤ 7302250; omega) (fun r A z F LA LZ LT K H locs hQ hP hD hS => ?_)
  refine lv_aload_n hx hb dL_law_573 rfl (lv_at hl 1 rfl) ?_
  refine lw_arg C hS hl 1 rfl (by omega) dL_law_574 dL_law_575 dL_law_576 dL_law_577 dL_law_578 ?_
  refine lw_arg C hS hl 2 rfl (by omega) dL_law_579 dL_law_580 dL_law_581 dL_law_582 dL_law_583 ?_
  refine lw_arg C hS hl 3 rfl (by omega) dL_law_584 dL_law_585 dL_law_586 dL_law_587 dL_law_588 ?_
  refine lw_arg C hS hl 4 rfl (by omega) dL_law_589 dL_law_590 dL_law_591 dL_law_592 dL_law_593 ?_
  refine lw_arg C hS hl 5 rfl (by omega) dL_law_594 dL_law_595 dL_law_596 dL_law_597 dL_law_598 ?_
  refine lw_call9 C hQ (cwV 5 hts gL_law_X9_answers rfl rfl rfl (by decide +kernel) ⟨Nat.le_of_ble_eq_true rfl, Nat.le_of_ble_eq_true rfl⟩) hP hD hS rfl hl.1 rfl dL_law_599 (by show _ + 0 + 0 ≤ 600000 ∧ _ + 0 + 0 ≤ 7302250; omega) (fun j G H locs hR hP hD hS => ?_)
  refine lv_icmp_eq (tgt := 1481) hx hb dL_law_602 (by decide) (fun _ => ?_) (fun h9 => absurd rfl h9)
  refine W.widen (k := 100 + 2 * (i + 6)) (n := 4000 + 50 * (i + 6)) (by show _ + 0 + 0 ≤ _; omega) (by show _ + 0 + 0 ≤ _; omega) ?_
  exact kont A z F LA LZ LT K j G H locs ls hR hP hD hS hl
set_option maxHeartbeats 4000000 in
set_option maxRecDepth 100000 in
theorem lw_case9 {p : Program} {l : Launch} {e : Env} {s : State} {m : MethodId} {below : List Frame} {meth : Method} {c : Code} {Q : State → Prop} {b L : Nat} {xs : Nat → Int32} {g : GT} {hd hm i : Nat} {a : Nat → Nat} (C : lw_C p s m meth c b L xs g) (hi : i + 6 ≤ L) (kont : lw_K p l e s m below meth c Q b g hd hm a i 1481 6) : lw_K p l e s m below meth c Q b g hd hm a i 607 0 := by
  intro A z F LA LZ LT K j G H locs ls hR hP hD hS hl
  have hx := C.1
  have hb := C.2.1
  have hts := C.2.2.2.2.2.1
  have hL := C.2.2.2.2.2.2.2.2.2.2
  by_cases hz : (xs (i + 3)).toInt = 0
  · refine lv_aload_n hx hb dL_law_607 rfl (lv_at hl 2 rfl) ?_
    refine lw_arg C hS hl 1 rfl (by omega) dL_law_608 dL_law_609 dL_law_610 dL_law_611 dL_law_612 ?_
    refine lw_arg C hS hl 2 rfl (by omega) dL_law_613 dL_law_614 dL_law_615 dL_law_616 dL_law_617 ?_
    refine lw_arg C hS hl 3 rfl (by omega) dL_law_618 dL_law_619 dL_law_620 dL_law_621 dL_law_622 ?_
    refine iv_if_eq (tgt := 630) hx hb dL_law_623 (by decide) (xr _) (fun _ => ?_) (fun h9 => absurd hz h9)
    refine lv_iconst (v := iI 0) hx hb dL_law_630 rfl ?_
    refine lw_call8 (as := [.int (iI ((xs (i + 1)).toInt)), .int (iI ((xs (i + 2)).toInt)), .int (iI 0)]) (y9 := yX9_aside) (ws9 := wsX9_aside) (rm9 := ({ frames := 2, cells := 0, slots := 0, locals := 46 } : Room)) C (pr_aside l g ((xs (i + 1)).toInt) ((xs (i + 2)).toInt) 0 (xr _) (xr _) (Or.inl rfl) hd hm A z F LA LZ LT K a j G hR) (cwV 3 hts gL_law_X8_aside rfl rfl rfl (by decide +kernel) ⟨Nat.le_of_ble_eq_true rfl, Nat.le_of_ble_eq_true rfl⟩) hP hD hS rfl hl.1 rfl dL_law_631 (by show _ + 0 ≤ 600000 ∧ _ + 0 ≤ 7302250; omega) (fun r A z F LA LZ LT K H locs hQ hP hD hS => ?_)
    refine lv_aload_n hx hb dL_law_634 rfl (lv_at hl 1 rfl) ?_
    refine lw_arg C hS hl 1 rfl (by omega) dL_law_635 dL_law_636 dL_law_637 dL_law_638 dL_law_639 ?_
    refine lw_arg C hS hl 2 rfl (by omega) dL_law_640 dL_law_641 dL_law_642 dL_law_643 dL_law_644 ?_
    refine lw_arg C hS hl 3 rfl (by omega) dL_law_645 dL_law_646 dL_law_647 dL_law_648 dL_law_649 ?_
    refine iv_if_eq (tgt := 657) hx hb dL_law_650 (by decide) (xr _) (fun _ => ?_) (fun h9 => absurd hz h9)
    refine lv_iconst (v := iI 0) hx hb dL_law_657 rfl ?_
    refine lw_call9 C hQ (cwV 3 hts gL_law_X9_aside rfl rfl rfl (by decide +kernel) ⟨Nat.le_of_ble_eq_true rfl, Nat.le_of_ble_eq_true rfl⟩) hP hD hS rfl hl.1 rfl dL_law_658 (by show _ + 0 + 0 ≤ 600000 ∧ _ + 0 + 0 ≤ 7302250; omega) (fun j G H locs hR hP hD hS => ?_)
    refine lv_icmp_eq (tgt := 1481) hx hb dL_law_661 (by decide) (fun _ => ?_) (fun h9 => absurd rfl h9)
    refine W.widen (k := 100 + 2 * (i + 6)) (n := 4000 + 50 * (i + 6)) (by show _ + 0 + 0 ≤ _; omega) (by show _ + 0 + 0 ≤ _; omega) ?_
    exact kont A z F LA LZ LT K j G H locs ls hR hP hD hS hl
  · refine lv_aload_n hx hb dL_law_607 rfl (lv_at hl 2 rfl) ?_
    refine lw_arg C hS hl 1 rfl (by omega) dL_law_608 dL_law_609 dL_law_610 dL_law_611 dL_law_612 ?_
    refine lw_arg C hS hl 2 rfl (by omega) dL_law_613 dL_law_614 dL_law_615 dL_law_616 dL_law_617 ?_
    refine lw_arg C hS hl 3 rfl (by omega) dL_law_618 dL_law_619 dL_law_620 dL_law_621 dL_law_622 ?_
    refine iv_if_eq (tgt := 630) hx hb dL_law_623 (by decide) (xr _) (fun h9 => absurd h9 hz) (fun _ => ?_)
    refine lv_iconst (v := iI 1) hx hb dL_law_626 rfl ?_
    refine lv_goto (tgt := 631) hx hb dL_law_627 (by decide) ?_
    refine lw_call8 (as := [.int (iI ((xs (i + 1)).toInt)), .int (iI ((xs (i + 2)).toInt)), .int (iI 1)]) (y9 := yX9_aside) (ws9 := wsX9_aside) (rm9 := ({ frames := 2, cells := 0, slots := 0, locals := 46 } : Room)) C (pr_aside l g ((xs (i + 1)).toInt) ((xs (i + 2)).toInt) 1 (xr _) (xr _) (Or.inr rfl) hd hm A z F LA LZ LT K a j G hR) (cwV 3 hts gL_law_X8_aside rfl rfl rfl (by decide +kernel) ⟨Nat.le_of_ble_eq_true rfl, Nat.le_of_ble_eq_true rfl⟩) hP hD hS rfl hl.1 rfl dL_law_631 (by show _ + 0 ≤ 600000 ∧ _ + 0 ≤ 7302250; omega) (fun r A z F LA LZ LT K H locs hQ hP hD hS => ?_)
    refine lv_aload_n hx hb dL_law_634 rfl (lv_at hl 1 rfl) ?_
    refine lw_arg C hS hl 1 rfl (by omega) dL_law_635 dL_law_636 dL_law_637 dL_law_638 dL_law_639 ?_
    refine lw_arg C hS hl 2 rfl (by omega) dL_law_640 dL_law_641 dL_law_642 dL_law_643 dL_law_644 ?_
    refine lw_arg C hS hl 3 rfl (by omega) dL_law_645 dL_law_646 dL_law_647 dL_law_648 dL_law_649 ?_
    refine iv_if_eq (tgt := 657) hx hb dL_law_650 (by decide) (xr _) (fun h9 => absurd h9 hz) (fun _ => ?_)
    refine lv_iconst (v := iI 1) hx hb dL_law_653 rfl ?_
    refine lv_goto (tgt := 658) hx hb dL_law_654 (by decide) ?_
    refine lw_call9 C hQ (cwV 3 hts gL_law_X9_aside rfl rfl rfl (by decide +kernel) ⟨Nat.le_of_ble_eq_true rfl, Nat.le_of_ble_eq_true rfl⟩) hP hD hS rfl hl.1 rfl dL_law_658 (by show _ + 0 + 0 ≤ 600000 ∧ _ + 0 + 0 ≤ 7302250; omega) (fun j G H locs hR hP hD hS => ?_)
    refine lv_icmp_eq (tgt := 1481) hx hb dL_law_661 (by decide) (fun _ => ?_) (fun h9 => absurd rfl h9)
    refine W.widen (k := 100 + 2 * (i + 6)) (n := 4000 + 50 * (i + 6)) (by show _ + 0 + 0 ≤ _; omega) (by show _ + 0 + 0 ≤ _; omega) ?_
    exact kont A z F LA LZ LT K j G H locs ls hR hP hD hS hl
set_option maxHeartbeats 4000000 in
set_option maxRecDepth 100000 in
theorem lw_case10 {p : Program} {l : Launch} {e : Env} {s : State} {m : MethodId} {below : List Frame} {meth : Method} {c : Code} {Q : State → Prop} {b L : Nat} {xs : Nat → Int32} {g : GT} {hd hm i : Nat} {a : Nat → Nat} (C : lw_C p s m meth c b L xs g) (hi : i + 6 ≤ L) (kont : lw_K p l e s m below meth c Q b g hd hm a i 1481 6) : lw_K p l e s m below meth c Q b g hd hm a i 666 0 := by
  intro A z F LA LZ LT K j G H locs ls hR hP hD hS hl
  have hx := C.1
  have hb := C.2.1
  have hts := C.2.2.2.2.2.1
  have hL := C.2.2.2.2.2.2.2.2.2.2
  refine lv_aload_n hx hb dL_law_666 rfl (lv_at hl 2 rfl) ?_
  refine lw_arg C hS hl 1 rfl (by omega) dL_law_667 dL_law_668 dL_law_669 dL_law_670 dL_law_671 ?_
  refine lw_arg C hS hl 2 rfl (by omega) dL_law_672 dL_law_673 dL_law_674 dL_law_675 dL_law_676 ?_
  refine lw_call8 (as := [.int (iI ((xs (i + 1)).toInt)), .int (iI ((xs (i + 2)).toInt))]) (y9 := yX9_set) (ws9 := wsX9_set) (rm9 := ({ frames := 1, cells := 0, slots := 0, locals := 25 } : Room)) C (pr_set l g ((xs (i + 1)).toInt) ((xs (i + 2)).toInt) (xr _) (xr _) hd hm A z F LA LZ LT K a j G hR) (cwV 2 hts gL_law_X8_set rfl rfl rfl (by decide +kernel) ⟨Nat.le_of_ble_eq_true rfl, Nat.le_of_ble_eq_true rfl⟩) hP hD hS rfl hl.1 rfl dL_law_677 (by show _ + 0 ≤ 600000 ∧ _ + 0 ≤ 7302250; omega) (fun r A z F LA LZ LT K H locs hQ hP hD hS => ?_)
  refine lv_aload_n hx hb dL_law_680 rfl (lv_at hl 1 rfl) ?_
  refine lw_arg C hS hl 1 rfl (by omega) dL_law_681 dL_law_682 dL_law_683 dL_law_684 dL_law_685 ?_
  refine lw_arg C hS hl 2 rfl (by omega) dL_law_686 dL_law_687 dL_law_688 dL_law_689 dL_law_690 ?_
  refine lw_call9 C hQ (cwV 2 hts gL_law_X9_set rfl rfl rfl (by decide +kernel) ⟨Nat.le_of_ble_eq_true rfl, Nat.le_of_ble_eq_true rfl⟩) hP hD hS rfl hl.1 rfl dL_law_691 (by show _ + 0 + 0 ≤ 600000 ∧ _ + 0 + 0 ≤ 7302250; omega) (fun j G H locs hR hP hD hS => ?_)
  refine lv_icmp_eq (tgt := 1481) hx hb dL_law_694 (by decide) (fun _ => ?_) (fun h9 => absurd rfl h9)
  refine W.widen (k := 100 + 2 * (i + 6)) (n := 4000 + 50 * (i + 6)) (by show _ + 0 + 0 ≤ _; omega) (by show _ + 0 + 0 ≤ _; omega) ?_
  exact kont A z F LA LZ LT K j G H locs ls hR hP hD hS hl
set_option maxHeartbeats 4000000 in
set_option maxRecDepth 100000 in
theorem lw_case11 {p : Program} {l : Launch} {e : Env} {s : State} {m : MethodId} {below : List Frame} {meth : Method} {c : Code} {Q : State → Prop} {b L : Nat} {xs : Nat → Int32} {g : GT} {hd hm i : Nat} {a : Nat → Nat} (C : lw_C p s m meth c b L xs g) (hi : i + 6 ≤ L) (kont : lw_K p l e s m below meth c Q b g hd hm a i 1481 6) : lw_K p l e s m below meth c Q b g hd hm a i 699 0 := by
  intro A z F LA LZ LT K j G H locs ls hR hP hD hS hl
  have hx := C.1
  have hb := C.2.1
  have hts := C.2.2.2.2.2.1
  have hL := C.2.2.2.2.2.2.2.2.2.2
  refine lv_aload_n hx hb dL_law_699 rfl (lv_at hl 2 rfl) ?_
  refine lw_arg C hS hl 1 rfl (by omega) dL_law_700 dL_law_701 dL_law_702 dL_law_703 dL_law_704 ?_
  refine lw_arg C hS hl 2 rfl (by omega) dL_law_705 dL_law_706 dL_law_707 dL_law_708 dL_law_709 ?_
  refine lw_call8 (as := [.int (iI ((xs (i + 1)).toInt)), .int (iI ((xs (i + 2)).toInt))]) (y9 := yX9_points) (ws9 := wsX9_points) (rm9 := ({ frames := 3, cells := 0, slots := 0, locals := 76 } : Room)) C (pr_points l g ((xs (i + 1)).toInt) ((xs (i + 2)).toInt) (xr _) (xr _) hd hm A z F LA LZ LT K a j G hR) (cwV 2 hts gL_law_X8_points rfl rfl rfl (by decide +kernel) ⟨Nat.le_of_ble_eq_true rfl, Nat.le_of_ble_eq_true rfl⟩) hP hD hS rfl hl.1 rfl dL_law_710 (by show _ + 0 ≤ 600000 ∧ _ + 0 ≤ 7302250; omega) (fun r A z F LA LZ LT K H locs hQ hP hD hS => ?_)
  refine lv_aload_n hx hb dL_law_713 rfl (lv_at hl 1 rfl) ?_
  refine lw_arg C hS hl 1 rfl (by omega) dL_law_714 dL_law_715 dL_law_716 dL_law_717 dL_law_718 ?_
  refine lw_arg C hS hl 2 rfl (by omega) dL_law_719 dL_law_720 dL_law_721 dL_law_722 dL_law_723 ?_
  refine lw_call9 C hQ (cwV 2 hts gL_law_X9_points rfl rfl rfl (by decide +kernel) ⟨Nat.le_of_ble_eq_true rfl, Nat.le_of_ble_eq_true rfl⟩) hP hD hS rfl hl.1 rfl dL_law_724 (by show _ + 0 + 0 ≤ 600000 ∧ _ + 0 + 0 ≤ 7302250; omega) (fun j G H locs hR hP hD hS => ?_)
  refine lv_icmp_eq (tgt := 1481) hx hb dL_law_727 (by decide) (fun _ => ?_) (fun h9 => absurd rfl h9)
  refine W.widen (k := 100 + 2 * (i + 6)) (n := 4000 + 50 * (i + 6)) (by show _ + 0 + 0 ≤ _; omega) (by show _ + 0 + 0 ≤ _; omega) ?_
  exact kont A z F LA LZ LT K j G H locs ls hR hP hD hS hl
set_option maxHeartbeats 4000000 in
set_option maxRecDepth 100000 in
theorem lw_case12 {p : Program} {l : Launch} {e : Env} {s : State} {m : MethodId} {below : List Frame} {meth : Method} {c : Code} {Q : State → Prop} {b L : Nat} {xs : Nat → Int32} {g : GT} {hd hm i : Nat} {a : Nat → Nat} (C : lw_C p s m meth c b L xs g) (hi : i + 6 ≤ L) (kont : lw_K p l e s m below meth c Q b g hd hm a i 1481 6) : lw_K p l e s m below meth c Q b g hd hm a i 732 0 := by
  intro A z F LA LZ LT K j G H locs ls hR hP hD hS hl
  have hx := C.1
  have hb := C.2.1
  have hts := C.2.2.2.2.2.1
  have hL := C.2.2.2.2.2.2.2.2.2.2
  refine lv_aload_n hx hb dL_law_732 rfl (lv_at hl 2 rfl) ?_
  refine lw_arg C hS hl 1 rfl (by omega) dL_law_733 dL_law_734 dL_law_735 dL_law_736 dL_law_737 ?_
  refine lw_call8 (as := [.int (iI ((xs (i + 1)).toInt))]) (y9 := yX9_guess) (ws9 := wsX9_guess) (rm9 := ({ frames := 4, cells := 0, slots := 0, locals := 103 } : Room)) C (pr_guess l g ((xs (i + 1)).toInt) (xr _) hd hm A z F LA LZ LT K a j G hR) (cwV 1 hts gL_law_X8_guess rfl rfl rfl (by decide +kernel) ⟨Nat.le_of_ble_eq_true rfl, Nat.le_of_ble_eq_true rfl⟩) hP hD hS rfl hl.1 rfl dL_law_738 (by show _ + 0 ≤ 600000 ∧ _ + 0 ≤ 7302250; omega) (fun r A z F LA LZ LT K H locs hQ hP hD hS => ?_)
  refine lv_aload_n hx hb dL_law_741 rfl (lv_at hl 1 rfl) ?_
  refine lw_arg C hS hl 1 rfl (by omega) dL_law_742 dL_law_743 dL_law_744 dL_law_745 dL_law_746 ?_
  refine lw_call9 C hQ (cwV 1 hts gL_law_X9_guess rfl rfl rfl (by decide +kernel) ⟨Nat.le_of_ble_eq_true rfl, Nat.le_of_ble_eq_true rfl⟩) hP hD hS rfl hl.1 rfl dL_law_747 (by show _ + 0 + 0 ≤ 600000 ∧ _ + 0 + 0 ≤ 7302250; omega) (fun j G H locs hR hP hD hS => ?_)
  refine lv_icmp_eq (tgt := 1481) hx hb dL_law_750 (by decide) (fun _ => ?_) (fun h9 => absurd rfl h9)
  refine W.widen (k := 100 + 2 * (i + 6)) (n := 4000 + 50 * (i + 6)) (by show _ + 0 + 0 ≤ _; omega) (by show _ + 0 + 0 ≤ _; omega) ?_
  exact kont A z F LA LZ LT K j G H locs ls hR hP hD hS hl
set_option maxHeartbeats 4000000 in
set_option maxRecDepth 100000 in
theorem lw_case13 {p : Program} {l : Launch} {e : Env} {s : State} {m : MethodId} {below : List Frame} {meth : Method} {c : Code} {Q : State → Prop} {b L : Nat} {xs : Nat → Int32} {g : GT} {hd hm i : Nat} {a : Nat → Nat} (C : lw_C p s m meth c b L xs g) (hi : i + 6 ≤ L) (kont : lw_K p l e s m below meth c Q b g hd hm a i 1481 6) : lw_K p l e s m below meth c Q b g hd hm a i 755 0 := by
  intro A z F LA LZ LT K j G H locs ls hR hP hD hS hl
  have hx := C.1
  have hb := C.2.1
  have hts := C.2.2.2.2.2.1
  have hL := C.2.2.2.2.2.2.2.2.2.2
  refine lv_aload_n hx hb dL_law_755 rfl (lv_at hl 2 rfl) ?_
  refine lw_arg C hS hl 1 rfl (by omega) dL_law_756 dL_law_757 dL_law_758 dL_law_759 dL_law_760 ?_
  refine lw_call8 (as := [.int (iI ((xs (i + 1)).toInt))]) (y9 := yX9_lead) (ws9 := wsX9_lead) (rm9 := ({ frames := 4, cells := 0, slots := 0, locals := 103 } : Room)) C (pr_lead l g ((xs (i + 1)).toInt) (xr _) hd hm A z F LA LZ LT K a j G hR) (cwV 1 hts gL_law_X8_lead rfl rfl rfl (by decide +kernel) ⟨Nat.le_of_ble_eq_true rfl, Nat.le_of_ble_eq_true rfl⟩) hP hD hS rfl hl.1 rfl dL_law_761 (by show _ + 0 ≤ 600000 ∧ _ + 0 ≤ 7302250; omega) (fun r A z F LA LZ LT K H locs hQ hP hD hS => ?_)
  refine lv_aload_n hx hb dL_law_764 rfl (lv_at hl 1 rfl) ?_
  refine lw_arg C hS hl 1 rfl (by omega) dL_law_765 dL_law_766 dL_law_767 dL_law_768 dL_law_769 ?_
  refine lw_call9 C hQ (cwV 1 hts gL_law_X9_lead rfl rfl rfl (by decide +kernel) ⟨Nat.le_of_ble_eq_true rfl, Nat.le_of_ble_eq_true rfl⟩) hP hD hS rfl hl.1 rfl dL_law_770 (by show _ + 0 + 0 ≤ 600000 ∧ _ + 0 + 0 ≤ 7302250; omega) (fun j G H locs hR hP hD hS => ?_)
  refine lv_icmp_eq (tgt := 1481) hx hb dL_law_773 (by decide) (fun _ => ?_) (fun h9 => absurd rfl h9)
  refine W.widen (k := 100 + 2 * (i + 6)) (n := 4000 + 50 * (i + 6)) (by show _ + 0 + 0 ≤ _; omega) (by show _ + 0 + 0 ≤ _; omega) ?_
  exact kont A z F LA LZ LT K j G H locs ls hR hP hD hS hl
