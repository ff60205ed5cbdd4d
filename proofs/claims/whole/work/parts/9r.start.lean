theorem Ct.behind {l : Launch} {g : GT} {y : MethodName} {wd : List Cond} {rm : Room} {av : List Value} {wc wr : va_W} {Post : Option Value → va_W → Prop} (h : Ct l g y wd rm av wc Post) : Ct l g y wd rm av (wr ++ wc) (fun v w => ∃ w1, Post v w1 ∧ w = wr ++ w1) := Ct.frameS (wr := wr) h (WS.rf _) (fun v w1 hw => ⟨wr ++ w1, WS.rf _, w1, hw, rfl⟩)
theorem fle_0 : fleF (fun _ _ => 0) 0 = fun _ => none := by
  funext n
  exact if_neg (Nat.not_lt_zero n)
theorem fsh_0 {A : Nat → Nat} : va_up (va_up (va_up (va_up (fun _ => none) 0 (some (A 40))) 1 (some (A 41))) 2 (some (A 42))) 3 (some (A 43)) = fshF A := by
  funext n
  unfold fshF va_up
  by_cases h : n < 4
  · rcases (show n = 0 ∨ n = 1 ∨ n = 2 ∨ n = 3 by omega) with e | e | e | e <;> subst e <;> rfl
  · rw [if_neg h, if_neg (by omega), if_neg (by omega), if_neg (by omega), if_neg (by omega)]
theorem rel_start {kw' fl' : Nat → Int} (h1 : ∀ p, p < 93 → kw' p = oT p) (h2 : ∀ j, j < 4 → fl' j = -1) : Rel (va_up (va_up (va_up (va_up (va_up (fun _ => 0) 7 (-1)) 40 (-1)) 41 (-1)) 42 (-1)) 43 (-1)) (va_up (fun _ _ => 0) 5 (va_up (va_up (va_up (va_up (va_up (fun _ => 0) 0 10) 1 20) 2 5) 3 10) 4 50)) (fun _ _ => 0) (fun _ _ _ => 0) 0 (va_up (fun _ => 0) 13 (-4)) (va_up (va_up (va_up (fun _ _ => 0) 0 kw') 33 fl') 11 (va_up (va_up (va_up (va_up (va_up (fun _ => 0) 0 10) 1 20) 2 5) 3 10) 4 50)) := by
  have z3 : RgR (fun _ => 0) (fun _ => 0) (fun _ => 0) := fun _ _ => ⟨⟨(by decide : (0 : Int) ≤ 0), (by decide : (0 : Int) ≤ 100000)⟩, ⟨(by decide : (0 : Int) ≤ 0), (by decide : (0 : Int) ≤ 100000)⟩, (by decide : (0 : Int) ≤ 0), (by decide : (0 : Int) < 256)⟩
  have k9 : ∀ k, k < 4 → RSk k (-1) 0 (fun _ => 0) fl' (fun _ => 0) (fun _ => 0) := fun k hk => RSk.of (by omega) (by rw [h2 k hk]; decide) (Or.inl ⟨by omega, by rw [h2 k hk]; omega⟩) (fun p _ => ⟨rfl, (by decide : (-2147483648 : Int) ≤ 0), (by decide : (0 : Int) < 2147483648)⟩)
  exact Rel.of ⟨by omega, rfl, rfl, h1, (by decide : (0 : Int) ≤ 0), (by decide : (0 : Int) < 1000000000)⟩ ⟨rfl, lt3 ⟨(by decide : (0 : Int) ≤ 10), (by decide : (10 : Int) ≤ 99)⟩ ⟨(by decide : (0 : Int) ≤ 20), (by decide : (20 : Int) ≤ 99)⟩ ⟨(by decide : (0 : Int) ≤ 5), (by decide : (5 : Int) ≤ 99)⟩, ⟨(by decide : (0 : Int) ≤ 10), (by decide : (10 : Int) ≤ 999)⟩, ⟨(by decide : (1 : Int) ≤ 50), (by decide : (50 : Int) ≤ 500)⟩⟩ (Or.inl ⟨rfl, rfl, rfl⟩) ⟨rfl, 0, by omega, rfl, rfl, fun p hp => absurd hp (Nat.not_lt_zero p)⟩ ⟨RelS.zero _ _ _, z3, z3, fun _ _ => ⟨(by decide : (0 : Int) ≤ 0), (by decide : (0 : Int) ≤ 20), (by decide : (0 : Int) ≤ 0), (by decide : (0 : Int) ≤ 99), (by decide : (0 : Int) ≤ 0), (by decide : (0 : Int) < 256)⟩⟩ ⟨rfl, rfl, 0, by omega, rfl, rfl, fun p hp => absurd hp (Nat.not_lt_zero p)⟩ (RSh.of (k9 0 (by omega)) (k9 1 (by omega)) (k9 2 (by omega)) (k9 3 (by omega))) ⟨fun _ _ => ⟨(by decide : (0 : Int) ≤ 0), (by decide : (0 : Int) ≤ 40)⟩, fun k hk => absurd hk (Nat.not_lt_zero k)⟩ ⟨fun k hk => absurd hk (Nat.not_lt_zero k), fun _ _ _ => ⟨rfl, rfl, rfl⟩⟩
set_option maxHeartbeats 4000000 in
set_option maxRecDepth 100000 in
theorem whole_start {p : Program} {e : Env} {s : State} {m : MethodId} {below : List Frame} {meth : Method} {c : Code} (l : Launch) {b L : Nat} {xs : Nat → Int32} (hL : L ≤ 3072) (C0 : lw_At p s m meth c b L xs) : W p l e room_1 s m #[Value.ref b] below meth c s.heap [] 0 0 (lw_Z below #[Value.ref b] s) (entryFrame m ([Value.ref b] : List Value).toArray 4) := by
  obtain ⟨hx, hb, hr, hml, hown, hts, hX, hbl, hlocks, hgv⟩ := id C0
  have hown : s.vm.findClass RL = some m.cls := hown
  have htl : ∀ w ∈ wsL_law, w.before #[Value.ref b] s = true := fun w hw => hts w (wsL_law_in w hw)
  obtain ⟨g, hG⟩ := gg_start hts hgv
  have C : lw_C p s m meth c b L xs g := ⟨hx, hb, hr, hml, hown, htl, hX, hbl, hlocks, hG, hL⟩
  have hA : ∀ q : Nat, s.heap.size ≤ q → lwA s q := fun _ h => h
  have hS : va_S (lwA s) s.heap s.heap [] := va_S.rf
  have hP : va_P g.1 vwCl [] s.heap := fun k q h => by simp at h
  have hD : va_D (lwA s) [] := ⟨fun i j p q h => by simp at h, fun k q h => by simp at h⟩
  have hl := lv_entry ([.ref b]) (n := 4) (Nat.le_of_ble_eq_true rfl)
  rw [lg_entry_eq]
  generalize (lg_sl ([.ref b]) ++ List.replicate (4 - (lg_sl ([.ref b])).length) Slot.unset).toArray = ls at hl ⊢
  have hl : lv_has ls 4 [(0, .ref b)] := hl
  refine va_new (ci := 8) (fs := [.null, .null, .null, .null, .int (iI 0), .null, .null, .int (iI 0), .null, .null, .null, .null, .null]) hx hb hts wsX80_in tyX8 tyX8_ok hown (htl _ (List.mem_of_getElem? (i := 0) rfl)) (htl _ (List.mem_of_getElem? (i := 1) rfl)) (htl _ (List.mem_of_getElem? (i := 2) rfl)) hG.1 hP hD hS hA rfl (fun j hj => by rcases (show j = 0 ∨ j = 1 ∨ j = 2 ∨ j = 3 ∨ j = 4 ∨ j = 5 ∨ j = 6 ∨ j = 7 ∨ j = 8 ∨ j = 9 ∨ j = 10 ∨ j = 11 ∨ j = 12 by omega) with rfl | rfl | rfl | rfl | rfl | rfl | rfl | rfl | rfl | rfl | rfl | rfl | rfl <;> first | rfl | decide) (Nat.le_of_ble_eq_true rfl) (Nat.le_of_ble_eq_true rfl) dL_law_0 (fun hd H hP hD hS => ?_)
  have hP : va_P g.1 vwCl [(hd, .inr (8, [.null, .null, .null, .null, .int (iI 0), .null, .null, .int (iI 0), .null, .null, .null, .null, .null]))] H := hP
  have hD : va_D (lwA s) [(hd, .inr (8, [.null, .null, .null, .null, .int (iI 0), .null, .null, .int (iI 0), .null, .null, .null, .null, .null]))] := hD
  refine lv_dup hx hb dL_law_3 rfl ?_
  refine Ct.callI (As := []) (rest := [.ref hd]) (wr := []) (c1 := 0 + 1 + 32) (s1 := 0 + 13 + 884) ⟨hx, hb, hml, hown, htl⟩ (c_X8_init l g hd) (cwI 0 htl gL_law_X8_init rfl rfl rfl (htl _ (List.mem_of_getElem? (i := 2) rfl)) (htl _ (List.mem_of_getElem? (i := 7) rfl)) (htl _ (List.mem_of_getElem? (i := 8) rfl)) rfl (by decide +kernel) ⟨Nat.le_of_ble_eq_true rfl, Nat.le_of_ble_eq_true rfl⟩) hG hP hD hS hA [0] [] rfl rfl (by decide) (by decide) (by decide) rfl hl.1 rfl (Nat.le_of_ble_eq_true rfl) dL_law_4 ⟨Nat.le_of_ble_eq_true rfl, Nat.le_of_ble_eq_true rfl⟩ rfl rfl (fun v w H locs hv hP hD hS => ?_)
  obtain ⟨p0', p1', p2', p3', p5', p6', p8', p9', p10', p11', p12', a1', a2', a3', b1', b2', c1', c2', c3', d1', d2', d3', e1', e2', s0', s1', s2', s3', t0', t1', t2', t3', rfl, hw⟩ := hv
  have hwD : w = DX g hd (fun n => ([p0', p1', p2', p3', 0, p5', p6', 0, p8', p9', p10', p11', p12', 0, 0, 0, 0, 0, 0, 0, a1', a2', a3', b1', b2', c1', c2', c3', d1', d2', d3', e1', e2', 0, 0, 0, 0, 0, 0, 0, s0', s1', s2', s3', 0, 0, 0, 0, 0, 0, t0', t1', t2', t3'] : List Nat).getD n 0) (va_up (va_up (va_up (va_up (va_up (fun _ => 0) 7 (-1)) 40 (-1)) 41 (-1)) 42 (-1)) 43 (-1)) (va_up (fun _ _ => 0) 5 (va_up (va_up (va_up (va_up (va_up (fun _ => 0) 0 10) 1 20) 2 5) 3 10) 4 50)) (fun _ _ => 0) 0 := by
    have ef := fsh_0 (A := fun n => ([p0', p1', p2', p3', 0, p5', p6', 0, p8', p9', p10', p11', p12', 0, 0, 0, 0, 0, 0, 0, a1', a2', a3', b1', b2', c1', c2', c3', d1', d2', d3', e1', e2', 0, 0, 0, 0, 0, 0, 0, s0', s1', s2', s3', 0, 0, 0, 0, 0, 0, t0', t1', t2', t3'] : List Nat).getD n 0)
    have ef : va_up (va_up (va_up (va_up (fun _ => none) 0 (some s0')) 1 (some s1')) 2 (some s2')) 3 (some s3') = _ := ef
    rw [ef, ← fle_0] at hw
    exact hw
  clear hw
  generalize hAA : (fun n => ([p0', p1', p2', p3', 0, p5', p6', 0, p8', p9', p10', p11', p12', 0, 0, 0, 0, 0, 0, 0, a1', a2', a3', b1', b2', c1', c2', c3', d1', d2', d3', e1', e2', 0, 0, 0, 0, 0, 0, 0, s0', s1', s2', s3', 0, 0, 0, 0, 0, 0, t0', t1', t2', t3'] : List Nat).getD n 0) = AA at hwD
  clear hAA
  rw [List.nil_append] at hP hD
  subst hwD
  show W p l e _ s m _ below meth c H locs _ _ _ (F0 m 7 ls [.ref hd])
  refine lv_astore_n (lv' := [(1, .ref hd), (0, .ref b)]) hx hb dL_law_7 rfl hl (by decide) rfl (fun ls hl => ?_)
  refine va_new (ci := 9) (fs := [.null, .null, .null, .null, .null, .int (iI 0), .null, .null, .null, .null, .null, .null, .int (iI 0), .int (iI 0), .int (iI 0), .null, .int (iI 0), .int (iI 0), .int (iI 0), .int (iI 0), .null, .null, .null, .int (iI 0), .null, .null, .null, .null, .null, .null, .int (iI 0), .null, .null, .null, .null, .null, .null]) hx hb hts wsX90_in tyX9 tyX9_ok hown (htl _ (List.mem_of_getElem? (i := 3) rfl)) (htl _ (List.mem_of_getElem? (i := 4) rfl)) (htl _ (List.mem_of_getElem? (i := 5) rfl)) hG.1 hP hD hS hA rfl (fun j hj => by rcases (show j = 0 ∨ j = 1 ∨ j = 2 ∨ j = 3 ∨ j = 4 ∨ j = 5 ∨ j = 6 ∨ j = 7 ∨ j = 8 ∨ j = 9 ∨ j = 10 ∨ j = 11 ∨ j = 12 ∨ j = 13 ∨ j = 14 ∨ j = 15 ∨ j = 16 ∨ j = 17 ∨ j = 18 ∨ j = 19 ∨ j = 20 ∨ j = 21 ∨ j = 22 ∨ j = 23 ∨ j = 24 ∨ j = 25 ∨ j = 26 ∨ j = 27 ∨ j = 28 ∨ j = 29 ∨ j = 30 ∨ j = 31 ∨ j = 32 ∨ j = 33 ∨ j = 34 ∨ j = 35 ∨ j = 36 by omega) with rfl | rfl | rfl | rfl | rfl | rfl | rfl | rfl | rfl | rfl | rfl | rfl | rfl | rfl | rfl | rfl | rfl | rfl | rfl | rfl | rfl | rfl | rfl | rfl | rfl | rfl | rfl | rfl | rfl | rfl | rfl | rfl | rfl | rfl | rfl | rfl | rfl <;> first | rfl | decide) (Nat.le_of_ble_eq_true rfl) (Nat.le_of_ble_eq_true rfl) dL_law_8 (fun hm H hP hD hS => ?_)
  refine lv_dup hx hb dL_law_11 rfl ?_
  refine Ct.callI (As := []) (rest := [.ref hm]) (wr := []) ⟨hx, hb, hml, hown, htl⟩ (Ct.behind (wr := DX g hd AA (va_up (va_up (va_up (va_up (va_up (fun _ => 0) 7 (-1)) 40 (-1)) 41 (-1)) 42 (-1)) 43 (-1)) (va_up (fun _ _ => 0) 5 (va_up (va_up (va_up (va_up (va_up (fun _ => 0) 0 10) 1 20) 2 5) 3 10) 4 50)) (fun _ _ => 0) 0) (c_X9_init l g hm)) (cwI 0 htl gL_law_X9_init rfl rfl rfl (htl _ (List.mem_of_getElem? (i := 5) rfl)) (htl _ (List.mem_of_getElem? (i := 83) rfl)) (htl _ (List.mem_of_getElem? (i := 84) rfl)) rfl (by decide +kernel) ⟨Nat.le_of_ble_eq_true rfl, Nat.le_of_ble_eq_true rfl⟩) hG hP hD hS hA (List.range 34) [] rfl rfl (by decide) (by decide) (by decide) rfl hl.1 rfl (Nat.le_of_ble_eq_true rfl) dL_law_12 ⟨Nat.le_of_ble_eq_true rfl, Nat.le_of_ble_eq_true rfl⟩ rfl rfl (fun v w H locs hv hP hD hS => ?_)
  obtain ⟨w1, ⟨m0', m1', m2', m3', m4', m6', m7', m8', m9', m10', m11', m15', m20', m21', m22', m24', m25', m26', m27', m28', m29', m31', m32', m33', m34', m35', m36', kw', fl', rfl, hw, hkw, hfl⟩, rfl⟩ := hv
  have hwM : w1 = MX g hm (fun n => ([m0', m1', m2', m3', m4', 0, m6', m7', m8', m9', m10', m11', 0, 0, 0, m15', 0, 0, 0, 0, m20', m21', m22', 0, m24', m25', m26', m27', m28', m29', 0, m31', m32', m33', m34', m35', m36'] : List Nat).getD n 0) (va_up (fun _ => 0) 13 (-4)) (va_up (va_up (va_up (fun _ _ => 0) 0 kw') 33 fl') 11 (va_up (va_up (va_up (va_up (va_up (fun _ => 0) 0 10) 1 20) 2 5) 3 10) 4 50)) := hw
  clear hw
  generalize hAA : (fun n => ([m0', m1', m2', m3', m4', 0, m6', m7', m8', m9', m10', m11', 0, 0, 0, m15', 0, 0, 0, 0, m20', m21', m22', 0, m24', m25', m26', m27', m28', m29', 0, m31', m32', m33', m34', m35', m36'] : List Nat).getD n 0) = aa at hwM
  clear hAA
  subst hwM
  have eG : ([] ++ (DX g hd AA (va_up (va_up (va_up (va_up (va_up (fun _ => 0) 7 (-1)) 40 (-1)) 41 (-1)) 42 (-1)) 43 (-1)) (va_up (fun _ _ => 0) 5 (va_up (va_up (va_up (va_up (va_up (fun _ => 0) 0 10) 1 20) 2 5) 3 10) 4 50)) (fun _ _ => 0) 0 ++ MX g hm aa (va_up (fun _ => 0) 13 (-4)) (va_up (va_up (va_up (fun _ _ => 0) 0 kw') 33 fl') 11 (va_up (va_up (va_up (va_up (va_up (fun _ => 0) 0 10) 1 20) 2 5) 3 10) 4 50))) : va_W) = GW g hd hm AA (va_up (va_up (va_up (va_up (va_up (fun _ => 0) 7 (-1)) 40 (-1)) 41 (-1)) 42 (-1)) 43 (-1)) (va_up (fun _ _ => 0) 5 (va_up (va_up (va_up (va_up (va_up (fun _ => 0) 0 10) 1 20) 2 5) 3 10) 4 50)) (fun _ _ => 0) (fun _ _ => 0) (fun _ _ _ => 0) 0 aa (va_up (fun _ => 0) 13 (-4)) (va_up (va_up (va_up (fun _ _ => 0) 0 kw') 33 fl') 11 (va_up (va_up (va_up (va_up (va_up (fun _ => 0) 0 10) 1 20) 2 5) 3 10) 4 50)) := by
    unfold GW
    show _ = _ ++ (_ ++ [])
    rw [List.append_nil, List.nil_append]
  rw [eG] at hP hD
  show W p l e _ s m _ below meth c H locs _ _ _ (F0 m 15 ls [.ref hm])
  refine lv_astore_n (lv' := [(2, .ref hm), (1, .ref hd), (0, .ref b)]) hx hb dL_law_15 rfl hl (by decide) rfl (fun ls hl => ?_)
  refine lv_iconst (v := iI 0) hx hb dL_law_16 rfl ?_
  refine lv_istore_n (lv' := [(3, .int (iI 0)), (2, .ref hm), (1, .ref hd), (0, .ref b)]) hx hb dL_law_17 rfl hl (by decide) rfl (fun ls hl => ?_)
  refine W.widen (k := 100 + 2 * (0 + 0)) (n := 4000 + 50 * (0 + 0)) (Nat.le_of_ble_eq_true rfl) (Nat.le_of_ble_eq_true rfl) ?_
  exact law_loop C (L + 1) 0 (by omega) (by omega) AA _ _ _ _ _ 0 _ _ H locs ls (rel_start hkw hfl) hP hD hS hl
