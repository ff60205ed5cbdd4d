theorem kX9_isWay_9 : ∀ w ∈ u_ws RX9 TX9 37, w ∈ wsX9_isWay := fun _ h => List.mem_cons_of_mem _ (List.mem_append_right _ h)
abbrev q_X9_isWay (g : GT) (hm : Nat) (a : Nat → Nat) (i : Nat → Int) (fh : Nat → Int) (fg : Nat → Int) (fl : Nat → Int) (bz : Int) (hz : Int) (b : Nat) (h : Nat) : Option Value → va_W → Prop := fun v w => (v = some (.int (iI 1)) ∧ (ndn b (i 19).toNat = 0 ∧ b &&& h = 0 ∧ ∀ s, s < 8 → bitP b s → ndn (fl s).toNat (b ||| h) = 0) ∨ v = some (.int (iI 0)) ∧ ¬ (ndn b (i 19).toNat = 0 ∧ b &&& h = 0 ∧ ∀ s, s < 8 → bitP b s → ndn (fl s).toNat (b ||| h) = 0)) ∧ w = [(hm, .inr (9, mF a i)), ((a 20), aI (g.2.1 0) 8 fh), ((a 21), aI (g.2.1 0) 8 fg), ((a 22), aI (g.2.1 0) 8 fl)]
set_option maxHeartbeats 4000000 in
set_option maxRecDepth 100000 in
theorem c_X9_isWay (l : Launch) (g : GT) (hm : Nat) (a : Nat → Nat) (i : Nat → Int) (fh : Nat → Int) (fg : Nat → Int) (fl : Nat → Int) (bz : Int) (hz : Int) (b : Nat) (h : Nat) (h1 : bz = (b : Int) ∧ b < 256 ∧ hz = (h : Int) ∧ h < 256 ∧ 0 ≤ i 19 ∧ i 19 < 256) (hFl : ∀ j, j < 8 → 0 ≤ fl j ∧ fl j < 256) : Ct l g yX9_isWay wsX9_isWay ({ frames := 0, cells := 0, slots := 0, locals := 0 } : Room) [.ref hm, .int (iI bz), .int (iI hz)] [(hm, .inr (9, mF a i)), ((a 20), aI (g.2.1 0) 8 fh), ((a 21), aI (g.2.1 0) 8 fg), ((a 22), aI (g.2.1 0) 8 fl)] (q_X9_isWay g hm a i fh fg fl bz hz b h) := by
  refine Ct.intro (maxL := 5) (ret := (some .boolean)) (by decide) rfl (Nat.le_of_ble_eq_true rfl) ?_
  intro p e s m below meth c A ls hx hb hr hml hown hts hlocks hnm hA hG hP hD hS hl
  have hown : s.vm.findClass RX9 = some m.cls := hown
  have hl : lv_has ls 5 [(0, .ref hm), (1, .int (iI bz)), (2, .int (iI hz))] := hl
  have hP : va_P g.1 vwCl [(hm, .inr (9, mF a i)), ((a 20), aI (g.2.1 0) 8 fh), ((a 21), aI (g.2.1 0) 8 fg), ((a 22), aI (g.2.1 0) 8 fl)] s.heap := hP
  have hS : va_S A s.heap s.heap [] := hS
  obtain ⟨H, hHe⟩ : ∃ H : Heap, H = s.heap := ⟨_, rfl⟩
  obtain ⟨locs, hLe⟩ : ∃ L : List Loc, L = [] := ⟨_, rfl⟩
  have hP : va_P g.1 vwCl [(hm, .inr (9, mF a i)), ((a 20), aI (g.2.1 0) 8 fh), ((a 21), aI (g.2.1 0) 8 fg), ((a 22), aI (g.2.1 0) 8 fl)] H := by rw [hHe]; exact hP
  have hS : va_S A s.heap H locs := by rw [hHe, hLe]; exact hS
  suffices hgo : W p l e ({ frames := 0, cells := 0, slots := 0, locals := 0 } : Room) s m [.ref hm, .int (iI bz), .int (iI hz)].toArray below meth c H locs 0 0 (MQ below (CQ g (q_X9_isWay g hm a i fh fg fl bz hz b h) A) [.ref hm, .int (iI bz), .int (iI hz)].toArray s ({ frames := 0, cells := 0, slots := 0, locals := 0 } : Room).cells ({ frames := 0, cells := 0, slots := 0, locals := 0 } : Room).slots A) (F0 m 0 ls []) by rw [hHe, hLe] at hgo; exact hgo
  clear hHe hLe
  have hjoin22 : ∀ (zi : Int) (hzi : (zi = 1 ∧ ndn b (i 19).toNat = 0 ∧ b &&& h = 0) ∨ (zi = 0 ∧ ¬ (ndn b (i 19).toNat = 0 ∧ b &&& h = 0))), ∀ (H : Heap) (locs : List Loc) (ls : Array Slot), va_P g.1 vwCl [(hm, .inr (9, mF a i)), ((a 20), aI (g.2.1 0) 8 fh), ((a 21), aI (g.2.1 0) 8 fg), ((a 22), aI (g.2.1 0) 8 fl)] H → va_D A [(hm, .inr (9, mF a i)), ((a 20), aI (g.2.1 0) 8 fh), ((a 21), aI (g.2.1 0) 8 fg), ((a 22), aI (g.2.1 0) 8 fl)] → va_S A s.heap H locs → lv_has ls 5 [(0, .ref hm), (1, .int (iI bz)), (2, .int (iI hz))] → W p l e ({ frames := 0, cells := 0, slots := 0, locals := 0 } : Room) s m [.ref hm, .int (iI bz), .int (iI hz)].toArray below meth c H locs 0 0 (MQ below (CQ g (q_X9_isWay g hm a i fh fg fl bz hz b h) A) [.ref hm, .int (iI bz), .int (iI hz)].toArray s ({ frames := 0, cells := 0, slots := 0, locals := 0 } : Room).cells ({ frames := 0, cells := 0, slots := 0, locals := 0 } : Room).slots A) (F0 m 22 ls [.int (iI zi)]) := by
    intro zi hzi H locs ls hP hD hS hl
    refine lv_istore_n (lv' := [(3, .int (iI zi)), (0, .ref hm), (1, .int (iI bz)), (2, .int (iI hz))]) hx hb dX9_isWay_22 rfl hl (by decide) rfl (fun ls hl => ?_)
    refine lv_iconst (v := iI (0)) hx hb dX9_isWay_23 rfl ?_
    refine lv_istore (lv' := [(4, .int (iI 0)), (3, .int (iI zi)), (0, .ref hm), (1, .int (iI bz)), (2, .int (iI hz))]) hx hb dX9_isWay_24 hl (by decide) rfl (fun ls hl => ?_)
    have hloop26 : ∀ (fuel : Nat) (is_ : Int) (zj : Int) (j : Nat) (hc : zj = (j : Int) ∧ j ≤ 8) (he : (is_ = 1 ∧ (ndn b (i 19).toNat = 0 ∧ b &&& h = 0 ∧ ∀ s, s < j → bitP b s → ndn (fl s).toNat (b ||| h) = 0)) ∨ (is_ = 0 ∧ ¬ (ndn b (i 19).toNat = 0 ∧ b &&& h = 0 ∧ ∀ s, s < j → bitP b s → ndn (fl s).toNat (b ||| h) = 0))) (hmeas : 8 - j < fuel), ∀ (H : Heap) (locs : List Loc) (ls : Array Slot), va_P g.1 vwCl [(hm, .inr (9, mF a i)), ((a 20), aI (g.2.1 0) 8 fh), ((a 21), aI (g.2.1 0) 8 fg), ((a 22), aI (g.2.1 0) 8 fl)] H → va_D A [(hm, .inr (9, mF a i)), ((a 20), aI (g.2.1 0) 8 fh), ((a 21), aI (g.2.1 0) 8 fg), ((a 22), aI (g.2.1 0) 8 fl)] → va_S A s.heap H locs → lv_has ls 5 [(4, .int (iI zj)), (3, .int (iI is_)), (0, .ref hm), (1, .int (iI bz)), (2, .int (iI hz))] → W p l e ({ frames := 0, cells := 0, slots := 0, locals := 0 } : Room) s m [.ref hm, .int (iI bz), .int (iI hz)].toArray below meth c H locs 0 0 (MQ below (CQ g (q_X9_isWay g hm a i fh fg fl bz hz b h) A) [.ref hm, .int (iI bz), .int (iI hz)].toArray s ({ frames := 0, cells := 0, slots := 0, locals := 0 } : Room).cells ({ frames := 0, cells := 0, slots := 0, locals := 0 } : Room).slots A) (F0 m 26 ls []) := by
      intro fuel
      induction fuel with
      | zero => intro is_ zj j hc he hmeas; exact absurd hmeas (Nat.not_lt_zero _)
      | succ fuel ih26 =>
        intro is_ zj j hc he hmeas H locs ls hP hD hS hl
        refine lv_iload hx hb dX9_isWay_26 (lv_at hl 0 rfl) ?_
        refine lv_bipush (v := iI (8)) hx hb dX9_isWay_28 (by decide) ?_
        refine iv_icmp_ge (tgt := 74) hx hb dX9_isWay_30 (by decide) (by omega) (fun hc1 => ?_) (fun hc1 => ?_)
        · rw [show j = 8 from by omega] at he
          refine lv_iload_n hx hb dX9_isWay_74 rfl (lv_at hl 1 rfl) ?_
          exact Ct.zret hx hb hr hlocks (hP.sub [0, 1, 2, 3] rfl) (hD.sub [0, 1, 2, 3] (by decide) rfl) hS ⟨by decide, by decide⟩ dX9_isWay_75 (by rcases he with ⟨z1, _⟩ | ⟨z1, _⟩ <;> rw [z1] <;> decide) ⟨(by rcases he with ⟨z1, z2⟩ | ⟨z1, z2⟩; exact Or.inl ⟨by rw [z1], z2⟩; exact Or.inr ⟨by rw [z1], z2⟩), rfl⟩
        · have hq := sh_rng j (z := (b : Int)) (by omega)
          have hqj := hFl j (by omega)
          have stepT : (ndn b (i 19).toNat = 0 ∧ b &&& h = 0 ∧ ∀ s, s < j → bitP b s → ndn (fl s).toNat (b ||| h) = 0) → (bitP b j → ndn (fl j).toNat (b ||| h) = 0) → (ndn b (i 19).toNat = 0 ∧ b &&& h = 0 ∧ ∀ s, s < (j + 1) → bitP b s → ndn (fl s).toNat (b ||| h) = 0) := fun z1 z2 => ⟨z1.1, z1.2.1, fun s hs hbs => if q : s = j then (by subst q; exact z2 hbs) else z1.2.2 s (by omega) hbs⟩
          have stepF : (ndn b (i 19).toNat = 0 ∧ b &&& h = 0 ∧ ∀ s, s < (j + 1) → bitP b s → ndn (fl s).toNat (b ||| h) = 0) → (ndn b (i 19).toNat = 0 ∧ b &&& h = 0 ∧ ∀ s, s < j → bitP b s → ndn (fl s).toNat (b ||| h) = 0) := fun z1 => ⟨z1.1, z1.2.1, fun s hs hbs => z1.2.2 s (by omega) hbs⟩
          have i01 : is_ = 0 ∨ is_ = 1 := by rcases he with ⟨z, _⟩ | ⟨z, _⟩; exact Or.inr z; exact Or.inl z
          have isT : ¬ is_ = 0 → (ndn b (i 19).toNat = 0 ∧ b &&& h = 0 ∧ ∀ s, s < j → bitP b s → ndn (fl s).toNat (b ||| h) = 0) := fun z => by rcases he with ⟨_, z2⟩ | ⟨z2, _⟩; exact z2; exact absurd z2 z
          have isF : is_ = 0 → ¬ (ndn b (i 19).toNat = 0 ∧ b &&& h = 0 ∧ ∀ s, s < j → bitP b s → ndn (fl s).toNat (b ||| h) = 0) := fun z => by rcases he with ⟨z2, _⟩ | ⟨_, z2⟩; exact absurd z2 (by omega); exact z2
          have hjoin67 : ∀ (zn : Int) (hzn : (zn = 1 ∧ (ndn b (i 19).toNat = 0 ∧ b &&& h = 0 ∧ ∀ s, s < (j + 1) → bitP b s → ndn (fl s).toNat (b ||| h) = 0)) ∨ (zn = 0 ∧ ¬ (ndn b (i 19).toNat = 0 ∧ b &&& h = 0 ∧ ∀ s, s < (j + 1) → bitP b s → ndn (fl s).toNat (b ||| h) = 0))), ∀ (H : Heap) (locs : List Loc) (ls : Array Slot), va_P g.1 vwCl [(hm, .inr (9, mF a i)), ((a 20), aI (g.2.1 0) 8 fh), ((a 21), aI (g.2.1 0) 8 fg), ((a 22), aI (g.2.1 0) 8 fl)] H → va_D A [(hm, .inr (9, mF a i)), ((a 20), aI (g.2.1 0) 8 fh), ((a 21), aI (g.2.1 0) 8 fg), ((a 22), aI (g.2.1 0) 8 fl)] → va_S A s.heap H locs → lv_has ls 5 [(4, .int (iI zj)), (3, .int (iI is_)), (0, .ref hm), (1, .int (iI bz)), (2, .int (iI hz))] → W p l e ({ frames := 0, cells := 0, slots := 0, locals := 0 } : Room) s m [.ref hm, .int (iI bz), .int (iI hz)].toArray below meth c H locs 0 0 (MQ below (CQ g (q_X9_isWay g hm a i fh fg fl bz hz b h) A) [.ref hm, .int (iI bz), .int (iI hz)].toArray s ({ frames := 0, cells := 0, slots := 0, locals := 0 } : Room).cells ({ frames := 0, cells := 0, slots := 0, locals := 0 } : Room).slots A) (F0 m 67 ls [.int (iI zn)]) := by
            intro zn hzn H locs ls hP hD hS hl
            refine lv_istore_n (lv' := [(3, .int (iI zn)), (4, .int (iI zj)), (0, .ref hm), (1, .int (iI bz)), (2, .int (iI hz))]) hx hb dX9_isWay_67 rfl hl (by decide) rfl (fun ls hl => ?_)
            refine iv_iinc (k := 1) (x := zj) (lv' := [(4, .int (iI (zj + 1))), (3, .int (iI zn)), (0, .ref hm), (1, .int (iI bz)), (2, .int (iI hz))]) hx hb dX9_isWay_68 hl rfl (by decide) rfl (fun ls hl => ?_)
            refine lv_goto (tgt := 26) hx hb dX9_isWay_71 (by decide) ?_
            exact ih26 zn (zj + 1) (j + 1) (by omega) (hzn) (by omega) H locs ls (hP.sub [0, 1, 2, 3] rfl) (hD.sub [0, 1, 2, 3] (by decide) rfl) hS (lv_sub hl [0, 1, 2, 3, 4] rfl)
          refine lv_iload_n hx hb dX9_isWay_33 rfl (lv_at hl 1 rfl) ?_
          refine iv_if_eq (tgt := 66) hx hb dX9_isWay_34 (by decide) (by omega) (fun hc2 => ?_) (fun hc2 => ?_)
          · have hzz : (0 : Int) = 0 ∧ ¬ (ndn b (i 19).toNat = 0 ∧ b &&& h = 0 ∧ ∀ s, s < (j + 1) → bitP b s → ndn (fl s).toNat (b ||| h) = 0) := ⟨rfl, fun z => isF hc2 (stepF z)⟩
            refine lv_iconst (v := iI (0)) hx hb dX9_isWay_66 rfl ?_
            exact hjoin67 0 (by first | exact Or.inl hyy | exact Or.inr hzz) H locs ls (hP.sub [0, 1, 2, 3] rfl) (hD.sub [0, 1, 2, 3] (by decide) rfl) hS (lv_sub hl [0, 1, 2, 3, 4] rfl)
          · have hQj := isT hc2
            refine lv_iload_n hx hb dX9_isWay_37 rfl (lv_at hl 3 rfl) ?_
            refine lv_iload hx hb dX9_isWay_38 (lv_at hl 0 rfl) ?_
            refine iv_ishr hx hb dX9_isWay_40 (by omega) ?_
            refine iv_as ((b : Int) / 2 ^ j) (by rw [show zj.toNat = j from by omega, h1.1]) ?_
            refine lv_iconst (v := iI (1)) hx hb dX9_isWay_41 rfl ?_
            refine iv_and1 hx hb dX9_isWay_42 (by omega) ?_
            refine iv_if_eq (tgt := 62) hx hb dX9_isWay_43 (by decide) (by omega) (fun hc3 => ?_) (fun hc3 => ?_)
            · have hyy : (1 : Int) = 1 ∧ (ndn b (i 19).toNat = 0 ∧ b &&& h = 0 ∧ ∀ s, s < (j + 1) → bitP b s → ndn (fl s).toNat (b ||| h) = 0) := ⟨rfl, stepT hQj (fun z => absurd z (by omega))⟩
              refine lv_iconst (v := iI (1)) hx hb dX9_isWay_62 rfl ?_
              refine lv_goto (tgt := 67) hx hb dX9_isWay_63 (by decide) ?_
              exact hjoin67 1 (by first | exact Or.inl hyy | exact Or.inr hzz) H locs ls (hP.sub [0, 1, 2, 3] rfl) (hD.sub [0, 1, 2, 3] (by decide) rfl) hS (lv_sub hl [0, 1, 2, 3, 4] rfl)
            · have hbj : bitP b j := by omega
              refine lv_aload_n hx hb dX9_isWay_46 rfl (lv_at hl 2 rfl) ?_
              refine va_get (D := g.1) (ci := 9) (v := .ref (a 22)) hx hb hts kX9_isWay_9 hown hG.1 hP 0 rfl rfl 22 (by decide) (hts _ (List.mem_of_getElem? (i := 2) rfl)) (fun _ h9 => h9) rfl dX9_isWay_47 ?_
              refine lv_iload hx hb dX9_isWay_50 (lv_at hl 0 rfl) ?_
              refine iv_iald hx hb hG hP 3 rfl j (by omega) (by omega) (by decide) dX9_isWay_52 ?_
              refine lv_iload_n hx hb dX9_isWay_53 rfl (lv_at hl 3 rfl) ?_
              refine lv_iload_n hx hb dX9_isWay_54 rfl (lv_at hl 4 rfl) ?_
              refine iv_ior (z := ((b ||| h : Nat) : Int)) hx hb dX9_isWay_55 (by rw [h1.1, h1.2.2.1]; exact iI_orN b h) ?_
              refine lv_iconst (v := iI (-1)) hx hb dX9_isWay_56 rfl ?_
              refine lv_ixor hx hb dX9_isWay_57 ?_
              refine lv_iand hx hb dX9_isWay_58 ?_
              rw [iI_ndnF _ (show 0 ≤ fl j ∧ fl j < 256 by omega)]
              have hnl := ndn_lt (m := b ||| h) (show (fl j).toNat < 256 by omega)
              refine iv_if_ne (tgt := 66) hx hb dX9_isWay_59 (by decide) (by omega) (fun hc4 => ?_) (fun hc4 => ?_)
              · have hzz : (0 : Int) = 0 ∧ ¬ (ndn b (i 19).toNat = 0 ∧ b &&& h = 0 ∧ ∀ s, s < (j + 1) → bitP b s → ndn (fl s).toNat (b ||| h) = 0) := ⟨rfl, fun z => absurd (z.2.2 j (by omega) hbj) (by omega)⟩
                refine lv_iconst (v := iI (0)) hx hb dX9_isWay_66 rfl ?_
                exact hjoin67 0 (by first | exact Or.inl hyy | exact Or.inr hzz) H locs ls (hP.sub [0, 1, 2, 3] rfl) (hD.sub [0, 1, 2, 3] (by decide) rfl) hS (lv_sub hl [0, 1, 2, 3, 4] rfl)
              · have hyy : (1 : Int) = 1 ∧ (ndn b (i 19).toNat = 0 ∧ b &&& h = 0 ∧ ∀ s, s < (j + 1) → bitP b s → ndn (fl s).toNat (b ||| h) = 0) := ⟨rfl, stepT hQj (fun _ => by omega)⟩
                refine lv_iconst (v := iI (1)) hx hb dX9_isWay_62 rfl ?_
                refine lv_goto (tgt := 67) hx hb dX9_isWay_63 (by decide) ?_
                exact hjoin67 1 (by first | exact Or.inl hyy | exact Or.inr hzz) H locs ls (hP.sub [0, 1, 2, 3] rfl) (hD.sub [0, 1, 2, 3] (by decide) rfl) hS (lv_sub hl [0, 1, 2, 3, 4] rfl)
    exact hloop26 _ zi 0 0 (by omega) (by rcases hzi with ⟨z1, z2, z3⟩ | ⟨z1, z2⟩; exact Or.inl ⟨z1, z2, z3, fun s hs => absurd hs (Nat.not_lt_zero s)⟩; exact Or.inr ⟨z1, fun z3 => z2 ⟨z3.1, z3.2.1⟩⟩) (Nat.lt_succ_self _) H locs ls (hP.sub [0, 1, 2, 3] rfl) (hD.sub [0, 1, 2, 3] (by decide) rfl) hS (lv_sub hl [0, 1, 2, 3, 4] rfl)
  refine lv_iload_n hx hb dX9_isWay_0 rfl (lv_at hl 1 rfl) ?_
  refine lv_aload_n hx hb dX9_isWay_1 rfl (lv_at hl 0 rfl) ?_
  refine va_get (D := g.1) (ci := 9) (v := .int (iI (i 19))) hx hb hts kX9_isWay_9 hown hG.1 hP 0 rfl rfl 19 (by decide) (hts _ (List.mem_of_getElem? (i := 1) rfl)) (fun _ h9 => h9) rfl dX9_isWay_2 ?_
  refine lv_iconst (v := iI (-1)) hx hb dX9_isWay_5 rfl ?_
  refine lv_ixor hx hb dX9_isWay_6 ?_
  refine lv_iand hx hb dX9_isWay_7 ?_
  rw [show iI bz &&& (iI (i 19) ^^^ iI (-1)) = iI ((ndn b (i 19).toNat : Nat) : Int) from by rw [h1.1, show i 19 = (((i 19).toNat : Nat) : Int) from by omega]; exact iI_ndn _ h1.2.1]
  have hnl1 := ndn_lt (m := (i 19).toNat) h1.2.1
  refine iv_if_ne (tgt := 21) hx hb dX9_isWay_8 (by decide) (by omega) (fun hc5 => ?_) (fun hc5 => ?_)
  · refine lv_iconst (v := iI (0)) hx hb dX9_isWay_21 rfl ?_
    exact hjoin22 0 (by omega) H locs ls (hP.sub [0, 1, 2, 3] rfl) (hD.sub [0, 1, 2, 3] (by decide) rfl) hS (lv_sub hl [0, 1, 2] rfl)
  · refine lv_iload_n hx hb dX9_isWay_11 rfl (lv_at hl 1 rfl) ?_
    refine lv_iload_n hx hb dX9_isWay_12 rfl (lv_at hl 2 rfl) ?_
    refine iv_iand (z := ((b &&& h : Nat) : Int)) hx hb dX9_isWay_13 (by rw [h1.1, h1.2.2.1]; exact iI_andN b h) ?_
    have hanl : b &&& h ≤ h := Nat.and_le_right
    refine iv_if_ne (tgt := 21) hx hb dX9_isWay_14 (by decide) (by omega) (fun hc6 => ?_) (fun hc6 => ?_)
    · refine lv_iconst (v := iI (0)) hx hb dX9_isWay_21 rfl ?_
      exact hjoin22 0 (by omega) H locs ls (hP.sub [0, 1, 2, 3] rfl) (hD.sub [0, 1, 2, 3] (by decide) rfl) hS (lv_sub hl [0, 1, 2] rfl)
    · refine lv_iconst (v := iI (1)) hx hb dX9_isWay_17 rfl ?_
      refine lv_goto (tgt := 22) hx hb dX9_isWay_18 (by decide) ?_
      exact hjoin22 1 (by omega) H locs ls (hP.sub [0, 1, 2, 3] rfl) (hD.sub [0, 1, 2, 3] (by decide) rfl) hS (lv_sub hl [0, 1, 2] rfl)
