theorem clF_0 {t : Nat → Int} {L q : Nat} {hs : Nat → Int} (h : ¬ (ltP t L q ∧ ¬ 0 < hs (ltS t L q))) : clF t L hs q = (0, sk t L q, 0, 0, 0, 0) := by
  unfold clF
  rw [if_pos h]
theorem clF_1 {t : Nat → Int} {L q : Nat} {hs : Nat → Int} (h : ltP t L q ∧ ¬ 0 < hs (ltS t L q)) (h1 : ¬ psP t L 61 (cA t L q)) : clF t L hs q = (0, sk t L (cA t L q), 0, 0, 0, 0) := by
  unfold clF
  rw [if_neg (show ¬ ¬ (ltP t L q ∧ ¬ 0 < hs (ltS t L q)) from fun z => z h), if_pos h1]
theorem clF_2 {t : Nat → Int} {L q : Nat} {hs : Nat → Int} (h : ltP t L q ∧ ¬ 0 < hs (ltS t L q)) (h1 : psP t L 61 (cA t L q)) (h2 : ¬ nuP t L 1 20 (cB t L q)) : clF t L hs q = (0, sk t L (cB t L q), 0, 0, 0, 0) := by
  unfold clF
  rw [if_neg (show ¬ ¬ (ltP t L q ∧ ¬ 0 < hs (ltS t L q)) from fun z => z h), if_neg (show ¬ ¬ psP t L 61 (cA t L q) from fun z => z h1), if_pos h2]
theorem clF_3 {t : Nat → Int} {L q : Nat} {hs : Nat → Int} (h : ltP t L q ∧ ¬ 0 < hs (ltS t L q)) (h1 : psP t L 61 (cA t L q)) (h2 : nuP t L 1 20 (cB t L q)) (h3 : ¬ psP t L 47 (cC t L q)) : clF t L hs q = (0, sk t L (cC t L q), 0, 0, 0, 0) := by
  unfold clF
  rw [if_neg (show ¬ ¬ (ltP t L q ∧ ¬ 0 < hs (ltS t L q)) from fun z => z h), if_neg (show ¬ ¬ psP t L 61 (cA t L q) from fun z => z h1), if_neg (show ¬ ¬ nuP t L 1 20 (cB t L q) from fun z => z h2), if_pos h3]
theorem clF_4 {t : Nat → Int} {L q : Nat} {hs : Nat → Int} (h : ltP t L q ∧ ¬ 0 < hs (ltS t L q)) (h1 : psP t L 61 (cA t L q)) (h2 : nuP t L 1 20 (cB t L q)) (h3 : psP t L 47 (cC t L q)) (h4 : ¬ nuP t L 0 99 (cD t L q)) : clF t L hs q = (0, sk t L (cD t L q), 0, 0, 0, 0) := by
  unfold clF
  rw [if_neg (show ¬ ¬ (ltP t L q ∧ ¬ 0 < hs (ltS t L q)) from fun z => z h), if_neg (show ¬ ¬ psP t L 61 (cA t L q) from fun z => z h1), if_neg (show ¬ ¬ nuP t L 1 20 (cB t L q) from fun z => z h2), if_neg (show ¬ ¬ psP t L 47 (cC t L q) from fun z => z h3), if_pos h4]
theorem clF_5 {t : Nat → Int} {L q : Nat} {hs : Nat → Int} (h : ltP t L q ∧ ¬ 0 < hs (ltS t L q)) (h1 : psP t L 61 (cA t L q)) (h2 : nuP t L 1 20 (cB t L q)) (h3 : psP t L 47 (cC t L q)) (h4 : nuP t L 0 99 (cD t L q)) (h5 : ¬ psP t L 58 (cE t L q)) : clF t L hs q = (1, sk t L (cE t L q), ltS t L q, nuV t L (cB t L q), nuV t L (cD t L q), 0) := by
  unfold clF
  rw [if_neg (show ¬ ¬ (ltP t L q ∧ ¬ 0 < hs (ltS t L q)) from fun z => z h), if_neg (show ¬ ¬ psP t L 61 (cA t L q) from fun z => z h1), if_neg (show ¬ ¬ nuP t L 1 20 (cB t L q) from fun z => z h2), if_neg (show ¬ ¬ psP t L 47 (cC t L q) from fun z => z h3), if_neg (show ¬ ¬ nuP t L 0 99 (cD t L q) from fun z => z h4), if_pos h5]
theorem clF_6 {t : Nat → Int} {L q : Nat} {hs : Nat → Int} (h : ltP t L q ∧ ¬ 0 < hs (ltS t L q)) (h1 : psP t L 61 (cA t L q)) (h2 : nuP t L 1 20 (cB t L q)) (h3 : psP t L 47 (cC t L q)) (h4 : nuP t L 0 99 (cD t L q)) (h5 : psP t L 58 (cE t L q)) : clF t L hs q = ((lnF t L hs 100 (cG t L q) 0).1, (lnF t L hs 100 (cG t L q) 0).2.1, ltS t L q, nuV t L (cB t L q), nuV t L (cD t L q), (lnF t L hs 100 (cG t L q) 0).2.2) := by
  unfold clF
  rw [if_neg (show ¬ ¬ (ltP t L q ∧ ¬ 0 < hs (ltS t L q)) from fun z => z h), if_neg (show ¬ ¬ psP t L 61 (cA t L q) from fun z => z h1), if_neg (show ¬ ¬ nuP t L 1 20 (cB t L q) from fun z => z h2), if_neg (show ¬ ¬ psP t L 47 (cC t L q) from fun z => z h3), if_neg (show ¬ ¬ nuP t L 0 99 (cD t L q) from fun z => z h4), if_neg (show ¬ ¬ psP t L 58 (cE t L q) from fun z => z h5)]
theorem or_lt8 {b s : Nat} (h : b < 256) (h1 : s < 8) : b ||| 2 ^ s < 256 := by
  have : b ||| 2 ^ s < 2 ^ 8 := Nat.or_lt_two_pow h (Nat.pow_lt_pow_right (by omega) h1)
  exact this
abbrev q_X0_clearZ (g : GT) (co ch cg_ cl : Nat) : Option Value → va_W → Prop := fun v w => v = none ∧ w = [(co, .inr (0, [.ref ch, .ref cg_, .ref cl])), (ch, aI (g.2.1 0) 8 (fun _ => 0)), (cg_, aI (g.2.1 0) 8 (fun _ => 0)), (cl, aI (g.2.1 0) 8 (fun _ => 0))]
theorem c_X0_clearZ (l : Launch) (g : GT) (co : Nat) (ch : Nat) (cg_ : Nat) (cl : Nat) (fh : Nat → Int) (fg : Nat → Int) (fl : Nat → Int) : Ct l g yX0_clear wsX0_clear ({ frames := 0, cells := 0, slots := 0, locals := 0 } : Room) [.ref co] [(co, .inr (0, [.ref ch, .ref cg_, .ref cl])), (ch, aI (g.2.1 0) 8 fh), (cg_, aI (g.2.1 0) 8 fg), (cl, aI (g.2.1 0) 8 fl)] (q_X0_clearZ g co ch cg_ cl) :=
  Ct.frame (wr := []) (c_X0_clear l g co ch cg_ cl fh fg fl) (List.Perm.refl _) (fun v w ⟨_, _, _, hv, hw, he⟩ => ⟨_, WI.we (by rw [hw]; exact WE.same (WE.arr (fun j hj => (he j hj).1) (WE.arr (fun j hj => (he j hj).2.1) (WE.arr (fun j hj => (he j hj).2.2) (WE.rf []))))), hv, rfl⟩)
abbrev q_X2_forgetZ (g : GT) (me al ak ah : Nat) : Option Value → va_W → Prop := fun v w => v = none ∧ w = [(me, .inr (2, [.ref al, .ref ak, .ref ah])), (al, aI (g.2.1 0) 8 (fun _ => -1)), (ak, aI (g.2.1 1) 8 (fun _ => 0)), (ah, aI (g.2.1 0) 8 (fun _ => 8))]
theorem c_X2_forgetZ (l : Launch) (g : GT) (me : Nat) (al : Nat) (ak : Nat) (ah : Nat) (lt : Nat → Int) (kn : Nat → Int) (hf : Nat → Int) : Ct l g yX2_forget wsX2_forget ({ frames := 0, cells := 0, slots := 0, locals := 0 } : Room) [.ref me] [(me, .inr (2, [.ref al, .ref ak, .ref ah])), (al, aI (g.2.1 0) 8 lt), (ak, aI (g.2.1 1) 8 kn), (ah, aI (g.2.1 0) 8 hf)] (q_X2_forgetZ g me al ak ah) :=
  Ct.frame (wr := []) (c_X2_forget l g me al ak ah lt kn hf) (List.Perm.refl _) (fun v w ⟨_, _, _, hv, hw, he⟩ => ⟨_, WI.we (by rw [hw]; exact WE.same (WE.arr (fun j hj => (he j hj).1) (WE.arr (fun j hj => (he j hj).2.1) (WE.arr (fun j hj => (he j hj).2.2) (WE.rf []))))), hv, rfl⟩)
theorem sk_sk (t : Nat → Int) {L p : Nat} (h : p ≤ L) : sk t L (sk t L p) = sk t L p := by
  have key : ∀ f p, p + f = L → skF t f p < L → ¬ t (skF t f p) = 32 := by
    intro f
    induction f with
    | zero => intro p h1 h2; simp only [skF] at h2; omega
    | succ f ih =>
      intro p h1
      unfold skF
      split
      · exact ih (p + 1) (by omega)
      · intro _; assumption
  by_cases z : sk t L p < L
  · exact sk_stop t (key (L - p) p (by omega) z)
  · exact sk_end t (by omega)
