theorem rd_bad {t : Nat → Int} {L f k p : Nat} {S : CST} (h : ¬ (clF t L S.1 p).1 = 1) : rdF t L (f + 1) k p S = (-20 - ((clF t L S.1 p).2.1 : Int), S) := by
  unfold rdF
  rw [if_pos h]
theorem rd_fin {t : Nat → Int} {L f k p : Nat} {S : CST} (h : (clF t L S.1 p).1 = 1) (h1 : ¬ (sk t L (clF t L S.1 p).2.1 < L ∧ t (sk t L (clF t L S.1 p).2.1) = 59) ∨ k = 8) : (rdF t L (f + 1) k p S).2 = clS t L S p ∧ (rdF t L (f + 1) k p S).1 = (if sk t L (clF t L S.1 p).2.1 < L then -20 - (sk t L (clF t L S.1 p).2.1 : Int) else (k : Int)) := by
  unfold rdF
  rw [if_neg (fun z => z h)]
  by_cases z : sk t L (clF t L S.1 p).2.1 < L
  · rw [if_neg (fun y => y z), if_pos (show k = 8 ∨ ¬ t (sk t L (clF t L S.1 p).2.1) = 59 by rcases h1 with h1 | h1; exact Or.inr (fun y => h1 ⟨z, y⟩); exact Or.inl h1), if_pos z]
    exact ⟨rfl, rfl⟩
  · rw [if_pos z, if_neg z]
    exact ⟨rfl, rfl⟩
theorem rd_more {t : Nat → Int} {L f k p : Nat} {S : CST} (h : (clF t L S.1 p).1 = 1) (h1 : sk t L (clF t L S.1 p).2.1 < L ∧ t (sk t L (clF t L S.1 p).2.1) = 59) (h2 : ¬ k = 8) : rdF t L (f + 1) k p S = rdF t L f (k + 1) (sk t L (clF t L S.1 p).2.1 + 1) (clS t L S p) := by
  conv => lhs; unfold rdF
  rw [if_neg (fun z => z h), if_neg (fun z => z h1.1), if_neg (fun z => by omega)]
theorem hsM_bit (n s : Nat) : 0 < hsM (n : Int) s ↔ n.testBit s = true := by
  have e : hsM (n : Int) s = ((n / 2 ^ s % 2 : Nat) : Int) := by
    unfold hsM
    rw [show ((2 : Int) ^ s) = ((2 ^ s : Nat) : Int) from by simp, ← Int.natCast_ediv]
    rfl
  rw [e, Nat.testBit_eq_decide_div_mod_eq, decide_eq_true_iff]
  omega
def RelS (rb : Int) (rh rg rl : Nat → Int) (S : CST) : Prop := (0 ≤ rb ∧ rb < 256) ∧ ∀ s, s < 8 → (0 < hsM rb s ↔ 0 < S.1 s) ∧ (0 < S.1 s → rh s = S.1 s ∧ rg s = S.2.1 s ∧ rl s = S.2.2 s)
theorem RelS.zero (rh rg rl : Nat → Int) : RelS 0 rh rg rl (fun _ => 0, fun _ => 0, fun _ => 0) := by
  refine ⟨by omega, fun s _ => ⟨⟨fun z => ?_, fun z => absurd z (by simp)⟩, fun z => absurd z (by simp)⟩⟩
  have := (hsM_bit 0 s).mp z
  rw [Nat.zero_testBit] at this
  cases this
theorem RelS.cl {rb : Int} {rh rg rl : Nat → Int} {S : CST} (h : RelS rb rh rg rl S) (t : Nat → Int) (L p : Nat) : clF t L (hsM rb) p = clF t L S.1 p := clF_congr t L (fun s hs => (h.2 s hs).1) p
theorem RelS.step {rb : Int} {rh rg rl : Nat → Int} {S : CST} {t : Nat → Int} {L p : Nat} (h : RelS rb rh rg rl S) (hp : p ≤ L) (h1 : (clF t L S.1 p).1 = 1) : RelS (((rb.toNat ||| 2 ^ (clF t L S.1 p).2.2.1 : Nat) : Int)) (va_up rh (clF t L S.1 p).2.2.1 (clF t L S.1 p).2.2.2.1) (va_up rg (clF t L S.1 p).2.2.1 (clF t L S.1 p).2.2.2.2.1) (va_up rl (clF t L S.1 p).2.2.1 (((clF t L S.1 p).2.2.2.2.2 : Nat) : Int)) (clS t L S p) := by
  obtain ⟨c1, c2, c3, c4, c5⟩ := (clF_rng t L S.1 p hp).2.2 h1
  have hl := or_lt8 (b := rb.toNat) (by have := h.1; omega) c1
  refine ⟨by omega, fun s hs => ?_⟩
  have q := h.2 s hs
  have e1 : 0 < hsM rb s ↔ rb.toNat.testBit s = true := by
    rw [← hsM_bit, show ((rb.toNat : Nat) : Int) = rb from by have := h.1; omega]
  rw [hsM_bit, Nat.testBit_or, Nat.testBit_two_pow]
  by_cases e : s = (clF t L S.1 p).2.2.1
  · subst e
    unfold clS
    simp only [up_s, Bool.or_eq_true, decide_eq_true_iff]
    exact ⟨⟨fun _ => by omega, fun _ => Or.inr trivial⟩, fun _ => ⟨trivial, trivial, trivial⟩⟩
  · unfold clS
    simp only [up_n _ _ _ _ e, Bool.or_eq_true, decide_eq_true_iff]
    refine ⟨⟨fun z => ?_, fun z => Or.inl (e1.mp (q.1.mpr z))⟩, q.2⟩
    rcases z with z | z
    · exact q.1.mp (e1.mpr z)
    · exact absurd z.symm e
abbrev SKF (t : Nat → Int) (L : Nat) (RD : Int × CST) (g1 g2 g3 : Nat → Int) (i17 i18 i23 n : Int) : Prop := (i18 = 1 ∧ ∃ q9 : Nat, q9 ≤ L ∧ i17 = (q9 : Int) ∧ RD.1 = -20 - (q9 : Int)) ∨ (i18 = 0 ∧ ∃ q9 : Nat, q9 ≤ L ∧ i17 = (q9 : Int) ∧ RelS i23 g1 g2 g3 RD.2 ∧ (1 ≤ n ∧ n ≤ 8) ∧ RD.1 = (if sk t L q9 < L then -20 - (sk t L q9 : Int) else n))
def SkF (t : Nat → Int) (L : Nat) (RD : Int × CST) (g1 g2 g3 : Nat → Int) (i17 i18 i23 n : Int) : Prop := SKF t L RD g1 g2 g3 i17 i18 i23 n
