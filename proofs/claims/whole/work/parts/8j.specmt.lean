/-! the model's reading of the tape -/
def hsM (rb : Int) (s : Nat) : Int := rb / 2 ^ s % 2
theorem hsM_01 {rb : Int} (s : Nat) : hsM rb s = 0 ∨ hsM rb s = 1 := by unfold hsM; omega
theorem dgE_0 {t : Nat → Int} {L p : Nat} (h : ¬ (p < L ∧ 48 ≤ t p ∧ t p ≤ 57)) : dgE t (L - p) p = p := by
  cases e : L - p with
  | zero => rfl
  | succ f => unfold dgE; rw [if_neg (by omega)]
theorem dvF_0 {t : Nat → Int} {L p : Nat} {v : Int} (h : ¬ (p < L ∧ 48 ≤ t p ∧ t p ≤ 57)) : dvF t (L - p) p v = v := by
  cases e : L - p with
  | zero => rfl
  | succ f => unfold dvF; rw [if_neg (by omega)]
theorem dgE_1 {t : Nat → Int} {L p : Nat} (h : p < L ∧ 48 ≤ t p ∧ t p ≤ 57) : dgE t (L - (p + 1)) (p + 1) = dgE t (L - p) p := by
  rw [show L - p = (L - (p + 1)) + 1 from by omega]
  show _ = dgE t (L - (p + 1) + 1) p
  simp only [dgE]
  rw [if_pos h.2]
theorem dvF_1 {t : Nat → Int} {L p : Nat} {v : Int} (h : p < L ∧ 48 ≤ t p ∧ t p ≤ 57) : dvF t (L - (p + 1)) (p + 1) (min 10000 (10 * v + t p - 48)) = dvF t (L - p) p v := by
  rw [show L - p = (L - (p + 1)) + 1 from by omega]
  show _ = dvF t (L - (p + 1) + 1) p v
  simp only [dvF]
  rw [if_pos h.2]
abbrev RgR (rh rg rl : Nat → Int) : Prop := ∀ j, j < 8 → (0 ≤ rh j ∧ rh j ≤ 100000) ∧ (0 ≤ rg j ∧ rg j ≤ 100000) ∧ 0 ≤ rl j ∧ rl j < 256
