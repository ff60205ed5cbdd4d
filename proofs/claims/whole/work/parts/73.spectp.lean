/-! the tape as a text -/
def skF (t : Nat → Int) : Nat → Nat → Nat
  | 0, p => p
  | f + 1, p => if t p = 32 then skF t f (p + 1) else p
theorem skF_le (t : Nat → Int) : ∀ f p, p ≤ skF t f p ∧ skF t f p ≤ p + f := by
  intro f
  induction f with
  | zero => intro p; exact ⟨Nat.le_refl _, Nat.le_refl _⟩
  | succ f ih =>
    intro p
    have := ih (p + 1)
    unfold skF
    split <;> omega
def sk (t : Nat → Int) (L p : Nat) : Nat := skF t (L - p) p
theorem sk_le (t : Nat → Int) {L p : Nat} (h : p ≤ L) : p ≤ sk t L p ∧ sk t L p ≤ L := by
  have := skF_le t (L - p) p
  unfold sk
  omega
theorem sk_end (t : Nat → Int) {L p : Nat} (h : L ≤ p) : sk t L p = p := by
  unfold sk
  rw [show L - p = 0 from by omega]
  rfl
theorem sk_stop (t : Nat → Int) {L p : Nat} (h : ¬ t p = 32) : sk t L p = p := by
  unfold sk
  cases L - p with
  | zero => rfl
  | succ f => unfold skF; rw [if_neg h]
theorem sk_step (t : Nat → Int) {L p : Nat} (h1 : p < L) (h : t p = 32) : sk t L (p + 1) = sk t L p := by
  unfold sk
  rw [show L - p = (L - (p + 1)) + 1 from by omega]
  show _ = skF t (L - (p + 1) + 1) p
  simp only [skF]
  rw [if_pos h]
abbrev psP (t : Nat → Int) (L : Nat) (c : Int) (p : Nat) : Prop := sk t L p < L ∧ t (sk t L p) = c
def dgE (t : Nat → Int) : Nat → Nat → Nat
  | 0, p => p
  | f + 1, p => if 48 ≤ t p ∧ t p ≤ 57 then dgE t f (p + 1) else p
def dvF (t : Nat → Int) : Nat → Nat → Int → Int
  | 0, _, v => v
  | f + 1, p, v => if 48 ≤ t p ∧ t p ≤ 57 then dvF t f (p + 1) (min 10000 (10 * v + t p - 48)) else v
theorem dgE_le (t : Nat → Int) : ∀ f p, p ≤ dgE t f p ∧ dgE t f p ≤ p + f := by
  intro f
  induction f with
  | zero => intro p; exact ⟨Nat.le_refl _, Nat.le_refl _⟩
  | succ f ih =>
    intro p
    have := ih (p + 1)
    unfold dgE
    split <;> omega
def nuE (t : Nat → Int) (L p : Nat) : Nat := dgE t (L - sk t L p) (sk t L p)
def nuV (t : Nat → Int) (L p : Nat) : Int := dvF t (L - sk t L p) (sk t L p) 0
abbrev nuP (t : Nat → Int) (L : Nat) (lo hi : Int) (p : Nat) : Prop := (sk t L p < L ∧ 48 ≤ t (sk t L p) ∧ t (sk t L p) ≤ 57) ∧ lo ≤ nuV t L p ∧ nuV t L p ≤ hi
theorem nuE_le (t : Nat → Int) {L p : Nat} (h : p ≤ L) : p ≤ nuE t L p ∧ nuE t L p ≤ L := by
  have h1 := sk_le t h
  have := dgE_le t (L - sk t L p) (sk t L p)
  unfold nuE
  omega
abbrev ltP (t : Nat → Int) (L p : Nat) : Prop := sk t L p < L ∧ 97 ≤ t (sk t L p) ∧ t (sk t L p) ≤ 104
def ltS (t : Nat → Int) (L p : Nat) : Nat := (t (sk t L p) - 97).toNat
theorem ltS_lt {t : Nat → Int} {L p : Nat} (h : ltP t L p) : ltS t L p < 8 ∧ ((ltS t L p : Nat) : Int) = t (sk t L p) - 97 := by
  unfold ltP at h
  unfold ltS
  omega
def lnF (t : Nat → Int) (L : Nat) (hs : Nat → Int) : Nat → Nat → Nat → Int × Nat × Nat
  | 0, p, b => (0, p, b)
  | f + 1, p, b => if ltP t L p ∧ 0 < hs (ltS t L p) then (if psP t L 44 (sk t L p + 1) then lnF t L hs f (sk t L (sk t L p + 1) + 1) (b ||| 2 ^ ltS t L p) else (1, sk t L (sk t L p + 1), b ||| 2 ^ ltS t L p)) else (0, sk t L p, b)
theorem lnF_rng (t : Nat → Int) (L : Nat) (hs : Nat → Int) : ∀ f p b, p ≤ L → b < 256 → ((lnF t L hs f p b).1 = 0 ∨ (lnF t L hs f p b).1 = 1) ∧ (lnF t L hs f p b).2.1 ≤ L ∧ (lnF t L hs f p b).2.2 < 256 := by
  intro f
  induction f with
  | zero => intro p b h1 h2; exact ⟨Or.inl rfl, h1, h2⟩
  | succ f ih =>
    intro p b h1 h2
    have k1 := sk_le t h1
    unfold lnF
    split
    · rename_i h
      have k2 := (ltS_lt h.1).1
      have k3 : b ||| 2 ^ ltS t L p < 2 ^ 8 := Nat.or_lt_two_pow h2 (Nat.pow_lt_pow_right (by omega) k2)
      have k4 : sk t L p < L := h.1.1
      have k5 := sk_le t (show sk t L p + 1 ≤ L by omega)
      split
      · rename_i h9
        have k6 : sk t L (sk t L p + 1) < L := h9.1
        exact ih _ _ (by omega) k3
      · exact ⟨Or.inr rfl, k5.2, k3⟩
    · exact ⟨Or.inl rfl, k1.2, h2⟩
theorem lnF_congr (t : Nat → Int) (L : Nat) {hs hs' : Nat → Int} (h : ∀ s, s < 8 → (0 < hs s ↔ 0 < hs' s)) : ∀ f p b, lnF t L hs f p b = lnF t L hs' f p b := by
  intro f
  induction f with
  | zero => intro p b; rfl
  | succ f ih =>
    intro p b
    unfold lnF
    by_cases k : ltP t L p
    · have k2 := h _ (ltS_lt k).1
      by_cases k3 : 0 < hs (ltS t L p)
      · rw [if_pos (show ltP t L p ∧ 0 < hs (ltS t L p) from ⟨k, k3⟩), if_pos (show ltP t L p ∧ 0 < hs' (ltS t L p) from ⟨k, k2.mp k3⟩), ih]
      · rw [if_neg (fun z => k3 z.2), if_neg (fun z => k3 (k2.mpr z.2))]
    · rw [if_neg (fun z => k z.1), if_neg (fun z => k z.1)]
def cA (t : Nat → Int) (L p : Nat) : Nat := sk t L p + 1
def cB (t : Nat → Int) (L p : Nat) : Nat := sk t L (cA t L p) + 1
def cC (t : Nat → Int) (L p : Nat) : Nat := nuE t L (cB t L p)
def cD (t : Nat → Int) (L p : Nat) : Nat := sk t L (cC t L p) + 1
def cE (t : Nat → Int) (L p : Nat) : Nat := nuE t L (cD t L p)
def cG (t : Nat → Int) (L p : Nat) : Nat := sk t L (cE t L p) + 1
def clF (t : Nat → Int) (L : Nat) (hs : Nat → Int) (p : Nat) : Int × Nat × Nat × Int × Int × Nat :=
  if ¬ (ltP t L p ∧ ¬ 0 < hs (ltS t L p)) then (0, sk t L p, 0, 0, 0, 0) else
  if ¬ psP t L 61 (cA t L p) then (0, sk t L (cA t L p), 0, 0, 0, 0) else
  if ¬ nuP t L 1 20 (cB t L p) then (0, sk t L (cB t L p), 0, 0, 0, 0) else
  if ¬ psP t L 47 (cC t L p) then (0, sk t L (cC t L p), 0, 0, 0, 0) else
  if ¬ nuP t L 0 99 (cD t L p) then (0, sk t L (cD t L p), 0, 0, 0, 0) else
  if ¬ psP t L 58 (cE t L p) then (1, sk t L (cE t L p), ltS t L p, nuV t L (cB t L p), nuV t L (cD t L p), 0) else
  ((lnF t L hs 100 (cG t L p) 0).1, (lnF t L hs 100 (cG t L p) 0).2.1, ltS t L p, nuV t L (cB t L p), nuV t L (cD t L p), (lnF t L hs 100 (cG t L p) 0).2.2)
theorem clF_congr (t : Nat → Int) (L : Nat) {hs hs' : Nat → Int} (h : ∀ s, s < 8 → (0 < hs s ↔ 0 < hs' s)) (p : Nat) : clF t L hs p = clF t L hs' p := by
  unfold clF
  rw [lnF_congr t L h]
  by_cases k : ltP t L p
  · have k2 := h _ (ltS_lt k).1
    by_cases k3 : 0 < hs (ltS t L p)
    · rw [if_pos (fun z => z.2 k3), if_pos (fun z => z.2 (k2.mp k3))]
    · rw [if_neg (show ¬ ¬ (ltP t L p ∧ ¬ 0 < hs (ltS t L p)) from fun z => z ⟨k, k3⟩), if_neg (show ¬ ¬ (ltP t L p ∧ ¬ 0 < hs' (ltS t L p)) from fun z => z ⟨k, fun y => k3 (k2.mpr y)⟩)]
  · rw [if_pos (fun z => k z.1), if_pos (fun z => k z.1)]
theorem cA_le {t : Nat → Int} {L p : Nat} (h : ltP t L p) : cA t L p ≤ L := by unfold ltP at h; unfold cA; omega
theorem cB_le {t : Nat → Int} {L p : Nat} (h : psP t L 61 (cA t L p)) : cB t L p ≤ L := by unfold psP at h; unfold cB; omega
theorem cC_le {t : Nat → Int} {L p : Nat} (h : psP t L 61 (cA t L p)) : cC t L p ≤ L := (nuE_le t (cB_le h)).2
theorem cD_le {t : Nat → Int} {L p : Nat} (h : psP t L 47 (cC t L p)) : cD t L p ≤ L := by unfold psP at h; unfold cD; omega
theorem cE_le {t : Nat → Int} {L p : Nat} (h : psP t L 47 (cC t L p)) : cE t L p ≤ L := (nuE_le t (cD_le h)).2
theorem cG_le {t : Nat → Int} {L p : Nat} (h : psP t L 58 (cE t L p)) : cG t L p ≤ L := by unfold psP at h; unfold cG; omega
theorem clF_rng (t : Nat → Int) (L : Nat) (hs : Nat → Int) (p : Nat) (hp : p ≤ L) : ((clF t L hs p).1 = 0 ∨ (clF t L hs p).1 = 1) ∧ (clF t L hs p).2.1 ≤ L ∧ ((clF t L hs p).1 = 1 → (clF t L hs p).2.2.1 < 8 ∧ ¬ 0 < hs (clF t L hs p).2.2.1 ∧ (1 ≤ (clF t L hs p).2.2.2.1 ∧ (clF t L hs p).2.2.2.1 ≤ 20) ∧ (0 ≤ (clF t L hs p).2.2.2.2.1 ∧ (clF t L hs p).2.2.2.2.1 ≤ 99) ∧ (clF t L hs p).2.2.2.2.2 < 256) := by
  have z : ∀ q, q ≤ L → ((((0 : Int), q, (0 : Nat), (0 : Int), (0 : Int), (0 : Nat)).1 = 0 ∨ ((0 : Int), q, (0 : Nat), (0 : Int), (0 : Int), (0 : Nat)).1 = 1) ∧ q ≤ L) := fun q h => ⟨Or.inl rfl, h⟩
  unfold clF
  split
  · exact ⟨Or.inl rfl, (sk_le t hp).2, fun h => absurd h (by simp)⟩
  rename_i a1
  have a1 := Classical.not_not.mp a1
  have b1 := cA_le a1.1
  split
  · exact ⟨Or.inl rfl, (sk_le t b1).2, fun h => absurd h (by simp)⟩
  rename_i a2
  have a2 := Classical.not_not.mp a2
  have b2 := cB_le a2
  split
  · exact ⟨Or.inl rfl, (sk_le t b2).2, fun h => absurd h (by simp)⟩
  rename_i a3
  have a3 := Classical.not_not.mp a3
  have b3 := cC_le a2
  split
  · exact ⟨Or.inl rfl, (sk_le t b3).2, fun h => absurd h (by simp)⟩
  rename_i a4
  have a4 := Classical.not_not.mp a4
  have b4 := cD_le a4
  split
  · exact ⟨Or.inl rfl, (sk_le t b4).2, fun h => absurd h (by simp)⟩
  rename_i a5
  have a5 := Classical.not_not.mp a5
  have b5 := cE_le a4
  split
  · exact ⟨Or.inr rfl, (sk_le t b5).2, fun _ => ⟨(ltS_lt a1.1).1, a1.2, a3.2, a5.2, by simp⟩⟩
  rename_i a6
  have a6 := Classical.not_not.mp a6
  have q := lnF_rng t L hs 100 (cG t L p) 0 (cG_le a6) (by omega)
  exact ⟨q.1, q.2.1, fun _ => ⟨(ltS_lt a1.1).1, a1.2, a3.2, a5.2, q.2.2⟩⟩
abbrev CST : Type := (Nat → Int) × (Nat → Int) × (Nat → Int)
def clS (t : Nat → Int) (L : Nat) (S : CST) (p : Nat) : CST := (va_up S.1 (clF t L S.1 p).2.2.1 (clF t L S.1 p).2.2.2.1, va_up S.2.1 (clF t L S.1 p).2.2.1 (clF t L S.1 p).2.2.2.2.1, va_up S.2.2 (clF t L S.1 p).2.2.1 (((clF t L S.1 p).2.2.2.2.2 : Nat) : Int))
def rdF (t : Nat → Int) (L : Nat) : Nat → Nat → Nat → CST → Int × CST
  | 0, _, p, S => (-20 - (p : Int), S)
  | f + 1, k, p, S => if ¬ (clF t L S.1 p).1 = 1 then (-20 - ((clF t L S.1 p).2.1 : Int), S) else
    if ¬ sk t L (clF t L S.1 p).2.1 < L then ((k : Int), clS t L S p) else
    if k = 8 ∨ ¬ t (sk t L (clF t L S.1 p).2.1) = 59 then (-20 - (sk t L (clF t L S.1 p).2.1 : Int), clS t L S p) else
    rdF t L f (k + 1) (sk t L (clF t L S.1 p).2.1 + 1) (clS t L S p)
abbrev CSok (S : CST) : Prop := ∀ j, j < 8 → 0 ≤ S.1 j ∧ S.1 j ≤ 20 ∧ 0 ≤ S.2.1 j ∧ S.2.1 j ≤ 99 ∧ 0 ≤ S.2.2 j ∧ S.2.2 j < 256
theorem clS_ok {t : Nat → Int} {L p : Nat} {S : CST} (hp : p ≤ L) (h : CSok S) (h1 : (clF t L S.1 p).1 = 1) : CSok (clS t L S p) := by
  obtain ⟨c1, c2, c3, c4, c5⟩ := (clF_rng t L S.1 p hp).2.2 h1
  intro j hj
  have q := h j hj
  by_cases e : j = (clF t L S.1 p).2.2.1
  · subst e
    unfold clS
    simp only [up_s]
    omega
  · unfold clS
    simp only [up_n _ _ _ _ e]
    exact q
theorem rdF_ok {t : Nat → Int} {L : Nat} : ∀ (f k p : Nat) (S : CST), p ≤ L → CSok S → CSok (rdF t L f k p S).2 := by
  intro f
  induction f with
  | zero => intro k p S _ h; exact h
  | succ f ih =>
    intro k p S hp h
    unfold rdF
    split
    · exact h
    · rename_i h1
      have h1 := Classical.not_not.mp h1
      have q := clS_ok hp h h1
      split
      · exact q
      · split
        · exact q
        · rename_i h2 h3
          exact ih _ _ _ (by omega) q
