/-! the strange answers, told -/
theorem tsF_le (fc fs fa : Nat → Int) (s : (Nat → Int) × Nat) : ∀ n, s.2 ≤ (tsF fc fs fa n s).2 ∧ (tsF fc fs fa n s).2 ≤ s.2 + n := by
  intro n
  induction n with
  | zero => exact ⟨Nat.le_refl _, Nat.le_refl _⟩
  | succ n ih =>
    simp only [tsF]
    split
    · show s.2 ≤ (tsF fc fs fa n s).2 + 1 ∧ (tsF fc fs fa n s).2 + 1 ≤ s.2 + (n + 1)
      omega
    · omega
theorem tsF_rng (fc fs fa : Nat → Int) (s : (Nat → Int) × Nat) : ∀ n, (∀ j, j < n → 0 ≤ fc j ∧ fc j < 1000000000) → (∀ j, j < s.2 → 0 ≤ s.1 j ∧ s.1 j < 1000000000) → ∀ j, j < (tsF fc fs fa n s).2 → 0 ≤ (tsF fc fs fa n s).1 j ∧ (tsF fc fs fa n s).1 j < 1000000000 := by
  intro n
  induction n with
  | zero => intro _ h j hj; exact h j hj
  | succ n ih =>
    intro h1 h2 j
    have h3 := ih (fun j hj => h1 j (by omega)) h2
    simp only [tsF]
    split
    · intro hj
      show 0 ≤ va_up (tsF fc fs fa n s).1 (tsF fc fs fa n s).2 (fc n) j ∧ va_up (tsF fc fs fa n s).1 (tsF fc fs fa n s).2 (fc n) j < 1000000000
      have hj : j < (tsF fc fs fa n s).2 + 1 := hj
      by_cases q : j = (tsF fc fs fa n s).2
      · rw [q, up_s]; exact h1 n (by omega)
      · rw [up_n _ _ _ _ q]; exact h3 j (by omega)
    · exact h3 j
theorem mgF_rng (fo : Nat → Int) (K : Nat) : ∀ (f k : Nat) (s : Int × Int), (0 ≤ s.1 ∧ s.1 ≤ K) → (0 ≤ s.2 ∧ s.2 < 1000000000) → k + f ≤ K → (∀ j, j < K → 0 ≤ fo j ∧ fo j < 1000000000) → (0 ≤ (mgF fo K f k s).1 ∧ (mgF fo K f k s).1 ≤ K) ∧ 0 ≤ (mgF fo K f k s).2 ∧ (mgF fo K f k s).2 < 1000000000 := by
  intro f
  induction f with
  | zero => intro k s h1 h2 _ _; exact ⟨h1, h2⟩
  | succ f ih =>
    intro k s h1 h2 h3 h4
    unfold mgF
    split
    · exact ih _ _ (cqF_rng fo (fo k) K) (h4 k (by omega)) (by omega) h4
    · exact ih _ _ h1 h2 (by omega) h4
