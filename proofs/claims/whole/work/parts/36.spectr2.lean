theorem gcd_step {a b : Int} (ha : 0 ≤ a) (hb : 0 < b) : Nat.gcd b.toNat (a % b).toNat = Nat.gcd a.toNat b.toNat := by
  have e : (a % b).toNat = a.toNat % b.toNat := Int.toNat_emod ha (by omega)
  rw [e, Nat.gcd_comm a.toNat b.toNat, Nat.gcd_rec b.toNat a.toNat, Nat.gcd_comm]
theorem shF_rng (fo : Nat → Int) (ones sum : Int) (M : Nat) : ∀ (f x : Nat) (s : Int × Int), 0 ≤ s.2 ∧ s.2 ≤ s.1 ∧ s.1 ≤ x → 0 ≤ (shF fo ones sum M f x s).2 ∧ (shF fo ones sum M f x s).2 ≤ (shF fo ones sum M f x s).1 ∧ (shF fo ones sum M f x s).1 ≤ x + f := by
  intro f
  induction f with
  | zero => intro x s h; unfold shF; omega
  | succ f ih =>
    intro x s h
    unfold shF
    have h1 := ih (x + 1) (if szB x 12 = ones then (s.1 + 1, s.2 + if sum ≤ sD fo x M then 1 else 0) else s) (by
      split
      · show 0 ≤ s.2 + _ ∧ s.2 + _ ≤ s.1 + 1 ∧ s.1 + 1 ≤ _
        split <;> omega
      · omega)
    omega
theorem shareR_rng (fw fo : Nat → Int) {M : Nat} (h : M ≤ 12) : 0 ≤ shareR fw fo M ∧ shareR fw fo M ≤ 1000 := by
  have h1 := shR_pos fw fo h
  have h2 := shF_rng fo (mW fw 1 M) (sW fw fo 1 M) M (2 ^ M) 0 (0, 0) (by simp)
  unfold shareR
  have h3 : 0 ≤ (shR fw fo M).2 ∧ (shR fw fo M).2 ≤ (shR fw fo M).1 := ⟨h2.1, h2.2.1⟩
  constructor
  · exact Int.ediv_nonneg (by omega) (by omega)
  · exact Int.ediv_le_of_le_mul (by omega) (by omega)
