def sgF (LZ : Nat → Nat → Int) (LT : Nat → Nat → Nat → Int) (fo : Nat → Int) : Nat → (Nat → Int) × Nat
  | 0 => (fo, 0)
  | n + 1 => tsF (LT n 5) (LT n 7) (LT n 6) (LZ n 0).toNat (sgF LZ LT fo n)
theorem sgF_le {LZ : Nat → Nat → Int} {LT : Nat → Nat → Nat → Int} {fo : Nat → Int} : ∀ n, (∀ j, j < n → LZ j 0 ≤ 40) → (sgF LZ LT fo n).2 ≤ 40 * n := by
  intro n
  induction n with
  | zero => intro _; exact Nat.le_refl _
  | succ n ih =>
    intro h
    have h1 := ih (fun j hj => h j (by omega))
    have h2 := h n (by omega)
    have h3 := tsF_le (LT n 5) (LT n 7) (LT n 6) (sgF LZ LT fo n) (LZ n 0).toNat
    unfold sgF
    omega
theorem sgF_rng {LZ : Nat → Nat → Int} {LT : Nat → Nat → Nat → Int} {fo : Nat → Int} : ∀ n, (∀ j, j < n → ∀ i, i < (LZ j 0).toNat → 0 ≤ LT j 5 i ∧ LT j 5 i < 1000000000) → ∀ i, i < (sgF LZ LT fo n).2 → 0 ≤ (sgF LZ LT fo n).1 i ∧ (sgF LZ LT fo n).1 i < 1000000000 := by
  intro n
  induction n with
  | zero => intro _ i hi; exact absurd hi (Nat.not_lt_zero i)
  | succ n ih =>
    intro h
    exact tsF_rng (LT n 5) (LT n 7) (LT n 6) (sgF LZ LT fo n) (LZ n 0).toNat (h n (by omega)) (ih (fun j hj => h j (by omega)))
def stR (what : Int) (mg : Int × Int) : Int := if ¬ (0 ≤ what ∧ what ≤ 3) then -1 else if mg.1 = 0 then -4 else if what = 0 then mg.1 else if what = 1 then mg.2 / 1000000 else if what = 2 then mg.2 / 1000 % 1000 else mg.2 % 1000
abbrev sgM (LZ : Nat → Nat → Int) (LT : Nat → Nat → Nat → Int) (fo : Nat → Int) (fu : Int) (K : Nat) : Int × Int := mgF (sgF LZ LT fo K).1 (sgF LZ LT fo K).2 (sgF LZ LT fo K).2 0 (0, fu)
abbrev LnOK (LZ : Nat → Nat → Int) (LT : Nat → Nat → Nat → Int) (j : Nat) : Prop := (0 ≤ LZ j 0 ∧ LZ j 0 ≤ 40) ∧ (∀ i, i < (LZ j 0).toNat → caseOK (LT j 5 i) ∧ (LT j 6 i = 0 ∨ LT j 6 i = 1) ∧ (LT j 7 i = 0 ∨ LT j 7 i = 1))
