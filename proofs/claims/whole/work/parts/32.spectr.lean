/-! trials -/
def mW (fw : Nat → Int) (way : Int) : Nat → Int
  | 0 => 0
  | n + 1 => mW fw way n + if fw n = way then 1 else 0
def sW (fw fo : Nat → Int) (way : Int) : Nat → Int
  | 0 => 0
  | n + 1 => sW fw fo way n + if fw n = way then fo n else 0
def sD (fo : Nat → Int) (x : Int) : Nat → Int
  | 0 => 0
  | n + 1 => sD fo x n + if x / 2 ^ n % 2 = 1 then fo n else 0
theorem mW_rng (fw : Nat → Int) (way : Int) : ∀ n : Nat, 0 ≤ mW fw way n ∧ mW fw way n ≤ n := by
  intro n
  induction n with
  | zero => simp [mW]
  | succ n ih => unfold mW; split <;> omega
theorem mW_two (fw : Nat → Int) : ∀ n : Nat, mW fw 0 n + mW fw 1 n ≤ n := by
  intro n
  induction n with
  | zero => simp [mW]
  | succ n ih => unfold mW; (repeat' split) <;> omega
theorem sW_rng (fw fo : Nat → Int) (way : Int) : ∀ n : Nat, (∀ j, j < n → -999 ≤ fo j ∧ fo j ≤ 999) → -999 * (n : Int) ≤ sW fw fo way n ∧ sW fw fo way n ≤ 999 * n := by
  intro n
  induction n with
  | zero => intro _; simp [sW]
  | succ n ih => intro h; have h1 := ih (fun j hj => h j (by omega)); have h2 := h n (by omega); unfold sW; split <;> omega
theorem sD_rng (fo : Nat → Int) (x : Int) : ∀ n : Nat, (∀ j, j < n → -999 ≤ fo j ∧ fo j ≤ 999) → -999 * (n : Int) ≤ sD fo x n ∧ sD fo x n ≤ 999 * n := by
  intro n
  induction n with
  | zero => intro _; simp [sD]
  | succ n ih => intro h; have h1 := ih (fun j hj => h j (by omega)); have h2 := h n (by omega); unfold sD; split <;> omega
def shF (fo : Nat → Int) (ones sum : Int) (M : Nat) : Nat → Nat → Int × Int → Int × Int
  | 0, _, s => s
  | f + 1, x, s => shF fo ones sum M f (x + 1) (if szB x 12 = ones then (s.1 + 1, s.2 + if sum ≤ sD fo x M then 1 else 0) else s)
theorem shF_mono (fo : Nat → Int) (ones sum : Int) (M : Nat) : ∀ (f x : Nat) (s : Int × Int), s.1 ≤ (shF fo ones sum M f x s).1 := by
  intro f
  induction f with
  | zero => intro x s; exact Int.le_refl _
  | succ f ih =>
    intro x s
    unfold shF
    have h := ih (x + 1) (if szB x 12 = ones then (s.1 + 1, s.2 + if sum ≤ sD fo x M then 1 else 0) else s)
    refine Int.le_trans ?_ h
    split
    · show s.1 ≤ s.1 + 1; omega
    · exact Int.le_refl _
theorem shF_one (fo : Nat → Int) (ones sum : Int) (M : Nat) : ∀ (f x : Nat) (s : Int × Int) (z : Nat), x ≤ z → z < x + f → szB z 12 = ones → s.1 + 1 ≤ (shF fo ones sum M f x s).1 := by
  intro f
  induction f with
  | zero => intro x s z h1 h2; omega
  | succ f ih =>
    intro x s z h1 h2 hz
    unfold shF
    by_cases e : z = x
    · subst e
      rw [if_pos hz]
      exact shF_mono fo ones sum M f (z + 1) _
    · have h := ih (x + 1) (if szB x 12 = ones then (s.1 + 1, s.2 + if sum ≤ sD fo x M then 1 else 0) else s) z (by omega) (by omega) hz
      refine Int.le_trans ?_ h
      split
      · show s.1 + 1 ≤ s.1 + 1 + 1; omega
      · exact Int.le_refl _
theorem sz_ex : ∀ o : Nat, o < 13 → szB ((2 ^ o - 1 : Nat) : Int) 12 = (o : Int) := by decide +kernel
theorem pw_rng {M : Nat} (h : M ≤ 12) : (1 : Int) ≤ 2 ^ M ∧ (2 : Int) ^ M ≤ 4096 := by
  have e : ∀ M : Nat, M < 13 → (1 : Int) ≤ 2 ^ M ∧ (2 : Int) ^ M ≤ 4096 := by decide
  exact e M (by omega)
def shR (fw fo : Nat → Int) (M : Nat) : Int × Int := shF fo (mW fw 1 M) (sW fw fo 1 M) M (2 ^ M) 0 (0, 0)
def shareR (fw fo : Nat → Int) (M : Nat) : Int := 1000 * (shR fw fo M).2 / (shR fw fo M).1
theorem shR_pos (fw fo : Nat → Int) {M : Nat} (h : M ≤ 12) : 1 ≤ (shR fw fo M).1 := by
  have h1 := mW_rng fw 1 M
  have h2 := sz_ex (mW fw 1 M).toNat (by omega)
  have h3 : 2 ^ (mW fw 1 M).toNat - 1 < 2 ^ M := by
    have := Nat.pow_le_pow_right (n := 2) (by omega) (show (mW fw 1 M).toNat ≤ M by omega)
    have := Nat.one_le_two_pow (n := (mW fw 1 M).toNat)
    omega
  have h4 := shF_one fo (mW fw 1 M) (sW fw fo 1 M) M (2 ^ M) 0 (0, 0) (2 ^ (mW fw 1 M).toNat - 1) (by omega) (by omega) (by rw [h2]; omega)
  unfold shR
  exact h4
theorem mulB {s c : Int} (h1 : -11988 ≤ s ∧ s ≤ 11988) (h2 : 0 ≤ c ∧ c ≤ 12) : -143856 ≤ s * c ∧ s * c ≤ 143856 := by
  rcases (show c = 0 ∨ c = 1 ∨ c = 2 ∨ c = 3 ∨ c = 4 ∨ c = 5 ∨ c = 6 ∨ c = 7 ∨ c = 8 ∨ c = 9 ∨ c = 10 ∨ c = 11 ∨ c = 12 by omega) with e | e | e | e | e | e | e | e | e | e | e | e | e <;> subst e <;> omega
theorem prodB {o z : Int} (h1 : 1 ≤ o) (h2 : 1 ≤ z) (h3 : o + z ≤ 12) : 1 ≤ o * z ∧ o * z ≤ 36 := by
  rcases (show o = 1 ∨ o = 2 ∨ o = 3 ∨ o = 4 ∨ o = 5 ∨ o = 6 ∨ o = 7 ∨ o = 8 ∨ o = 9 ∨ o = 10 ∨ o = 11 by omega) with e | e | e | e | e | e | e | e | e | e | e <;> subst e <;> omega
def byAb (fw fo : Nat → Int) (M : Nat) : Int := sW fw fo 1 M * mW fw 0 M - sW fw fo 0 M * mW fw 1 M
def byBe (fw : Nat → Int) (M : Nat) : Int := mW fw 1 M * mW fw 0 M
def byR (fw fo : Nat → Int) (M : Nat) (what : Int) : Int := if ¬ (0 ≤ what ∧ what ≤ 1) then -100001 else if mW fw 0 M = 0 ∨ mW fw 1 M = 0 then -100002 else Int.tdiv (if what = 0 then byAb fw fo M else byBe fw M) ((Nat.gcd (byAb fw fo M).natAbs (byBe fw M).toNat : Nat) : Int)
def shareS (fw fo : Nat → Int) (M : Nat) : Int := if mW fw 0 M = 0 ∨ mW fw 1 M = 0 then -2 else shareR fw fo M
def verdictS (fw fo : Nat → Int) (M : Nat) (lv : Int) : Int := if mW fw 0 M = 0 ∨ mW fw 1 M = 0 then -2 else if shareR fw fo M < lv then 1 else if 500 ≤ shareR fw fo M then 0 else -5
def bcF (x : Int32) : Int32 :=
  let a := x - ((x.toUInt32 >>> ((iI 1).toUInt32 &&& Int32.toUInt32 31)).toInt32 &&& 1431655765)
  let b := (a &&& 858993459) + ((a.toUInt32 >>> ((iI 2).toUInt32 &&& Int32.toUInt32 31)).toInt32 &&& 858993459)
  let c := (b + (b.toUInt32 >>> ((iI 4).toUInt32 &&& Int32.toUInt32 31)).toInt32) &&& 252645135
  let d := c + (c.toUInt32 >>> ((iI 8).toUInt32 &&& Int32.toUInt32 31)).toInt32
  let e := d + (d.toUInt32 >>> ((iI 16).toUInt32 &&& Int32.toUInt32 31)).toInt32
  e &&& 63
theorem bcF_ok2 : ∀ a : Nat, a < 64 → ∀ b : Nat, b < 64 → bcF (iI ((64 * a + b : Nat) : Int)) = iI (szB ((64 * a + b : Nat) : Int) 12) := by decide +kernel
theorem bcF_ok (n : Nat) (h : n < 4096) : bcF (iI (n : Int)) = iI (szB (n : Int) 12) := by
  have h1 := bcF_ok2 (n / 64) (by omega) (n % 64) (by omega)
  rw [show 64 * (n / 64) + n % 64 = n from by omega] at h1
  exact h1
