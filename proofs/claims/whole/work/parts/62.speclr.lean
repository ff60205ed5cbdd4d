/-! learners -/
abbrev caseOK (c : Int) : Prop := 0 ≤ c ∧ c < 1000000000 ∧ c / 1000 % 1000 ≤ c / 1000000
abbrev hitP (c : Int) (p : Nat) : Prop := wk (c / 1000000) (c / 1000 % 1000) (oT p) = c % 1000
def anyH (c : Int) : Nat → Int
  | 0 => 0
  | n + 1 => if hitP c n then 1 else anyH c n
theorem anyH_01 (c : Int) : ∀ n, anyH c n = 0 ∨ anyH c n = 1 := by
  intro n
  induction n with
  | zero => exact Or.inl rfl
  | succ n ih => unfold anyH; split <;> first | exact Or.inr rfl | exact ih
theorem anyH_0 (c : Int) : ∀ n, anyH c n = 0 ↔ ∀ p, p < n → ¬ hitP c p := by
  intro n
  induction n with
  | zero => exact ⟨fun _ p hp => absurd hp (Nat.not_lt_zero p), fun _ => rfl⟩
  | succ n ih =>
    unfold anyH
    split
    · rename_i h
      exact ⟨fun z => (by cases z), fun z => absurd h (z n (by omega))⟩
    · rename_i h
      rw [ih]
      exact ⟨fun z p hp => if q : p = n then (by rw [q]; exact h) else z p (by omega), fun z p hp => z p (by omega)⟩
def pts (fh : Nat → Int) (cn : Int) (mk : Nat → Int) (p : Nat) : Int := fh p * mk 0 - (cn - fh p) * mk 1 - szB (oT p) 12 * mk 2
theorem mulD {a b : Int} (h1 : 0 ≤ a ∧ a ≤ 40) (h2 : 0 ≤ b ∧ b ≤ 99) : 0 ≤ a * b ∧ a * b ≤ 3960 := by
  constructor
  · exact Int.mul_nonneg h1.1 h2.1
  · have := Int.mul_le_mul h1.2 h2.2 h2.1 (by omega : (0 : Int) ≤ 40)
    omega
theorem pts_rng {fh mk : Nat → Int} {cn : Int} {p : Nat} (h1 : 0 ≤ fh p ∧ fh p ≤ cn ∧ cn ≤ 40) (h2 : ∀ j, j < 3 → 0 ≤ mk j ∧ mk j ≤ 99) : -10000 ≤ pts fh cn mk p ∧ pts fh cn mk p ≤ 10000 := by
  have a0 := h2 0 (by omega)
  have a1 := h2 1 (by omega)
  have a2 := h2 2 (by omega)
  have s := szB_rng (oT p) 12
  have m0 := mulD (a := fh p) (b := mk 0) (by omega) (by omega)
  have m1 := mulD (a := cn - fh p) (b := mk 1) (by omega) (by omega)
  have m2 := mulD (a := szB (oT p) 12) (b := mk 2) (by omega) (by omega)
  unfold pts
  omega
def bpF (pt : Nat → Int) : Nat → Nat → Nat → Nat
  | 0, _, be => be
  | f + 1, p, be => bpF pt f (p + 1) (if pt be < pt p then p else be)
theorem bpF_lt (pt : Nat → Int) : ∀ f p be, be < 93 → p + f ≤ 93 → bpF pt f p be < 93 := by
  intro f
  induction f with
  | zero => intro p be h _; exact h
  | succ f ih => intro p be h hp; unfold bpF; split <;> exact ih _ _ (by omega) (by omega)
def ldF (pt : Nat → Int) (be : Nat) : Nat → Nat → Int → Int
  | 0, _, nx => nx
  | f + 1, p, nx => ldF pt be f (p + 1) (if p = be then nx else max nx (pt p))
def ldR (pt : Nat → Int) (be : Nat) : Int := pt be - ldF pt be 93 0 (pt (if be = 0 then 1 else 0))
def cntS (fs fa : Nat → Int) : Nat → Int
  | 0 => 0
  | n + 1 => cntS fs fa n + if ¬ fs n = 0 ∧ fa n = 0 then 1 else 0
theorem cntS_rng (fs fa : Nat → Int) : ∀ n : Nat, 0 ≤ cntS fs fa n ∧ cntS fs fa n ≤ n := by
  intro n
  induction n with
  | zero => simp [cntS]
  | succ n ih => unfold cntS; split <;> omega
theorem case_dec {a b c : Int} (h : 0 ≤ b ∧ b ≤ a ∧ a ≤ 999 ∧ 0 ≤ c ∧ c ≤ 999) : caseOK (1000 * (1000 * a + b) + c) ∧ (1000 * (1000 * a + b) + c) / 1000000 = a ∧ (1000 * (1000 * a + b) + c) / 1000 % 1000 = b ∧ (1000 * (1000 * a + b) + c) % 1000 = c := by
  unfold caseOK
  omega
/-- the list that is told of strange answers -/
def tsF (fc fs fa : Nat → Int) : Nat → (Nat → Int) × Nat → (Nat → Int) × Nat
  | 0, s => s
  | n + 1, s => let t := tsF fc fs fa n s; if ¬ fs n = 0 ∧ fa n = 0 then (va_up t.1 t.2 (fc n), t.2 + 1) else t
def cqF (fo : Nat → Int) (c : Int) : Nat → Int
  | 0 => 0
  | n + 1 => cqF fo c n + if fo n = c then 1 else 0
theorem cqF_rng (fo : Nat → Int) (c : Int) : ∀ n : Nat, 0 ≤ cqF fo c n ∧ cqF fo c n ≤ n := by
  intro n
  induction n with
  | zero => simp [cqF]
  | succ n ih => unfold cqF; split <;> omega
abbrev bigP (fo : Nat → Int) (K : Nat) (s : Int × Int) (k : Nat) : Prop := s.1 < cqF fo (fo k) K ∨ cqF fo (fo k) K = s.1 ∧ fo k < s.2
def mgF (fo : Nat → Int) (K : Nat) : Nat → Nat → Int × Int → Int × Int
  | 0, _, s => s
  | f + 1, k, s => mgF fo K f (k + 1) (if bigP fo K s k then (cqF fo (fo k) K, fo k) else s)
