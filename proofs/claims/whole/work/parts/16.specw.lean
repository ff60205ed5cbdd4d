abbrev TaskP (much less : Int) : Prop := 0 ≤ less ∧ less ≤ much ∧ much ≤ 999
def workS (much less st : Int) : Int := if TaskP much less ∧ 0 ≤ st ∧ st ≤ 255 then wk much less st else -1
def rowS (much less st c : Int) : Int := if TaskP much less ∧ (0 ≤ st ∧ st ≤ 255) ∧ 0 ≤ c ∧ c ≤ 2 then 10 * wkD st much less c.toNat + wkG st much less c.toNat else -1
def cntE (much less ans : Int) : Nat → Int
  | 0 => 0
  | n + 1 => cntE much less ans n + if wk much less (oT n) = ans then 1 else 0
def couldS (much less ans : Int) : Int := if TaskP much less ∧ 0 ≤ ans ∧ ans ≤ 999 then cntE much less ans 93 else -1
def lsF (much less ans ix : Int) : Nat → Nat → Int
  | 0, _ => -4
  | f + 1, k => if wk much less (oT k) = ans ∧ cntE much less ans k = ix then oT k else lsF much less ans ix f (k + 1)
def leastS (much less ans ix : Int) : Int := if TaskP much less ∧ (0 ≤ ans ∧ ans ≤ 999) ∧ 0 ≤ ix then lsF much less ans ix 93 0 else -1
def prI (a b : Int) (mu : Nat) : Nat → Nat → Int
  | 0, _ => -4
  | f + 1, k => if wk mu k a = wk mu k b then prI a b mu f (k + 1) else 1000 * (mu : Int) + k
def prO (a b : Int) : Nat → Nat → Int
  | 0, _ => -4
  | f + 1, mu => if prI a b mu (mu + 1) 0 = -4 then prO a b f (mu + 1) else prI a b mu (mu + 1) 0
def partsS (a b n : Int) : Int := if (0 ≤ a ∧ a ≤ 255) ∧ (0 ≤ b ∧ b ≤ 255) ∧ 1 ≤ n ∧ n ≤ 200 then prO a b n.toNat 0 else -1
theorem oT_rng : ∀ n, n < 93 → 0 ≤ oT n ∧ oT n ≤ 255 := by decide +kernel
theorem cntE_rng (much less ans : Int) : ∀ n : Nat, 0 ≤ cntE much less ans n ∧ cntE much less ans n ≤ n := by
  intro n
  induction n with
  | zero => simp [cntE]
  | succ n ih => unfold cntE; split <;> omega
