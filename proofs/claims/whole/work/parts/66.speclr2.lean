def plF (s : Int) : Nat → Nat → Int
  | 0, _ => -1
  | f + 1, p => if oT p = s then (p : Int) else plF s f (p + 1)
theorem plF_rng (s : Int) : ∀ f p, p + f ≤ 93 → plF s f p = -1 ∨ (0 ≤ plF s f p ∧ plF s f p < 93 ∧ oT (plF s f p).toNat = s) := by
  intro f
  induction f with
  | zero => intro p _; exact Or.inl rfl
  | succ f ih =>
    intro p hp
    unfold plF
    split
    · rename_i h
      exact Or.inr ⟨by omega, by omega, by simpa using h⟩
    · exact ih (p + 1) (by omega)
theorem plF_set : ∀ s : Nat, s < 256 → ((szB (s : Int) 12 ≤ 3) = (0 ≤ plF (s : Int) 93 0)) := by
  have h : ∀ s : Nat, s < 256 → (decide (szB (s : Int) 12 ≤ 3) = decide (0 ≤ plF (s : Int) 93 0)) := by decide +kernel
  intro s hs
  exact propext (decide_eq_decide.mp (h s hs))
theorem ldF_rng {pt : Nat → Int} {be : Nat} {B : Int} : ∀ f p nx, (∀ q, q < p + f → -B ≤ pt q ∧ pt q ≤ B) → -B ≤ nx ∧ nx ≤ B → -B ≤ ldF pt be f p nx ∧ ldF pt be f p nx ≤ B := by
  intro f
  induction f with
  | zero => intro p nx _ h; exact h
  | succ f ih =>
    intro p nx hp h
    unfold ldF
    have := hp p (by omega)
    refine ih (p + 1) _ (fun q hq => hp q (by omega)) ?_
    split <;> omega
def guessR (pt : Nat → Int) (su : Int) : Int := if su ≤ ldR pt (bpF pt 92 1 0) then oT (bpF pt 92 1 0) else -5
def avF (ps : Nat → Int) : Nat → Nat → Int
  | 0, _ => 1
  | f + 1, e => if TaskP (ps (3 * e)) (ps (3 * e + 1)) ∧ 0 ≤ ps (3 * e + 2) ∧ ps (3 * e + 2) ≤ 999 then avF ps f (e + 1) else 0
theorem avF_all {ps : Nat → Int} : ∀ (f j : Nat), avF ps f j = 1 → ∀ k, j ≤ k → k < j + f → TaskP (ps (3 * k)) (ps (3 * k + 1)) ∧ 0 ≤ ps (3 * k + 2) ∧ ps (3 * k + 2) ≤ 999 := by
  intro f
  induction f with
  | zero => intro j _ k h1 h2; omega
  | succ f ih =>
    intro j h k h1 h2
    unfold avF at h
    split at h
    · by_cases e : k = j
      · subst e; assumption
      · exact ih (j + 1) h k (by omega) (by omega)
    · cases h
theorem avF_congr {ps ps' : Nat → Int} : ∀ (f j : Nat), (∀ k, k < 3 * (j + f) → ps k = ps' k) → avF ps f j = avF ps' f j := by
  intro f
  induction f with
  | zero => intro j _; rfl
  | succ f ih =>
    intro j h
    unfold avF
    rw [h (3 * j) (by omega), h (3 * j + 1) (by omega), h (3 * j + 2) (by omega), ih (j + 1) (fun k hk => h k (by omega))]
def czF (ps : Nat → Int) (e : Nat) : Int := 1000 * (1000 * ps (3 * e) + ps (3 * e + 1)) + ps (3 * e + 2)
def hsF (ps : Nat → Int) (p : Nat) : Nat → Int
  | 0 => 0
  | e + 1 => hsF ps p e + if hitP (czF ps e) p then 1 else 0
def ansR (mn ln la lane x2 n : Int) (ps : Nat → Int) : Int := if ¬ ((0 ≤ lane ∧ lane ≤ 2) ∧ 0 ≤ n ∧ n ≤ 13) then -1 else if refS ln la lane x2 (3 * n) < 0 then refS ln la lane x2 (3 * n) else if avF ps n.toNat 0 = 0 then -2 else if 40 < mn + n then -3 else mn + n
theorem ldR_rng {pt : Nat → Int} {be : Nat} (hb : be < 93) (h : ∀ p, p < 93 → -10000 ≤ pt p ∧ pt p ≤ 10000) : -20000 ≤ ldR pt be ∧ ldR pt be ≤ 20000 := by
  have h1 := ldF_rng (pt := pt) (be := be) (B := 10000) 93 0 (pt (if be = 0 then 1 else 0)) (fun q hq => h q (by omega)) (h _ (by split <;> omega))
  have h2 := h be hb
  unfold ldR
  omega
