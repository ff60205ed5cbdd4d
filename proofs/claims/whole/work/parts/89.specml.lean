/-! the model's learners -/
abbrev cqv (qu ql qg : Nat → Int) (k : Nat) : Int := 1000 * (1000 * qu k + ql k) + qg k
abbrev vdP (qm : Nat → Int) (K : Int) (k : Nat) : Prop := ((k % 40 : Nat) : Int) < qm (k / 40) ∧ ((k / 40 : Nat) : Int) < K
def mpF (qu ql qg qa : Nat → Int) (B : Nat) (t0 t1 st : Int) : Nat → Int
  | 0 => 0
  | n + 1 => mpF qu ql qg qa B t0 t1 st n + (if ¬ qa (B + n) = 0 then 0 else if wk (qu (B + n)) (ql (B + n)) st = qg (B + n) then t0 else -t1)
theorem mpF_rng {qu ql qg qa : Nat → Int} {B : Nat} {t0 t1 st : Int} (h0 : 0 ≤ t0 ∧ t0 ≤ 99) (h1 : 0 ≤ t1 ∧ t1 ≤ 99) : ∀ n : Nat, -(99 * (n : Int)) ≤ mpF qu ql qg qa B t0 t1 st n ∧ mpF qu ql qg qa B t0 t1 st n ≤ 99 * n := by
  intro n
  induction n with
  | zero => simp [mpF]
  | succ n ih =>
    unfold mpF
    split
    · omega
    · split <;> omega
def mpR (qu ql qg qa : Nat → Int) (B : Nat) (qt : Nat → Int) (M : Nat) (st : Int) : Int := -(qt 2) * szB st 12 + mpF qu ql qg qa B (qt 0) (qt 1) st M
theorem mpR_b {a s : Int} (h1 : 0 ≤ a ∧ a ≤ 99) (h2 : 0 ≤ s ∧ s ≤ 12) : -1188 ≤ -a * s ∧ -a * s ≤ 0 := by
  have h3 : 0 ≤ a * s := Int.mul_nonneg h1.1 h2.1
  have h4 := Int.mul_le_mul h1.2 h2.2 h2.1 (by omega : (0 : Int) ≤ 99)
  have h5 : -a * s = -(a * s) := Int.neg_mul a s
  omega
theorem mpR_rng {qu ql qg qa : Nat → Int} {B : Nat} {qt : Nat → Int} {M : Nat} {st : Int} (h : ∀ j, j < 3 → 0 ≤ qt j ∧ qt j ≤ 99) (hM : M ≤ 40) : -6000 ≤ mpR qu ql qg qa B qt M st ∧ mpR qu ql qg qa B qt M st ≤ 6000 := by
  have h2 := mpF_rng (qu := qu) (ql := ql) (qg := qg) (qa := qa) (B := B) (t0 := qt 0) (t1 := qt 1) (st := st) (h 0 (by omega)) (h 1 (by omega)) M
  have h3 := mpR_b (a := qt 2) (s := szB st 12) (h 2 (by omega)) (by have := szB_rng st 12; omega)
  unfold mpR
  omega
def bsV (kw pt : Nat → Int) : Nat → Nat → Int × Int × Int → Int × Int × Int
  | 0, _, s => s
  | f + 1, k, s => bsV kw pt f (k + 1) (if s.2.1 < pt k then (kw k, pt k, s.2.1) else (s.1, s.2.1, if s.2.2 < pt k then pt k else s.2.2))
theorem bsV_rng {kw pt : Nat → Int} (hk : ∀ p, p < 93 → 0 ≤ kw p ∧ kw p ≤ 255) (hp : ∀ p, p < 93 → -6000 ≤ pt p ∧ pt p ≤ 6000) : ∀ (f k : Nat) (s : Int × Int × Int), k + f ≤ 93 → (0 ≤ s.1 ∧ s.1 ≤ 255) → (-6000 ≤ s.2.1 ∧ s.2.1 ≤ 6000) → (-100000 ≤ s.2.2 ∧ s.2.2 ≤ 6000) → (0 ≤ (bsV kw pt f k s).1 ∧ (bsV kw pt f k s).1 ≤ 255) ∧ (-6000 ≤ (bsV kw pt f k s).2.1 ∧ (bsV kw pt f k s).2.1 ≤ 6000) ∧ (-100000 ≤ (bsV kw pt f k s).2.2 ∧ (bsV kw pt f k s).2.2 ≤ 6000) := by
  intro f
  induction f with
  | zero => intro k s _ h1 h2 h3; exact ⟨h1, h2, h3⟩
  | succ f ih =>
    intro k s h h1 h2 h3
    have q := hk k (by omega)
    have q2 := hp k (by omega)
    unfold bsV
    split
    · exact ih (k + 1) _ (by omega) q q2 (show -100000 ≤ s.2.1 ∧ s.2.1 ≤ 6000 by omega)
    · refine ih (k + 1) _ (by omega) h1 h2 ?_
      show -100000 ≤ (if s.2.2 < pt k then pt k else s.2.2) ∧ (if s.2.2 < pt k then pt k else s.2.2) ≤ 6000
      split <;> omega
def cnM (qu ql qg qa : Nat → Int) (B : Nat) (what : Int) : Nat → Int
  | 0 => 0
  | n + 1 => cnM qu ql qg qa B what n + (if what = 0 ∨ (what = 1 ∧ ¬ qa (B + n) = 0) ∨ (what = 2 ∧ qa (B + n) = 0 ∧ qg (B + n) = qu (B + n) - ql (B + n)) ∨ (what = 3 ∧ qa (B + n) = 0 ∧ anyH (cqv qu ql qg (B + n)) 93 = 0) then 1 else 0)
theorem cnM_rng (qu ql qg qa : Nat → Int) (B : Nat) (what : Int) : ∀ n : Nat, 0 ≤ cnM qu ql qg qa B what n ∧ cnM qu ql qg qa B what n ≤ n := by
  intro n
  induction n with
  | zero => simp [cnM]
  | succ n ih => unfold cnM; split <;> omega
def ckF (qm qa cq : Nat → Int) (K : Int) (c : Int) : Nat → Int
  | 0 => 0
  | n + 1 => ckF qm qa cq K c n + (if vdP qm K n ∧ qa n = 0 ∧ cq n = c then 1 else 0)
theorem ckF_rng (qm qa cq : Nat → Int) (K c : Int) : ∀ n : Nat, 0 ≤ ckF qm qa cq K c n ∧ ckF qm qa cq K c n ≤ n := by
  intro n
  induction n with
  | zero => simp [ckF]
  | succ n ih => unfold ckF; split <;> omega
abbrev sgP (qm qa cq : Nat → Int) (K : Int) (k : Nat) : Prop := vdP qm K k ∧ qa k = 0 ∧ anyH (cq k) 93 = 0
/-- the most given strange answer among the first n places -/
def SgI (qm qa cq : Nat → Int) (K : Int) (n : Nat) (bs ms : Int) : Prop :=
  (ms = 0 ∧ bs = -4 ∧ ∀ k, k < n → ¬ sgP qm qa cq K k) ∨
  (0 < ms ∧ 0 ≤ bs ∧ bs < n ∧ sgP qm qa cq K bs.toNat ∧ ckF qm qa cq K (cq bs.toNat) 480 = ms ∧ ∀ k, k < n → sgP qm qa cq K k → ckF qm qa cq K (cq k) 480 < ms ∨ (ckF qm qa cq K (cq k) 480 = ms ∧ cq bs.toNat ≤ cq k))
theorem SgI.zero (qm qa cq : Nat → Int) (K : Int) : SgI qm qa cq K 0 (-4) 0 := Or.inl ⟨rfl, rfl, fun k hk => absurd hk (Nat.not_lt_zero k)⟩
theorem SgI.skip {qm qa cq : Nat → Int} {K : Int} {n : Nat} {bs ms : Int} (h : SgI qm qa cq K n bs ms) (h1 : ¬ sgP qm qa cq K n) : SgI qm qa cq K (n + 1) bs ms := by
  rcases h with ⟨a, b, c⟩ | ⟨a, b, c, d, e, f⟩
  · exact Or.inl ⟨a, b, fun k hk => if z : k = n then (by rw [z]; exact h1) else c k (by omega)⟩
  · exact Or.inr ⟨a, b, by omega, d, e, fun k hk hs => if z : k = n then absurd (z ▸ hs) h1 else f k (by omega) hs⟩
theorem SgI.take {qm qa cq : Nat → Int} {K : Int} {n : Nat} {bs ms : Int} (h : SgI qm qa cq K n bs ms) (h1 : sgP qm qa cq K n) (h0 : 0 < ckF qm qa cq K (cq n) 480) (h2 : ms < ckF qm qa cq K (cq n) 480 ∨ (ckF qm qa cq K (cq n) 480 = ms ∧ cq n < cq bs.toNat)) : SgI qm qa cq K (n + 1) (n : Int) (ckF qm qa cq K (cq n) 480) := by
  have e9 : ((n : Int)).toNat = n := by omega
  refine Or.inr ⟨h0, by omega, by omega, by rw [e9]; exact h1, by rw [e9], fun k hk hs => ?_⟩
  rw [e9]
  by_cases z : k = n
  · rw [z]; exact Or.inr ⟨rfl, by omega⟩
  · rcases h with ⟨a, b, c⟩ | ⟨a, b, c, d, e, f⟩
    · exact absurd hs (c k (by omega))
    · rcases f k (by omega) hs with f | f
      · rcases h2 with h2 | h2
        · exact Or.inl (by omega)
        · exact Or.inl (by omega)
      · rcases h2 with h2 | h2
        · exact Or.inl (by omega)
        · exact Or.inr ⟨by omega, by omega⟩
theorem SgI.keep {qm qa cq : Nat → Int} {K : Int} {n : Nat} {bs ms : Int} (h : SgI qm qa cq K n bs ms) (h0 : 0 < ckF qm qa cq K (cq n) 480) (h2 : ¬ ms < ckF qm qa cq K (cq n) 480) (h3 : ¬ (ckF qm qa cq K (cq n) 480 = ms ∧ cq n < cq bs.toNat)) : SgI qm qa cq K (n + 1) bs ms := by
  rcases h with ⟨a, b, c⟩ | ⟨a, b, c, d, e, f⟩
  · omega
  · exact Or.inr ⟨a, b, by omega, d, e, fun k hk hs => if z : k = n then (by rw [z]; omega) else f k (by omega) hs⟩
theorem ckF_self {qm qa cq : Nat → Int} {K : Int} {k : Nat} (h : vdP qm K k ∧ qa k = 0) : ∀ n, k < n → 0 < ckF qm qa cq K (cq k) n := by
  intro n
  induction n with
  | zero => intro h9; omega
  | succ n ih =>
    intro h9
    have r := ckF_rng qm qa cq K (cq k) n
    unfold ckF
    by_cases z : k = n
    · subst z
      rw [if_pos ⟨h.1, h.2, rfl⟩]
      omega
    · have := ih (by omega)
      split <;> omega
abbrev AnOK (qu ql qg qa : Nat → Int) (k : Nat) : Prop := (TaskP (qu k) (ql k) ∧ 0 ≤ qg k ∧ qg k ≤ 999) ∧ (qa k = 0 ∨ qa k = 1)
theorem vd_at {qm : Nat → Int} {K : Int} {k j : Nat} (h : j < 40) (h1 : (j : Int) < qm k) (h2 : (k : Int) < K) : vdP qm K (40 * k + j) := by
  unfold vdP
  rw [show (40 * k + j) / 40 = k from by omega, show (40 * k + j) % 40 = j from by omega]
  exact ⟨h1, h2⟩
