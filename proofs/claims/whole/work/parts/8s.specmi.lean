def okI (size : Nat) : Nat → Nat → Nat → Option Nat
  | 0, _, n => some n
  | f + 1, st, n => if szB (st : Int) 12 = (size : Int) then (if oT n = (st : Int) ∧ n < 93 then okI size f (st + 1) (n + 1) else none) else okI size f (st + 1) n
def okO : Nat → Nat → Nat → Option Nat
  | 0, _, n => some n
  | f + 1, size, n => (okI size 256 0 n).bind (okO f (size + 1))
theorem okO_all : okO 4 0 0 = some 93 := by decide +kernel
theorem okI_hit {size f st n m : Nat} {k : Nat → Option Nat} (h : (okI size (f + 1) st n).bind k = some m) (h1 : szB (st : Int) 12 = (size : Int)) : oT n = (st : Int) ∧ n < 93 ∧ (okI size f (st + 1) (n + 1)).bind k = some m := by
  unfold okI at h
  rw [if_pos h1] at h
  split at h
  · rename_i z; exact ⟨z.1, z.2, h⟩
  · cases h
theorem okI_miss {size f st n m : Nat} {k : Nat → Option Nat} (h : (okI size (f + 1) st n).bind k = some m) (h1 : ¬ szB (st : Int) 12 = (size : Int)) : (okI size f (st + 1) n).bind k = some m := by
  unfold okI at h
  rw [if_neg h1] at h
  exact h
