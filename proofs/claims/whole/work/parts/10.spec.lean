/-! WORK of a TASK by a SET, as numbers -/
abbrev fs (s k : Int) : Prop := s / 2 ^ k.toNat % 2 = 1
def dg (z : Int) (c : Nat) : Int := z / 10 ^ c % 10
def bey (less : Int) (c : Nat) : Int := if 0 < c ∧ less / 10 ^ c = 0 then 1 else 0
def pv (s x : Int) : Int := if fs s 7 then min 9 (x + 1) else x - 1
def payR (s : Int) : Nat → Nat → (Nat → Int) → (Nat → Int)
  | 0, _, a => a
  | n + 1, c, a => if 0 < a c then va_up a c (pv s (a c)) else if fs s 3 then va_up a c 9 else if fs s 4 then payR s n (c + 1) a else payR s n (c + 1) (va_up a c 9)
def cd (s b up low : Int) : Int := if b = 1 ∧ fs s 6 then 0 else if low = 0 ∧ fs s 5 then 1 else if up = 0 ∧ 0 < low ∧ fs s 2 then 2 else if low ≤ up then 3 else if fs s 0 then 4 else 5
def cg (s b up low : Int) : Int := if b = 1 ∧ fs s 6 then 0 else if low = 0 ∧ fs s 5 then 0 else if up = 0 ∧ 0 < low ∧ fs s 2 then low else if low ≤ up then up - low else if fs s 0 then low - up else 10 + up - low
def cpay (s b up low : Int) : Prop := ¬ (b = 1 ∧ fs s 6) ∧ ¬ (low = 0 ∧ fs s 5) ∧ ¬ (up = 0 ∧ 0 < low ∧ fs s 2) ∧ ¬ low ≤ up ∧ ¬ fs s 0 ∧ ¬ fs s 1
def caF (s b low : Int) (c : Nat) (a : Nat → Int) : Nat → Int := if b = 1 ∧ fs s 6 then a else if low = 0 ∧ fs s 5 then a else if a c = 0 ∧ 0 < low ∧ fs s 2 then a else if low ≤ a c then a else if fs s 0 then a else if fs s 1 then a else payR s (2 - c) (c + 1) a
def wkA (s much less : Int) : Nat → Nat → Int
  | 0 => fun j => dg much j
  | c + 1 => caF s (bey less c) (dg less c) c (wkA s much less c)
def wkD (s much less : Int) (c : Nat) : Int := cd s (bey less c) (wkA s much less c c) (dg less c)
def wkG (s much less : Int) (c : Nat) : Int := cg s (bey less c) (wkA s much less c c) (dg less c)
def wk (much less s : Int) : Int := 100 * wkG s much less 2 + 10 * wkG s much less 1 + wkG s much less 0
theorem dg_rng (z : Int) (c : Nat) : 0 ≤ dg z c ∧ dg z c ≤ 9 := by
  unfold dg
  omega
theorem dg_0 (z : Int) : dg z 0 = z % 10 := by simp [dg]
theorem dg_1 (z : Int) : dg z 1 = z / 10 % 10 := by simp [dg]
theorem dg_2 (z : Int) : dg z 2 = z / 100 % 10 := by simp [dg]
theorem dv_10 (z : Int) (c : Nat) : z / 10 ^ c / 10 = z / 10 ^ (c + 1) := by
  rw [Int.pow_succ, Int.ediv_ediv_of_nonneg (Int.pow_nonneg (by omega))]
theorem bey_rng (less : Int) (c : Nat) : bey less c = 0 ∨ bey less c = 1 := by
  unfold bey
  split
  · exact Or.inr rfl
  · exact Or.inl rfl
theorem payR_congr (s : Int) : ∀ (n c : Nat) (a b : Nat → Int), n + c ≤ 3 → (∀ j, j < 3 → a j = b j) → ∀ j, j < 3 → payR s n c a j = payR s n c b j := by
  intro n
  induction n with
  | zero => intro c a b _ h j hj; exact h j hj
  | succ n ih =>
    intro c a b hc h j hj
    have hu : ∀ v : Int, ∀ j, j < 3 → va_up a c v j = va_up b c v j := by
      intro v j hj
      unfold va_up
      split
      · rfl
      · exact h j hj
    unfold payR
    rw [h c (by omega)]
    split
    · exact hu _ j hj
    · split
      · exact hu _ j hj
      · split
        · exact ih (c + 1) a b (by omega) h j hj
        · exact ih (c + 1) _ _ (by omega) (hu 9) j hj
theorem payR_rng (s : Int) : ∀ (n c : Nat) (a : Nat → Int), (∀ j, j < 3 → 0 ≤ a j ∧ a j ≤ 9) → n + c ≤ 3 → ∀ j, j < 3 → 0 ≤ payR s n c a j ∧ payR s n c a j ≤ 9 := by
  intro n
  induction n with
  | zero => intro c a h _ j hj; exact h j hj
  | succ n ih =>
    intro c a h hc j hj
    have hu : ∀ v : Int, 0 ≤ v ∧ v ≤ 9 → ∀ j, j < 3 → 0 ≤ va_up a c v j ∧ va_up a c v j ≤ 9 := by
      intro v hv j hj
      unfold va_up
      split
      · exact hv
      · exact h j hj
    unfold payR
    have h1 := h c (by omega)
    split
    · refine hu _ ?_ j hj
      unfold pv
      split <;> omega
    · split
      · exact hu 9 (by omega) j hj
      · split
        · exact ih (c + 1) a h (by omega) j hj
        · exact ih (c + 1) _ (hu 9 (by omega)) (by omega) j hj
theorem caF_congr (s b low : Int) (c : Nat) (hc : c < 3) (a a' : Nat → Int) (h : ∀ j, j < 3 → a j = a' j) : ∀ j, j < 3 → caF s b low c a j = caF s b low c a' j := by
  intro j hj
  unfold caF
  rw [h c hc]
  repeat' split
  all_goals first | exact h j hj | exact payR_congr s _ _ _ _ (by omega) h j hj
theorem wkA_rng (s much less : Int) : ∀ c, c ≤ 3 → ∀ j, j < 3 → 0 ≤ wkA s much less c j ∧ wkA s much less c j ≤ 9 := by
  intro c
  induction c with
  | zero => intro _ j _; exact dg_rng much j
  | succ c ih =>
    intro hc j hj
    have h := ih (by omega)
    show 0 ≤ caF s (bey less c) (dg less c) c (wkA s much less c) j ∧ caF s (bey less c) (dg less c) c (wkA s much less c) j ≤ 9
    unfold caF
    repeat' split
    all_goals first | exact h j hj | exact payR_rng s _ _ _ h (by omega) j hj
theorem wkG_rng (s much less : Int) (c : Nat) (hc : c < 3) : 0 ≤ wkG s much less c ∧ wkG s much less c ≤ 9 := by
  have h1 := wkA_rng s much less c (by omega) c hc
  have h2 := dg_rng less c
  unfold wkG cg
  repeat' split
  all_goals omega
theorem wkD_rng (s much less : Int) (c : Nat) : 0 ≤ wkD s much less c ∧ wkD s much less c ≤ 5 := by
  unfold wkD cd
  repeat' split
  all_goals omega
theorem wk_rng (much less s : Int) : 0 ≤ wk much less s ∧ wk much less s ≤ 999 := by
  have h0 := wkG_rng s much less 0 (by omega)
  have h1 := wkG_rng s much less 1 (by omega)
  have h2 := wkG_rng s much less 2 (by omega)
  unfold wk
  omega
theorem up_s {α : Type} (f : Nat → α) (k : Nat) (v : α) : va_up f k v k = v := by simp [va_up]
theorem up_n {α : Type} (f : Nat → α) (k j : Nat) (v : α) (h : j ≠ k) : va_up f k v j = f j := by simp [va_up, h]
theorem lt3 {P : Nat → Prop} (h0 : P 0) (h1 : P 1) (h2 : P 2) : ∀ j, j < 3 → P j := by
  intro j hj
  rcases (show j = 0 ∨ j = 1 ∨ j = 2 by omega) with h | h | h <;> subst h <;> assumption
theorem up_rng {f : Nat → Int} {n : Nat} {v : Int} (h : ∀ j, j < 3 → 0 ≤ f j ∧ f j ≤ 9) (hv : 0 ≤ v ∧ v ≤ 9) : ∀ j, j < 3 → 0 ≤ va_up f n v j ∧ va_up f n v j ≤ 9 := by
  intro j hj
  unfold va_up
  split
  · exact hv
  · exact h j hj
/-! the fields of the two large objects: addresses and ints by the field's number -/
abbrev mF (a : Nat → Nat) (i : Nat → Int) : List Value := [.ref (a 0), .ref (a 1), .ref (a 2), .ref (a 3), .ref (a 4), .int (iI (i 5)), .ref (a 6), .ref (a 7), .ref (a 8), .ref (a 9), .ref (a 10), .ref (a 11), .int (iI (i 12)), .int (iI (i 13)), .int (iI (i 14)), .ref (a 15), .int (iI (i 16)), .int (iI (i 17)), .int (iI (i 18)), .int (iI (i 19)), .ref (a 20), .ref (a 21), .ref (a 22), .int (iI (i 23)), .ref (a 24), .ref (a 25), .ref (a 26), .ref (a 27), .ref (a 28), .ref (a 29), .int (iI (i 30)), .ref (a 31), .ref (a 32), .ref (a 33), .ref (a 34), .ref (a 35), .ref (a 36)]
abbrev dF (d : Nat → Nat) (i : Nat → Int) : List Value := [.ref (d 0), .ref (d 1), .ref (d 2), .ref (d 3), .int (iI (i 4)), .ref (d 5), .ref (d 6), .int (iI (i 7)), .ref (d 8), .ref (d 9), .ref (d 10), .ref (d 11), .ref (d 12)]
theorem up_le {f h : Nat → Int} {n : Nat} {v : Int} (hv : v = h n) (hf : ∀ j, j < n → f j = h j) : ∀ j, j < n + 1 → va_up f n v j = h j := by
  intro j hj
  unfold va_up
  split
  · rename_i e
    rw [e, hv]
  · exact hf j (by omega)
theorem fsL (st : Int) : (fs st 0 ↔ st % 2 = 1) ∧ (fs st 1 ↔ st / 2 % 2 = 1) ∧ (fs st 2 ↔ st / 4 % 2 = 1) ∧ (fs st 3 ↔ st / 8 % 2 = 1) ∧ (fs st 4 ↔ st / 16 % 2 = 1) ∧ (fs st 5 ↔ st / 32 % 2 = 1) ∧ (fs st 6 ↔ st / 64 % 2 = 1) ∧ (fs st 7 ↔ st / 128 % 2 = 1) := by
  refine ⟨?_, Iff.rfl, Iff.rfl, Iff.rfl, Iff.rfl, Iff.rfl, Iff.rfl, Iff.rfl⟩
  show st / 1 % 2 = 1 ↔ _
  rw [Int.ediv_one]
theorem up_id {f : Nat → Int} {n : Nat} {v : Int} (h : f n = v) : va_up f n v = f := by
  funext j
  unfold va_up
  split
  · rename_i e
    rw [e, h]
  · rfl
theorem bey_wide {less wd : Int} {n : Nat} (hn : n < 3) (h : 0 ≤ less ∧ less ≤ 999) (hw : (wd = 3 ∧ 99 < less) ∨ (wd = 2 ∧ 9 < less ∧ less ≤ 99) ∨ (wd = 1 ∧ less ≤ 9)) : bey less n = 1 ↔ wd ≤ (n : Int) := by
  unfold bey
  rcases (show n = 0 ∨ n = 1 ∨ n = 2 by omega) with e | e | e <;> subst e <;> simp <;> omega
theorem dg_ex {v : Int} {n : Nat} (hn : n < 3) (h : 0 ≤ v ∧ v ≤ 999) : (n = 0 ∧ dg v n = v % 10) ∨ (n = 1 ∧ dg v n = v / 10 % 10) ∨ (n = 2 ∧ dg v n = v / 100) := by
  rcases (show n = 0 ∨ n = 1 ∨ n = 2 by omega) with e | e | e <;> subst e
  · exact Or.inl ⟨rfl, dg_0 v⟩
  · exact Or.inr (Or.inl ⟨rfl, dg_1 v⟩)
  · exact Or.inr (Or.inr ⟨rfl, by rw [dg_2]; omega⟩)
def szB (z : Int) : Nat → Int
  | 0 => 0
  | n + 1 => szB z n + z / 2 ^ n % 2
theorem sh_rng {z : Int} (n : Nat) (h : 0 ≤ z) : 0 ≤ z / 2 ^ n ∧ z / 2 ^ n ≤ z := ⟨Int.ediv_nonneg h (Int.pow_nonneg (by omega)), Int.ediv_le_self _ h⟩
theorem szB_rng (z : Int) : ∀ n : Nat, 0 ≤ szB z n ∧ szB z n ≤ n := by
  intro n
  induction n with
  | zero => simp [szB]
  | succ n ih => unfold szB; omega
