/-! how many answers are different; the task that parts best -/
def sn (w : Nat → Int) (x : Int) : Nat → Int
  | 0 => 1
  | n + 1 => if w n = x then 0 else sn w x n
def dif (w : Nat → Int) : Nat → Int
  | 0 => 0
  | n + 1 => dif w n + sn w (w n) n
theorem sn_01 (w : Nat → Int) (x : Int) : ∀ n, sn w x n = 0 ∨ sn w x n = 1 := by
  intro n
  induction n with
  | zero => exact Or.inr rfl
  | succ n ih => unfold sn; split <;> first | exact Or.inl rfl | exact ih
theorem sn_congr {w w' : Nat → Int} (x : Int) : ∀ n, (∀ j, j < n → w j = w' j) → sn w x n = sn w' x n := by
  intro n
  induction n with
  | zero => intro _; rfl
  | succ n ih =>
    intro h
    unfold sn
    rw [h n (by omega), ih (fun j hj => h j (by omega))]
theorem dif_rng (w : Nat → Int) : ∀ n : Nat, 0 ≤ dif w n ∧ dif w n ≤ n := by
  intro n
  induction n with
  | zero => simp [dif]
  | succ n ih => have := sn_01 w (w n) n; unfold dif; omega
theorem dif_congr {w w' : Nat → Int} : ∀ n, (∀ j, j < n → w j = w' j) → dif w n = dif w' n := by
  intro n
  induction n with
  | zero => intro _; rfl
  | succ n ih =>
    intro h
    unfold dif
    rw [ih (fun j hj => h j (by omega)), h n (by omega), sn_congr (w' n) n (fun j hj => h j (by omega))]
theorem sn_new {w fg : Nat → Int} {D j : Nat} (h : ∀ x, sn fg x D = sn w x j) : ∀ x, sn (va_up fg D (w j)) x (D + 1) = sn w x (j + 1) := by
  intro x
  simp only [sn]
  rw [up_s, sn_congr (w' := fg) x D (fun e he => up_n _ _ _ _ (by omega)), h x]
theorem sn_old {w fg : Nat → Int} {D j : Nat} (h : ∀ x, sn fg x D = sn w x j) (h0 : sn w (w j) j = 0) : ∀ x, sn fg x D = sn w x (j + 1) := by
  intro x
  rw [h x]
  simp only [sn]
  split
  · rename_i e; rw [← e, h0]
  · rfl
def aS (ps : Nat → Int) : Nat → Nat → Int
  | 0, _ => 1
  | f + 1, j => if 0 ≤ ps j ∧ ps j ≤ 255 then aS ps f (j + 1) else 0
theorem aS_congr {ps ps' : Nat → Int} : ∀ (f j : Nat), (∀ k, j ≤ k → k < j + f → ps k = ps' k) → aS ps f j = aS ps' f j := by
  intro f
  induction f with
  | zero => intro j _; rfl
  | succ f ih =>
    intro j h
    unfold aS
    rw [h j (by omega) (by omega), ih (j + 1) (fun k h1 h2 => h k (by omega) (by omega))]
def pbI (D : Nat → Nat → Int) (mu : Nat) : Nat → Nat → Int × Int → Int × Int
  | 0, _, s => s
  | f + 1, le, s => pbI D mu f (le + 1) (if s.2 < D mu le then (1000 * (mu : Int) + le, D mu le) else s)
def pbO (D : Nat → Nat → Int) : Nat → Nat → Int × Int → Int × Int
  | 0, _, s => s
  | f + 1, mu, s => pbO D f (mu + 1) (pbI D mu (mu + 1) 0 s)
theorem pbI_full {D : Nat → Nat → Int} {k : Int} (hD : ∀ mu le, D mu le ≤ k) (mu : Nat) : ∀ (f le : Nat) (s : Int × Int), k ≤ s.2 → pbI D mu f le s = s := by
  intro f
  induction f with
  | zero => intro le s _; rfl
  | succ f ih =>
    intro le s h
    unfold pbI
    rw [if_neg (by have := hD mu le; omega)]
    exact ih _ s h
theorem pbO_full {D : Nat → Nat → Int} {k : Int} (hD : ∀ mu le, D mu le ≤ k) : ∀ (f mu : Nat) (s : Int × Int), k ≤ s.2 → pbO D f mu s = s := by
  intro f
  induction f with
  | zero => intro mu s _; rfl
  | succ f ih =>
    intro mu s h
    unfold pbO
    rw [pbI_full hD mu _ _ s h]
    exact ih _ s h
def dfD (ps : Nat → Int) (k : Nat) (mu le : Nat) : Int := dif (fun j => wk mu le (ps j)) k
theorem dfD_rng (ps : Nat → Int) (k mu le : Nat) : 0 ≤ dfD ps k mu le ∧ dfD ps k mu le ≤ k := dif_rng _ k
def probeR (ps : Nat → Int) (k n : Int) : Int := if aS ps k.toNat 0 = 0 then -2 else (pbO (dfD ps k.toNat) n.toNat 0 (0, 0)).1
theorem probeR_congr {ps ps' : Nat → Int} {k n : Int} (h : ∀ j, j < k.toNat → ps j = ps' j) : probeR ps k n = probeR ps' k n := by
  unfold probeR
  rw [aS_congr (ps' := ps') _ _ (fun j _ hj => h j (by omega))]
  have e : dfD ps k.toNat = dfD ps' k.toNat := by
    funext mu le
    exact dif_congr _ (fun j hj => by rw [h j hj])
  rw [e]
theorem aS_all {ps : Nat → Int} : ∀ (f j : Nat), aS ps f j = 1 → ∀ k, j ≤ k → k < j + f → 0 ≤ ps k ∧ ps k ≤ 255 := by
  intro f
  induction f with
  | zero => intro j _ k h1 h2; omega
  | succ f ih =>
    intro j h k h1 h2
    unfold aS at h
    split at h
    · by_cases e : k = j
      · subst e; assumption
      · exact ih (j + 1) h k (by omega) (by omega)
    · cases h
