theorem fg_hide {g : GT} {LA : Nat → Nat → Nat} {LZ : Nat → Nat → Int} {LT : Nat → Nat → Nat → Int} {j K : Nat} (h : j < K) (X : va_W) : WS ((X ++ [(LA j 0, .inr (1, [.int (iI (LZ j 0)), .int (iI (LZ j 1)), .ref (LA j 1), .ref (LA j 5), .ref (LA j 6), .ref (LA j 7), .ref (LA j 8)])), (LA j 1, .inr (2, [.ref (LA j 2), .ref (LA j 3), .ref (LA j 4)])), (LA j 2, aI (g.2.1 0) 8 (fun _ => (-1))), (LA j 3, aI (g.2.1 1) 8 (fun _ => 0)), (LA j 4, aI (g.2.1 0) 8 (fun _ => 8)), (LA j 5, aI (g.2.1 0) 40 (fgT LT j j 5)), (LA j 6, aI (g.2.1 1) 40 (fgT LT j j 6)), (LA j 7, aI (g.2.1 1) 40 (fgT LT j j 7)), (LA j 8, aI (g.2.1 0) 93 (fgT LT j j 8))]) ++ blkX g LA LZ (fgT LT j) j K) (X ++ blk g LA LZ (fgT LT (j + 1)) K) := by
  have a : ∀ k, fgT LT (j + 1) j k = (if k = 2 then (fun _ => -1) else if k = 3 then (fun _ => 0) else if k = 4 then (fun _ => 8) else LT j k) := fun k => by unfold fgT; rw [if_pos (Nat.lt_succ_self j)]
  have b : ∀ k, fgT LT j j k = LT j k := fun k => by rw [fgT_at]
  have e := blk_hide (g := g) (A := LA) (Z := LZ) (Z' := LZ) (T := fgT LT j) (T' := fgT LT (j + 1)) h X (fun i hi => ⟨rfl, fgT_ne LT hi⟩)
  unfold lcs at e
  rw [a 2, a 3, a 4, a 5, a 6, a 7, a 8] at e
  rw [b 5, b 6, b 7, b 8]
  exact e
theorem rdF_lo (t : Nat → Int) (L : Nat) : ∀ (f k p : Nat) (S : CST), L ≤ 100 → p ≤ L → k + f ≤ 9 → 1 ≤ k → -120 ≤ (rdF t L f k p S).1 ∧ (rdF t L f k p S).1 ≤ 9 := by
  intro f
  induction f with
  | zero => intro k p S hL hp hk h1; show -120 ≤ -20 - (p : Int) ∧ -20 - (p : Int) ≤ 9; omega
  | succ f ih =>
    intro k p S hL hp hk h1
    have q := clF_rng t L S.1 p hp
    have q2 := sk_le t (L := L) (p := (clF t L S.1 p).2.1) q.2.1
    unfold rdF
    split
    · show -120 ≤ -20 - ((clF t L S.1 p).2.1 : Int) ∧ _; refine ⟨by omega, ?_⟩; show -20 - ((clF t L S.1 p).2.1 : Int) ≤ 9; omega
    · split
      · show -120 ≤ (k : Int) ∧ (k : Int) ≤ 9; omega
      · split
        · show -120 ≤ -20 - (sk t L (clF t L S.1 p).2.1 : Int) ∧ -20 - (sk t L (clF t L S.1 p).2.1 : Int) ≤ 9; omega
        · exact ih _ _ _ hL (by omega) (by omega) (by omega)
