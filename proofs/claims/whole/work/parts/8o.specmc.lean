def StA (a17 a18 : Int) (L p : Nat) (C : Prop) (F : Nat → Prop) : Prop := (a18 = 0 ∧ C ∧ a17 = (p : Int) ∧ p ≤ L) ∨ (a18 = 1 ∧ ∃ q9 : Nat, a17 = (q9 : Int) ∧ q9 ≤ L ∧ F q9)
theorem StA.at {a17 a18 : Int} {L p : Nat} {C : Prop} {F : Nat → Prop} (h : StA a17 a18 L p C F) : (∃ q1 : Nat, a17 = (q1 : Int) ∧ q1 ≤ L) ∧ (a18 = 0 ∨ a18 = 1) := by
  rcases h with z | ⟨z, q9, z1, z2, _⟩
  · exact ⟨⟨p, z.2.2.1, z.2.2.2⟩, Or.inl z.1⟩
  · exact ⟨⟨q9, z1, z2⟩, Or.inr z⟩
theorem StA.stepE {a17 a18 b17 b18 : Int} {L p p' q1 : Nat} {C C' : Prop} {F : Nat → Prop} {P E : Nat → Prop} {X Y : Nat → Int} (h : StA a17 a18 L p C F) (hq : a17 = (q1 : Int)) (e : (a18 = 1 ∧ b17 = a17 ∧ b18 = 1) ∨ (a18 = 0 ∧ P q1 ∧ b17 = X q1 ∧ b18 = 0 ∧ E q1) ∨ (a18 = 0 ∧ ¬ P q1 ∧ b17 = Y q1 ∧ b18 = 1)) (hg : C → P p → E p → X p = (p' : Int) ∧ p' ≤ L ∧ C') (hb : C → ¬ P p → ∃ q9 : Nat, Y p = (q9 : Int) ∧ q9 ≤ L ∧ F q9) : StA b17 b18 L p' C' F := by
  rcases h with ⟨z, zC, z17, zL⟩ | ⟨z, q9, z1, z2, z3⟩
  · have hp : q1 = p := by omega
    subst hp
    rcases e with y | y | y
    · omega
    · obtain ⟨k1, k2, k3⟩ := hg zC y.2.1 y.2.2.2.2
      exact Or.inl ⟨y.2.2.2.1, k3, by rw [y.2.2.1, k1], k2⟩
    · obtain ⟨q9, k1, k2, k3⟩ := hb zC y.2.1
      exact Or.inr ⟨y.2.2.2, q9, by rw [y.2.2.1, k1], k2, k3⟩
  · rcases e with y | y | y
    · exact Or.inr ⟨y.2.2, q9, by rw [y.2.1, z1], z2, z3⟩
    · omega
    · omega
theorem StA.step {a17 a18 b17 b18 : Int} {L p p' q1 : Nat} {C C' : Prop} {F : Nat → Prop} {P : Nat → Prop} {X Y : Nat → Int} (h : StA a17 a18 L p C F) (hq : a17 = (q1 : Int)) (e : (a18 = 1 ∧ b17 = a17 ∧ b18 = 1) ∨ (a18 = 0 ∧ P q1 ∧ b17 = X q1 ∧ b18 = 0) ∨ (a18 = 0 ∧ ¬ P q1 ∧ b17 = Y q1 ∧ b18 = 1)) (hg : C → P p → X p = (p' : Int) ∧ p' ≤ L ∧ C') (hb : C → ¬ P p → ∃ q9 : Nat, Y p = (q9 : Int) ∧ q9 ≤ L ∧ F q9) : StA b17 b18 L p' C' F :=
  h.stepE (E := fun _ => True) hq (e.imp id (Or.imp (fun y => ⟨y.1, y.2.1, y.2.2.1, y.2.2.2, trivial⟩) id)) (fun a b _ => hg a b) hb
/-- what has been read of a clause -/
def ClC (t : Nat → Int) (L : Nat) (hs : Nat → Int) (q s : Nat) (n : Nat) (v1 v2 : Int) : Prop :=
  (ltP t L q ∧ ¬ 0 < hs (ltS t L q)) ∧ s = ltS t L q ∧ (2 ≤ n → psP t L 61 (cA t L q)) ∧ (3 ≤ n → nuP t L 1 20 (cB t L q) ∧ v1 = nuV t L (cB t L q)) ∧ (4 ≤ n → psP t L 47 (cC t L q)) ∧ (5 ≤ n → nuP t L 0 99 (cD t L q) ∧ v2 = nuV t L (cD t L q))
abbrev ClB (t : Nat → Int) (L : Nat) (hs : Nat → Int) (q : Nat) : Nat → Prop := fun q9 => clF t L hs q = (0, q9, 0, 0, 0, 0)
/-- the clause has been read -/
def ClD (t : Nat → Int) (L : Nat) (hs : Nat → Int) (q s : Nat) (v1 v2 : Int) (b : Nat) (a17 a18 : Int) : Prop :=
  (a18 = 0 ∧ ∃ q9 : Nat, q9 ≤ L ∧ a17 = (q9 : Int) ∧ clF t L hs q = (1, q9, s, v1, v2, b)) ∨ (a18 = 1 ∧ a17 = ((clF t L hs q).2.1 : Int) ∧ (clF t L hs q).2.1 ≤ L ∧ (clF t L hs q).1 = 0)
theorem ClD.bad {t : Nat → Int} {L : Nat} {hs : Nat → Int} {q s : Nat} {v1 v2 : Int} {b : Nat} {a17 a18 : Int} (h : a18 = 1 ∧ ∃ q9 : Nat, a17 = (q9 : Int) ∧ q9 ≤ L ∧ ClB t L hs q q9) : ClD t L hs q s v1 v2 b a17 a18 := by
  obtain ⟨h1, q9, h2, h3, h4⟩ := h
  have h4 : clF t L hs q = (0, q9, 0, 0, 0, 0) := h4
  exact Or.inr ⟨h1, by rw [h4]; exact h2, by rw [h4]; exact h3, by rw [h4]⟩
theorem ClD.no {t : Nat → Int} {L : Nat} {hs : Nat → Int} {q s : Nat} {v1 v2 : Int} {a17 a18 : Int} (h : ClC t L hs q s 5 v1 v2) (h1 : ¬ psP t L 58 (cE t L q)) (h2 : a18 = 0) (h3 : a17 = (sk t L (cE t L q) : Int)) : ClD t L hs q s v1 v2 0 a17 a18 := by
  obtain ⟨c1, c2, c3, c4, c5, c6⟩ := h
  have hE := cE_le (c5 (by omega))
  refine Or.inl ⟨h2, _, (sk_le t hE).2, h3, ?_⟩
  rw [clF_5 c1 (c3 (by omega)) (c4 (by omega)).1 (c5 (by omega)) (c6 (by omega)).1 h1, c2, (c4 (by omega)).2, (c6 (by omega)).2]
theorem ClD.ln {t : Nat → Int} {L : Nat} {hs : Nat → Int} {q s : Nat} {v1 v2 : Int} {a17 a18 ok : Int} {q9 b : Nat} (h : ClC t L hs q s 5 v1 v2) (h1 : psP t L 58 (cE t L q)) (h2 : lnF t L hs 100 (cG t L q) 0 = (ok, q9, b)) (h3 : (ok = 1 ∧ a18 = 0) ∨ (ok = 0 ∧ a18 = 1)) (h4 : a17 = (q9 : Int)) (b' : Nat) (hb : ok = 1 → b' = b) : ClD t L hs q s v1 v2 b' a17 a18 := by
  obtain ⟨c1, c2, c3, c4, c5, c6⟩ := h
  have hr := lnF_rng t L hs 100 (cG t L q) 0 (cG_le h1) (by omega)
  have hF := clF_6 c1 (c3 (by omega)) (c4 (by omega)).1 (c5 (by omega)) (c6 (by omega)).1 h1
  rw [h2] at hF hr
  rcases h3 with h3 | h3
  · refine Or.inl ⟨h3.2, q9, hr.2.1, h4, ?_⟩
    rw [hF, h3.1, c2, (c4 (by omega)).2, (c6 (by omega)).2, hb h3.1]
  · refine Or.inr ⟨h3.2, ?_⟩
    rw [hF]
    exact ⟨h4, hr.2.1, h3.1⟩
theorem ln_bad {t : Nat → Int} {L : Nat} {hs : Nat → Int} {f p b : Nat} (h : ¬ (ltP t L p ∧ 0 < hs (ltS t L p))) : lnF t L hs (f + 1) p b = (0, sk t L p, b) := by
  unfold lnF
  rw [if_neg h]
theorem ln_end {t : Nat → Int} {L : Nat} {hs : Nat → Int} {f p b : Nat} (h : ltP t L p ∧ 0 < hs (ltS t L p)) (h1 : ¬ psP t L 44 (sk t L p + 1)) : lnF t L hs (f + 1) p b = (1, sk t L (sk t L p + 1), b ||| 2 ^ ltS t L p) := by
  unfold lnF
  rw [if_pos h, if_neg h1]
theorem ln_more {t : Nat → Int} {L : Nat} {hs : Nat → Int} {f p b : Nat} (h : ltP t L p ∧ 0 < hs (ltS t L p)) (h1 : psP t L 44 (sk t L p + 1)) : lnF t L hs (f + 1) p b = lnF t L hs f (sk t L (sk t L p + 1) + 1) (b ||| 2 ^ ltS t L p) := by
  conv => lhs; unfold lnF
  rw [if_pos h, if_pos h1]
theorem iI_or0 {x : Int} (h : 0 ≤ x ∧ x < 256) : iI x ||| iI 0 = iI x := by
  have e := iI_orN x.toNat 0
  rw [Nat.or_zero, show ((x.toNat : Nat) : Int) = x from by omega] at e
  exact e
