/-! updates of the relation -/
theorem RLn.set {K k : Nat} {LZ : Nat → Nat → Int} {LT : Nat → Nat → Nat → Int} {Zk : Nat → Int} {Tk : Nat → Nat → Int} {qm qu ql qg qa : Nat → Int} (hq : ∀ i, i < 12 → 0 ≤ qm i ∧ qm i ≤ 40) (hk : LnR k Zk Tk qm qu ql qg qa) (ho : ∀ i, i < K → ¬ i = k → LnR i (LZ i) (LT i) qm qu ql qg qa) : RLn K (va_up LZ k Zk) (va_up LT k Tk) qm qu ql qg qa := by
  refine ⟨hq, fun i hi => ?_⟩
  by_cases c : i = k
  · subst c; rw [up_s, up_s]; exact hk
  · rw [up_n _ _ _ _ c, up_n _ _ _ _ c]; exact ho i hi c
theorem RMm.set {K k : Nat} {LT : Nat → Nat → Nat → Int} {Tk : Nat → Nat → Int} {fh hv lt kn : Nat → Int} (h2 : ∀ q, 8 * K ≤ q → q < 96 → hv q = 0 ∧ lt q = 0 ∧ kn q = 0) (hk : MmR k Tk fh hv lt kn) (ho : ∀ i, i < K → ¬ i = k → MmR i (LT i) fh hv lt kn) : RMm K (va_up LT k Tk) fh hv lt kn := by
  refine ⟨fun i hi => ?_, h2⟩
  by_cases c : i = k
  · subst c; rw [up_s]; exact hk
  · rw [up_n _ _ _ _ c]; exact ho i hi c
theorem RLn.keep {K k : Nat} {LZ : Nat → Nat → Int} {LT : Nat → Nat → Nat → Int} {Zk : Nat → Int} {Tk : Nat → Nat → Int} {qm qu ql qg qa : Nat → Int} (h : RLn K LZ LT qm qu ql qg qa) (hk : k < K) (z0 : Zk 0 = LZ k 0) (z1 : Zk 1 = LZ k 1) (t5 : Tk 5 = LT k 5) (t6 : Tk 6 = LT k 6) (t7 : Tk 7 = LT k 7) (t8 : Tk 8 = LT k 8) : RLn K (va_up LZ k Zk) (va_up LT k Tk) qm qu ql qg qa := by
  refine RLn.set h.1 ?_ (fun i hi _ => h.2 i hi)
  have q := h.2 k hk
  unfold LnR at q ⊢
  rw [z0, z1, t5, t6, t7, t8]
  exact q
theorem RMm.keep {K k : Nat} {LT : Nat → Nat → Nat → Int} {Tk : Nat → Nat → Int} {fh hv lt kn : Nat → Int} (h : RMm K LT fh hv lt kn) (hk : k < K) (t2 : Tk 2 = LT k 2) (t3 : Tk 3 = LT k 3) (t4 : Tk 4 = LT k 4) : RMm K (va_up LT k Tk) fh hv lt kn := RMm.set h.2 ((h.1 k hk).T t2 t3 t4) (fun i hi _ => h.1 i hi)
theorem RLn.answers {K k M n : Nat} {LZ : Nat → Nat → Int} {LT : Nat → Nat → Nat → Int} {Zk : Nat → Int} {Tk : Nat → Nat → Int} {qm qu ql qg qa qm' qu' ql' qg' qa' ps : Nat → Int} (h : RLn K LZ LT qm qu ql qg qa) (hk : k < K) (hLk : LnR k (LZ k) (LT k) qm qu ql qg qa) (hM2 : LZ k 0 = (M : Int)) (hM3 : qm k = (M : Int)) (hM1 : M ≤ 40) (hn : M + n ≤ 40) (z0 : Zk 0 = LZ k 0 + n) (z1 : Zk 1 = LZ k 1 + n) (hav : avF ps n 0 = 1)
    (told : ∀ e, e < M → Tk 5 e = LT k 5 e ∧ Tk 6 e = LT k 6 e ∧ Tk 7 e = LT k 7 e) (tnew : ∀ e, e < n → Tk 5 (M + e) = czF ps e ∧ Tk 6 (M + e) = 0 ∧ Tk 7 (M + e) = 1 - anyH (czF ps e) 93) (t8 : ∀ p, p < 93 → Tk 8 p = LT k 8 p + hsF ps p n) (m0 : qm' k = qm k + n) (mo : ∀ i, ¬ i = k → qm' i = qm i)
    (mnew : ∀ e, e < n → qu' (40 * k + M + e) = ps (3 * e) ∧ ql' (40 * k + M + e) = ps (3 * e + 1) ∧ qg' (40 * k + M + e) = ps (3 * e + 2) ∧ qa' (40 * k + M + e) = 0) (mold : ∀ i, (i < 40 * k + M ∨ 40 * k + M + n ≤ i) → qu' i = qu i ∧ ql' i = ql i ∧ qg' i = qg i ∧ qa' i = qa i) : RLn K (va_up LZ k Zk) (va_up LT k Tk) qm' qu' ql' qg' qa' := by
  refine RLn.set (fun i hi => ?_) (hLk.more (M := M) (n := n) (cz := czF ps) hM2 hn z0 z1 told tnew (fun p hp => by rw [t8 p hp, hsF_G]) m0 (fun e he => mold _ (by omega)) (fun e he => ?_)) (fun i hi hne => (h.2 i hi).same (mo i hne) (fun e he => mold _ (by omega)))
  · have q := h.1 i hi
    by_cases c : i = k
    · subst c; omega
    · rw [mo i c]; exact q
  · obtain ⟨a1, a2, a3, a4⟩ := mnew e he
    rw [Nat.add_assoc] at a1 a2 a3 a4
    have t := avF_all n 0 hav e (by omega) (by omega)
    refine ⟨?_, a4, ?_⟩
    · unfold AnOK
      rw [a1, a2, a3, a4]
      exact ⟨t, Or.inl rfl⟩
    · unfold cqv czF
      rw [a1, a2, a3]
theorem guess_if (pt : Nat → Int) (su : Int) : (if ldR pt (bpF pt 92 1 0) < su then -5 else oT (bpF pt 92 1 0)) = guessR pt su := by
  unfold guessR
  by_cases c : su ≤ ldR pt (bpF pt 92 1 0)
  · rw [if_pos c, if_neg (by omega)]
  · rw [if_neg c, if_pos (by omega)]
theorem itm_up {k p q : Nat} {ln la lane v : Int} {it fl fz fi : Nat → Int} (h : RSk k ln la it fl fz fi) (hp : p < 40) (hq : q < 40) (hl : la = lane) (hv : -2147483648 ≤ v ∧ v < 2147483648) : va_up it q (cutS la v) p = va_up fi (40 * k + q) (cutS lane v) (40 * k + p) ∧ -2147483648 ≤ va_up it q (cutS la v) p ∧ va_up it q (cutS la v) p < 2147483648 := by
  subst hl
  by_cases c : p = q
  · subst c
    rw [up_s, up_s]
    exact ⟨rfl, cutS_rng hv⟩
  · rw [up_n _ _ _ _ c, up_n _ _ _ _ (by omega)]
    exact h.2.2.2 p hp
theorem cpy_out {f h : Nat → Int} {sp dp n i : Nat} (c : i < dp ∨ dp + n ≤ i) : va_cpy f h sp dp n i = h i := by
  unfold va_cpy
  rw [if_neg (by omega)]
theorem cpy_in {k k2 p a b n : Nat} {ln la ln2 la2 : Int} {it it2 fl fz fi : Nat → Int} (h : RSk k ln la it fl fz fi) (h2 : RSk k2 ln2 la2 it2 fl fz fi) (ha : a + n ≤ 40) (hb : b + n ≤ 40) (hp : p < 40) : va_cpy it it2 a b n p = va_cpy fi fi (40 * k + a) (40 * k2 + b) n (40 * k2 + p) ∧ -2147483648 ≤ va_cpy it it2 a b n p ∧ va_cpy it it2 a b n p < 2147483648 := by
  unfold va_cpy
  by_cases c : b ≤ p ∧ p < b + n
  · rw [if_pos c, if_pos (by omega), show 40 * k + a + (40 * k2 + p - (40 * k2 + b)) = 40 * k + (a + (p - b)) from by omega]
    exact h.2.2.2 _ (by omega)
  · rw [if_neg c, if_neg (by omega)]
    exact h2.2.2.2 p hp
theorem zr {x : Int} (h : x = 0) : -2147483648 ≤ x ∧ x < 2147483648 := by omega
theorem fsh_sw {A : Nat → Nat} : fshF (va_up (va_up (va_up (va_up (va_up (va_up (va_up (va_up A 9 (A 10)) 10 (A 9)) 25 (A 28)) 26 (A 29)) 27 (A 30)) 28 (A 25)) 29 (A 26)) 30 (A 27)) = fshF A := by
  funext n
  unfold fshF
  by_cases h : n < 4
  · rcases (show n = 0 ∨ n = 1 ∨ n = 2 ∨ n = 3 by omega) with e | e | e | e <;> subst e <;> rfl
  · rw [if_neg h, if_neg h]
