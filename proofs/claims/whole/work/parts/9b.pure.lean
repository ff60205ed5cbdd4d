/-! pure rows: what the two answer is the same -/
theorem veq {r r' : Int} (h : r' = r) : (some (.int (iI r')) : Option Value) = some (.int (iI r)) := by rw [h]
theorem Rel.of {z : Nat → Int} {F : Nat → Nat → Int} {LZ : Nat → Nat → Int} {LT : Nat → Nat → Nat → Int} {K : Nat} {j : Nat → Int} {G : Nat → Nat → Int} (h1 : RB K (z 4) (j 5) (G 0) (z 30)) (h2 : RMk (F 5) (G 11)) (h3 : RHt (z 7) (j 13) (j 14)) (h4 : RTp (z 32) (F 24) (j 16) (G 15)) (h5 : RCo (F 25) (F 26) (F 27) (j 19) (G 20) (G 21) (G 22) (G 24) (G 25) (G 26)) (h6 : RTr (z 34) (F 31) (F 32) (j 30) (G 31) (G 32))
    (h7 : RSh (z 40) (z 41) (z 42) (z 43) (z 50) (z 51) (z 52) (z 53) (F 50) (F 51) (F 52) (F 53) (G 33) (G 34) (G 35)) (h8 : RLn K LZ LT (G 6) (G 7) (G 8) (G 9) (G 10)) (h9 : RMm K LT (F 25) (G 27) (G 28) (G 29)) : Rel z F LZ LT K j G := by
  unfold Rel
  exact ⟨h1, h2, h3, h4, h5, h6, h7, h8, h9⟩
theorem RSh.of {n0 n1 n2 n3 a0 a1 a2 a3 : Int} {i0 i1 i2 i3 fl fz fi : Nat → Int} (h0 : RSk 0 n0 a0 i0 fl fz fi) (h1 : RSk 1 n1 a1 i1 fl fz fi) (h2 : RSk 2 n2 a2 i2 fl fz fi) (h3 : RSk 3 n3 a3 i3 fl fz fi) : RSh n0 n1 n2 n3 a0 a1 a2 a3 i0 i1 i2 i3 fl fz fi := by
  unfold RSh
  exact ⟨h0, h1, h2, h3⟩
theorem RSk.of {k : Nat} {ln la : Int} {it fl fz fi : Nat → Int} (h1 : -1 ≤ ln ∧ ln ≤ 40 ∧ 0 ≤ la ∧ la ≤ 2) (h2 : -1 ≤ fl k ∧ fl k ≤ 2 ∧ 0 ≤ fz k ∧ fz k ≤ 40) (h3 : (ln < 0 ∧ fl k < 0) ∨ (0 ≤ ln ∧ fl k = la ∧ fz k = ln)) (h4 : ∀ p, p < 40 → it p = fi (40 * k + p) ∧ -2147483648 ≤ it p ∧ it p < 2147483648) : RSk k ln la it fl fz fi := ⟨h1, h2, h3, h4⟩
theorem RSh.all {n0 n1 n2 n3 a0 a1 a2 a3 : Int} {i0 i1 i2 i3 fl fz fi : Nat → Int} (h : RSh n0 n1 n2 n3 a0 a1 a2 a3 i0 i1 i2 i3 fl fz fi) : ∀ k, k < 4 → (-1 ≤ fl k ∧ fl k ≤ 2 ∧ 0 ≤ fz k ∧ fz k ≤ 40) ∧ ∀ p, p < 40 → -2147483648 ≤ fi (40 * k + p) ∧ fi (40 * k + p) < 2147483648 := by
  have key : ∀ {k : Nat} {ln la : Int} {it : Nat → Int}, RSk k ln la it fl fz fi → (-1 ≤ fl k ∧ fl k ≤ 2 ∧ 0 ≤ fz k ∧ fz k ≤ 40) ∧ ∀ p, p < 40 → -2147483648 ≤ fi (40 * k + p) ∧ fi (40 * k + p) < 2147483648 := fun h => ⟨h.2.1, fun p hp => by have q := h.2.2.2 p hp; rw [← q.1]; exact q.2⟩
  intro k hk
  rcases (show k = 0 ∨ k = 1 ∨ k = 2 ∨ k = 3 by omega) with e | e | e | e <;> subst e
  · exact key h.1
  · exact key h.2.1
  · exact key h.2.2.1
  · exact key h.2.2.2
theorem RSh.L {n0 n1 n2 n3 a0 a1 a2 a3 : Int} {i0 i1 i2 i3 fl fz fi : Nat → Int} (h : RSh n0 n1 n2 n3 a0 a1 a2 a3 i0 i1 i2 i3 fl fz fi) : ∀ k, k < 4 → -1 ≤ fl k ∧ fl k ≤ 2 ∧ 0 ≤ fz k ∧ fz k ≤ 40 := fun k hk => (h.all k hk).1
theorem RSh.I {n0 n1 n2 n3 a0 a1 a2 a3 : Int} {i0 i1 i2 i3 fl fz fi : Nat → Int} (h : RSh n0 n1 n2 n3 a0 a1 a2 a3 i0 i1 i2 i3 fl fz fi) : ∀ k, k < 160 → -2147483648 ≤ fi k ∧ fi k < 2147483648 := by
  intro k hk
  have q := (h.all (k / 40) (by omega)).2 (k % 40) (by omega)
  rw [show 40 * (k / 40) + k % 40 = k from by omega] at q
  exact q
theorem ref_find {k : Nat} {ln la : Int} {it fl fz fi : Nat → Int} (h : RSk k ln la it fl fz fi) {lane x n : Int} (hn : 0 ≤ n) : findS (fl k) (fz k) lane x n = refS ln la lane x n := by
  obtain ⟨h1, h2, h3, h4⟩ := h
  unfold refS findS HoldP
  rcases h3 with ⟨a, b⟩ | ⟨a, b, c⟩
  · rw [if_pos a, if_pos b]
  · rw [b, c, if_neg (show ¬ la < 0 by omega), if_neg (show ¬ ln < 0 by omega)]
    by_cases e : la = lane
    · rw [if_neg (show ¬ la ≠ lane from fun q => q e), if_neg (show ¬ la ≠ lane from fun q => q e)]
      by_cases f : x < 0 ∨ ln < x + n
      · rw [if_pos f, if_neg (by omega)]
      · rw [if_neg f, if_pos (by omega)]
    · rw [if_pos (show la ≠ lane from e), if_pos (show la ≠ lane from e)]
theorem ref_ok {ln la lane x n : Int} (h : ¬ refS ln la lane x n < 0) : 0 ≤ ln ∧ la = lane ∧ 0 ≤ x ∧ 0 ≤ n ∧ x + n ≤ ln := by
  unfold refS HoldP at h
  by_cases e : ln < 0
  · rw [if_pos e] at h; omega
  · rw [if_neg e] at h
    by_cases f : la = lane
    · rw [if_neg (fun q => q f)] at h
      by_cases g : 0 ≤ x ∧ 0 ≤ n ∧ n ≤ ln - x
      · exact ⟨by omega, f, by omega, by omega, by omega⟩
      · rw [if_neg g] at h; omega
    · rw [if_pos f] at h; omega
theorem probe_eq {kk : Nat} {ln la : Int} {it fl fz fi : Nat → Int} (h : RSk kk ln la it fl fz fi) {n x lane x2 k : Int} (hx : x.toNat = kk) (h0 : 0 ≤ x ∧ x ≤ 3) :
    (if ¬ (1 ≤ n ∧ n ≤ 200) ∨ ¬ (0 ≤ x ∧ x ≤ 3) ∨ ¬ (0 ≤ lane ∧ lane ≤ 2) ∨ ¬ (1 ≤ k ∧ k ≤ 6) then -1 else if findS (fl x.toNat) (fz x.toNat) lane x2 k < 0 then findS (fl x.toNat) (fz x.toNat) lane x2 k else probeR (fun j => fi (40 * x.toNat + x2.toNat + j)) k n) = (if ¬ (1 ≤ n ∧ n ≤ 200) ∨ ¬ (0 ≤ lane ∧ lane ≤ 2) ∨ ¬ (1 ≤ k ∧ k ≤ 6) then -1 else if refS ln la lane x2 k < 0 then refS ln la lane x2 k else probeR (fun j => it (x2.toNat + j)) k n) := by
  rw [hx]
  by_cases c : ¬ (1 ≤ n ∧ n ≤ 200) ∨ ¬ (0 ≤ lane ∧ lane ≤ 2) ∨ ¬ (1 ≤ k ∧ k ≤ 6)
  · rw [if_pos (by omega), if_pos c]
  · rw [if_neg (by omega), if_neg c, ref_find h (by omega)]
    by_cases d : refS ln la lane x2 k < 0
    · rw [if_pos d, if_pos d]
    · rw [if_neg d, if_neg d]
      have q := ref_ok d
      have q1 := h.1
      refine probeR_congr (fun j hj => ?_)
      show fi (40 * kk + x2.toNat + j) = it (x2.toNat + j)
      rw [(h.2.2.2 (x2.toNat + j) (by omega)).1, Nat.add_assoc]
theorem item_eq {kk : Nat} {ln la : Int} {it fl fz fi : Nat → Int} (h : RSk kk ln la it fl fz fi) {x lane x2 : Int} (hx : x.toNat = kk) (h0 : 0 ≤ x ∧ x ≤ 3) :
    (if ¬ (0 ≤ x ∧ x ≤ 3) ∨ ¬ (0 ≤ lane ∧ lane ≤ 2) then -1 else if findS (fl x.toNat) (fz x.toNat) lane x2 1 < 0 then findS (fl x.toNat) (fz x.toNat) lane x2 1 else 1) = (if ¬ (0 ≤ lane ∧ lane ≤ 2) then (-1 : Int) else if refS ln la lane x2 1 < 0 then refS ln la lane x2 1 else 1) := by
  rw [hx]
  by_cases c : ¬ (0 ≤ lane ∧ lane ≤ 2)
  · rw [if_pos (by omega), if_pos c]
  · rw [if_neg (by omega), if_neg c, ref_find h (by omega)]
theorem item_r {ln la lane x2 r : Int} (h : r = (if ¬ (0 ≤ lane ∧ lane ≤ 2) then (-1 : Int) else if refS ln la lane x2 1 < 0 then refS ln la lane x2 1 else 1)) : r < 0 ∨ (r = 1 ∧ 0 ≤ ln ∧ la = lane ∧ 0 ≤ x2 ∧ x2 + 1 ≤ ln) := by
  by_cases c : ¬ (0 ≤ lane ∧ lane ≤ 2)
  · rw [if_pos c] at h; omega
  · rw [if_neg c] at h
    by_cases d : refS ln la lane x2 1 < 0
    · rw [if_pos d] at h; omega
    · rw [if_neg d] at h
      have q := ref_ok d
      exact Or.inr ⟨h, q.1, q.2.1, q.2.2.1, q.2.2.2.2⟩
theorem copy_eq {k k2 : Nat} {ln la ln2 la2 : Int} {it it2 fl fz fi : Nat → Int} (h : RSk k ln la it fl fz fi) (h2 : RSk k2 ln2 la2 it2 fl fz fi) {x x2 xi xj n : Int} (hx : x.toNat = k) (hx2 : x2.toNat = k2) (h0 : 0 ≤ x ∧ x ≤ 3) (h02 : 0 ≤ x2 ∧ x2 ≤ 3) :
    (if ¬ (0 ≤ x ∧ x ≤ 3) ∨ ¬ (0 ≤ x2 ∧ x2 ≤ 3) then -1 else if fl x.toNat < 0 ∨ fl x2.toNat < 0 then -11 else if fl x.toNat ≠ fl x2.toNat then -12 else if n < 0 ∨ findS (fl x.toNat) (fz x.toNat) (fl x.toNat) xi n < 0 ∨ findS (fl x2.toNat) (fz x2.toNat) (fl x2.toNat) xj n < 0 then -13 else n) = copyS ln la ln2 la2 xi xj n := by
  rw [hx, hx2, if_neg (by omega)]
  unfold copyS HoldP
  have a := h.2.2.1
  have b := h2.2.2.1
  have a1 := h.1
  have b1 := h2.1
  by_cases c : ln < 0 ∨ ln2 < 0
  · rw [if_pos c, if_pos (by omega)]
  · rw [if_neg c, if_neg (show ¬ (fl k < 0 ∨ fl k2 < 0) by omega)]
    have f1 : fl k = la := by omega
    have f2 : fl k2 = la2 := by omega
    by_cases d : la = la2
    · rw [if_neg (show ¬ fl k ≠ fl k2 from fun q => q (by omega)), if_neg (show ¬ la ≠ la2 from fun q => q d)]
      by_cases e : 0 ≤ n
      · rw [ref_find h e, ref_find h2 e, f1, f2]
        unfold refS HoldP
        rw [if_neg (show ¬ ln < 0 by omega), if_neg (show ¬ ln2 < 0 by omega), if_neg (show ¬ la ≠ la from fun q => q rfl), if_neg (show ¬ la2 ≠ la2 from fun q => q rfl)]
        by_cases g1 : 0 ≤ xi ∧ 0 ≤ n ∧ n ≤ ln - xi
        · rw [if_pos g1]
          by_cases g2 : 0 ≤ xj ∧ 0 ≤ n ∧ n ≤ ln2 - xj
          · rw [if_pos g2, if_neg (show ¬ (n < 0 ∨ (0 : Int) < 0 ∨ (0 : Int) < 0) by omega), if_pos ⟨g1, g2⟩]
          · rw [if_neg g2, if_pos (show n < 0 ∨ (0 : Int) < 0 ∨ (-13 : Int) < 0 by omega), if_neg (fun q => g2 q.2)]
        · rw [if_neg g1, if_pos (Or.inr (Or.inl (by omega))), if_neg (fun q => g1 q.1)]
      · rw [if_pos (Or.inl (by omega)), if_neg (by omega)]
    · rw [if_pos (show fl k ≠ fl k2 by omega), if_pos (show la ≠ la2 from d)]
theorem copy_r {ln la ln2 la2 xi xj n r : Int} (h : r = copyS ln la ln2 la2 xi xj n) : r < 0 ∨ (r = n ∧ 0 ≤ n ∧ 0 ≤ xi ∧ xi + n ≤ ln ∧ 0 ≤ xj ∧ xj + n ≤ ln2) := by
  unfold copyS HoldP at h
  by_cases c : ln < 0 ∨ ln2 < 0
  · rw [if_pos c] at h; omega
  · rw [if_neg c] at h
    by_cases d : la = la2
    · rw [if_neg (fun q => q d)] at h
      by_cases e : (0 ≤ xi ∧ 0 ≤ n ∧ n ≤ ln - xi) ∧ 0 ≤ xj ∧ 0 ≤ n ∧ n ≤ ln2 - xj
      · rw [if_pos e] at h; omega
      · rw [if_neg e] at h; omega
    · rw [if_pos d] at h; omega
/-- another sheet is untouched by a change of the items beyond it -/
theorem RSk.keep {k : Nat} {ln la : Int} {it fl fz fi fl' fz' fi' : Nat → Int} (h : RSk k ln la it fl fz fi) (h1 : fl' k = fl k) (h2 : fz' k = fz k) (h3 : ∀ p, p < 40 → fi' (40 * k + p) = fi (40 * k + p)) : RSk k ln la it fl' fz' fi' :=
  ⟨h.1, by rw [h1, h2]; exact h.2.1, by rw [h1, h2]; exact h.2.2.1, fun p hp => by rw [h3 p hp]; exact h.2.2.2 p hp⟩
theorem sheet_r {x lane n r : Int} (h : r = sheetS x lane n) : r < 0 ∨ (0 ≤ r ∧ r = n ∧ 0 ≤ n ∧ n ≤ 40 ∧ 0 ≤ lane ∧ lane ≤ 2 ∧ 0 ≤ x ∧ x ≤ 3) := by
  unfold sheetS at h
  by_cases c : ¬ (0 ≤ x ∧ x ≤ 3) ∨ ¬ (0 ≤ lane ∧ lane ≤ 2) ∨ 40 < n
  · rw [if_pos c] at h; omega
  · rw [if_neg c] at h
    by_cases d : n < 0
    · rw [if_pos d] at h; omega
    · rw [if_neg d] at h; omega
/-! learners -/
theorem caN_rng {fa : Nat → Int} : ∀ M : Nat, (∀ e, e < M → fa e = 0 ∨ fa e = 1) → 0 ≤ caN fa M ∧ caN fa M ≤ M := by
  intro M
  induction M with
  | zero => intro _; simp [caN]
  | succ M ih => intro h; have := ih (fun e he => h e (by omega)); have := h M (by omega); unfold caN; omega
theorem htN_rng {fc fa : Nat → Int} {p : Nat} : ∀ M : Nat, (∀ e, e < M → fa e = 0 ∨ fa e = 1) → 0 ≤ htN fc fa p M ∧ htN fc fa p M ≤ caN fa M := by
  intro M
  induction M with
  | zero => intro _; simp [caN, htN]
  | succ M ih => intro h; have := ih (fun e he => h e (by omega)); have := h M (by omega); unfold caN htN; split <;> omega
theorem caN_congr {fa fb : Nat → Int} : ∀ M : Nat, (∀ e, e < M → fa e = fb e) → caN fa M = caN fb M := by
  intro M
  induction M with
  | zero => intro _; rfl
  | succ M ih => intro h; unfold caN; rw [ih (fun e he => h e (by omega)), h M (by omega)]
theorem htN_congr {fc fd fa fb : Nat → Int} {p : Nat} : ∀ M : Nat, (∀ e, e < M → fc e = fd e ∧ fa e = fb e) → htN fc fa p M = htN fd fb p M := by
  intro M
  induction M with
  | zero => intro _; rfl
  | succ M ih => intro h; unfold htN; rw [ih (fun e he => h e (by omega)), (h M (by omega)).1, (h M (by omega)).2]
theorem caN_up {fa : Nat → Int} {e : Nat} {w : Int} : ∀ M : Nat, e < M → caN (va_up fa e w) M = caN fa M + (fa e - w) := by
  intro M
  induction M with
  | zero => intro h; omega
  | succ M ih =>
    intro h
    unfold caN
    by_cases q : e = M
    · subst q
      rw [up_s, caN_congr (fb := fa) e (fun k hk => up_n _ _ _ _ (by omega))]
      omega
    · rw [up_n _ _ _ _ (fun z => q z.symm), ih (by omega)]
      omega
theorem htN_up {fc fa : Nat → Int} {e p : Nat} {w : Int} : ∀ M : Nat, e < M → htN fc (va_up fa e w) p M = htN fc fa p M + (if hitP (fc e) p then fa e - w else 0) := by
  intro M
  induction M with
  | zero => intro h; omega
  | succ M ih =>
    intro h
    unfold htN
    by_cases q : e = M
    · subst q
      rw [up_s, htN_congr (fd := fc) (fb := fa) e (fun k hk => ⟨rfl, up_n _ _ _ _ (by omega)⟩)]
      split <;> omega
    · rw [up_n _ _ _ _ (fun z => q z.symm), ih (by omega)]
      omega
def hsG (cz : Nat → Int) (p : Nat) : Nat → Int
  | 0 => 0
  | n + 1 => hsG cz p n + if hitP (cz n) p then 1 else 0
theorem hsF_G (ps : Nat → Int) (p : Nat) : ∀ n, hsF ps p n = hsG (czF ps) p n := by
  intro n
  induction n with
  | zero => rfl
  | succ n ih => unfold hsF hsG; rw [ih]
theorem caN_more {fa : Nat → Int} {M : Nat} : ∀ n : Nat, (∀ e, e < n → fa (M + e) = 0) → caN fa (M + n) = caN fa M + n := by
  intro n
  induction n with
  | zero => intro _; simp
  | succ n ih =>
    intro h
    show caN fa (M + n) + (1 - fa (M + n)) = _
    rw [ih (fun e he => h e (by omega)), h n (by omega)]
    omega
theorem htN_more {fc fa cz : Nat → Int} {p M : Nat} : ∀ n : Nat, (∀ e, e < n → fc (M + e) = cz e ∧ fa (M + e) = 0) → htN fc fa p (M + n) = htN fc fa p M + hsG cz p n := by
  intro n
  induction n with
  | zero => intro _; simp [hsG]
  | succ n ih =>
    intro h
    show htN fc fa p (M + n) + (if hitP (fc (M + n)) p then 1 - fa (M + n) else 0) = _
    rw [ih (fun e he => h e (by omega)), (h n (by omega)).1, (h n (by omega)).2]
    show _ = htN fc fa p M + (hsG cz p n + if hitP (cz n) p then 1 else 0)
    split <;> omega
theorem LnR.more {k M n : Nat} {Z Z' : Nat → Int} {T T' : Nat → Nat → Int} {qm qu ql qg qa qm' qu' ql' qg' qa' cz : Nat → Int} (h : LnR k Z T qm qu ql qg qa) (hM : Z 0 = (M : Int)) (hn : M + n ≤ 40) (z0 : Z' 0 = Z 0 + n) (z1 : Z' 1 = Z 1 + n)
    (told : ∀ e, e < M → T' 5 e = T 5 e ∧ T' 6 e = T 6 e ∧ T' 7 e = T 7 e) (tnew : ∀ e, e < n → T' 5 (M + e) = cz e ∧ T' 6 (M + e) = 0 ∧ T' 7 (M + e) = 1 - anyH (cz e) 93) (t8 : ∀ p, p < 93 → T' 8 p = T 8 p + hsG cz p n) (m0 : qm' k = qm k + n)
    (mold : ∀ e, e < M → qu' (40 * k + e) = qu (40 * k + e) ∧ ql' (40 * k + e) = ql (40 * k + e) ∧ qg' (40 * k + e) = qg (40 * k + e) ∧ qa' (40 * k + e) = qa (40 * k + e)) (mnew : ∀ e, e < n → AnOK qu' ql' qg' qa' (40 * k + (M + e)) ∧ qa' (40 * k + (M + e)) = 0 ∧ cqv qu' ql' qg' (40 * k + (M + e)) = cz e) : LnR k Z' T' qm' qu' ql' qg' qa' := by
  obtain ⟨M0, a1, a2, a3, a4, a5, a6⟩ := h
  have e9 : M0 = M := by omega
  subst e9
  refine ⟨M0 + n, hn, by omega, by omega, fun e he => ?_, ?_, fun p hp => ?_⟩
  · by_cases c : e < M0
    · obtain ⟨o1, o2, o3, o4⟩ := mold e c
      obtain ⟨t1, t2, t3⟩ := told e c
      obtain ⟨b1, b2, b3, b4⟩ := a4 e c
      refine ⟨?_, ?_, ?_, ?_⟩
      · unfold AnOK at b1 ⊢
        rw [o1, o2, o3, o4]
        exact b1
      · rw [t1, b2]
        unfold cqv
        rw [o1, o2, o3]
      · rw [t2, b3, o4]
      · rw [t3, b4, t1]
    · obtain ⟨d, rfl⟩ : ∃ d, e = M0 + d := ⟨e - M0, by omega⟩
      obtain ⟨t1, t2, t3⟩ := tnew d (by omega)
      obtain ⟨b1, b2, b3⟩ := mnew d (by omega)
      exact ⟨b1, by rw [t1, b3], by rw [t2, b2], by rw [t3, t1]⟩
  · rw [z1, caN_more n (fun e he => (tnew e he).2.1), a5, caN_congr M0 (fun e he => (told e he).2.1)]
  · rw [t8 p hp, htN_more n (fun e he => ⟨(tnew e he).1, (tnew e he).2.1⟩), a6 p hp, htN_congr (p := p) M0 (fun e he => ⟨(told e he).1, (told e he).2.1⟩)]
theorem LnR.put {k M az : Nat} {Z Z' : Nat → Int} {T T' : Nat → Nat → Int} {qm qu ql qg qa qa' : Nat → Int} {w : Int} (h : LnR k Z T qm qu ql qg qa) (hM : Z 0 = (M : Int)) (he : az < M) (hw : w = 0 ∨ w = 1) (z0 : Z' 0 = Z 0) (z1 : Z' 1 = Z 1 + (T 6 az - w)) (t5 : T' 5 = T 5) (t6 : T' 6 = va_up (T 6) az w) (t7 : T' 7 = T 7)
    (t8 : ∀ p, p < 93 → T' 8 p = T 8 p + (if hitP (T 5 az) p then T 6 az - w else 0)) (ma : qa' = va_up qa (40 * k + az) w) : LnR k Z' T' qm qu ql qg qa' := by
  obtain ⟨M0, a1, a2, a3, a4, a5, a6⟩ := h
  have e9 : M0 = M := by omega
  subst e9
  refine ⟨M0, a1, by omega, a3, fun e he2 => ?_, ?_, fun p hp => ?_⟩
  · obtain ⟨b1, b2, b3, b4⟩ := a4 e he2
    rw [t5, t6, t7, ma]
    by_cases c : e = az
    · subst c
      rw [up_s, up_s]
      exact ⟨⟨b1.1, by rw [up_s]; exact hw⟩, b2, rfl, b4⟩
    · rw [up_n _ _ _ _ c, up_n _ _ _ _ (by omega)]
      exact ⟨⟨b1.1, by rw [up_n _ _ _ _ (by omega)]; exact b1.2⟩, b2, b3, b4⟩
  · rw [z1, t6, caN_up M0 he, a5]
  · rw [t8 p hp, t5, t6, htN_up M0 he, a6 p hp]
theorem LnR.same {k : Nat} {Z : Nat → Int} {T : Nat → Nat → Int} {qm qu ql qg qa qm' qu' ql' qg' qa' : Nat → Int} (h : LnR k Z T qm qu ql qg qa) (m0 : qm' k = qm k) (ms : ∀ e, e < 40 → qu' (40 * k + e) = qu (40 * k + e) ∧ ql' (40 * k + e) = ql (40 * k + e) ∧ qg' (40 * k + e) = qg (40 * k + e) ∧ qa' (40 * k + e) = qa (40 * k + e)) : LnR k Z T qm' qu' ql' qg' qa' := by
  obtain ⟨M, a1, a2, a3, a4, a5, a6⟩ := h
  refine ⟨M, a1, a2, by rw [m0]; exact a3, fun e he => ?_, a5, a6⟩
  obtain ⟨o1, o2, o3, o4⟩ := ms e (by omega)
  obtain ⟨b1, b2, b3, b4⟩ := a4 e he
  refine ⟨?_, ?_, ?_, b4⟩
  · unfold AnOK at b1 ⊢
    rw [o1, o2, o3, o4]
    exact b1
  · rw [b2]
    unfold cqv
    rw [o1, o2, o3]
  · rw [b3, o4]
theorem LnR.T {k : Nat} {Z : Nat → Int} {T T' : Nat → Nat → Int} {qm qu ql qg qa : Nat → Int} (h : LnR k Z T qm qu ql qg qa) (h5 : T' 5 = T 5) (h6 : T' 6 = T 6) (h7 : T' 7 = T 7) (h8 : T' 8 = T 8) : LnR k Z T' qm qu ql qg qa := by
  unfold LnR at h ⊢
  rw [h5, h6, h7, h8]
  exact h
theorem LnR.ok {k : Nat} {Z : Nat → Int} {T : Nat → Nat → Int} {qm qu ql qg qa : Nat → Int} (h : LnR k Z T qm qu ql qg qa) : ∃ M : Nat, M ≤ 40 ∧ Z 0 = (M : Int) ∧ qm k = (M : Int) ∧ (∀ e, e < M → caseOK (T 5 e) ∧ (T 6 e = 0 ∨ T 6 e = 1) ∧ (T 7 e = 0 ∨ T 7 e = 1)) ∧ (∀ p, p < 93 → 0 ≤ T 8 p ∧ T 8 p ≤ Z 1 ∧ Z 1 ≤ 40) := by
  obtain ⟨M, a1, a2, a3, a4, a5, a6⟩ := h
  have h6 : ∀ e, e < M → T 6 e = 0 ∨ T 6 e = 1 := fun e he => by have b := a4 e he; rw [b.2.2.1]; exact b.1.2
  refine ⟨M, a1, a2, a3, fun e he => ⟨?_, h6 e he, ?_⟩, fun p hp => ?_⟩
  · have b := a4 e he
    rw [b.2.1]
    have c := b.1.1
    exact (case_dec (a := qu (40 * k + e)) (b := ql (40 * k + e)) (c := qg (40 * k + e)) (by unfold TaskP at c; omega)).1
  · have b := a4 e he
    have c := anyH_01 (T 5 e) 93
    omega
  · have q1 := caN_rng M h6
    have q2 := htN_rng (fc := T 5) (p := p) M h6
    rw [a6 p hp, a5]
    omega
theorem RLn.vd {K : Nat} {LZ : Nat → Nat → Int} {LT : Nat → Nat → Nat → Int} {qm qu ql qg qa : Nat → Int} (h : RLn K LZ LT qm qu ql qg qa) : ∀ k, k < 480 → vdP qm (K : Int) k → AnOK qu ql qg qa k := by
  intro k hk hv
  obtain ⟨M, a1, a2, a3, a4, -⟩ := h.2 (k / 40) (by unfold vdP at hv; omega)
  unfold vdP at hv
  have q := (a4 (k % 40) (by omega)).1
  rw [show 40 * (k / 40) + k % 40 = k from by omega] at q
  exact q
theorem hit_iff {a b c : Int} {p : Nat} (h : TaskP a b ∧ 0 ≤ c ∧ c ≤ 999) : hitP (1000 * (1000 * a + b) + c) p ↔ wk a b (oT p) = c := by
  obtain ⟨-, e1, e2, e3⟩ := case_dec (a := a) (b := b) (c := c) (by unfold TaskP at h; omega)
  unfold hitP
  rw [e1, e2, e3]
theorem mp_eq {k M : Nat} {T : Nat → Nat → Int} {qu ql qg qa : Nat → Int} {t0 t1 : Int} {p : Nat} (h : ∀ e, e < M → AnOK qu ql qg qa (40 * k + e) ∧ T 5 e = cqv qu ql qg (40 * k + e) ∧ T 6 e = qa (40 * k + e) ∧ T 7 e = 1 - anyH (T 5 e) 93) : ∀ n, n ≤ M → mpF qu ql qg qa (40 * k) t0 t1 (oT p) n = htN (T 5) (T 6) p n * t0 - (caN (T 6) n - htN (T 5) (T 6) p n) * t1 := by
  intro n
  induction n with
  | zero => intro _; simp [mpF, htN, caN]
  | succ n ih =>
    intro hn
    obtain ⟨b1, b2, b3, -⟩ := h n (by omega)
    have q := hit_iff (p := p) b1.1
    unfold mpF htN caN
    rw [ih (by omega), b2, b3]
    unfold cqv
    rcases b1.2 with e | e
    · rw [e, if_neg (fun z => z rfl)]
      by_cases c : wk (qu (40 * k + n)) (ql (40 * k + n)) (oT p) = qg (40 * k + n)
      · rw [if_pos c, if_pos (q.mpr c)]
        have e1 : (htN (T 5) (T 6) p n + (1 - 0)) * t0 = htN (T 5) (T 6) p n * t0 + t0 := by rw [Int.sub_zero, Int.add_mul, Int.one_mul]
        have e2 : caN (T 6) n + (1 - 0) - (htN (T 5) (T 6) p n + (1 - 0)) = caN (T 6) n - htN (T 5) (T 6) p n := by omega
        rw [e1, e2]
        omega
      · rw [if_neg c, if_neg (fun z => c (q.mp z))]
        have e2 : caN (T 6) n + (1 - 0) - (htN (T 5) (T 6) p n + 0) = caN (T 6) n - htN (T 5) (T 6) p n + 1 := by omega
        have e1 : (htN (T 5) (T 6) p n + 0) * t0 = htN (T 5) (T 6) p n * t0 := by rw [Int.add_zero]
        have e3 : (caN (T 6) n - htN (T 5) (T 6) p n + 1) * t1 = (caN (T 6) n - htN (T 5) (T 6) p n) * t1 + t1 := by rw [Int.add_mul, Int.one_mul]
        rw [e2, e1, e3]
        omega
    · rw [e, if_pos (by omega)]
      have e1 : htN (T 5) (T 6) p n + (if hitP (1000 * (1000 * qu (40 * k + n) + ql (40 * k + n)) + qg (40 * k + n)) p then 1 - 1 else 0) = htN (T 5) (T 6) p n := by split <;> omega
      have e2 : caN (T 6) n + (1 - 1) = caN (T 6) n := by omega
      rw [e1, e2]
      omega
theorem pts_mp {k : Nat} {Z : Nat → Int} {T : Nat → Nat → Int} {qm qu ql qg qa qt : Nat → Int} {p : Nat} (h : LnR k Z T qm qu ql qg qa) (hp : p < 93) : pts (T 8) (Z 1) qt p = mpR qu ql qg qa (40 * k) qt (qm k).toNat (oT p) := by
  obtain ⟨M, a1, a2, a3, a4, a5, a6⟩ := h
  unfold pts mpR
  rw [a3, show ((M : Int)).toNat = M from by omega, mp_eq a4 M (Nat.le_refl M), a6 p hp, a5, Int.neg_mul, Int.mul_comm (qt 2)]
  omega
