/-! the best guess and its lead -/
theorem bpF_congr {pt pt' : Nat → Int} (h : ∀ p, p < 93 → pt p = pt' p) : ∀ f p be, be < 93 → p + f ≤ 93 → bpF pt f p be = bpF pt' f p be := by
  intro f
  induction f with
  | zero => intro p be _ _; rfl
  | succ f ih =>
    intro p be h1 h2
    unfold bpF
    rw [h be h1, h p (by omega)]
    exact ih _ _ (by split <;> omega) (by omega)
theorem bsV_inv {kw pt : Nat → Int} (hr : ∀ p, p < 93 → -100000 < pt p) : ∀ (f k be : Nat) (nx : Int), k + f = 93 → be < k → (∀ p, p < k → pt p ≤ pt be) → (∀ p, p < k → ¬ p = be → pt p ≤ nx) → (1 < k → ∃ p, p < k ∧ ¬ p = be ∧ pt p = nx) → (k = 1 → nx = -100000) →
    ∃ nx', bsV kw pt f k (kw be, pt be, nx) = (kw (bpF pt f k be), pt (bpF pt f k be), nx') ∧ (∀ p, p < 93 → ¬ p = bpF pt f k be → pt p ≤ nx') ∧ ∃ p, p < 93 ∧ ¬ p = bpF pt f k be ∧ pt p = nx' := by
  intro f
  induction f with
  | zero =>
    intro k be nx hk hb h1 h2 h3 h4
    have e : k = 93 := by omega
    subst e
    exact ⟨nx, rfl, h2, h3 (by omega)⟩
  | succ f ih =>
    intro k be nx hk hb h1 h2 h3 h4
    have hk9 := hr k (by omega)
    simp only [bsV, bpF]
    by_cases c : pt be < pt k
    · rw [if_pos c, if_pos c]
      refine ih (k + 1) k (pt be) (by omega) (by omega) (fun p hp => ?_) (fun p hp hn => ?_) (fun _ => ⟨be, by omega, by omega, rfl⟩) (fun e => by omega)
      · by_cases q : p = k
        · rw [q]; omega
        · have := h1 p (by omega); omega
      · exact h1 p (by omega)
    · rw [if_neg c, if_neg c]
      refine ih (k + 1) be _ (by omega) (by omega) (fun p hp => ?_) (fun p hp hn => ?_) (fun _ => ?_) (fun e => by omega)
      · by_cases q : p = k
        · rw [q]; omega
        · exact h1 p (by omega)
      · by_cases q : p = k
        · rw [q]; split <;> omega
        · have := h2 p (by omega) hn
          split <;> omega
      · by_cases d : nx < pt k
        · rw [if_pos d]; exact ⟨k, by omega, by omega, rfl⟩
        · rw [if_neg d]
          by_cases e : k = 1
          · have := h4 e; omega
          · obtain ⟨p, p1, p2, p3⟩ := h3 (by omega)
            exact ⟨p, by omega, p2, p3⟩
theorem ldF_inv {pt : Nat → Int} {be : Nat} : ∀ (f p : Nat) (nx : Int), nx ≤ ldF pt be f p nx ∧ (∀ q, p ≤ q → q < p + f → ¬ q = be → pt q ≤ ldF pt be f p nx) ∧ (ldF pt be f p nx = nx ∨ ∃ q, q < p + f ∧ ¬ q = be ∧ pt q = ldF pt be f p nx) := by
  intro f
  induction f with
  | zero => intro p nx; exact ⟨Int.le_refl _, fun q h1 h2 => by omega, Or.inl rfl⟩
  | succ f ih =>
    intro p nx
    unfold ldF
    by_cases c : p = be
    · rw [if_pos c]
      obtain ⟨a, b, d⟩ := ih (p + 1) nx
      refine ⟨a, fun q h1 h2 h3 => b q (by omega) (by omega) h3, ?_⟩
      rcases d with d | ⟨q, d1, d2, d3⟩
      · exact Or.inl d
      · exact Or.inr ⟨q, by omega, d2, d3⟩
    · rw [if_neg c]
      obtain ⟨a, b, d⟩ := ih (p + 1) (max nx (pt p))
      refine ⟨by omega, fun q h1 h2 h3 => ?_, ?_⟩
      · by_cases e : q = p
        · rw [e]; exact Int.le_trans (Int.le_max_right nx (pt p)) a
        · exact b q (by omega) (by omega) h3
      · rcases d with d | ⟨q, d1, d2, d3⟩
        · by_cases m : nx ≤ pt p
          · exact Or.inr ⟨p, by omega, c, by rw [d]; omega⟩
          · exact Or.inl (by rw [d]; omega)
        · exact Or.inr ⟨q, by omega, d2, d3⟩
theorem lead_eq {kw pt pt' : Nat → Int} (hk : ∀ p, p < 93 → kw p = oT p) (he : ∀ p, p < 93 → pt p = pt' p) (hr : ∀ p, p < 93 → -100000 < pt' p) :
    (bsV kw pt' 92 1 (kw 0, pt' 0, -100000)).1 = oT (bpF pt 92 1 0) ∧ (bsV kw pt' 92 1 (kw 0, pt' 0, -100000)).2.1 - (bsV kw pt' 92 1 (kw 0, pt' 0, -100000)).2.2 = ldR pt (bpF pt 92 1 0) := by
  obtain ⟨nx, e1, e2, p0, p1, p2, p3⟩ := bsV_inv (kw := kw) hr 92 1 0 (-100000) rfl (by omega) (fun p hp => by rw [show p = 0 from by omega]; omega) (fun p hp hn => by omega) (fun h => by omega) (fun _ => rfl)
  have eb : bpF pt 92 1 0 = bpF pt' 92 1 0 := bpF_congr he 92 1 0 (by omega) (by omega)
  have hlt := bpF_lt pt' 92 1 0 (by omega) (by omega)
  rw [e1, eb]
  generalize bpF pt' 92 1 0 = be at *
  refine ⟨hk be hlt, ?_⟩
  show pt' be - nx = ldR pt be
  unfold ldR
  obtain ⟨a, b, d⟩ := ldF_inv (pt := pt) (be := be) 93 0 (pt (if be = 0 then 1 else 0))
  have hq : (if be = 0 then 1 else 0) < 93 ∧ ¬ (if be = 0 then 1 else 0) = be := by split <;> omega
  have up : ldF pt be 93 0 (pt (if be = 0 then 1 else 0)) ≤ nx := by
    rcases d with d | ⟨q, d1, d2, d3⟩
    · rw [d, he _ hq.1]; exact e2 _ hq.1 hq.2
    · rw [← d3, he q (by omega)]; exact e2 q (by omega) d2
  have lo : nx ≤ ldF pt be 93 0 (pt (if be = 0 then 1 else 0)) := by
    rw [← p3, ← he p0 p1]; exact b p0 (by omega) (by omega) p2
  rw [he be hlt]
  omega
/-! how many -/
theorem cn_0 (qu ql qg qa : Nat → Int) (B : Nat) : ∀ n : Nat, cnM qu ql qg qa B 0 n = n := by
  intro n
  induction n with
  | zero => rfl
  | succ n ih => unfold cnM; rw [ih, if_pos (Or.inl rfl)]; omega
theorem cn_1 {qu ql qg qa fa : Nat → Int} {B : Nat} : ∀ n : Nat, (∀ e, e < n → fa e = qa (B + e) ∧ (fa e = 0 ∨ fa e = 1)) → cnM qu ql qg qa B 1 n = n - caN fa n := by
  intro n
  induction n with
  | zero => intro _; simp [cnM, caN]
  | succ n ih =>
    intro h
    have q := h n (by omega)
    unfold cnM caN
    rw [ih (fun e he => h e (by omega))]
    by_cases c : qa (B + n) = 0
    · rw [if_neg (by omega)]; omega
    · rw [if_pos (Or.inr (Or.inl ⟨rfl, c⟩))]; omega
theorem wk_right {a b : Int} (h : TaskP a b) : wk a b 0 = a - b := by
  have f0 : ∀ k : Int, fs 0 k ↔ False := fun k => ⟨fun h => by unfold fs at h; rw [Int.zero_ediv] at h; exact absurd h (by decide), False.elim⟩
  have g : ∀ (up low bb : Int), cg 0 bb up low = if low ≤ up then up - low else 10 + up - low := fun up low bb => by
    unfold cg
    simp only [f0, and_false, if_false]
  have c : ∀ (bb low : Int) (n : Nat) (x : Nat → Int), caF 0 bb low n x = if low ≤ x n then x else payR 0 (2 - n) (n + 1) x := fun bb low n x => by
    unfold caF
    simp only [f0, and_false, if_false]
  have p1 : ∀ (n : Nat) (x : Nat → Int), payR 0 1 n x = if 0 < x n then va_up x n (x n - 1) else va_up x n 9 := fun n x => by
    simp only [payR, pv, f0, if_false]
  have p2 : ∀ (n : Nat) (x : Nat → Int), payR 0 2 n x = if 0 < x n then va_up x n (x n - 1) else payR 0 1 (n + 1) (va_up x n 9) := fun n x => by
    rw [show (2 : Nat) = 1 + 1 from rfl]
    conv => lhs; unfold payR
    simp only [pv, f0, if_false]
  unfold TaskP at h
  have a0 := dg_0 a
  have a1 := dg_1 a
  have a2 := dg_2 a
  have b0 := dg_0 b
  have b1 := dg_1 b
  have b2 := dg_2 b
  unfold wk wkG
  rw [g, g, g]
  have w1 : ∀ i, wkA 0 a b 0 i = dg a i := fun i => rfl
  have w2 : wkA 0 a b 1 = if dg b 0 ≤ dg a 0 then (fun i => dg a i) else payR 0 2 1 (fun i => dg a i) := by
    show caF 0 _ _ 0 (wkA 0 a b 0) = _
    rw [c]
    rfl
  have w3 : wkA 0 a b 2 = if dg b 1 ≤ wkA 0 a b 1 1 then wkA 0 a b 1 else payR 0 1 2 (wkA 0 a b 1) := by
    show caF 0 _ _ 1 (wkA 0 a b 1) = _
    rw [c]
  rw [w3, w2, w1]
  by_cases c1 : dg b 0 ≤ dg a 0
  · simp only [if_pos c1]
    by_cases c2 : dg b 1 ≤ dg a 1
    · simp only [if_pos c2]
      split <;> omega
    · simp only [if_neg c2, p1]
      by_cases c3 : 0 < dg a 2
      · simp only [if_pos c3, up_s]; split <;> omega
      · simp only [if_neg c3, up_s]; split <;> omega
  · simp only [if_neg c1, p2]
    by_cases c2 : 0 < dg a 1
    · simp only [if_pos c2, up_s]
      by_cases c4 : dg b 1 ≤ dg a 1 - 1
      · simp only [if_pos c4]
        rw [up_n _ _ _ _ (by decide)]
        split <;> omega
      · simp only [if_neg c4, p1]
        rw [up_n _ _ _ _ (by decide)]
        by_cases c3 : 0 < dg a 2
        · simp only [if_pos c3, up_s]; split <;> omega
        · simp only [if_neg c3, up_s]; split <;> omega
    · simp only [if_neg c2, p1]
      have u : ∀ v : Int, va_up (fun i => dg a i) 1 v 2 = dg a 2 := fun v => up_n _ _ _ _ (by decide)
      rw [u]
      by_cases c3 : 0 < dg a 2
      · simp only [if_pos c3]
        have u1 : va_up (va_up (fun i => dg a i) 1 9) (1 + 1) (dg a 2 - 1) 1 = 9 := by rw [up_n _ _ _ _ (by decide), up_s]
        have u2 : va_up (va_up (fun i => dg a i) 1 9) (1 + 1) (dg a 2 - 1) 2 = dg a 2 - 1 := up_s _ _ _
        rw [u1, if_pos (show dg b 1 ≤ 9 by omega), u2]
        split <;> omega
      · simp only [if_neg c3]
        have u1 : va_up (va_up (fun i => dg a i) 1 9) (1 + 1) 9 1 = 9 := by rw [up_n _ _ _ _ (by decide), up_s]
        have u2 : va_up (va_up (fun i => dg a i) 1 9) (1 + 1) 9 2 = 9 := up_s _ _ _
        rw [u1, if_pos (show dg b 1 ≤ 9 by omega), u2]
        split <;> omega
theorem oT_0 : oT 0 = 0 := by decide
theorem cn_2 {qu ql qg qa fc fa : Nat → Int} {B : Nat} : ∀ n : Nat, (∀ e, e < n → AnOK qu ql qg qa (B + e) ∧ fc e = cqv qu ql qg (B + e) ∧ fa e = qa (B + e)) → cnM qu ql qg qa B 2 n = htN fc fa 0 n := by
  intro n
  induction n with
  | zero => intro _; rfl
  | succ n ih =>
    intro h
    obtain ⟨b1, b2, b3⟩ := h n (by omega)
    unfold cnM htN
    rw [ih (fun e he => h e (by omega)), b2, b3]
    have q := hit_iff (p := 0) b1.1
    rw [oT_0, wk_right b1.1.1] at q
    unfold cqv
    have b := b1.2
    by_cases c : qa (B + n) = 0 ∧ qg (B + n) = qu (B + n) - ql (B + n)
    · rw [if_pos (Or.inr (Or.inr (Or.inl ⟨rfl, c⟩))), if_pos (q.mpr c.2.symm), c.1]
      omega
    · rw [if_neg (by omega)]
      by_cases d : qa (B + n) = 0
      · rw [if_neg (fun z => c ⟨d, (q.mp z).symm⟩)]
      · have d1 : qa (B + n) = 1 := by omega
        rw [d1]
        split <;> omega
theorem cn_3 {qu ql qg qa fc fs fa : Nat → Int} {B : Nat} : ∀ n : Nat, (∀ e, e < n → fc e = cqv qu ql qg (B + e) ∧ fa e = qa (B + e) ∧ fs e = 1 - anyH (fc e) 93) → cnM qu ql qg qa B 3 n = cntS fs fa n := by
  intro n
  induction n with
  | zero => intro _; rfl
  | succ n ih =>
    intro h
    obtain ⟨b2, b3, b4⟩ := h n (by omega)
    unfold cnM cntS
    rw [ih (fun e he => h e (by omega)), b3]
    rw [b2] at b4
    have q := anyH_01 (cqv qu ql qg (B + n)) 93
    by_cases c : qa (B + n) = 0 ∧ anyH (cqv qu ql qg (B + n)) 93 = 0
    · rw [if_pos (Or.inr (Or.inr (Or.inr ⟨rfl, c⟩))), if_pos ⟨by omega, c.1⟩]
    · rw [if_neg (by omega), if_neg (by omega)]
theorem count_eq {k : Nat} {Z : Nat → Int} {T : Nat → Nat → Int} {qm qu ql qg qa : Nat → Int} {what : Int} (h : LnR k Z T qm qu ql qg qa) (hw : 0 ≤ what ∧ what ≤ 3) : cnM qu ql qg qa (40 * k) what (qm k).toNat = (if what = 0 then Z 0 else if what = 1 then Z 0 - Z 1 else if what = 2 then T 8 0 else cntS (T 7) (T 6) (Z 0).toNat) := by
  obtain ⟨M, a1, a2, a3, a4, a5, a6⟩ := h
  rw [a3, a2, show ((M : Int)).toNat = M from by omega]
  rcases (show what = 0 ∨ what = 1 ∨ what = 2 ∨ what = 3 by omega) with e | e | e | e <;> subst e
  · rw [cn_0]; rfl
  · rw [cn_1 (fa := T 6) M (fun e he => ⟨(a4 e he).2.2.1, by rw [(a4 e he).2.2.1]; exact (a4 e he).1.2⟩), a5]; rfl
  · rw [cn_2 (fc := T 5) (fa := T 6) M (fun e he => ⟨(a4 e he).1, (a4 e he).2.1, (a4 e he).2.2.1⟩)]
    show _ = T 8 0
    rw [a6 0 (by omega)]
  · rw [cn_3 (fc := T 5) (fs := T 7) (fa := T 6) M (fun e he => ⟨(a4 e he).2.1, (a4 e he).2.2.1, (a4 e he).2.2.2⟩)]; rfl
/-! strange answers -/
theorem cqF_congr {fo fp : Nat → Int} {c : Int} : ∀ n : Nat, (∀ e, e < n → fo e = fp e) → cqF fo c n = cqF fp c n := by
  intro n
  induction n with
  | zero => intro _; rfl
  | succ n ih => intro h; unfold cqF; rw [ih (fun e he => h e (by omega)), h n (by omega)]
def clN (fc fs fa : Nat → Int) (c : Int) : Nat → Int
  | 0 => 0
  | n + 1 => clN fc fs fa c n + if (¬ fs n = 0 ∧ fa n = 0) ∧ fc n = c then 1 else 0
theorem ts_cq (fc fs fa : Nat → Int) (c : Int) (s : (Nat → Int) × Nat) : ∀ n, cqF (tsF fc fs fa n s).1 c (tsF fc fs fa n s).2 = cqF s.1 c s.2 + clN fc fs fa c n := by
  intro n
  induction n with
  | zero => simp [tsF, clN]
  | succ n ih =>
    simp only [tsF, clN]
    by_cases q : ¬ fs n = 0 ∧ fa n = 0
    · rw [if_pos q]
      show cqF (va_up (tsF fc fs fa n s).1 (tsF fc fs fa n s).2 (fc n)) c (tsF fc fs fa n s).2 + (if va_up (tsF fc fs fa n s).1 (tsF fc fs fa n s).2 (fc n) (tsF fc fs fa n s).2 = c then 1 else 0) = _
      rw [up_s, cqF_congr (fp := (tsF fc fs fa n s).1) _ (fun e he => up_n _ _ _ _ (by omega)), ih]
      by_cases d : fc n = c
      · rw [if_pos d, if_pos ⟨q, d⟩]; omega
      · rw [if_neg d, if_neg (fun z => d z.2)]; omega
    · rw [if_neg q, ih, if_neg (fun z => q z.1)]
      omega
theorem ts_str (fc fs fa : Nat → Int) (s : (Nat → Int) × Nat) : ∀ n, (∀ e, e < n → fs e = 1 - anyH (fc e) 93) → (∀ i, i < s.2 → anyH (s.1 i) 93 = 0) → ∀ i, i < (tsF fc fs fa n s).2 → anyH ((tsF fc fs fa n s).1 i) 93 = 0 := by
  intro n
  induction n with
  | zero => intro _ h i hi; exact h i hi
  | succ n ih =>
    intro h1 h2 i
    have h3 := ih (fun e he => h1 e (by omega)) h2
    simp only [tsF]
    by_cases q : ¬ fs n = 0 ∧ fa n = 0
    · rw [if_pos q]
      intro hi
      have hi : i < (tsF fc fs fa n s).2 + 1 := hi
      show anyH (va_up (tsF fc fs fa n s).1 (tsF fc fs fa n s).2 (fc n) i) 93 = 0
      by_cases d : i = (tsF fc fs fa n s).2
      · rw [d, up_s]
        have := h1 n (by omega)
        have := anyH_01 (fc n) 93
        omega
      · rw [up_n _ _ _ _ d]; exact h3 i (by omega)
    · rw [if_neg q]; exact h3 i
def clK (LZ : Nat → Nat → Int) (LT : Nat → Nat → Nat → Int) (c : Int) : Nat → Int
  | 0 => 0
  | k + 1 => clK LZ LT c k + clN (LT k 5) (LT k 7) (LT k 6) c (LZ k 0).toNat
theorem sg_cq {LZ : Nat → Nat → Int} {LT : Nat → Nat → Nat → Int} {fo : Nat → Int} (c : Int) : ∀ n, cqF (sgF LZ LT fo n).1 c (sgF LZ LT fo n).2 = clK LZ LT c n := by
  intro n
  induction n with
  | zero => rfl
  | succ n ih => unfold sgF clK; rw [ts_cq, ih]
theorem sg_str {LZ : Nat → Nat → Int} {LT : Nat → Nat → Nat → Int} {fo : Nat → Int} : ∀ n, (∀ k, k < n → ∀ e, e < (LZ k 0).toNat → LT k 7 e = 1 - anyH (LT k 5 e) 93) → ∀ i, i < (sgF LZ LT fo n).2 → anyH ((sgF LZ LT fo n).1 i) 93 = 0 := by
  intro n
  induction n with
  | zero => intro _ i hi; exact absurd hi (Nat.not_lt_zero i)
  | succ n ih => intro h; exact ts_str _ _ _ _ _ (h n (by omega)) (ih (fun k hk => h k (by omega)))
theorem ck_row {k K M : Nat} {T : Nat → Nat → Int} {qm qu ql qg qa : Nat → Int} {c : Int} (hk : k < K) (hM : M ≤ 40) (hq : qm k = (M : Int)) (h : ∀ e, e < M → AnOK qu ql qg qa (40 * k + e) ∧ T 5 e = cqv qu ql qg (40 * k + e) ∧ T 6 e = qa (40 * k + e) ∧ T 7 e = 1 - anyH (T 5 e) 93) (hc : anyH c 93 = 0) : ∀ e, e ≤ 40 → ckF qm qa (cqv qu ql qg) (K : Int) c (40 * k + e) = ckF qm qa (cqv qu ql qg) (K : Int) c (40 * k) + clN (T 5) (T 7) (T 6) c (min e M) := by
  intro e
  induction e with
  | zero => intro _; simp [clN]
  | succ e ih =>
    intro he
    show ckF qm qa (cqv qu ql qg) (K : Int) c (40 * k + e) + (if vdP qm (K : Int) (40 * k + e) ∧ qa (40 * k + e) = 0 ∧ cqv qu ql qg (40 * k + e) = c then 1 else 0) = _
    rw [ih (by omega)]
    by_cases q : e < M
    · rw [show min (e + 1) M = e + 1 from by omega, show min e M = e from by omega]
      obtain ⟨b1, b2, b3, b4⟩ := h e q
      show _ = _ + (clN (T 5) (T 7) (T 6) c e + if (¬ T 7 e = 0 ∧ T 6 e = 0) ∧ T 5 e = c then 1 else 0)
      have hv : vdP qm (K : Int) (40 * k + e) := vd_at (by omega) (by omega) (by omega)
      by_cases d : qa (40 * k + e) = 0 ∧ cqv qu ql qg (40 * k + e) = c
      · have e7 : T 7 e = 1 := by rw [b4, b2, d.2, hc]; omega
        rw [if_pos ⟨hv, d⟩, if_pos ⟨⟨by omega, by rw [b3]; exact d.1⟩, by rw [b2]; exact d.2⟩]
        omega
      · rw [if_neg (fun z => d z.2), if_neg (fun z => d ⟨by rw [← b3]; exact z.1.2, by rw [← b2]; exact z.2⟩)]
        omega
    · rw [show min (e + 1) M = min e M from by omega, if_neg (fun z => by have := z.1.1; rw [show (40 * k + e) % 40 = e from by omega, show (40 * k + e) / 40 = k from by omega] at this; omega)]
      omega
theorem ck_no {K k : Nat} {qm qa cq : Nat → Int} {c : Int} (hk : K ≤ k) : ∀ e, e ≤ 40 → ckF qm qa cq (K : Int) c (40 * k + e) = ckF qm qa cq (K : Int) c (40 * k) := by
  intro e
  induction e with
  | zero => intro _; rfl
  | succ e ih =>
    intro he
    show ckF qm qa cq (K : Int) c (40 * k + e) + (if vdP qm (K : Int) (40 * k + e) ∧ qa (40 * k + e) = 0 ∧ cq (40 * k + e) = c then 1 else 0) = _
    rw [ih (by omega), if_neg (fun z => by have := z.1.2; rw [show (40 * k + e) / 40 = k from by omega] at this; omega)]
    omega
theorem ck_all {K : Nat} {LZ : Nat → Nat → Int} {LT : Nat → Nat → Nat → Int} {qm qu ql qg qa : Nat → Int} (h : ∀ k, k < K → LnR k (LZ k) (LT k) qm qu ql qg qa) {c : Int} (hc : anyH c 93 = 0) : ∀ k, ckF qm qa (cqv qu ql qg) (K : Int) c (40 * k) = clK LZ LT c (min k K) := by
  intro k
  induction k with
  | zero => rw [show min 0 K = 0 from by omega]; rfl
  | succ k ih =>
    rw [show 40 * (k + 1) = 40 * k + 40 from by omega]
    by_cases q : k < K
    · obtain ⟨M, a1, a2, a3, a4, -⟩ := h k q
      rw [ck_row q a1 a3 a4 hc 40 (Nat.le_refl _), ih, show min (k + 1) K = k + 1 from by omega, show min k K = k from by omega, show min 40 M = M from by omega]
      show _ = clK LZ LT c k + clN (LT k 5) (LT k 7) (LT k 6) c (LZ k 0).toNat
      rw [a2, show ((M : Int)).toNat = M from by omega]
    · rw [ck_no (by omega) 40 (Nat.le_refl _), ih, show min (k + 1) K = min k K from by omega]
theorem ckF_pos {qm qa cq : Nat → Int} {K c : Int} : ∀ n, 0 < ckF qm qa cq K c n → ∃ k, k < n ∧ vdP qm K k ∧ qa k = 0 ∧ cq k = c := by
  intro n
  induction n with
  | zero => intro h; simp [ckF] at h
  | succ n ih =>
    intro h
    unfold ckF at h
    by_cases q : vdP qm K n ∧ qa n = 0 ∧ cq n = c
    · exact ⟨n, by omega, q⟩
    · rw [if_neg q] at h
      obtain ⟨k, k1, k2⟩ := ih (by omega)
      exact ⟨k, by omega, k2⟩
theorem cqF_pos {fo : Nat → Int} {c : Int} : ∀ n, 0 < cqF fo c n → ∃ i, i < n ∧ fo i = c := by
  intro n
  induction n with
  | zero => intro h; simp [cqF] at h
  | succ n ih =>
    intro h
    unfold cqF at h
    by_cases q : fo n = c
    · exact ⟨n, by omega, q⟩
    · rw [if_neg q] at h
      obtain ⟨k, k1, k2⟩ := ih (by omega)
      exact ⟨k, by omega, k2⟩
theorem cqF_self {fo : Nat → Int} {i : Nat} : ∀ n, i < n → 0 < cqF fo (fo i) n := by
  intro n
  induction n with
  | zero => intro h; omega
  | succ n ih =>
    intro h
    have r := cqF_rng fo (fo i) n
    unfold cqF
    by_cases q : i = n
    · subst q; rw [if_pos rfl]; omega
    · have := ih (by omega); split <;> omega
theorem mg_inv {fo : Nat → Int} {K : Nat} {fu : Int} : ∀ (f k : Nat) (s : Int × Int), k + f = K → ((k = 0 ∧ s = (0, fu)) ∨ ((∃ i, i < k ∧ s = (cqF fo (fo i) K, fo i)) ∧ ∀ i, i < k → cqF fo (fo i) K < s.1 ∨ (cqF fo (fo i) K = s.1 ∧ s.2 ≤ fo i))) →
    (K = 0 ∧ mgF fo K f k s = (0, fu)) ∨ ((∃ i, i < K ∧ mgF fo K f k s = (cqF fo (fo i) K, fo i)) ∧ ∀ i, i < K → cqF fo (fo i) K < (mgF fo K f k s).1 ∨ (cqF fo (fo i) K = (mgF fo K f k s).1 ∧ (mgF fo K f k s).2 ≤ fo i)) := by
  intro f
  induction f with
  | zero =>
    intro k s hk h
    have e : k = K := by omega
    subst e
    exact h
  | succ f ih =>
    intro k s hk h
    unfold mgF
    refine ih (k + 1) _ (by omega) (Or.inr ?_)
    have hp := cqF_self (fo := fo) (i := k) K (by omega)
    by_cases b : bigP fo K s k
    · rw [if_pos b]
      refine ⟨⟨k, by omega, rfl⟩, fun i hi => ?_⟩
      show cqF fo (fo i) K < cqF fo (fo k) K ∨ (cqF fo (fo i) K = cqF fo (fo k) K ∧ fo k ≤ fo i)
      by_cases q : i = k
      · rw [q]; exact Or.inr ⟨rfl, Int.le_refl _⟩
      · rcases h with ⟨h0, -⟩ | ⟨-, h⟩
        · omega
        · have := h i (by omega)
          unfold bigP at b
          omega
    · rw [if_neg b]
      rcases h with ⟨h0, h1⟩ | ⟨⟨i, h1, h2⟩, h⟩
      · exact absurd (Or.inl (by rw [h1]; exact hp)) b
      · refine ⟨⟨i, by omega, h2⟩, fun i hi => ?_⟩
        by_cases q : i = k
        · rw [q]
          unfold bigP at b
          omega
        · exact h i (by omega)
theorem strange_eq {K : Nat} {LZ : Nat → Nat → Int} {LT : Nat → Nat → Nat → Int} {qm qu ql qg qa fo : Nat → Int} {fu what bs ms : Int} (hK : K ≤ 12) (h : RLn K LZ LT qm qu ql qg qa) (hw : 0 ≤ what ∧ what ≤ 3) (hS : SgI qm qa (cqv qu ql qg) (K : Int) 480 bs ms) : sgR what bs ms qu ql qg = stR what (sgM LZ LT fo fu K) := by
  have hstr : ∀ i, i < (sgF LZ LT fo K).2 → anyH ((sgF LZ LT fo K).1 i) 93 = 0 := sg_str K (fun k hk e he => by
    obtain ⟨M, a1, a2, a3, a4, -⟩ := h.2 k hk
    exact (a4 e (by omega)).2.2.2)
  have hck : ∀ c, anyH c 93 = 0 → ckF qm qa (cqv qu ql qg) (K : Int) c 480 = cqF (sgF LZ LT fo K).1 c (sgF LZ LT fo K).2 := fun c hc => by
    have e := ck_all h.2 hc 12
    rw [show min 12 K = K from by omega] at e
    rw [sg_cq, ← e]
  unfold sgM
  generalize (sgF LZ LT fo K).1 = li at *
  generalize (sgF LZ LT fo K).2 = n at *
  unfold stR
  rw [if_neg (fun z => z hw)]
  rcases mg_inv (fo := li) (K := n) (fu := fu) n 0 (0, fu) (by omega) (Or.inl ⟨rfl, rfl⟩) with ⟨e, m⟩ | ⟨⟨i, i1, m⟩, mx⟩
  · rw [m]
    rcases hS with ⟨s1, s2, s3⟩ | ⟨s1, s2, s3, s4, s5, s6⟩
    · unfold sgR
      rw [if_pos (by omega)]
      rfl
    · rw [hck _ s4.2.2, e] at s5
      simp [cqF] at s5
      omega
  · rw [m] at mx ⊢
    have ci := hck _ (hstr i i1)
    have cp := cqF_self (fo := li) (i := i) n i1
    obtain ⟨k, k1, k2, k3, k4⟩ := ckF_pos 480 (show 0 < ckF qm qa (cqv qu ql qg) (K : Int) (li i) 480 by rw [ci]; exact cp)
    have hs : sgP qm qa (cqv qu ql qg) (K : Int) k := ⟨k2, k3, by rw [k4]; exact hstr i i1⟩
    rcases hS with ⟨s1, s2, s3⟩ | ⟨s1, s2, s3, s4, s5, s6⟩
    · exact absurd hs (s3 k k1)
    · have q1 := s6 k k1 hs
      rw [k4, ci] at q1
      have s5' := s5
      rw [hck _ s4.2.2] at s5'
      obtain ⟨i2, i3, i4⟩ := cqF_pos n (show 0 < cqF li (cqv qu ql qg bs.toNat) n by rw [s5']; exact s1)
      have q2 := mx i2 i3
      rw [i4, s5'] at q2
      have q2 : ms < cqF li (li i) n ∨ (ms = cqF li (li i) n ∧ li i ≤ cqv qu ql qg bs.toNat) := q2
      have em : cqF li (li i) n = ms := by omega
      have ec : li i = cqv qu ql qg bs.toNat := by omega
      have ok := h.vd bs.toNat (by omega) s4.1
      have cd := case_dec (a := qu bs.toNat) (b := ql bs.toNat) (c := qg bs.toNat) (by have := ok.1; unfold TaskP at this; omega)
      show _ = (if cqF li (li i) n = 0 then -4 else if what = 0 then cqF li (li i) n else if what = 1 then li i / 1000000 else if what = 2 then li i / 1000 % 1000 else li i % 1000)
      rw [em, ec]
      unfold sgR cqv
      rw [if_neg (show ¬ bs < 0 by omega), if_neg (show ¬ ms = 0 by omega), cd.2.1, cd.2.2.1, cd.2.2.2]
