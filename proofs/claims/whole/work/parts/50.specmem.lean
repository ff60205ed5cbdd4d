/-! skills: bits, odds, ways -/
theorem iI_tb (a : Nat) : (iI (a : Int)).toBitVec = BitVec.ofNat 32 a := by rw [iI_nat]; rfl
theorem iI_andN (a b : Nat) : iI (a : Int) &&& iI (b : Int) = iI ((a &&& b : Nat) : Int) := by
  apply Int32.toBitVec_inj.mp
  rw [Int32.toBitVec_and, iI_tb, iI_tb, iI_tb]
  apply BitVec.eq_of_getLsbD_eq
  intro i hi
  simp [BitVec.getLsbD_and, BitVec.getLsbD_ofNat, Nat.testBit_and, hi]
theorem iI_orN (a b : Nat) : iI (a : Int) ||| iI (b : Int) = iI ((a ||| b : Nat) : Int) := by
  apply Int32.toBitVec_inj.mp
  rw [Int32.toBitVec_or, iI_tb, iI_tb, iI_tb]
  apply BitVec.eq_of_getLsbD_eq
  intro i hi
  simp [BitVec.getLsbD_or, BitVec.getLsbD_ofNat, Nat.testBit_or, hi]
def ndn (a m : Nat) : Nat := a &&& (255 ^^^ m)
theorem iI_ndn {a : Nat} (m : Nat) (ha : a < 256) : iI (a : Int) &&& (iI (m : Int) ^^^ iI (-1)) = iI ((ndn a m : Nat) : Int) := by
  apply Int32.toBitVec_inj.mp
  rw [Int32.toBitVec_and, Int32.toBitVec_xor, iI_tb, iI_tb, iI_tb, show (iI (-1)).toBitVec = BitVec.allOnes 32 from by decide]
  apply BitVec.eq_of_getLsbD_eq
  intro i hi
  unfold ndn
  have h255 : (255 : Nat).testBit i = decide (i < 8) := by
    rw [show (255 : Nat) = 2 ^ 8 - 1 from rfl, Nat.testBit_two_pow_sub_one]
  rw [BitVec.getLsbD_and, BitVec.getLsbD_xor, BitVec.getLsbD_ofNat, BitVec.getLsbD_ofNat, BitVec.getLsbD_ofNat, BitVec.getLsbD_allOnes, Nat.testBit_and, Nat.testBit_xor, h255]
  by_cases h8 : i < 8
  · simp [hi, h8]
  · have hz : a.testBit i = false := Nat.testBit_lt_two_pow (Nat.lt_of_lt_of_le ha (by rw [show (256 : Nat) = 2 ^ 8 from rfl]; exact Nat.pow_le_pow_right (by omega) (by omega)))
    simp [hz]
abbrev bitP (b : Nat) (s : Nat) : Prop := (b : Int) / 2 ^ s % 2 = 1
theorem bitP_iff (b s : Nat) : bitP b s ↔ b.testBit s = true := by
  rw [Nat.testBit_eq_decide_div_mod_eq]
  unfold bitP
  have e : (b : Int) / 2 ^ s % 2 = ((b / 2 ^ s % 2 : Nat) : Int) := by simp
  rw [e]
  simp
  omega
theorem ndn_lt {a m : Nat} (ha : a < 256) : ndn a m < 256 := Nat.lt_of_le_of_lt Nat.and_le_left ha
theorem ndn_0 {a m : Nat} (ha : a < 256) : ndn a m = 0 ↔ ∀ s, s < 8 → bitP a s → bitP m s := by
  unfold ndn
  constructor
  · intro h s hs h1
    rw [bitP_iff] at h1 ⊢
    have h2 : (a &&& (255 ^^^ m)).testBit s = false := by rw [h]; simp
    have h255 : (255 : Nat).testBit s = decide (s < 8) := by rw [show (255 : Nat) = 2 ^ 8 - 1 from rfl, Nat.testBit_two_pow_sub_one]
    rw [Nat.testBit_and, Nat.testBit_xor, h1, h255] at h2
    simp [hs] at h2
    exact h2
  · intro h
    apply Nat.eq_of_testBit_eq
    intro s
    have h255 : (255 : Nat).testBit s = decide (s < 8) := by rw [show (255 : Nat) = 2 ^ 8 - 1 from rfl, Nat.testBit_two_pow_sub_one]
    rw [Nat.testBit_and, Nat.testBit_xor, h255]
    by_cases hs : s < 8
    · by_cases h1 : a.testBit s = true
      · have := (bitP_iff m s).mp (h s hs ((bitP_iff a s).mpr h1))
        simp [this, hs]
      · simp [h1]
    · have hz : a.testBit s = false := Nat.testBit_lt_two_pow (Nat.lt_of_lt_of_le ha (by rw [show (256 : Nat) = 2 ^ 8 from rfl]; exact Nat.pow_le_pow_right (by omega) (by omega)))
      simp [hz]
def StandP (fh : Nat → Int) (ln : Nat → Nat) (b h : Nat) : Prop := ∀ s, s < 8 → bitP b s → 0 < fh s ∧ ndn (ln s) (b ||| h) = 0
noncomputable def ofP (p : Prop) : Int := @ite Int p (Classical.propDecidable p) 1 0
theorem ofP_t {p : Prop} (h : p) : ofP p = 1 := if_pos h
theorem ofP_f {p : Prop} (h : ¬ p) : ofP p = 0 := if_neg h
theorem ofP_1 {p : Prop} (h : ofP p = 1) : p := by
  rcases Classical.em p with q | q
  · exact q
  · rw [ofP_f q] at h; cases h
abbrev bwC (ad : Nat → Int) (fh fg : Nat → Int) (hm : Int) (b be : Nat) : Prop := ad b = 1 ∧ sD fh b 8 ≤ hm ∧ (sD fg be 8 < sD fg b 8 ∨ sD fg b 8 = sD fg be 8 ∧ sD fh b 8 < sD fh be 8)
def bwF (ad : Nat → Int) (fh fg : Nat → Int) (hm : Int) : Nat → Nat → Nat → Nat
  | 0, _, be => be
  | f + 1, b, be => bwF ad fh fg hm f (b + 1) (if bwC ad fh fg hm b be then b else be)
theorem bwF_congr {ad : Nat → Int} {fh fg fh' fg' : Nat → Int} {hm : Int} (hs : ∀ b, ad b = 1 → sD fh b 8 = sD fh' b 8 ∧ sD fg b 8 = sD fg' b 8) : ∀ (f b be : Nat), (sD fh be 8 = sD fh' be 8 ∧ sD fg be 8 = sD fg' be 8) → bwF ad fh fg hm f b be = bwF ad fh' fg' hm f b be ∧ (sD fh (bwF ad fh fg hm f b be) 8 = sD fh' (bwF ad fh fg hm f b be) 8 ∧ sD fg (bwF ad fh fg hm f b be) 8 = sD fg' (bwF ad fh fg hm f b be) 8) := by
  intro f
  induction f with
  | zero => intro b be h; exact ⟨rfl, h⟩
  | succ f ih =>
    intro b be h
    unfold bwF
    have e : bwC ad fh fg hm b be ↔ bwC ad fh' fg' hm b be := by
      unfold bwC
      constructor
      · intro ⟨h1, h2⟩; have := hs b h1; rw [← this.1, ← this.2, ← h.1, ← h.2]; exact ⟨h1, h2⟩
      · intro ⟨h1, h2⟩; have := hs b h1; rw [this.1, this.2, h.1, h.2]; exact ⟨h1, h2⟩
    by_cases c : bwC ad fh fg hm b be
    · rw [if_pos c, if_pos (e.mp c)]
      exact ih _ _ (hs b c.1)
    · rw [if_neg c, if_neg (fun z => c (e.mpr z))]
      exact ih _ _ h
def hdN (od : Nat → Int) : Nat → Nat
  | 0 => 0
  | n + 1 => if 500 ≤ od n then hdN od n ||| 2 ^ n else hdN od n
theorem hdN_lt (od : Nat → Int) : ∀ n, hdN od n < 2 ^ n := by
  intro n
  induction n with
  | zero => simp [hdN]
  | succ n ih =>
    unfold hdN
    have h1 : (2 : Nat) ^ (n + 1) = 2 * 2 ^ n := by rw [Nat.pow_succ]; omega
    split
    · exact Nat.or_lt_two_pow (by omega) (by omega)
    · omega
theorem hdN_congr {f h : Nat → Int} : ∀ n, (∀ j, j < n → f j = h j) → hdN f n = hdN h n := by
  intro n
  induction n with
  | zero => intro _; rfl
  | succ n ih => intro e; unfold hdN; rw [e n (by omega), ih (fun j hj => e j (by omega))]
def odF (kn hf lt day : Int) : Int := if kn = 0 then 0 else 1000 * hf / (hf + day - lt)
theorem odF_rng {kn hf lt day : Int} (h : 1 ≤ hf ∧ hf ≤ 512 ∧ lt ≤ day) : 0 ≤ odF kn hf lt day ∧ odF kn hf lt day ≤ 1000 := by
  unfold odF
  split
  · omega
  · constructor
    · exact Int.ediv_nonneg (by omega) (by omega)
    · exact Int.ediv_le_of_le_mul (by omega) (by omega)
def prS (right h : Int) : Int := if right = 0 then max 1 (h / 2) else min 512 (2 * h)
theorem mulC {a b : Int} (h1 : 0 ≤ a ∧ a ≤ 999) (h2 : 0 ≤ b ∧ b ≤ 512) : 0 ≤ a * b ∧ a * b ≤ 511488 := by
  constructor
  · exact Int.mul_nonneg h1.1 h2.1
  · have := Int.mul_le_mul h1.2 h2.2 h2.1 (by omega : (0 : Int) ≤ 999)
    omega
theorem sD_rngN {f : Nat → Int} {B : Int} (x : Int) : ∀ n : Nat, (∀ j, j < n → 0 ≤ f j ∧ f j ≤ B) → 0 ≤ sD f x n ∧ sD f x n ≤ n * B := by
  intro n
  induction n with
  | zero => intro _; simp [sD]
  | succ n ih =>
    intro h
    have h1 := ih (fun j hj => h j (by omega))
    have h2 := h n (by omega)
    have h3 : ((n + 1 : Nat) : Int) * B = n * B + B := by rw [Int.natCast_add, Int.add_mul]; simp
    rw [h3]
    unfold sD
    split <;> omega
def mxL (f : Nat → Int) : Nat → Int
  | 0 => -1
  | n + 1 => max (mxL f n) (f n)
theorem mxL_ge (f : Nat → Int) : ∀ n, -1 ≤ mxL f n ∧ ∀ j, j < n → f j ≤ mxL f n := by
  intro n
  induction n with
  | zero => exact ⟨by simp [mxL], fun j hj => absurd hj (Nat.not_lt_zero j)⟩
  | succ n ih =>
    unfold mxL
    refine ⟨by omega, fun j hj => ?_⟩
    by_cases e : j = n
    · subst e; omega
    · have := ih.2 j (by omega); omega
theorem mxL_le {f : Nat → Int} {B : Int} (hB : -1 ≤ B) : ∀ n, (∀ j, j < n → f j ≤ B) → mxL f n ≤ B := by
  intro n
  induction n with
  | zero => intro _; exact hB
  | succ n ih => intro h; have := h n (by omega); have := ih (fun j hj => h j (by omega)); unfold mxL; omega
theorem iI_ndnF {x : Int} (m : Nat) (hx : 0 ≤ x ∧ x < 256) : iI x &&& (iI (m : Int) ^^^ iI (-1)) = iI ((ndn x.toNat m : Nat) : Int) := by
  have h := iI_ndn (a := x.toNat) m (by omega)
  rw [show ((x.toNat : Nat) : Int) = x from by omega] at h
  exact h
theorem iI_andF {x y : Int} (hx : 0 ≤ x) (hy : 0 ≤ y) : iI x &&& iI y = iI ((x.toNat &&& y.toNat : Nat) : Int) := by
  have h := iI_andN x.toNat y.toNat
  rw [show ((x.toNat : Nat) : Int) = x from by omega, show ((y.toNat : Nat) : Int) = y from by omega] at h
  exact h
theorem bwF_lt {ad : Nat → Int} {fh fg : Nat → Int} {hm : Int} : ∀ (f b be : Nat), be < 256 → b + f ≤ 256 → bwF ad fh fg hm f b be < 256 := by
  intro f
  induction f with
  | zero => intro b be h _; exact h
  | succ f ih =>
    intro b be h hb
    unfold bwF
    split
    · exact ih _ _ (by omega) (by omega)
    · exact ih _ _ h (by omega)
theorem sD_z (f : Nat → Int) : ∀ n, sD f 0 n = 0 := by
  intro n
  induction n with
  | zero => rfl
  | succ n ih => unfold sD; rw [ih, Int.zero_ediv]; simp
theorem hdN_or (od : Nat → Int) (n : Nat) {x y : Int} (h1 : x = ((hdN od n : Nat) : Int)) (h2 : y = (if 500 ≤ od n then 2 ^ n else 0)) : iI x ||| iI y = iI ((hdN od (n + 1) : Nat) : Int) := by
  rw [h1, h2]
  have e : hdN od (n + 1) = if 500 ≤ od n then hdN od n ||| 2 ^ n else hdN od n := rfl
  rw [e]
  by_cases q : 500 ≤ od n
  · rw [if_pos q, if_pos q, show (2 : Int) ^ n = ((2 ^ n : Nat) : Int) from by simp]
    exact iI_orN _ _
  · rw [if_neg q, if_neg q, show (0 : Int) = ((0 : Nat) : Int) from rfl, iI_orN, Nat.or_zero]
theorem odF_rng2 {kn hf lt day : Int} (h : (kn = 0 ∨ kn = 1) ∧ hf ≤ 512 ∧ (kn = 1 → 1 ≤ hf)) (h2 : lt ≤ day) : 0 ≤ odF kn hf lt day ∧ odF kn hf lt day ≤ 1000 := by
  rcases h.1 with e | e
  · unfold odF; rw [if_pos e]; omega
  · exact odF_rng ⟨h.2.2 e, h.2.1, h2⟩
