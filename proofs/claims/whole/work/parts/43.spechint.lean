def bteI (w : Int64) (j : Nat) : Int := ((w.toBitVec.toNat / 2 ^ (8 * j) % 256 : Nat) : Int)
theorem bteI_rng (w : Int64) (j : Nat) : 0 ≤ bteI w j ∧ bteI w j ≤ 255 := by unfold bteI; omega
theorem bt_cu : ∀ j : Nat, j < 8 → ((iI (8 * (j : Int))).toInt64.toUInt64 &&& Int64.toUInt64 63).toNat % 64 = 8 * j := by decide +kernel
theorem bt_cs : ∀ j : Nat, j < 8 → (((iI (8 * (j : Int))).toInt64 &&& 63).toBitVec.smod 64).toNat = 8 * j := by decide +kernel
theorem bteA (w : Int64) (j : Nat) (hj : j < 8) : (w.toUInt64 >>> ((iI (8 * (j : Int))).toInt64.toUInt64 &&& Int64.toUInt64 63)).toInt64.toInt32 &&& iI 255 = iI (bteI w j) := by
  have h1 : (w.toUInt64 >>> ((iI (8 * (j : Int))).toInt64.toUInt64 &&& Int64.toUInt64 63)).toInt64.toBitVec.toNat = w.toBitVec.toNat / 2 ^ (8 * j) := by
    show (w.toUInt64 >>> ((iI (8 * (j : Int))).toInt64.toUInt64 &&& Int64.toUInt64 63)).toNat = _
    rw [UInt64.toNat_shiftRight, bt_cu j hj, Nat.shiftRight_eq_div_pow]
    rfl
  have hlt : w.toBitVec.toNat / 2 ^ (8 * j) < 2 ^ 64 := Nat.lt_of_le_of_lt (Nat.div_le_self _ _) w.toBitVec.isLt
  have e0 : (w.toUInt64 >>> ((iI (8 * (j : Int))).toInt64.toUInt64 &&& Int64.toUInt64 63)).toInt64 = lN (w.toBitVec.toNat / 2 ^ (8 * j)) := by
    apply Int64.toBitVec_inj.mp
    apply BitVec.eq_of_toNat_eq
    rw [h1]
    show _ = (BitVec.ofNat 64 _).toNat
    rw [BitVec.toNat_ofNat, Nat.mod_eq_of_lt hlt]
  rw [e0, lN_i, pk_and _ 8 (by decide)]
  unfold bteI
  rw [iI_nat]
  congr 1
  show (BitVec.ofNat 32 _).toNat % 2 ^ 8 = _
  rw [BitVec.toNat_ofNat]
  omega
theorem bteB (w : Int64) (j : Nat) (hj : j < 8) : (w >>> ((iI (8 * (j : Int))).toInt64 &&& 63)) &&& lI 255 = lI (bteI w j) := by
  apply Int64.toBitVec_inj.mp
  have e1 : (w >>> ((iI (8 * (j : Int))).toInt64 &&& 63)).toBitVec = w.toBitVec.sshiftRight (8 * j) := by
    rw [← bt_cs j hj]
    rfl
  have e2 : (lI (bteI w j)).toBitVec = BitVec.ofNat 64 (w.toBitVec.toNat / 2 ^ (8 * j) % 256) := by
    unfold bteI lI
    rw [Int64.ofInt_eq_ofNat]
    rfl
  have e3 : (lI 255).toBitVec = 255#64 := by decide
  rw [Int64.toBitVec_and, e1, e2, e3]
  apply BitVec.eq_of_getLsbD_eq
  intro i hi
  have h255 : (255#64).getLsbD i = decide (i < 8) := by
    rw [show (255#64 : BitVec 64) = BitVec.ofNat 64 (2 ^ 8 - 1) from rfl, BitVec.getLsbD_ofNat, Nat.testBit_two_pow_sub_one]
    simp [hi]
  rw [BitVec.getLsbD_and, BitVec.getLsbD_sshiftRight, h255, BitVec.getLsbD_ofNat]
  rw [show (256 : Nat) = 2 ^ 8 from rfl, Nat.testBit_mod_two_pow, Nat.testBit_div_two_pow]
  by_cases h8 : i < 8
  · have : 8 * j + i < 64 := by omega
    simp [h8, hi, this, BitVec.getLsbD]
    rw [Nat.add_comm, show decide (64 ≤ i) = false from decide_eq_false (by omega)]
    rfl
  · simp [h8]
def hintF (sm much less w k : Int) : Int := if ¬ (TaskP much less ∧ (0 ≤ k ∧ k ≤ 2) ∧ 0 ≤ w ∧ w ≤ tT k.toNat - 1) then -1 else if w ≠ (much - less) % tT k.toNat then -2 else if sm = 1 then dg (much - less) k.toNat else -5
theorem tT_v : tT 0 = 1 ∧ tT 1 = 10 ∧ tT 2 = 100 := by decide
theorem hint_ok {w r : Int} {k : Nat} (hk : k ≤ 2) (hw : 0 ≤ w ∧ w ≤ tT k - 1) (hr : 0 ≤ r ∧ r ≤ 999) (h : ∀ j, j < k → dg w j = dg r j) : w = r % tT k := by
  obtain ⟨t0, t1, t2⟩ := tT_v
  rcases (show k = 0 ∨ k = 1 ∨ k = 2 by omega) with e | e | e <;> subst e
  · rw [t0] at hw ⊢; omega
  · have h0 := h 0 (by omega); rw [dg_0, dg_0] at h0; rw [t1] at hw ⊢; omega
  · have h0 := h 0 (by omega); have h1 := h 1 (by omega); rw [dg_0, dg_0] at h0; rw [dg_1, dg_1] at h1; rw [t2] at hw ⊢; omega
theorem hint_no {w r : Int} {k j : Nat} (hk : k ≤ 2) (hj : j < k) (hr : 0 ≤ r ∧ r ≤ 999) (h : ¬ dg w j = dg r j) : w ≠ r % tT k := by
  obtain ⟨t0, t1, t2⟩ := tT_v
  intro e9
  rcases (show (k = 1 ∧ j = 0) ∨ (k = 2 ∧ j = 0) ∨ (k = 2 ∧ j = 1) by omega) with ⟨e, e'⟩ | ⟨e, e'⟩ | ⟨e, e'⟩ <;> subst e <;> subst e'
  · rw [dg_0, dg_0] at h; rw [t1] at e9; omega
  · rw [dg_0, dg_0] at h; rw [t2] at e9; omega
  · rw [dg_1, dg_1] at h; rw [t2] at e9; omega
theorem tT_rng : ∀ k, k < 3 → 1 ≤ tT k ∧ tT k ≤ 100 := by decide
theorem lm_rng : ∀ k, k < 5 → 0 ≤ lT k ∧ lT k ≤ 1 ∧ 99 ≤ mT k ∧ mT k ≤ 999 := by decide
theorem lm_v (k : Nat) (h : k < 5) : (k = 4 → lT k = 1) ∧ (k ≠ 4 → lT k = 0) ∧ (k < 3 → mT k = 99) ∧ (k = 3 → mT k = 999) ∧ (k = 4 → mT k = 500) := by
  rcases (show k = 0 ∨ k = 1 ∨ k = 2 ∨ k = 3 ∨ k = 4 by omega) with e | e | e | e | e <;> subst e <;> decide
abbrev SetP (what v : Int) : Prop := (0 ≤ what ∧ what ≤ 4) ∧ lT what.toNat ≤ v ∧ v ≤ mT what.toNat
theorem byte_id {b : Int} (h : 0 ≤ b ∧ b ≤ 127) : (iI b).toInt8.toInt32 = iI b := by
  have e : ∀ n : Nat, n < 128 → (iI (n : Int)).toInt8.toInt32 = iI (n : Int) := by decide +kernel
  have h1 := e b.toNat (by omega)
  rw [show ((b.toNat : Nat) : Int) = b from by omega] at h1
  exact h1
theorem byte_nar {b : Int} (h : 0 ≤ b ∧ b ≤ 127) : vp_nar .byte (iI b) = iI b := by
  rw [vp_nar_byte, byte_id h]
theorem bteI_l2i (w : Int64) (j : Nat) : (lI (bteI w j)).toInt32 = iI (bteI w j) := by
  unfold bteI lI
  rw [Int64.ofInt_eq_ofNat, iI_nat]
  exact lN_i _
def tyOK (w : Int64) : Nat → Nat → Int
  | 0, _ => 1
  | f + 1, j => if 32 ≤ bteI w j ∧ bteI w j ≤ 126 then tyOK w f (j + 1) else 0
theorem tyOK_all {w : Int64} : ∀ (f j : Nat), tyOK w f j = 1 → ∀ k, j ≤ k → k < j + f → 32 ≤ bteI w k ∧ bteI w k ≤ 126 := by
  intro f
  induction f with
  | zero => intro j _ k h1 h2; omega
  | succ f ih =>
    intro j h k h1 h2
    unfold tyOK at h
    split at h
    · by_cases e : k = j
      · subst e; assumption
      · exact ih (j + 1) h k (by omega) (by omega)
    · cases h
def tyP (ft : Nat → Int) (L : Nat) (w : Int64) (n : Nat) : Nat → (Nat → Int)
  | 0 => ft
  | c + 1 => va_up (tyP ft L w n c) (L + c) (bteI w (n - 1 - c))
theorem tyP_congr {f h : Nat → Int} {L n : Nat} {w : Int64} (e : ∀ j, j < L → f j = h j) : ∀ c j, j < L + c → tyP f L w n c j = tyP h L w n c j := by
  intro c
  induction c with
  | zero => intro j hj; exact e j hj
  | succ c ih =>
    intro j hj
    unfold tyP va_up
    split
    · rfl
    · exact ih j (by omega)
theorem tyP_rng {f : Nat → Int} {L n : Nat} {w : Int64} (e : ∀ j, j < L → 32 ≤ f j ∧ f j ≤ 126) (hw : ∀ k, k < n → 32 ≤ bteI w k ∧ bteI w k ≤ 126) : ∀ c, c ≤ n → ∀ j, j < L + c → 32 ≤ tyP f L w n c j ∧ tyP f L w n c j ≤ 126 := by
  intro c
  induction c with
  | zero => intro _ j hj; exact e j hj
  | succ c ih =>
    intro hc j hj
    unfold tyP va_up
    split
    · exact hw _ (by omega)
    · exact ih (by omega) j (by omega)
def typS (tl n : Int) (w : Int64) : Int := if ¬ (1 ≤ n ∧ n ≤ 8) then -1 else if tyOK w n.toNat 0 = 0 then -1 else if 100 < tl + n then -3 else tl + n
