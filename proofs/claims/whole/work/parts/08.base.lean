/-! ints as integers: iI z is the int of z (mod 2^32), lI z the long -/
def iI (z : Int) : Int32 := Int32.ofInt z
def lI (z : Int) : Int64 := Int64.ofInt z
theorem iI_add (a b : Int) : iI a + iI b = iI (a + b) := by
  apply Int32.toInt_inj.mp
  simp [iI, Int32.toInt_add, Int32.toInt_ofInt, Int32.size]
theorem iI_sub (a b : Int) : iI a - iI b = iI (a - b) := by
  apply Int32.toInt_inj.mp
  simp [iI, Int32.toInt_sub, Int32.toInt_ofInt, Int32.size]
theorem iI_mul (a b : Int) : iI a * iI b = iI (a * b) := by
  apply Int32.toInt_inj.mp
  simp [iI, Int32.toInt_mul, Int32.toInt_ofInt, Int32.size]
theorem iI_neg (a : Int) : - iI a = iI (- a) := Int32.neg_ofInt
theorem iI_toInt {z : Int} (h : -2147483648 ≤ z ∧ z < 2147483648) : (iI z).toInt = z := Int32.toInt_ofInt_of_le (by simpa using h.1) (by simpa using h.2)
theorem iI_of (x : Int32) : x = iI x.toInt := (Int32.ofInt_toInt x).symm
theorem iI_ofR (x : Int32) : ∃ z : Int, x = iI z ∧ -2147483648 ≤ z ∧ z < 2147483648 := by
  have h1 := x.le_toInt
  have h2 := x.toInt_lt
  exact ⟨x.toInt, iI_of x, by simpa using h1, by simpa using h2⟩
theorem iI_le {a b : Int} (h : -2147483648 ≤ a ∧ a < 2147483648 ∧ -2147483648 ≤ b ∧ b < 2147483648) : iI a ≤ iI b ↔ a ≤ b := by
  rw [Int32.le_iff_toInt_le, iI_toInt (by omega), iI_toInt (by omega)]
theorem iI_lt {a b : Int} (h : -2147483648 ≤ a ∧ a < 2147483648 ∧ -2147483648 ≤ b ∧ b < 2147483648) : iI a < iI b ↔ a < b := by
  rw [Int32.lt_iff_toInt_lt, iI_toInt (by omega), iI_toInt (by omega)]
theorem iI_eq {a b : Int} (h : -2147483648 ≤ a ∧ a < 2147483648 ∧ -2147483648 ≤ b ∧ b < 2147483648) : iI a = iI b ↔ a = b := by
  rw [← Int32.toInt_inj, iI_toInt (by omega), iI_toInt (by omega)]
theorem iI_0 : iI 0 = 0 := by decide
theorem iI_nat (n : Nat) : iI (n : Int) = nI n := Int32.ofInt_eq_ofNat
theorem iI_clamp {z : Int} (h : 0 ≤ z ∧ z < 2147483648) : (iI z).toNatClampNeg = z.toNat := by
  have e : z = ((z.toNat : Nat) : Int) := by omega
  have h2 := nI_clamp (n := z.toNat) (by omega)
  rw [← iI_nat, ← e] at h2
  exact h2
theorem iI_div {a b : Int} (ha : 0 ≤ a ∧ a < 2147483648) (hb : 0 < b ∧ b < 2147483648) : iI a / iI b = iI (a / b) := by
  have e1 : a = ((a.toNat : Nat) : Int) := by omega
  have e2 : b = ((b.toNat : Nat) : Int) := by omega
  rw [e1, e2, iI_nat, iI_nat, pk_div (by omega) (by omega) (by omega), ← iI_nat]
  simp
theorem iI_rem {a b : Int} (ha : 0 ≤ a ∧ a < 2147483648) (hb : 0 < b ∧ b < 2147483648) : iI a - iI a / iI b * iI b = iI (a % b) := by
  have e1 : a = ((a.toNat : Nat) : Int) := by omega
  have e2 : b = ((b.toNat : Nat) : Int) := by omega
  rw [e1, e2, iI_nat, iI_nat, pk_rem (by omega) (by omega) (by omega), ← iI_nat]
  simp
theorem iI_divT {a b : Int} (ha : -2147483648 < a ∧ a < 2147483648) (hb : 0 < b ∧ b < 2147483648) : iI a / iI b = iI (a.tdiv b) := by
  apply Int32.toInt_inj.mp
  have hm : (iI a).toInt ≠ Int32.minValue.toInt := by
    rw [iI_toInt (by omega)]
    have : Int32.minValue.toInt = -2147483648 := by decide
    omega
  have h2 : a.tdiv b ≤ 2147483647 ∧ -2147483647 ≤ a.tdiv b := by
    rcases Int.le_total 0 a with h | h
    · have h1 : a.tdiv b = a / b := Int.tdiv_eq_ediv_of_nonneg h
      have h3 : a / b ≤ a := Int.ediv_le_self b h
      have h4 : 0 ≤ a / b := Int.ediv_nonneg h (by omega)
      omega
    · have h1 : (-a).tdiv b = (-a) / b := Int.tdiv_eq_ediv_of_nonneg (by omega)
      have h3 : (-a) / b ≤ -a := Int.ediv_le_self b (by omega)
      have h4 : 0 ≤ (-a) / b := Int.ediv_nonneg (by omega) (by omega)
      have h5 : (-a).tdiv b = -(a.tdiv b) := Int.neg_tdiv a b
      omega
  rw [Int32.toInt_div_of_ne_left _ _ (fun h => hm (by rw [h])), iI_toInt (by omega), iI_toInt (by omega), iI_toInt (by omega)]
theorem iI_in {z : Int} {n : Nat} (h : 0 ≤ z ∧ z < n) (hn : n < 2147483648) : vp_in (iI z) n := by
  rw [vp_in_iff, iI_toInt (by omega)]
  exact h
theorem nI_iI (n : Nat) : nI n = iI (n : Int) := (iI_nat n).symm
theorem ofNat_iI (n : Nat) : Int32.ofNat n = iI (n : Int) := (iI_nat n).symm
theorem iI_and1 {a : Int} (h : 0 ≤ a ∧ a < 2147483648) : iI a &&& iI 1 = iI (a % 2) := by
  have e1 : a = ((a.toNat : Nat) : Int) := by omega
  rw [e1, iI_nat, show iI 1 = (1 : Int32) from by decide, pk_andN (n := a.toNat) (by omega) 1 (by decide), ← iI_nat]
  simp
theorem iI_sh : ∀ k : Nat, k < 32 → ((iI (k : Int) &&& 31).toBitVec.smod 32).toNat = k := by decide +kernel
theorem iI_shr {a k : Int} (h : 0 ≤ a ∧ a < 2147483648) (hk : 0 ≤ k ∧ k < 32) : iI a >>> (iI k &&& 31) = iI (a / 2 ^ k.toNat) := by
  have e1 : a = ((a.toNat : Nat) : Int) := by omega
  have e2 : k = ((k.toNat : Nat) : Int) := by omega
  have h2 := iI_sh k.toNat (by omega)
  rw [← e2] at h2
  rw [e1, iI_nat, pk_shrN (by omega) _ _ h2, ← iI_nat]
  simp
theorem iI_shl1 : ∀ k : Nat, k < 31 → iI 1 <<< (iI (k : Int) &&& 31) = iI (2 ^ k) := by decide +kernel
/-! longs -/
theorem lI_toInt {z : Int} (h : -9223372036854775808 ≤ z ∧ z < 9223372036854775808) : (lI z).toInt = z := Int64.toInt_ofInt_of_le (by simpa using h.1) (by simpa using h.2)
theorem iI_toL {z : Int} (h : -2147483648 ≤ z ∧ z < 2147483648) : (iI z).toInt64 = lI z := by
  apply Int64.toInt_inj.mp
  rw [Int32.toInt_toInt64, iI_toInt h, lI_toInt (by omega)]
theorem lI_add (a b : Int) : lI a + lI b = lI (a + b) := by
  apply Int64.toInt_inj.mp
  simp [lI, Int64.toInt_add, Int64.toInt_ofInt, Int64.size]
theorem lI_mul (a b : Int) : lI a * lI b = lI (a * b) := by
  apply Int64.toInt_inj.mp
  simp [lI, Int64.toInt_mul, Int64.toInt_ofInt, Int64.size]
theorem lI_lt {a b : Int} (h : -9223372036854775808 ≤ a ∧ a < 9223372036854775808 ∧ -9223372036854775808 ≤ b ∧ b < 9223372036854775808) : lI a < lI b ↔ a < b := by
  rw [Int64.lt_iff_toInt_lt, lI_toInt (by omega), lI_toInt (by omega)]
theorem lI_eq {a b : Int} (h : -9223372036854775808 ≤ a ∧ a < 9223372036854775808 ∧ -9223372036854775808 ≤ b ∧ b < 9223372036854775808) : lI a = lI b ↔ a = b := by
  rw [← Int64.toInt_inj, lI_toInt (by omega), lI_toInt (by omega)]
def cmpI (a b : Int) : Int := if a < b then -1 else if a = b then 0 else 1
section IV
variable {p : Program} {l : Launch} {e : Env} {R : Room} {s : State} {m : MethodId} {args : Array Value} {below : List Frame} {meth : Method} {c : Code} {H : Heap} {locs : List Loc} {cells slots : Nat} {Q : State → Prop}
variable {cc : ByteArray} {pc : Nat} {ls : Array Slot} {rest : List Value}

theorem iv_iadd (hx : p.tables.exec = Jvm.exec) (hb : c.code = cc) {x y : Int} (hdg : decode cc pc = .ok (.iadd, 1))  (k : W p l e R s m args below meth c H locs cells slots Q (F0 m (pc + 1) ls (.int (iI (x + y)) :: rest))) : W p l e R s m args below meth c H locs cells slots Q (F0 m pc ls (.int (iI y) :: .int (iI x) :: rest)) := lv_iadd hx hb hdg (by rw [iI_add]; exact k)
theorem iv_isub (hx : p.tables.exec = Jvm.exec) (hb : c.code = cc) {x y : Int} (hdg : decode cc pc = .ok (.isub, 1))  (k : W p l e R s m args below meth c H locs cells slots Q (F0 m (pc + 1) ls (.int (iI (x - y)) :: rest))) : W p l e R s m args below meth c H locs cells slots Q (F0 m pc ls (.int (iI y) :: .int (iI x) :: rest)) := lv_isub hx hb hdg (by rw [iI_sub]; exact k)
theorem iv_imul (hx : p.tables.exec = Jvm.exec) (hb : c.code = cc) {x y : Int} (hdg : decode cc pc = .ok (.imul, 1))  (k : W p l e R s m args below meth c H locs cells slots Q (F0 m (pc + 1) ls (.int (iI (x * y)) :: rest))) : W p l e R s m args below meth c H locs cells slots Q (F0 m pc ls (.int (iI y) :: .int (iI x) :: rest)) := lv_imul hx hb hdg (by rw [iI_mul]; exact k)
theorem iv_idiv (hx : p.tables.exec = Jvm.exec) (hb : c.code = cc) {x y : Int} (hdg : decode cc pc = .ok (.idiv, 1)) (ha : 0 ≤ x ∧ x < 2147483648 ∧ 0 < y ∧ y < 2147483648) (k : W p l e R s m args below meth c H locs cells slots Q (F0 m (pc + 1) ls (.int (iI (x / y)) :: rest))) : W p l e R s m args below meth c H locs cells slots Q (F0 m pc ls (.int (iI y) :: .int (iI x) :: rest)) := lv_idiv hx hb hdg (fun h => absurd ((iI_eq (b := 0) (by omega)).mp (h.trans iI_0.symm)) (by omega)) (by rw [iI_div (by omega) (by omega)]; exact k)
theorem iv_irem (hx : p.tables.exec = Jvm.exec) (hb : c.code = cc) {x y : Int} (hdg : decode cc pc = .ok (.irem, 1)) (ha : 0 ≤ x ∧ x < 2147483648 ∧ 0 < y ∧ y < 2147483648) (k : W p l e R s m args below meth c H locs cells slots Q (F0 m (pc + 1) ls (.int (iI (x % y)) :: rest))) : W p l e R s m args below meth c H locs cells slots Q (F0 m pc ls (.int (iI y) :: .int (iI x) :: rest)) := lv_irem hx hb hdg (fun h => absurd ((iI_eq (b := 0) (by omega)).mp (h.trans iI_0.symm)) (by omega)) (by rw [iI_rem (by omega) (by omega)]; exact k)
theorem iv_idivT (hx : p.tables.exec = Jvm.exec) (hb : c.code = cc) {x y : Int} (hdg : decode cc pc = .ok (.idiv, 1)) (ha : -2147483648 < x ∧ x < 2147483648 ∧ 0 < y ∧ y < 2147483648) (k : W p l e R s m args below meth c H locs cells slots Q (F0 m (pc + 1) ls (.int (iI (x.tdiv y)) :: rest))) : W p l e R s m args below meth c H locs cells slots Q (F0 m pc ls (.int (iI y) :: .int (iI x) :: rest)) := lv_idiv hx hb hdg (fun h => absurd ((iI_eq (b := 0) (by omega)).mp (h.trans iI_0.symm)) (by omega)) (by rw [iI_divT (by omega) (by omega)]; exact k)
theorem iv_ineg (hx : p.tables.exec = Jvm.exec) (hb : c.code = cc) {x : Int} (hdg : decode cc pc = .ok (.ineg, 1)) (k : W p l e R s m args below meth c H locs cells slots Q (F0 m (pc + 1) ls (.int (iI (-x)) :: rest))) : W p l e R s m args below meth c H locs cells slots Q (F0 m pc ls (.int (iI x) :: rest)) := lv_ineg hx hb hdg (by rw [iI_neg]; exact k)
theorem iv_and1 (hx : p.tables.exec = Jvm.exec) (hb : c.code = cc) {x : Int} (hdg : decode cc pc = .ok (.iand, 1)) (ha : 0 ≤ x ∧ x < 2147483648) (k : W p l e R s m args below meth c H locs cells slots Q (F0 m (pc + 1) ls (.int (iI (x % 2)) :: rest))) : W p l e R s m args below meth c H locs cells slots Q (F0 m pc ls (.int (iI 1) :: .int (iI x) :: rest)) := lv_iand hx hb hdg (by rw [iI_and1 ha]; exact k)
theorem iv_ishr (hx : p.tables.exec = Jvm.exec) (hb : c.code = cc) {x y : Int} (hdg : decode cc pc = .ok (.ishr, 1)) (ha : 0 ≤ x ∧ x < 2147483648 ∧ 0 ≤ y ∧ y < 32) (k : W p l e R s m args below meth c H locs cells slots Q (F0 m (pc + 1) ls (.int (iI (x / 2 ^ y.toNat)) :: rest))) : W p l e R s m args below meth c H locs cells slots Q (F0 m pc ls (.int (iI y) :: .int (iI x) :: rest)) := lv_ishr hx hb hdg (by rw [iI_shr (by omega) (by omega)]; exact k)
theorem iv_ishl1 (hx : p.tables.exec = Jvm.exec) (hb : c.code = cc) {y : Int} (n : Nat) (hdg : decode cc pc = .ok (.ishl, 1)) (ha : y = (n : Int) ∧ n < 31) (k : W p l e R s m args below meth c H locs cells slots Q (F0 m (pc + 1) ls (.int (iI (2 ^ n)) :: rest))) : W p l e R s m args below meth c H locs cells slots Q (F0 m pc ls (.int (iI y) :: .int (iI 1) :: rest)) := lv_ishl hx hb hdg (by rw [ha.1, iI_shl1 n ha.2]; exact k)
theorem iv_top {x : Int} (k : ∀ z : Int, z = x → W p l e R s m args below meth c H locs cells slots Q (F0 m pc ls (.int (iI z) :: rest))) : W p l e R s m args below meth c H locs cells slots Q (F0 m pc ls (.int (iI x) :: rest)) := k x rfl
theorem iv_as {x : Int} (z : Int) (h : x = z) (k : W p l e R s m args below meth c H locs cells slots Q (F0 m pc ls (.int (iI z) :: rest))) : W p l e R s m args below meth c H locs cells slots Q (F0 m pc ls (.int (iI x) :: rest)) := by rw [h]; exact k
theorem iv_iinc (hx : p.tables.exec = Jvm.exec) (hb : c.code = cc) {i nL k : Nat} {n x : Int} {lv lv' : List (Nat × Value)} (hdg : decode cc pc = .ok (.iinc i n, 3)) (h : lv_has ls nL lv) (hk : lv[k]? = some (i, .int (iI x))) (hn : i < nL) (hl : (i, Value.int (iI (x + n))) :: lv.filter (fun q => !(q.1 == i) && !(q.1 + 1 == i && q.2.category == 2)) = lv') (kk : ∀ ls' : Array Slot, lv_has ls' nL lv' → W p l e R s m args below meth c H locs cells slots Q (F0 m (pc + 3) ls' rest)) : W p l e R s m args below meth c H locs cells slots Q (F0 m pc ls rest) := lv_iinc (v := iI (x + n)) hx hb hdg h hk (by rw [← iI_add]; rfl) hn hl kk
theorem iv_icmp_eq (hx : p.tables.exec = Jvm.exec) (hb : c.code = cc) {x y off : Int} {tgt : Nat} (hdg : decode cc pc = .ok (.if_icmp .eq off, 3)) (ht : (pc : Int) + off = (tgt : Int)) (hr : -2147483648 ≤ x ∧ x < 2147483648 ∧ -2147483648 ≤ y ∧ y < 2147483648) (kt : x = y → W p l e R s m args below meth c H locs cells slots Q (F0 m tgt ls rest)) (kf : ¬ x = y → W p l e R s m args below meth c H locs cells slots Q (F0 m (pc + 3) ls rest)) : W p l e R s m args below meth c H locs cells slots Q (F0 m pc ls (.int (iI y) :: .int (iI x) :: rest)) := lv_icmp_eq hx hb hdg ht (fun h => kt ((iI_eq (a := x) (b := y) (by omega)).mp h)) (fun h => kf (fun z => h ((iI_eq (a := x) (b := y) (by omega)).mpr z)))
theorem iv_if_eq (hx : p.tables.exec = Jvm.exec) (hb : c.code = cc) {x off : Int} {tgt : Nat} (hdg : decode cc pc = .ok (.ifCond .eq off, 3)) (ht : (pc : Int) + off = (tgt : Int)) (hr : -2147483648 ≤ x ∧ x < 2147483648) (kt : x = 0 → W p l e R s m args below meth c H locs cells slots Q (F0 m tgt ls rest)) (kf : ¬ x = 0 → W p l e R s m args below meth c H locs cells slots Q (F0 m (pc + 3) ls rest)) : W p l e R s m args below meth c H locs cells slots Q (F0 m pc ls (.int (iI x) :: rest)) := lv_if_eq hx hb hdg ht (fun h => kt ((iI_eq (a := x) (b := 0) (by omega)).mp (by rw [iI_0]; exact h))) (fun h => kf (fun z => h (by have w := (iI_eq (a := x) (b := 0) (by omega)).mpr z; rw [iI_0] at w; exact w)))
theorem iv_icmp_lt (hx : p.tables.exec = Jvm.exec) (hb : c.code = cc) {x y off : Int} {tgt : Nat} (hdg : decode cc pc = .ok (.if_icmp .lt off, 3)) (ht : (pc : Int) + off = (tgt : Int)) (hr : -2147483648 ≤ x ∧ x < 2147483648 ∧ -2147483648 ≤ y ∧ y < 2147483648) (kt : x < y → W p l e R s m args below meth c H locs cells slots Q (F0 m tgt ls rest)) (kf : ¬ x < y → W p l e R s m args below meth c H locs cells slots Q (F0 m (pc + 3) ls rest)) : W p l e R s m args below meth c H locs cells slots Q (F0 m pc ls (.int (iI y) :: .int (iI x) :: rest)) := lv_icmp_lt hx hb hdg ht (fun h => kt ((iI_lt (a := x) (b := y) (by omega)).mp h)) (fun h => kf (fun z => h ((iI_lt (a := x) (b := y) (by omega)).mpr z)))
theorem iv_if_lt (hx : p.tables.exec = Jvm.exec) (hb : c.code = cc) {x off : Int} {tgt : Nat} (hdg : decode cc pc = .ok (.ifCond .lt off, 3)) (ht : (pc : Int) + off = (tgt : Int)) (hr : -2147483648 ≤ x ∧ x < 2147483648) (kt : x < 0 → W p l e R s m args below meth c H locs cells slots Q (F0 m tgt ls rest)) (kf : ¬ x < 0 → W p l e R s m args below meth c H locs cells slots Q (F0 m (pc + 3) ls rest)) : W p l e R s m args below meth c H locs cells slots Q (F0 m pc ls (.int (iI x) :: rest)) := lv_if_lt hx hb hdg ht (fun h => kt ((iI_lt (a := x) (b := 0) (by omega)).mp (by rw [iI_0]; exact h))) (fun h => kf (fun z => h (by have w := (iI_lt (a := x) (b := 0) (by omega)).mpr z; rw [iI_0] at w; exact w)))
theorem iv_icmp_ge (hx : p.tables.exec = Jvm.exec) (hb : c.code = cc) {x y off : Int} {tgt : Nat} (hdg : decode cc pc = .ok (.if_icmp .ge off, 3)) (ht : (pc : Int) + off = (tgt : Int)) (hr : -2147483648 ≤ x ∧ x < 2147483648 ∧ -2147483648 ≤ y ∧ y < 2147483648) (kt : y ≤ x → W p l e R s m args below meth c H locs cells slots Q (F0 m tgt ls rest)) (kf : ¬ y ≤ x → W p l e R s m args below meth c H locs cells slots Q (F0 m (pc + 3) ls rest)) : W p l e R s m args below meth c H locs cells slots Q (F0 m pc ls (.int (iI y) :: .int (iI x) :: rest)) := lv_icmp_ge hx hb hdg ht (fun h => kt ((iI_le (a := y) (b := x) (by omega)).mp h)) (fun h => kf (fun z => h ((iI_le (a := y) (b := x) (by omega)).mpr z)))
theorem iv_if_ge (hx : p.tables.exec = Jvm.exec) (hb : c.code = cc) {x off : Int} {tgt : Nat} (hdg : decode cc pc = .ok (.ifCond .ge off, 3)) (ht : (pc : Int) + off = (tgt : Int)) (hr : -2147483648 ≤ x ∧ x < 2147483648) (kt : 0 ≤ x → W p l e R s m args below meth c H locs cells slots Q (F0 m tgt ls rest)) (kf : ¬ 0 ≤ x → W p l e R s m args below meth c H locs cells slots Q (F0 m (pc + 3) ls rest)) : W p l e R s m args below meth c H locs cells slots Q (F0 m pc ls (.int (iI x) :: rest)) := lv_if_ge hx hb hdg ht (fun h => kt ((iI_le (a := 0) (b := x) (by omega)).mp (by rw [iI_0]; exact h))) (fun h => kf (fun z => h (by have w := (iI_le (a := 0) (b := x) (by omega)).mpr z; rw [iI_0] at w; exact w)))
theorem iv_icmp_gt (hx : p.tables.exec = Jvm.exec) (hb : c.code = cc) {x y off : Int} {tgt : Nat} (hdg : decode cc pc = .ok (.if_icmp .gt off, 3)) (ht : (pc : Int) + off = (tgt : Int)) (hr : -2147483648 ≤ x ∧ x < 2147483648 ∧ -2147483648 ≤ y ∧ y < 2147483648) (kt : y < x → W p l e R s m args below meth c H locs cells slots Q (F0 m tgt ls rest)) (kf : ¬ y < x → W p l e R s m args below meth c H locs cells slots Q (F0 m (pc + 3) ls rest)) : W p l e R s m args below meth c H locs cells slots Q (F0 m pc ls (.int (iI y) :: .int (iI x) :: rest)) := lv_icmp_gt hx hb hdg ht (fun h => kt ((iI_lt (a := y) (b := x) (by omega)).mp h)) (fun h => kf (fun z => h ((iI_lt (a := y) (b := x) (by omega)).mpr z)))
theorem iv_if_gt (hx : p.tables.exec = Jvm.exec) (hb : c.code = cc) {x off : Int} {tgt : Nat} (hdg : decode cc pc = .ok (.ifCond .gt off, 3)) (ht : (pc : Int) + off = (tgt : Int)) (hr : -2147483648 ≤ x ∧ x < 2147483648) (kt : 0 < x → W p l e R s m args below meth c H locs cells slots Q (F0 m tgt ls rest)) (kf : ¬ 0 < x → W p l e R s m args below meth c H locs cells slots Q (F0 m (pc + 3) ls rest)) : W p l e R s m args below meth c H locs cells slots Q (F0 m pc ls (.int (iI x) :: rest)) := lv_if_gt hx hb hdg ht (fun h => kt ((iI_lt (a := 0) (b := x) (by omega)).mp (by rw [iI_0]; exact h))) (fun h => kf (fun z => h (by have w := (iI_lt (a := 0) (b := x) (by omega)).mpr z; rw [iI_0] at w; exact w)))
theorem iv_icmp_le (hx : p.tables.exec = Jvm.exec) (hb : c.code = cc) {x y off : Int} {tgt : Nat} (hdg : decode cc pc = .ok (.if_icmp .le off, 3)) (ht : (pc : Int) + off = (tgt : Int)) (hr : -2147483648 ≤ x ∧ x < 2147483648 ∧ -2147483648 ≤ y ∧ y < 2147483648) (kt : x ≤ y → W p l e R s m args below meth c H locs cells slots Q (F0 m tgt ls rest)) (kf : ¬ x ≤ y → W p l e R s m args below meth c H locs cells slots Q (F0 m (pc + 3) ls rest)) : W p l e R s m args below meth c H locs cells slots Q (F0 m pc ls (.int (iI y) :: .int (iI x) :: rest)) := lv_icmp_le hx hb hdg ht (fun h => kt ((iI_le (a := x) (b := y) (by omega)).mp h)) (fun h => kf (fun z => h ((iI_le (a := x) (b := y) (by omega)).mpr z)))
theorem iv_if_le (hx : p.tables.exec = Jvm.exec) (hb : c.code = cc) {x off : Int} {tgt : Nat} (hdg : decode cc pc = .ok (.ifCond .le off, 3)) (ht : (pc : Int) + off = (tgt : Int)) (hr : -2147483648 ≤ x ∧ x < 2147483648) (kt : x ≤ 0 → W p l e R s m args below meth c H locs cells slots Q (F0 m tgt ls rest)) (kf : ¬ x ≤ 0 → W p l e R s m args below meth c H locs cells slots Q (F0 m (pc + 3) ls rest)) : W p l e R s m args below meth c H locs cells slots Q (F0 m pc ls (.int (iI x) :: rest)) := lv_if_le hx hb hdg ht (fun h => kt ((iI_le (a := x) (b := 0) (by omega)).mp (by rw [iI_0]; exact h))) (fun h => kf (fun z => h (by have w := (iI_le (a := x) (b := 0) (by omega)).mpr z; rw [iI_0] at w; exact w)))
theorem iv_icmp_ne (hx : p.tables.exec = Jvm.exec) (hb : c.code = cc) {x y off : Int} {tgt : Nat} (hdg : decode cc pc = .ok (.if_icmp .ne off, 3)) (ht : (pc : Int) + off = (tgt : Int)) (hr : -2147483648 ≤ x ∧ x < 2147483648 ∧ -2147483648 ≤ y ∧ y < 2147483648) (kt : ¬ x = y → W p l e R s m args below meth c H locs cells slots Q (F0 m tgt ls rest)) (kf : x = y → W p l e R s m args below meth c H locs cells slots Q (F0 m (pc + 3) ls rest)) : W p l e R s m args below meth c H locs cells slots Q (F0 m pc ls (.int (iI y) :: .int (iI x) :: rest)) := lv_icmp_ne hx hb hdg ht (fun h => kt (fun z => h ((iI_eq hr).mpr z))) (fun h => kf ((iI_eq hr).mp h))
theorem iv_if_ne (hx : p.tables.exec = Jvm.exec) (hb : c.code = cc) {x off : Int} {tgt : Nat} (hdg : decode cc pc = .ok (.ifCond .ne off, 3)) (ht : (pc : Int) + off = (tgt : Int)) (hr : -2147483648 ≤ x ∧ x < 2147483648) (kt : ¬ x = 0 → W p l e R s m args below meth c H locs cells slots Q (F0 m tgt ls rest)) (kf : x = 0 → W p l e R s m args below meth c H locs cells slots Q (F0 m (pc + 3) ls rest)) : W p l e R s m args below meth c H locs cells slots Q (F0 m pc ls (.int (iI x) :: rest)) := lv_if_ne hx hb hdg ht (fun h => kt (fun z => h (by rw [z]; exact iI_0))) (fun h => kf ((iI_eq (b := 0) (by omega)).mp (by rw [iI_0]; exact h)))
theorem iv_i2l (hx : p.tables.exec = Jvm.exec) (hb : c.code = cc) {x : Int} (hdg : decode cc pc = .ok (.i2l, 1)) (hr : -2147483648 ≤ x ∧ x < 2147483648) (k : W p l e R s m args below meth c H locs cells slots Q (F0 m (pc + 1) ls (.long (lI x) :: rest))) : W p l e R s m args below meth c H locs cells slots Q (F0 m pc ls (.int (iI x) :: rest)) := lv_i2l hx hb hdg (iI_toL hr) k
theorem iv_ladd (hx : p.tables.exec = Jvm.exec) (hb : c.code = cc) {x y : Int} (hdg : decode cc pc = .ok (.ladd, 1)) (k : W p l e R s m args below meth c H locs cells slots Q (F0 m (pc + 1) ls (.long (lI (x + y)) :: rest))) : W p l e R s m args below meth c H locs cells slots Q (F0 m pc ls (.long (lI y) :: .long (lI x) :: rest)) := lv_ladd hx hb hdg (by rw [lI_add]; exact k)
theorem iv_lmul (hx : p.tables.exec = Jvm.exec) (hb : c.code = cc) {x y : Int} (hdg : decode cc pc = .ok (.lmul, 1)) (k : W p l e R s m args below meth c H locs cells slots Q (F0 m (pc + 1) ls (.long (lI (x * y)) :: rest))) : W p l e R s m args below meth c H locs cells slots Q (F0 m pc ls (.long (lI y) :: .long (lI x) :: rest)) := lv_lmul hx hb hdg (by rw [lI_mul]; exact k)
theorem lg_cmpI {x y : Int} (h : -9223372036854775808 ≤ x ∧ x < 9223372036854775808 ∧ -9223372036854775808 ≤ y ∧ y < 9223372036854775808) : lg_cmp (lI x) (lI y) = iI (cmpI x y) := by
  unfold lg_cmp cmpI
  simp only [gt_iff_lt, lI_lt (a := y) (b := x) (by omega), lI_eq (a := x) (b := y) (by omega)]
  rcases Int.lt_trichotomy x y with h1 | h1 | h1
  · rw [if_neg (by omega), if_neg (by omega), if_pos h1]; decide
  · rw [if_neg (by omega), if_pos h1, if_neg (by omega), if_pos h1]; decide
  · rw [if_pos h1, if_neg (by omega), if_neg (by omega)]; decide
theorem iv_lcmp (hx : p.tables.exec = Jvm.exec) (hb : c.code = cc) {x y : Int} (hdg : decode cc pc = .ok (.lcmp, 1)) (h : -9223372036854775808 ≤ x ∧ x < 9223372036854775808 ∧ -9223372036854775808 ≤ y ∧ y < 9223372036854775808) (k1 : x < y → W p l e R s m args below meth c H locs cells slots Q (F0 m (pc + 1) ls (.int (iI (-1)) :: rest))) (k2 : x = y → W p l e R s m args below meth c H locs cells slots Q (F0 m (pc + 1) ls (.int (iI 0) :: rest))) (k3 : y < x → W p l e R s m args below meth c H locs cells slots Q (F0 m (pc + 1) ls (.int (iI 1) :: rest))) : W p l e R s m args below meth c H locs cells slots Q (F0 m pc ls (.long (lI y) :: .long (lI x) :: rest)) := by
  refine W.lcmp hx hb hdg ?_
  rw [lg_cmpI h]
  unfold cmpI
  rcases Int.lt_trichotomy x y with h1 | h1 | h1
  · rw [if_pos h1]; exact k1 h1
  · rw [if_neg (by omega), if_pos h1]; exact k2 h1
  · rw [if_neg (by omega), if_neg (by omega)]; exact k3 h1
end IV
