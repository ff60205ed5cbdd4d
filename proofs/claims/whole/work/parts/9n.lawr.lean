/-! the law's cases -/
theorem xr (x : Int32) : -2147483648 ≤ x.toInt ∧ x.toInt < 2147483648 := by
  have h1 := x.le_toInt
  have h2 := x.toInt_lt
  omega
abbrev lwA (s : State) : Nat → Prop := fun q : Nat => s.heap.size ≤ q
def lw_C (p : Program) (s : State) (m : MethodId) (meth : Method) (c : Code) (b L : Nat) (xs : Nat → Int32) (g : GT) : Prop := p.tables.exec = Jvm.exec ∧ c.code = code ∧ meth.sig.returnType = ret ∧ c.maxLocals = 4 ∧ s.vm.findClass RL = some m.cls ∧ (∀ w ∈ wsL_law, w.before #[Value.ref b] s = true) ∧ va_X b L xs s s.heap ∧ b < s.heap.size ∧ meth.locks = false ∧ GG g (lwA s) s ∧ L ≤ 3072
section LAWR
variable {p : Program} {l : Launch} {e : Env} {s : State} {m : MethodId} {below : List Frame} {meth : Method} {c : Code} {H : Heap} {locs : List Loc} {cells slots : Nat} {Q : State → Prop} {b L : Nat} {xs : Nat → Int32} {g : GT} {pc : Nat} {ls : Array Slot} {rest : List Value} {hd hm i : Nat}
theorem lw_arg (C : lw_C p s m meth c b L xs g) (hS : va_S (lwA s) s.heap H locs) (hl : lv_has ls 4 [(3, .int (iI (i : Int))), (2, .ref hm), (1, .ref hd), (0, .ref b)]) (n : Nat) {nn : Int} (hn : nn = (n : Int)) (hi : i + n < L) (d1 : decode code pc = .ok (.aload_n 0, 1)) (d2 : decode code (pc + 1) = .ok (.iload_n 3, 1)) (d3 : decode code (pc + 2) = .ok (.iconst nn, 1)) (d4 : decode code (pc + 3) = .ok (.iadd, 1)) (d5 : decode code (pc + 4) = .ok (.iaload, 1))
    (kk : W p l e room_1 s m #[Value.ref b] below meth c H locs cells slots Q (F0 m (pc + 5) ls (.int (iI (xs (i + n)).toInt) :: rest))) : W p l e room_1 s m #[Value.ref b] below meth c H locs cells slots Q (F0 m pc ls rest) := by
  obtain ⟨hx, hb, hr, hml, hown, hts, hX, hbl, hlocks, hG, hL⟩ := C
  have hbA : ¬ lwA s b := Nat.not_le.mpr hbl
  refine lv_aload_n hx hb d1 rfl (lv_at hl 3 rfl) ?_
  refine lv_iload_n hx hb d2 rfl (lv_at hl 0 rfl) ?_
  refine lv_iconst (v := iI nn) hx hb d3 rfl ?_
  refine iv_iadd hx hb d4 ?_
  obtain ⟨h1, h2⟩ := iv_ix (z := (i : Int) + nn) (k := i + n) (n := L) (by omega) hi (by omega)
  refine va_sld hx hb hX hbl hbA hS h1 d5 ?_
  rw [h2, show xs (i + n) = iI (xs (i + n)).toInt from (Int32.ofInt_toInt _).symm]
  exact kk
variable {y8 y9 : MethodName} {ws8 ws9 : List Cond} {rm8 rm9 : Room} {as : List Value} {A : Nat → Nat} {z : Nat → Int} {F : Nat → Nat → Int} {LA : Nat → Nat → Nat} {LZ : Nat → Nat → Int} {LT : Nat → Nat → Nat → Int} {K : Nat} {a : Nat → Nat} {j : Nat → Int} {G : Nat → Nat → Int} {bytes : ByteArray} {maxL n index : Nat} {rt : Option FieldType} {r : Int} {st0 : List Value}
theorem lw_call8 (C : lw_C p s m meth c b L xs g) (hM : P8 l g y8 ws8 rm8 y9 ws9 rm9 as hd hm A z F LA LZ LT K a j G) (cw : CallW room_1 s #[Value.ref b] RL RX8 index y8 bytes maxL rt ws8 rm8 rm8.cells rm8.slots n) (hP : va_P g.1 vwCl (GW g hd hm A z F LA LZ LT K a j G) H) (hD : va_D (lwA s) (GW g hd hm A z F LA LZ LT K a j G)) (hS : va_S (lwA s) s.heap H locs) (hlen : as.length = n) (hl : ls.size = 4) (hst : st0 = as.reverse ++ [.ref hd]) (hdg : decode code pc = .ok (.invokevirtual index, 3)) (hf : cells + rm8.cells ≤ room_1.cells ∧ slots + rm8.slots ≤ room_1.slots)
    (kk : ∀ (r : Int) (A' : Nat → Nat) (z' : Nat → Int) (F' : Nat → Nat → Int) (LA' : Nat → Nat → Nat) (LZ' : Nat → Nat → Int) (LT' : Nat → Nat → Nat → Int) (K' : Nat) (H : Heap) (locs : List Loc), Q9 l g y9 ws9 rm9 as hd hm r A' z' F' LA' LZ' LT' K' a j G → va_P g.1 vwCl (GW g hd hm A' z' F' LA' LZ' LT' K' a j G) H → va_D (lwA s) (GW g hd hm A' z' F' LA' LZ' LT' K' a j G) → va_S (lwA s) s.heap H locs → W p l e room_1 s m #[Value.ref b] below meth c H locs (cells + rm8.cells) (slots + rm8.slots) Q (F0 m (pc + 3) ls [.int (iI r)])) : W p l e room_1 s m #[Value.ref b] below meth c H locs cells slots Q (F0 m pc ls st0) := by
  obtain ⟨hx, hb, hr, hml, hown, hts, hX, hbl, hlocks, hG, hL⟩ := C
  refine Ct.callV (ci := 8) (q0 := 0) (qc := (RX8, TX8, 13)) (fs := dF A z) (As := as) (rest := []) (wr := []) (cc := code) (nL := 4) ⟨hx, hb, hml, hown, hts⟩ hM rfl rfl cw hG hP hD hS (fun _ h => h) (List.range (GW g hd hm A z F LA LZ LT K a j G).length) [] (range_all _) rfl (nd_range _) rfl (fun _ h9 => absurd h9 (by simp)) hlen hl hst (Nat.zero_le _) hdg hf rfl rfl (fun v w H locs hv hP hD hS => ?_)
  obtain ⟨r, A', z', F', LA', LZ', LT', K', rfl, rfl, hq⟩ := hv
  rw [List.nil_append] at hP hD
  exact kk r A' z' F' LA' LZ' LT' K' H locs hq hP hD hS
theorem lw_call9 (C : lw_C p s m meth c b L xs g) (hM : Q9 l g y9 ws9 rm9 as hd hm r A z F LA LZ LT K a j G) (cw : CallW room_1 s #[Value.ref b] RL RX9 index y9 bytes maxL rt ws9 rm9 rm9.cells rm9.slots n) (hP : va_P g.1 vwCl (GW g hd hm A z F LA LZ LT K a j G) H) (hD : va_D (lwA s) (GW g hd hm A z F LA LZ LT K a j G)) (hS : va_S (lwA s) s.heap H locs) (hlen : as.length = n) (hl : ls.size = 4) {r0 : Int} (hst : st0 = as.reverse ++ [.ref hm, .int (iI r0)]) (hdg : decode code pc = .ok (.invokevirtual index, 3)) (hf : cells + rm9.cells ≤ room_1.cells ∧ slots + rm9.slots ≤ room_1.slots)
    (kk : ∀ (j' : Nat → Int) (G' : Nat → Nat → Int) (H : Heap) (locs : List Loc), Rel z F LZ LT K j' G' → va_P g.1 vwCl (GW g hd hm A z F LA LZ LT K a j' G') H → va_D (lwA s) (GW g hd hm A z F LA LZ LT K a j' G') → va_S (lwA s) s.heap H locs → W p l e room_1 s m #[Value.ref b] below meth c H locs (cells + rm9.cells) (slots + rm9.slots) Q (F0 m (pc + 3) ls [.int (iI r), .int (iI r0)])) : W p l e room_1 s m #[Value.ref b] below meth c H locs cells slots Q (F0 m pc ls st0) := by
  obtain ⟨hx, hb, hr, hml, hown, hts, hX, hbl, hlocks, hG, hL⟩ := C
  refine Ct.callV (ci := 9) (q0 := 33) (qc := (RX9, TX9, 37)) (fs := mF a j) (As := as) (rest := [.int (iI r0)]) (wr := []) (cc := code) (nL := 4) ⟨hx, hb, hml, hown, hts⟩ hM rfl rfl cw hG hP hD hS (fun _ h => h) (List.range (GW g hd hm A z F LA LZ LT K a j G).length) [] (range_all _) rfl (nd_range _) rfl (fun _ h9 => absurd h9 (by simp)) hlen hl hst (Nat.le_of_ble_eq_true rfl) hdg hf rfl rfl (fun v w H locs hv hP hD hS => ?_)
  obtain ⟨j', G', rfl, rfl, hq⟩ := hv
  rw [List.nil_append] at hP hD
  exact kk j' G' H locs hq hP hD hS
end LAWR
/-- what the law needs behind a case -/
def lw_K (p : Program) (l : Launch) (e : Env) (s : State) (m : MethodId) (below : List Frame) (meth : Method) (c : Code) (Q : State → Prop) (b : Nat) (g : GT) (hd hm : Nat) (a : Nat → Nat) (i : Nat) (pc : Nat) (di : Nat) : Prop :=
  ∀ (A : Nat → Nat) (z : Nat → Int) (F : Nat → Nat → Int) (LA : Nat → Nat → Nat) (LZ : Nat → Nat → Int) (LT : Nat → Nat → Nat → Int) (K : Nat) (j : Nat → Int) (G : Nat → Nat → Int) (H : Heap) (locs : List Loc) (ls : Array Slot), Rel z F LZ LT K j G → va_P g.1 vwCl (GW g hd hm A z F LA LZ LT K a j G) H → va_D (lwA s) (GW g hd hm A z F LA LZ LT K a j G) → va_S (lwA s) s.heap H locs → lv_has ls 4 [(3, .int (iI (i : Int))), (2, .ref hm), (1, .ref hd), (0, .ref b)] → W p l e room_1 s m #[Value.ref b] below meth c H locs (100 + 2 * (i + di)) (4000 + 50 * (i + di)) Q (F0 m pc ls [])
