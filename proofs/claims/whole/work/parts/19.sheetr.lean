theorem cpy_iI (f h : Nat → Int) (sp dp n : Nat) : va_cpy (fun j => iI (f j)) (fun j => iI (h j)) sp dp n = fun j => iI (va_cpy f h sp dp n j) := by
  funext j
  unfold va_cpy
  split <;> rfl
section CPY
variable {p : Program} {l : Launch} {e : Env} {R : Room} {s : State} {m : MethodId} {args : Array Value} {below : List Frame} {meth : Method} {c : Code} {H : Heap} {locs : List Loc} {cells slots : Nat} {Q : State → Prop}
variable {cc : ByteArray} {pc : Nat} {ls : Array Slot} {rest : List Value} {g : GT} {A : Nat → Prop} {ws : va_W} {a : Nat}
theorem iv_copy {own : String} {index : Nat} (hx : p.tables.exec = Jvm.exec) (hb : c.code = cc) (hml : c.maxLocals = ls.size) (hown : s.vm.findClass own = some m.cls) (hlink : (Cond.methodLink own index arraycopyName).before args s = true) (hnat : (Cond.native arraycopyName).before args s = true) (hstat : (Cond.static arraycopyName).before args s = true) (hini : (Cond.initialized "java/lang/System").before args s = true)
    (hG : GG g A s) (hP : va_P g.1 vwCl ws H) (hD : va_D A ws) (hS : va_S A s.heap H locs) (q0 q1 : Nat) {a0 : Nat} {n0 n1 : Nat} {f h : Nat → Int} (ha0 : ws[q0]? = some (a0, aI (g.2.1 0) n0 f)) (ha1 : ws[q1]? = some (a, aI (g.2.1 0) n1 h))
    {sp dp n : Int} (ks kd kn : Nat) (h1 : sp = (ks : Int) ∧ ks + kn ≤ n0 ∧ n0 < 2147483648) (h2 : dp = (kd : Int) ∧ kd + kn ≤ n1 ∧ n1 < 2147483648) (h3 : n = (kn : Int))
    (hframes : 1 ≤ R.frames) (hlocals : (rest.map fun v => v.category).sum + (nativeFrameWords "java/lang/System" "arraycopy" 5 + 11) ≤ R.locals) (hdg : decode cc pc = .ok (.invokestatic index, 3))
    (kk : ∀ (H1 : Heap) (locs1 : List Loc), va_P g.1 vwCl (ws.set q1 (a, aI (g.2.1 0) n1 (va_cpy f h ks kd kn))) H1 → va_D A (ws.set q1 (a, aI (g.2.1 0) n1 (va_cpy f h ks kd kn))) → va_S A s.heap H1 locs1 → W p l e R s m args below meth c H1 locs1 cells slots Q (F0 m (pc + 3) ls rest)) : W p l e R s m args below meth c H locs cells slots Q (F0 m pc ls (.int (iI n) :: .int (iI dp) :: .ref a :: .int (iI sp) :: .ref a0 :: rest)) := by
  obtain ⟨e1, h1a, h1b⟩ := h1
  obtain ⟨e2, h2a, h2b⟩ := h2
  subst e1 e2 h3
  have c1 : (iI (ks : Int)).toNatClampNeg = ks := by rw [iI_clamp (by omega)]; rfl
  have c2 : (iI (kd : Int)).toNatClampNeg = kd := by rw [iI_clamp (by omega)]; rfl
  have c3 : (iI (kn : Int)).toNatClampNeg = kn := by rw [iI_clamp (by omega)]; rfl
  have ng : ∀ k : Nat, k < 2147483648 → ¬ iI (k : Int) < 0 := fun k hk h => absurd h (by rw [← iI_0, iI_lt (by omega)]; omega)
  refine va_copyi hx hb hml hown hlink hnat hstat hini hG.1 hP hD hS q0 q1 0 0 (ty := .int) ha0 ha1 rfl rfl rfl (ng ks (by omega)) (ng kd (by omega)) (ng kn (by omega)) (by rw [c1, c3]; exact h1a) (by rw [c2, c3]; exact h2a) (fun _ _ => rfl) hframes hlocals hdg ?_
  rw [c1, c2, c3, cpy_iI]
  exact kk
end CPY
def byteI (v : Int) : Int := (iI v).toInt8.toInt32.toInt
def shortI (v : Int) : Int := (iI v).toInt16.toInt32.toInt
theorem byteI_eq (v : Int) : (iI v).toInt8.toInt32 = iI (byteI v) := (Int32.ofInt_toInt _).symm
theorem shortI_eq (v : Int) : (iI v).toInt16.toInt32 = iI (shortI v) := (Int32.ofInt_toInt _).symm
def cutS (la v : Int) : Int := if la = 0 then byteI v else if la = 1 then shortI v else v
theorem cutS_rng {la v : Int} (h : -2147483648 ≤ v ∧ v < 2147483648) : -2147483648 ≤ cutS la v ∧ cutS la v < 2147483648 := by
  have h1 := fun x : Int32 => (⟨x.le_toInt, x.toInt_lt⟩ : -2 ^ 31 ≤ x.toInt ∧ x.toInt < 2 ^ 31)
  unfold cutS
  split
  · simpa [byteI] using h1 (iI v).toInt8.toInt32
  · split
    · simpa [shortI] using h1 (iI v).toInt16.toInt32
    · exact h
abbrev HoldP (ln x n : Int) : Prop := 0 ≤ x ∧ 0 ≤ n ∧ n ≤ ln - x
def refS (ln la lane x n : Int) : Int := if ln < 0 then -11 else if la ≠ lane then -12 else if HoldP ln x n then 0 else -13
def sheetS (x lane n : Int) : Int := if ¬ (0 ≤ x ∧ x ≤ 3) ∨ ¬ (0 ≤ lane ∧ lane ≤ 2) ∨ 40 < n then -1 else if n < 0 then -14 else n
theorem cpy_succ {f h : Nat → Int} {sp dp n : Nat} {v : Int} (hv : v = f (sp + n)) : va_up (va_cpy f h sp dp n) (dp + n) v = va_cpy f h sp dp (n + 1) := by
  funext k
  unfold va_up va_cpy
  by_cases e : k = dp + n
  · rw [if_pos e, if_pos (by omega), hv, show k - dp = n from by omega]
  · rw [if_neg e]
    by_cases c : dp ≤ k ∧ k < dp + n
    · rw [if_pos c, if_pos (by omega)]
    · rw [if_neg c, if_neg (by omega)]
theorem cpy_0 {f h : Nat → Int} {sp dp : Nat} : va_cpy f h sp dp 0 = h := by
  funext k
  unfold va_cpy
  rw [if_neg (by omega)]
