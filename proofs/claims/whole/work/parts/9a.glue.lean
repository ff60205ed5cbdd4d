/-! the desk and the model side by side -/
theorem fm_of {α : Type} {X wc : List α} {is : List Nat} (h : is.map (fun i => X[i]?) = wc.map some) : is.filterMap (fun i => X[i]?) = wc := by
  have e : ∀ l : List Nat, l.filterMap (fun i => X[i]?) = (l.map (fun i => X[i]?)).filterMap id := fun l => by rw [List.filterMap_map]; rfl
  rw [e, h, List.filterMap_map]
  exact List.filterMap_some
theorem fm_range {α : Type} (Y : List α) : (List.range Y.length).filterMap (fun i => Y[i]?) = Y := fm_of (range_all Y)
theorem fm_perm {α : Type} {Y w1 : List α} {N : Nat} (hN : Y.length = N) {iR iC : List Nat} (hp : (iR ++ iC).Perm (List.range N)) (hs : iC.map (fun i => Y[i]?) = w1.map some) : Y.Perm (iR.filterMap (fun i => Y[i]?) ++ w1) := by
  have h := hp.filterMap (fun i => Y[i]?)
  rw [← hN, fm_range, List.filterMap_append, fm_of hs] at h
  exact h.symm
theorem fm_eq {α : Type} {X Y : List α} {iR : List Nat} (h : iR.map (fun i => Y[i]?) = iR.map (fun i => X[i]?)) : iR.filterMap (fun i => Y[i]?) = iR.filterMap (fun i => X[i]?) := by
  have e : ∀ Z : List α, iR.filterMap (fun i => Z[i]?) = (iR.map (fun i => Z[i]?)).filterMap id := fun Z => by rw [List.filterMap_map]; rfl
  rw [e, e, h]
/-- cells set at places -/
def stB {α : Type} : List Nat → List α → List α → List α
  | [], _, X => X
  | i :: is, cs, X => match cs with
    | [] => X
    | c :: cs => stB is cs (X.set i c)
abbrev stA {α : Type} (X : List α) (is : List Nat) (cs : List α) : List α := stB is cs X
theorem stA_len {α : Type} : ∀ (is : List Nat) (X cs : List α), (stA X is cs).length = X.length := by
  intro is
  induction is with
  | nil => intro X cs; rfl
  | cons i is ih =>
    intro X cs
    cases cs with
    | nil => rfl
    | cons c cs => show (stA (X.set i c) is cs).length = _; rw [ih, List.length_set]
theorem stA_out {α : Type} {k : Nat} : ∀ (is : List Nat) (X cs : List α), k ∉ is → (stA X is cs)[k]? = X[k]? := by
  intro is
  induction is with
  | nil => intro X cs _; rfl
  | cons i is ih =>
    intro X cs h
    cases cs with
    | nil => rfl
    | cons c cs =>
      show (stA (X.set i c) is cs)[k]? = _
      rw [ih _ _ (fun z => h (List.mem_cons_of_mem _ z)), List.getElem?_set_ne (fun z => h (by rw [z]; exact List.mem_cons_self))]
theorem stA_in {α : Type} : ∀ (is : List Nat) (X cs : List α), is.Nodup → cs.length = is.length → (∀ i ∈ is, i < X.length) → is.map (fun i => (stA X is cs)[i]?) = cs.map some := by
  intro is
  induction is with
  | nil => intro X cs _ h _; cases cs with | nil => rfl | cons c cs => simp at h
  | cons i is ih =>
    intro X cs hn hl hb
    cases cs with
    | nil => simp at hl
    | cons c cs =>
      obtain ⟨n1, n2⟩ := List.nodup_cons.mp hn
      have e := ih (X.set i c) cs n2 (by simpa using hl) (fun k hk => by rw [List.length_set]; exact hb k (List.mem_cons_of_mem _ hk))
      rw [List.map_cons, List.map_cons]
      show (stA (X.set i c) is cs)[i]? :: is.map (fun k => (stA (X.set i c) is cs)[k]?) = _
      rw [e, stA_out is _ _ n1, List.getElem?_set_self (hb i List.mem_cons_self)]
theorem pm_parts {N : Nat} {iR iC : List Nat} (hp : (iR ++ iC).Perm (List.range N)) : iC.Nodup ∧ (∀ i ∈ iR, i ∉ iC) ∧ ∀ i ∈ iC, i < N := by
  have h := hp.nodup_iff.mpr List.nodup_range
  rw [List.nodup_append] at h
  exact ⟨h.2.1, fun i h1 h2 => h.2.2 i h1 i h2 rfl, fun i hi => List.mem_range.mp (hp.mem_iff.mp (List.mem_append_right _ hi))⟩
theorem st_perm {α : Type} {X w1 : List α} {N : Nat} (hN : X.length = N) {iR iC : List Nat} (hp : (iR ++ iC).Perm (List.range N)) (hl : w1.length = iC.length) : (stA X iC w1).Perm (iR.filterMap (fun i => X[i]?) ++ w1) := by
  obtain ⟨p1, p2, p3⟩ := pm_parts hp
  have e := fm_perm (Y := stA X iC w1) (by rw [stA_len]; exact hN) hp (stA_in iC X w1 p1 hl (fun i hi => by rw [hN]; exact p3 i hi))
  rw [fm_eq (X := X) (List.map_congr_left (fun i hi => stA_out iC X w1 (p2 i hi)))] at e
  exact e
/-- a contract in a world of N cells and a tail -/
theorem Ct.liftX {l : Launch} {g : GT} {y : MethodName} {wd : List Cond} {rm : Room} {av : List Value} {wc X pl : va_W} {Post Post' : Option Value → va_W → Prop} (N : Nat) (hN : X.length = N) (h : Ct l g y wd rm av wc Post) (iR iC : List Nat) (hp : (iR ++ iC).isPerm (List.range N) = true) (hs : iC.map (fun i => X[i]?) = wc.map some)
    (hi : ∀ v w1, Post v w1 → ∃ Y : va_W, w1.length = iC.length ∧ Y = stA X iC w1 ∧ Post' v (Y ++ pl)) : Ct l g y wd rm av (X ++ pl) Post' := by
  have hp := List.isPerm_iff.mp hp
  refine Ct.frameS (wr := iR.filterMap (fun i => X[i]?) ++ pl) h (WS.pm (((fm_perm hN hp hs).append_right pl).trans (app_swap _ _ _))) (fun v w1 hw => ?_)
  obtain ⟨Y, h1, h2, h4⟩ := hi v w1 hw
  refine ⟨Y ++ pl, WS.pm ?_, h4⟩
  rw [h2]
  exact (app_swap _ _ _).trans ((st_perm hN hp h1).append_right pl).symm
def fleF (LA : Nat → Nat → Nat) (K : Nat) : Nat → Option Nat := fun n => if n < K then some (LA n 0) else none
def fshF (A : Nat → Nat) : Nat → Option Nat := fun n => if n < 4 then some (A (40 + n)) else none
abbrev DX (g : GT) (hd : Nat) (A : Nat → Nat) (z : Nat → Int) (F : Nat → Nat → Int) (LA : Nat → Nat → Nat) (K : Nat) : va_W :=
  [(hd, .inr (8, dF A z)),
   (A 0, .inr (4, [.ref (A 20), .ref (A 21), .ref (A 22)])),
   (A 20, aI (g.2.1 0) 3 (F 20)),
   (A 21, aI (g.2.1 0) 3 (F 21)),
   (A 22, aI (g.2.1 0) 3 (F 22)),
   (A 1, aI (g.2.1 0) 6 (F 1)),
   (A 2, aI (g.2.1 0) 6 (F 2)),
   (A 3, aQ (g.2.1 3) 12 (fleF LA K)),
   (A 5, aI (g.2.1 0) 5 (F 5)),
   (A 6, .inr (3, [.int (iI (z 30)), .ref (A 23), .int (iI (z 31))])),
   (A 23, aI (g.2.1 0) 480 (F 23)),
   (A 8, .inr (6, [.int (iI (z 32)), .ref (A 24), .int (iI (z 33))])),
   (A 24, aI (g.2.1 2) 100 (F 24)),
   (A 9, .inr (0, [.ref (A 25), .ref (A 26), .ref (A 27)])),
   (A 25, aI (g.2.1 0) 8 (F 25)),
   (A 26, aI (g.2.1 0) 8 (F 26)),
   (A 27, aI (g.2.1 0) 8 (F 27)),
   (A 10, .inr (0, [.ref (A 28), .ref (A 29), .ref (A 30)])),
   (A 28, aI (g.2.1 0) 8 (F 28)),
   (A 29, aI (g.2.1 0) 8 (F 29)),
   (A 30, aI (g.2.1 0) 8 (F 30)),
   (A 11, .inr (7, [.int (iI (z 34)), .ref (A 31), .ref (A 32)])),
   (A 31, aI (g.2.1 0) 12 (F 31)),
   (A 32, aI (g.2.1 0) 12 (F 32)),
   (A 12, aQ (g.2.1 4) 4 (fshF A)),
   (A 40, .inr (5, [.int (iI (z 40)), .int (iI (z 50)), .ref (A 50)])),
   (A 50, aI (g.2.1 0) 40 (F 50)),
   (A 41, .inr (5, [.int (iI (z 41)), .int (iI (z 51)), .ref (A 51)])),
   (A 51, aI (g.2.1 0) 40 (F 51)),
   (A 42, .inr (5, [.int (iI (z 42)), .int (iI (z 52)), .ref (A 52)])),
   (A 52, aI (g.2.1 0) 40 (F 52)),
   (A 43, .inr (5, [.int (iI (z 43)), .int (iI (z 53)), .ref (A 53)])),
   (A 53, aI (g.2.1 0) 40 (F 53))]
abbrev MX (g : GT) (hm : Nat) (a : Nat → Nat) (j : Nat → Int) (G : Nat → Nat → Int) : va_W :=
  [(hm, .inr (9, mF a j)),
   (a 0, aI (g.2.1 0) 93 (G 0)),
   (a 1, aI (g.2.1 0) 3 (G 1)),
   (a 2, aI (g.2.1 0) 3 (G 2)),
   (a 3, aI (g.2.1 0) 3 (G 3)),
   (a 4, aI (g.2.1 0) 6 (G 4)),
   (a 6, aI (g.2.1 0) 12 (G 6)),
   (a 7, aI (g.2.1 0) 480 (G 7)),
   (a 8, aI (g.2.1 0) 480 (G 8)),
   (a 9, aI (g.2.1 0) 480 (G 9)),
   (a 10, aI (g.2.1 1) 480 (G 10)),
   (a 11, aI (g.2.1 0) 5 (G 11)),
   (a 15, aI (g.2.1 0) 100 (G 15)),
   (a 20, aI (g.2.1 0) 8 (G 20)),
   (a 21, aI (g.2.1 0) 8 (G 21)),
   (a 22, aI (g.2.1 0) 8 (G 22)),
   (a 24, aI (g.2.1 0) 8 (G 24)),
   (a 25, aI (g.2.1 0) 8 (G 25)),
   (a 26, aI (g.2.1 0) 8 (G 26)),
   (a 27, aI (g.2.1 0) 96 (G 27)),
   (a 28, aI (g.2.1 0) 96 (G 28)),
   (a 29, aI (g.2.1 1) 96 (G 29)),
   (a 31, aI (g.2.1 0) 12 (G 31)),
   (a 32, aI (g.2.1 0) 12 (G 32)),
   (a 33, aI (g.2.1 0) 4 (G 33)),
   (a 34, aI (g.2.1 0) 4 (G 34)),
   (a 35, aI (g.2.1 0) 160 (G 35)),
   (a 36, aI (g.2.1 0) 40 (G 36))]
abbrev lc (g : GT) (A : Nat → Nat) (Z : Nat → Int) (T : Nat → Nat → Int) : va_W :=
  [(A 0, .inr (1, [.int (iI (Z 0)), .int (iI (Z 1)), .ref (A 1), .ref (A 5), .ref (A 6), .ref (A 7), .ref (A 8)])), (A 1, .inr (2, [.ref (A 2), .ref (A 3), .ref (A 4)])),
   (A 2, aI (g.2.1 0) 8 (T 2)), (A 3, aI (g.2.1 1) 8 (T 3)), (A 4, aI (g.2.1 0) 8 (T 4)), (A 5, aI (g.2.1 0) 40 (T 5)), (A 6, aI (g.2.1 1) 40 (T 6)), (A 7, aI (g.2.1 1) 40 (T 7)), (A 8, aI (g.2.1 0) 93 (T 8))]
def GW (g : GT) (hd hm : Nat) (A : Nat → Nat) (z : Nat → Int) (F : Nat → Nat → Int) (LA : Nat → Nat → Nat) (LZ : Nat → Nat → Int) (LT : Nat → Nat → Nat → Int) (K : Nat) (a : Nat → Nat) (j : Nat → Int) (G : Nat → Nat → Int) : va_W := DX g hd A z F LA K ++ (MX g hm a j G ++ blk g LA LZ LT K)
/-! what binds the two -/
def RB (K : Nat) (z4 j5 : Int) (kw : Nat → Int) (z30 : Int) : Prop := K ≤ 12 ∧ z4 = (K : Int) ∧ j5 = (K : Int) ∧ (∀ p, p < 93 → kw p = oT p) ∧ 0 ≤ z30 ∧ z30 < 1000000000
def RMk (f h : Nat → Int) : Prop := f = h ∧ (∀ p, p < 3 → 0 ≤ h p ∧ h p ≤ 99) ∧ (0 ≤ h 3 ∧ h 3 ≤ 999) ∧ (1 ≤ h 4 ∧ h 4 ≤ 500)
def RHt (h m l : Int) : Prop := (h = -1 ∧ m = -4 ∧ l = 0) ∨ (TaskP m l ∧ h = 1000 * m + l)
def RTp (tl : Int) (ft : Nat → Int) (tl2 : Int) (gt : Nat → Int) : Prop := ft = gt ∧ ∃ L : Nat, L ≤ 100 ∧ tl = (L : Int) ∧ tl2 = (L : Int) ∧ ∀ p, p < L → 32 ≤ ft p ∧ ft p ≤ 126
def RCo (fh fg fl : Nat → Int) (sb : Int) (gh gg gl rh rg rl : Nat → Int) : Prop := RelS sb gh gg gl (fh, fg, fl) ∧ RgR gh gg gl ∧ RgR rh rg rl ∧ CSok (fh, fg, fl)
def RTr (tm : Int) (fw fo : Nat → Int) (tm2 : Int) (gw go : Nat → Int) : Prop := fw = gw ∧ fo = go ∧ ∃ M : Nat, M ≤ 12 ∧ tm = (M : Int) ∧ tm2 = (M : Int) ∧ ∀ p, p < M → (fw p = 0 ∨ fw p = 1) ∧ -999 ≤ fo p ∧ fo p ≤ 999
def RSk (k : Nat) (ln la : Int) (it : Nat → Int) (fl fz fi : Nat → Int) : Prop := (-1 ≤ ln ∧ ln ≤ 40 ∧ 0 ≤ la ∧ la ≤ 2) ∧ (-1 ≤ fl k ∧ fl k ≤ 2 ∧ 0 ≤ fz k ∧ fz k ≤ 40) ∧ ((ln < 0 ∧ fl k < 0) ∨ (0 ≤ ln ∧ fl k = la ∧ fz k = ln)) ∧ ∀ p, p < 40 → it p = fi (40 * k + p) ∧ -2147483648 ≤ it p ∧ it p < 2147483648
def RSh (n0 n1 n2 n3 a0 a1 a2 a3 : Int) (i0 i1 i2 i3 fl fz fi : Nat → Int) : Prop := RSk 0 n0 a0 i0 fl fz fi ∧ RSk 1 n1 a1 i1 fl fz fi ∧ RSk 2 n2 a2 i2 fl fz fi ∧ RSk 3 n3 a3 i3 fl fz fi
def caN (fa : Nat → Int) : Nat → Int
  | 0 => 0
  | n + 1 => caN fa n + (1 - fa n)
def htN (fc fa : Nat → Int) (p : Nat) : Nat → Int
  | 0 => 0
  | n + 1 => htN fc fa p n + (if hitP (fc n) p then 1 - fa n else 0)
def LnR (k : Nat) (Z : Nat → Int) (T : Nat → Nat → Int) (qm qu ql qg qa : Nat → Int) : Prop := ∃ M : Nat, M ≤ 40 ∧ Z 0 = (M : Int) ∧ qm k = (M : Int) ∧ (∀ e, e < M → AnOK qu ql qg qa (40 * k + e) ∧ T 5 e = cqv qu ql qg (40 * k + e) ∧ T 6 e = qa (40 * k + e) ∧ T 7 e = 1 - anyH (T 5 e) 93) ∧ Z 1 = caN (T 6) M ∧ ∀ p, p < 93 → T 8 p = htN (T 5) (T 6) p M
def RLn (K : Nat) (LZ : Nat → Nat → Int) (LT : Nat → Nat → Nat → Int) (qm qu ql qg qa : Nat → Int) : Prop := (∀ k, k < 12 → 0 ≤ qm k ∧ qm k ≤ 40) ∧ ∀ k, k < K → LnR k (LZ k) (LT k) qm qu ql qg qa
def MmR (k : Nat) (T : Nat → Nat → Int) (fh hv lt kn : Nat → Int) : Prop := ∀ s, s < 8 → (T 2 s = -1 ∧ T 3 s = 0 ∧ T 4 s = 8 ∧ hv (8 * k + s) = 0 ∧ lt (8 * k + s) = 0 ∧ kn (8 * k + s) = 0) ∨ (0 < fh s ∧ 0 ≤ T 2 s ∧ T 2 s ≤ 9999 ∧ T 2 s = lt (8 * k + s) ∧ (T 3 s = 0 ∨ T 3 s = 1) ∧ T 3 s = kn (8 * k + s) ∧ 1 ≤ T 4 s ∧ T 4 s ≤ 512 ∧ T 4 s = hv (8 * k + s))
def RMm (K : Nat) (LT : Nat → Nat → Nat → Int) (fh hv lt kn : Nat → Int) : Prop := (∀ k, k < K → MmR k (LT k) fh hv lt kn) ∧ ∀ q, 8 * K ≤ q → q < 96 → hv q = 0 ∧ lt q = 0 ∧ kn q = 0
def Rel (z : Nat → Int) (F : Nat → Nat → Int) (LZ : Nat → Nat → Int) (LT : Nat → Nat → Nat → Int) (K : Nat) (j : Nat → Int) (G : Nat → Nat → Int) : Prop :=
  RB K (z 4) (j 5) (G 0) (z 30) ∧ RMk (F 5) (G 11) ∧ RHt (z 7) (j 13) (j 14) ∧ RTp (z 32) (F 24) (j 16) (G 15) ∧ RCo (F 25) (F 26) (F 27) (j 19) (G 20) (G 21) (G 22) (G 24) (G 25) (G 26) ∧ RTr (z 34) (F 31) (F 32) (j 30) (G 31) (G 32) ∧
  RSh (z 40) (z 41) (z 42) (z 43) (z 50) (z 51) (z 52) (z 53) (F 50) (F 51) (F 52) (F 53) (G 33) (G 34) (G 35) ∧ RLn K LZ LT (G 6) (G 7) (G 8) (G 9) (G 10) ∧ RMm K LT (F 25) (G 27) (G 28) (G 29)
/-- behind the desk's answer r: the model answers r too -/
def Q9 (l : Launch) (g : GT) (y9 : MethodName) (ws9 : List Cond) (rm9 : Room) (as : List Value) (hd hm : Nat) (r : Int) (A : Nat → Nat) (z : Nat → Int) (F : Nat → Nat → Int) (LA : Nat → Nat → Nat) (LZ : Nat → Nat → Int) (LT : Nat → Nat → Nat → Int) (K : Nat) (a : Nat → Nat) (j : Nat → Int) (G : Nat → Nat → Int) : Prop :=
  Ct l g y9 ws9 rm9 (.ref hm :: as) (GW g hd hm A z F LA LZ LT K a j G) (fun v w => ∃ (j' : Nat → Int) (G' : Nat → Nat → Int), v = some (.int (iI r)) ∧ w = GW g hd hm A z F LA LZ LT K a j' G' ∧ Rel z F LZ LT K j' G')
def P8 (l : Launch) (g : GT) (y8 : MethodName) (ws8 : List Cond) (rm8 : Room) (y9 : MethodName) (ws9 : List Cond) (rm9 : Room) (as : List Value) (hd hm : Nat) (A : Nat → Nat) (z : Nat → Int) (F : Nat → Nat → Int) (LA : Nat → Nat → Nat) (LZ : Nat → Nat → Int) (LT : Nat → Nat → Nat → Int) (K : Nat) (a : Nat → Nat) (j : Nat → Int) (G : Nat → Nat → Int) : Prop :=
  Ct l g y8 ws8 rm8 (.ref hd :: as) (GW g hd hm A z F LA LZ LT K a j G) (fun v w => ∃ (r : Int) (A' : Nat → Nat) (z' : Nat → Int) (F' : Nat → Nat → Int) (LA' : Nat → Nat → Nat) (LZ' : Nat → Nat → Int) (LT' : Nat → Nat → Nat → Int) (K' : Nat), v = some (.int (iI r)) ∧ w = GW g hd hm A' z' F' LA' LZ' LT' K' a j G ∧ Q9 l g y9 ws9 rm9 as hd hm r A' z' F' LA' LZ' LT' K' a j G)
def PairOK (l : Launch) (g : GT) (y8 : MethodName) (ws8 : List Cond) (rm8 : Room) (y9 : MethodName) (ws9 : List Cond) (rm9 : Room) (as : List Value) : Prop :=
  ∀ (hd hm : Nat) (A : Nat → Nat) (z : Nat → Int) (F : Nat → Nat → Int) (LA : Nat → Nat → Nat) (LZ : Nat → Nat → Int) (LT : Nat → Nat → Nat → Int) (K : Nat) (a : Nat → Nat) (j : Nat → Int) (G : Nat → Nat → Int), Rel z F LZ LT K j G → P8 l g y8 ws8 rm8 y9 ws9 rm9 as hd hm A z F LA LZ LT K a j G
section LIFT
variable {l : Launch} {g : GT} {y8 y9 : MethodName} {ws8 ws9 : List Cond} {rm8 rm9 : Room} {as : List Value} {hd hm : Nat} {A : Nat → Nat} {z : Nat → Int} {F : Nat → Nat → Int} {LA : Nat → Nat → Nat} {LZ : Nat → Nat → Int} {LT : Nat → Nat → Nat → Int} {K : Nat} {a : Nat → Nat} {j : Nat → Int} {G : Nat → Nat → Int} {wc : va_W} {Post : Option Value → va_W → Prop} {r : Int}
theorem lift8 (h : Ct l g y8 ws8 rm8 (.ref hd :: as) wc Post) (iR iC : List Nat) (hp : (iR ++ iC).isPerm (List.range 33) = true) (hs : iC.map (fun i => (DX g hd A z F LA K)[i]?) = wc.map some)
    (hi : ∀ v w1, Post v w1 → ∃ (r : Int) (A' : Nat → Nat) (z' : Nat → Int) (F' : Nat → Nat → Int), v = some (.int (iI r)) ∧ w1.length = iC.length ∧ DX g hd A' z' F' LA K = stA (DX g hd A z F LA K) iC w1 ∧ Q9 l g y9 ws9 rm9 as hd hm r A' z' F' LA LZ LT K a j G) : P8 l g y8 ws8 rm8 y9 ws9 rm9 as hd hm A z F LA LZ LT K a j G := by
  refine Ct.liftX 33 rfl h iR iC hp hs (fun v w1 hw => ?_)
  obtain ⟨r, A', z', F', h1, h2, h3, h4⟩ := hi v w1 hw
  exact ⟨DX g hd A' z' F' LA K, h2, h3, r, A', z', F', LA, LZ, LT, K, h1, rfl, h4⟩
theorem lift9 (h : Ct l g y9 ws9 rm9 (.ref hm :: as) wc Post) (iR iC : List Nat) (hp : (iR ++ iC).isPerm (List.range 28) = true) (hs : iC.map (fun i => (MX g hm a j G)[i]?) = wc.map some)
    (hi : ∀ v w1, Post v w1 → ∃ (j' : Nat → Int) (G' : Nat → Nat → Int), v = some (.int (iI r)) ∧ w1.length = iC.length ∧ MX g hm a j' G' = stA (MX g hm a j G) iC w1 ∧ Rel z F LZ LT K j' G') : Q9 l g y9 ws9 rm9 as hd hm r A z F LA LZ LT K a j G := by
  have key : ∀ (j' : Nat → Int) (G' : Nat → Nat → Int), (GW g hd hm A z F LA LZ LT K a j' G').Perm (MX g hm a j' G' ++ (DX g hd A z F LA K ++ blk g LA LZ LT K)) := fun j' G' => by
    unfold GW
    rw [← List.append_assoc, ← List.append_assoc]
    exact List.Perm.append_right _ List.perm_append_comm
  refine Ct.frameS (wr := []) (wc := MX g hm a j G ++ (DX g hd A z F LA K ++ blk g LA LZ LT K)) (Post := fun v w => ∃ (j' : Nat → Int) (G' : Nat → Nat → Int), v = some (.int (iI r)) ∧ w = MX g hm a j' G' ++ (DX g hd A z F LA K ++ blk g LA LZ LT K) ∧ Rel z F LZ LT K j' G') (Ct.liftX 28 rfl h iR iC hp hs (fun v w1 hw => ?_)) (by rw [List.nil_append]; exact WS.pm (key j G)) (fun v w1 hw => ?_)
  · obtain ⟨j', G', h1, h2, h3, h4⟩ := hi v w1 hw
    exact ⟨MX g hm a j' G', h2, h3, j', G', h1, rfl, h4⟩
  · obtain ⟨j', G', h1, rfl, h4⟩ := hw
    exact ⟨GW g hd hm A z F LA LZ LT K a j' G', by rw [List.nil_append]; exact WS.pm (key j' G').symm, j', G', h1, rfl, h4⟩
theorem up_row {α : Type} (f : Nat → α) (k : Nat) (v : α) (i : Nat) (h : ¬ i = k) : f i = va_up f k v i := (up_n f k i v h).symm
theorem lift8L {k : Nat} (hk : k < K) (h : Ct l g y8 ws8 rm8 (.ref hd :: as) wc Post) (iR iC : List Nat) (hp : (iR ++ iC).isPerm (List.range 42) = true) (hs : iC.map (fun i => (DX g hd A z F LA K ++ lc g (LA k) (LZ k) (LT k))[i]?) = wc.map some)
    (hi : ∀ v w1, Post v w1 → ∃ (r : Int) (A' : Nat → Nat) (z' : Nat → Int) (F' : Nat → Nat → Int) (Zk : Nat → Int) (Tk : Nat → Nat → Int), v = some (.int (iI r)) ∧ w1.length = iC.length ∧ DX g hd A' z' F' LA K ++ lc g (LA k) Zk Tk = stA (DX g hd A z F LA K ++ lc g (LA k) (LZ k) (LT k)) iC w1 ∧ Q9 l g y9 ws9 rm9 as hd hm r A' z' F' LA (va_up LZ k Zk) (va_up LT k Tk) K a j G) : P8 l g y8 ws8 rm8 y9 ws9 rm9 as hd hm A z F LA LZ LT K a j G := by
  have key : ∀ (A' : Nat → Nat) (z' : Nat → Int) (F' : Nat → Nat → Int) (LZ' : Nat → Nat → Int) (LT' : Nat → Nat → Nat → Int), (GW g hd hm A' z' F' LA LZ' LT' K a j G).Perm ((DX g hd A' z' F' LA K ++ lc g (LA k) (LZ' k) (LT' k)) ++ (blkX g LA LZ' LT' k K ++ MX g hm a j G)) := fun A' z' F' LZ' LT' => by
    unfold GW
    rw [List.append_assoc]
    refine List.Perm.append_left _ (List.perm_append_comm.trans ?_)
    rw [← List.append_assoc]
    exact List.Perm.append_right _ (blk_perm g LA LZ' LT' k K hk)
  refine Ct.frameS (wr := []) (wc := (DX g hd A z F LA K ++ lc g (LA k) (LZ k) (LT k)) ++ (blkX g LA LZ LT k K ++ MX g hm a j G)) (Post := fun v w => ∃ (r : Int) (A' : Nat → Nat) (z' : Nat → Int) (F' : Nat → Nat → Int) (Zk : Nat → Int) (Tk : Nat → Nat → Int), v = some (.int (iI r)) ∧ w = (DX g hd A' z' F' LA K ++ lc g (LA k) Zk Tk) ++ (blkX g LA LZ LT k K ++ MX g hm a j G) ∧ Q9 l g y9 ws9 rm9 as hd hm r A' z' F' LA (va_up LZ k Zk) (va_up LT k Tk) K a j G) (Ct.liftX 42 rfl h iR iC hp hs (fun v w1 hw => ?_)) (by rw [List.nil_append]; exact WS.pm (key A z F LZ LT)) (fun v w1 hw => ?_)
  · obtain ⟨r, A', z', F', Zk, Tk, h1, h2, h3, h4⟩ := hi v w1 hw
    exact ⟨DX g hd A' z' F' LA K ++ lc g (LA k) Zk Tk, h2, h3, r, A', z', F', Zk, Tk, h1, rfl, h4⟩
  · obtain ⟨r, A', z', F', Zk, Tk, h1, rfl, h4⟩ := hw
    refine ⟨GW g hd hm A' z' F' LA (va_up LZ k Zk) (va_up LT k Tk) K a j G, ?_, r, A', z', F', LA, va_up LZ k Zk, va_up LT k Tk, K, h1, rfl, h4⟩
    rw [List.nil_append]
    refine WS.pm ?_
    have e := key A' z' F' (va_up LZ k Zk) (va_up LT k Tk)
    rw [up_s, up_s, ← blkX_congr (A := LA) (Z := LZ) (T := LT) k K (fun i hi => ⟨rfl, up_row LZ k Zk i hi, up_row LT k Tk i hi⟩)] at e
    exact e.symm
/-- a call that asks of a learner and changes nothing of the learners -/
theorem up_idN {f : Nat → Nat → Int} (k : Nat) : va_up f k (f k) = f := by
  funext i
  unfold va_up
  split
  · rename_i e; rw [e]
  · rfl
theorem up_idT {f : Nat → Nat → Nat → Int} (k : Nat) : va_up f k (f k) = f := by
  funext i
  unfold va_up
  split
  · rename_i e; rw [e]
  · rfl
theorem app4 (R C M B : va_W) : ((R ++ C) ++ (M ++ B)).Perm ((R ++ M) ++ (C ++ B)) := by
  rw [List.append_assoc, List.append_assoc]
  refine List.Perm.append_left R ?_
  rw [← List.append_assoc, ← List.append_assoc]
  exact List.Perm.append_right B List.perm_append_comm
/-- a call that sees all learners -/
theorem lift8B (h : Ct l g y8 ws8 rm8 (.ref hd :: as) (wc ++ blk g LA LZ LT K) Post) (iR iC : List Nat) (hp : (iR ++ iC).isPerm (List.range 33) = true) (hs : iC.map (fun i => (DX g hd A z F LA K)[i]?) = wc.map some)
    (hi : ∀ v w1, Post v w1 → ∃ (r : Int) (A' : Nat → Nat) (z' : Nat → Int) (F' : Nat → Nat → Int) (LT' : Nat → Nat → Nat → Int) (w0 : va_W) (pi : List Nat), v = some (.int (iI r)) ∧ w1 = w0 ++ blk g LA LZ LT' K ∧ w0.length = iC.length ∧ pi.isPerm (List.range 33) = true ∧ pi.map (fun i => (stA (DX g hd A z F LA K) iC w0)[i]?) = (DX g hd A' z' F' LA K).map some ∧ Q9 l g y9 ws9 rm9 as hd hm r A' z' F' LA LZ LT' K a j G) : P8 l g y8 ws8 rm8 y9 ws9 rm9 as hd hm A z F LA LZ LT K a j G := by
  have hp := List.isPerm_iff.mp hp
  refine Ct.frameS (wr := iR.filterMap (fun i => (DX g hd A z F LA K)[i]?) ++ MX g hm a j G) h (WS.pm ?_) (fun v w1 hw => ?_)
  · exact ((fm_perm rfl hp hs).append_right _).trans (app4 _ _ _ _)
  · obtain ⟨r, A', z', F', LT', w0, pi, h1, rfl, h2, h3, h4, h5⟩ := hi v w1 hw
    refine ⟨GW g hd hm A' z' F' LA LZ LT' K a j G, WS.pm ?_, r, A', z', F', LA, LZ, LT', K, h1, rfl, h5⟩
    have e1 : (DX g hd A' z' F' LA K).Perm (stA (DX g hd A z F LA K) iC w0) := by
      have q := fm_perm (Y := stA (DX g hd A z F LA K) iC w0) (N := 33) (by rw [stA_len]; rfl) (iR := []) (iC := pi) (List.isPerm_iff.mp h3) h4
      exact q.symm
    have e := (e1.trans (st_perm (X := DX g hd A z F LA K) (N := 33) rfl hp h2)).append_right (MX g hm a j G ++ blk g LA LZ LT' K)
    exact (e.trans (app4 _ _ _ _)).symm
/-- a call that makes a learner -/
theorem lift8N (h : Ct l g y8 ws8 rm8 (.ref hd :: as) wc Post) (iR iC : List Nat) (hp : (iR ++ iC).isPerm (List.range 33) = true) (hs : iC.map (fun i => (DX g hd A z F LA K)[i]?) = wc.map some)
    (hi : ∀ v w1, Post v w1 → ∃ (r : Int) (z' : Nat → Int) (Ak : Nat → Nat) (Zk : Nat → Int) (Tk : Nat → Nat → Int) (w0 : va_W), v = some (.int (iI r)) ∧ w1 = w0 ++ lc g Ak Zk Tk ∧ w0.length = iC.length ∧ DX g hd A z' F (va_up LA K Ak) (K + 1) = stA (DX g hd A z F LA K) iC w0 ∧ Q9 l g y9 ws9 rm9 as hd hm r A z' F (va_up LA K Ak) (va_up LZ K Zk) (va_up LT K Tk) (K + 1) a j G) : P8 l g y8 ws8 rm8 y9 ws9 rm9 as hd hm A z F LA LZ LT K a j G := by
  have hp := List.isPerm_iff.mp hp
  refine Ct.frameS (wr := iR.filterMap (fun i => (DX g hd A z F LA K)[i]?) ++ (MX g hm a j G ++ blk g LA LZ LT K)) h (WS.pm ?_) (fun v w1 hw => ?_)
  · exact ((fm_perm rfl hp hs).append_right _).trans (app_swap _ _ _)
  · obtain ⟨r, z', Ak, Zk, Tk, w0, h1, rfl, h3, h4, h5⟩ := hi v w1 hw
    refine ⟨GW g hd hm A z' F (va_up LA K Ak) (va_up LZ K Zk) (va_up LT K Tk) (K + 1) a j G, WS.pm ?_, r, A, z', F, va_up LA K Ak, va_up LZ K Zk, va_up LT K Tk, K + 1, h1, rfl, h5⟩
    have eb : blk g (va_up LA K Ak) (va_up LZ K Zk) (va_up LT K Tk) (K + 1) = blk g LA LZ LT K ++ lc g Ak Zk Tk := by
      show blk g (va_up LA K Ak) (va_up LZ K Zk) (va_up LT K Tk) K ++ lc g (va_up LA K Ak K) (va_up LZ K Zk K) (va_up LT K Tk K) = _
      rw [up_s, up_s, up_s, blk_congr (A' := LA) (Z' := LZ) (T' := LT) K (fun i hi => ⟨up_n _ _ _ _ (by omega), up_n _ _ _ _ (by omega), up_n _ _ _ _ (by omega)⟩)]
    unfold GW
    rw [eb, h4]
    have e := (st_perm (X := DX g hd A z F LA K) (N := 33) rfl hp h3).append_right (MX g hm a j G ++ (blk g LA LZ LT K ++ lc g Ak Zk Tk))
    refine List.Perm.trans ?_ e.symm
    rw [← List.append_assoc (MX g hm a j G)]
    exact app4 _ _ _ _
end LIFT
