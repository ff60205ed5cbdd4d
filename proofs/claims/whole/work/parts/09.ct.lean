/-! the tables of the class, the words of nest mates, and what every method needs of its start -/
def oL : List Int := [0, 1, 2, 4, 8, 16, 32, 64, 128, 3, 5, 6, 9, 10, 12, 17, 18, 20, 24, 33, 34, 36, 40, 48, 65, 66, 68, 72, 80, 96, 129, 130, 132, 136, 144, 160, 192, 7, 11, 13, 14, 19, 21, 22, 25, 26, 28, 35, 37, 38, 41, 42, 44, 49, 50, 52, 56, 67, 69, 70, 73, 74, 76, 81, 82, 84, 88, 97, 98, 100, 104, 112, 131, 133, 134, 137, 138, 140, 145, 146, 148, 152, 161, 162, 164, 168, 176, 193, 194, 196, 200, 208, 224]
def oT (j : Nat) : Int := oL.getD j 0
def tT (j : Nat) : Int := ([1, 10, 100] : List Int).getD j 0
def lT (j : Nat) : Int := ([0, 0, 0, 0, 1] : List Int).getD j 0
def mT (j : Nat) : Int := ([99, 99, 99, 999, 500] : List Int).getD j 0
abbrev GT : Type := va_G × (Nat → ClassId) × (Nat → Nat)
abbrev TY (g : GT) : List (ClassId × FieldType) := [(g.2.1 0, .int), (g.2.1 1, .boolean), (g.2.1 2, .byte), (g.2.1 3, .object "LessonDesk$Learner"), (g.2.1 4, .object "LessonDesk$Sheet")]
def nwL : List (String × Nat × MethodName) := [("LessonDesk", 129, ⟨"LessonDesk$Learner", "<init>", "()V"⟩), ("LessonDesk", 223, ⟨"LessonDesk$Memory", "forget", "()V"⟩), ("LessonDesk", 38, ⟨"LessonDesk$Oddities", "<init>", "()V"⟩), ("LessonDesk", 48, ⟨"LessonDesk$Tape", "<init>", "()V"⟩), ("LessonDesk", 55, ⟨"LessonDesk$Course", "<init>", "()V"⟩), ("LessonDesk", 65, ⟨"LessonDesk$Trial", "<init>", "()V"⟩), ("LessonDesk", 72, ⟨"LessonDesk$Sheet", "<init>", "()V"⟩), ("LessonDesk", 9, ⟨"LessonDesk$Paper", "<init>", "()V"⟩), ("LessonDesk$Course", 21, ⟨"LessonDesk", "within", "(III)Z"⟩), ("LessonDesk$Course", 29, ⟨"LessonDesk", "total", "([II)I"⟩), ("LessonDesk$Learner", 42, ⟨"LessonDesk", "caseNumber", "(III)I"⟩), ("LessonDesk$Learner", 50, ⟨"LessonDesk", "muchOf", "(I)I"⟩), ("LessonDesk$Learner", 54, ⟨"LessonDesk", "lessOf", "(I)I"⟩), ("LessonDesk$Learner", 57, ⟨"LessonDesk", "answerOf", "(I)I"⟩), ("LessonDesk$Tape", 63, ⟨"LessonDesk", "within", "(III)Z"⟩)]
def NW (U : State) : Prop := (∀ q ∈ nwL, va_Nw (.methodLinkNest q.1 q.2.1 q.2.2 "LessonDesk") U) ∧ va_Nw (.fieldLinkNest "LessonDesk$Learner" 36 "LessonDesk" "ORDER" "[I" "LessonDesk") U ∧ va_AO "LessonDesk$Learner" U ∧ va_AO "LessonDesk$Sheet" U
theorem NW.warm {s U : State} (hW : s.WarmedH U.vm) (h : NW s) : NW U := ⟨fun q hq => va_Nw.warmM hW (h.1 q hq), va_Nw.warmF hW h.2.1, va_AO.moved hW.alike h.2.2.1, va_AO.moved hW.alike h.2.2.2⟩
theorem NW.same {u U : State} (hv : u.vm = U.vm) (h : NW u) : NW U := ⟨fun q hq => va_Nw.same rfl hv (h.1 q hq), va_Nw.same rfl hv h.2.1, va_AO.moved (by rw [hv]; exact Vm.Alike.refl _) h.2.2.1, va_AO.moved (by rw [hv]; exact Vm.Alike.refl _) h.2.2.2⟩
theorem NW.m {U : State} (h : NW U) (k : Nat) {a : String} {i : Nat} {x : MethodName} (hk : nwL[k]? = some (a, i, x)) : va_Nw (.methodLinkNest a i x "LessonDesk") U := h.1 (a, i, x) (List.mem_of_getElem? hk)
def ST1 (n : String) (t N : Nat) (f : Nat → Int) (A : Nat → Prop) (U : State) (H : Heap) : Prop := va_Z "LessonDesk" n "[I" (.ref t) A U H ∧ va_T .int t N (fun j => .int (iI (f j))) A U H
theorem ST1.moved {n : String} {t N : Nat} {f : Nat → Int} {A : Nat → Prop} {u U : State} {H : Heap} (hvm : u.vm.Alike U.vm) (h : ST1 n t N f A u H) : ST1 n t N f A U H := ⟨h.1.moved hvm, h.2.moved hvm⟩
theorem ST1.kept {n : String} {t N : Nat} {f : Nat → Int} {A : Nat → Prop} {U : State} {H H1 : Heap} (h : ST1 n t N f A U H) (hq : ∀ a : Nat, a < H.size → ¬ A a → H1[a]? = H[a]?) : ST1 n t N f A U H1 := ⟨h.1.kept hq, h.2.kept hq⟩
theorem ST1.narrow {n : String} {t N : Nat} {f : Nat → Int} {A B : Nat → Prop} {U : State} {H : Heap} (h : ST1 n t N f A U H) (hAB : ∀ q, B q → A q) : ST1 n t N f B U H := ⟨h.1.narrow hAB, h.2.narrow hAB⟩
def ST (tb : Nat → Nat) (A : Nat → Prop) (U : State) (H : Heap) : Prop := ST1 "ORDER" (tb 0) 93 oT A U H ∧ ST1 "TENS" (tb 1) 3 tT A U H ∧ ST1 "LEAST_MARKS" (tb 2) 5 lT A U H ∧ ST1 "MOST_MARKS" (tb 3) 5 mT A U H
theorem ST.moved {tb : Nat → Nat} {A : Nat → Prop} {u U : State} {H : Heap} (hvm : u.vm.Alike U.vm) (h : ST tb A u H) : ST tb A U H := ⟨h.1.moved hvm, h.2.1.moved hvm, h.2.2.1.moved hvm, h.2.2.2.moved hvm⟩
theorem ST.kept {tb : Nat → Nat} {A : Nat → Prop} {U : State} {H H1 : Heap} (h : ST tb A U H) (hq : ∀ a : Nat, a < H.size → ¬ A a → H1[a]? = H[a]?) : ST tb A U H1 := ⟨h.1.kept hq, h.2.1.kept hq, h.2.2.1.kept hq, h.2.2.2.kept hq⟩
theorem ST.narrow {tb : Nat → Nat} {A B : Nat → Prop} {U : State} {H : Heap} (h : ST tb A U H) (hAB : ∀ q, B q → A q) : ST tb B U H := ⟨h.1.narrow hAB, h.2.1.narrow hAB, h.2.2.1.narrow hAB, h.2.2.2.narrow hAB⟩
/-- what holds at every method's start, beside its cells -/
def GG (g : GT) (A : Nat → Prop) (U : State) : Prop := va_K g.1 vwCl (TY g) U ∧ NW U ∧ ST g.2.2 A U U.heap
theorem GG.call {g : GT} {A0 : Nat → Prop} {s U : State} {H : Heap} {locs : List Loc} {wc : va_W} (hG : GG g A0 s) (hS : va_S A0 s.heap H locs) (hF : ∀ q, va_A wc H.size q → A0 q) (hU : U.heap = H) (hW : s.WarmedH U.vm) : GG g (va_A wc H.size) U := by
  refine ⟨va_K.moved hW.alike hG.1, hG.2.1.warm hW, ?_⟩
  rw [hU]
  exact ((hG.2.2.kept (fun a h1 h2 => hS.2.1 a h1 h2)).narrow hF).moved hW.alike
/-- a contract: from the cells W0, with these arguments, it answers and leaves cells as Post says -/
def CQ (g : GT) (Post : Option Value → va_W → Prop) (A : Nat → Prop) : Array Value → State → Outcome → State → Prop := fun _ st oc t => (∃ (v : Option Value) (w : va_W), oc = .returned v ∧ Post v w ∧ va_P g.1 vwCl w t.heap ∧ va_D A w) ∧ va_F A st t
def CP (g : GT) (av : List Value) (W0 : va_W) (sz : Nat) : Array Value → State → Prop := va_Pc av (fun U => U.heap.size = sz ∧ va_P g.1 vwCl W0 U.heap ∧ GG g (va_A W0 sz) U ∧ va_D (fun _ => True) W0)
def Ct (l : Launch) (g : GT) (y : MethodName) (ws : List Cond) (rm : Room) (av : List Value) (W0 : va_W) (Post : Option Value → va_W → Prop) : Prop := ∀ sz : Nat, Met l y ws rm (CP g av W0 sz) (CQ g Post (va_A W0 sz)) rm.cells rm.slots (va_A W0 sz)
theorem CP.blind {g : GT} {av : List Value} {W0 : va_W} {sz : Nat} : FrameBlind (CP g av W0 sz) := by
  intro a U g' mk h
  obtain ⟨h1, h2, h3, ⟨h4, h5, h6⟩, h7⟩ := h
  exact ⟨h1, h2, h3, ⟨va_K.moved (u := U) (U := U.calling g' mk a) (Vm.Alike.refl U.vm) h4, NW.same (u := U) (U := U.calling g' mk a) rfl h5, ST.moved (u := U) (U := U.calling g' mk a) (Vm.Alike.refl U.vm) h6⟩, h7⟩
theorem CP.pre {g : GT} {As : List Value} {wc ws : va_W} {A : Nat → Prop} {s : State} {H : Heap} {locs : List Loc} (hG : GG g A s) (hP : va_P g.1 vwCl ws H) (hD : va_D A ws) (hS : va_S A s.heap H locs) (hA : ∀ q, s.heap.size ≤ q → A q) (isC : List Nat) (hnC : va_nd isC = true) (hC : isC.map (fun i => ws[i]?) = wc.map some) : PreS s H (CP g As wc H.size) As := by
  have hFc := va_free hD hS hA isC hC
  have hPc : va_P g.1 vwCl wc H := by
    intro k q hq
    have h1 : (isC.map (fun i => ws[i]?))[k]? = some (some q) := by rw [hC, List.getElem?_map, hq]; rfl
    rw [List.getElem?_map] at h1
    cases hi : isC[k]? with
    | none => rw [hi] at h1; cases h1
    | some i => rw [hi] at h1; exact hP i q (Option.some.inj h1)
  refine ⟨CP.blind, fun U hU hW => ⟨rfl, by rw [hU], by rw [hU]; exact hPc, hG.call hS hFc hU hW, (hD.sub isC hnC hC).weaken (fun _ _ _ _ => trivial)⟩⟩
section CT
variable {p : Program} {l : Launch} {e : Env} {R : Room} {s : State} {m : MethodId} {args : Array Value} {below : List Frame} {meth : Method} {c : Code} {H : Heap} {locs : List Loc} {cells slots : Nat} {Q : State → Prop}
variable {cc : ByteArray} {pc : Nat} {ls : Array Slot} {rest : List Value} {g : GT} {A : Nat → Prop} {ws : va_W}
theorem Ct.intro {y : MethodName} {wd wd' : List Cond} {rm : Room} {av : List Value} {W0 : va_W} {Post : Option Value → va_W → Prop} {maxL : Nat} {ret : Option FieldType} (hy : plainName y.cls = true) (hw : wd = Cond.code y cc maxL ret :: wd') (hlen : (lg_sl av).length ≤ maxL)
    (body : ∀ (p : Program) (e : Env) (s : State) (m : MethodId) (below : List Frame) (meth : Method) (c : Code) (A : Nat → Prop) (ls : Array Slot), p.tables.exec = Jvm.exec → c.code = cc → meth.sig.returnType = ret → c.maxLocals = maxL → s.vm.findClass y.cls = some m.cls → (∀ w ∈ wd, w.before av.toArray s = true) → meth.locks = false → meth.name = y.name → (∀ q, s.heap.size ≤ q → A q) → GG g A s → va_P g.1 vwCl W0 s.heap → va_D A W0 → va_S A s.heap s.heap [] → lv_has ls maxL (lv_args 0 av) →
      W p l e rm s m av.toArray below meth c s.heap [] 0 0 (MQ below (CQ g Post A) av.toArray s rm.cells rm.slots A) (F0 m 0 ls [])) : Ct l g y wd rm av W0 Post := by
  intro sz
  refine Met.ofW (cc := cc) (maxL := maxL) (ret := ret) hy hw ?_
  intro p e s m args below meth c s₁ B hml hv
  obtain ⟨rfl, hsz, hP, hG, hD0⟩ := hv
  have hts := atoms_spec (ws := wd) B.pre
  subst hsz
  have hD := hD0.self (sz := s.heap.size)
  have hl := lv_entry av (n := maxL) hlen
  rw [lg_entry_eq]
  exact body p e s m below meth c (va_A W0 s.heap.size) _ B.exec B.bytes B.returns hml (findClass_of_methodNamed B.named) hts B.notSynchronized (name_of_methodNamed B.named B.method).1 (fun q h => Or.inr h) hG hP hD va_S.rf hl
theorem Ct.go {rm : Room} {st0 : List Value} {a : Array Value} {Post : Option Value → va_W → Prop} {wc wr : va_W} (hr : va_Run p l e R s m args below meth c H locs cells slots rm.cells rm.slots (F0 m pc ls st0) rest (CQ g Post (va_A wc H.size) a) (va_A wc H.size))
    (hP : va_P g.1 vwCl ws H) (hD : va_D A ws) (hS : va_S A s.heap H locs) (hA : ∀ q, s.heap.size ≤ q → A q) (isC isR : List Nat) (hC : isC.map (fun i => ws[i]?) = wc.map some) (hR : isR.map (fun i => ws[i]?) = wr.map some) (hn : va_nd isR = true) (hdis : ∀ i ∈ isR, i ∉ isC)
    {c1 s1 : Nat} (hc1 : cells + rm.cells = c1) (hs1 : slots + rm.slots = s1) (kk : ∀ (v : Option Value) (w : va_W) (H1 : Heap) (locs1 : List Loc), Post v w → va_P g.1 vwCl (wr ++ w) H1 → va_D A (wr ++ w) → va_S A s.heap H1 locs1 → W p l e R s m args below meth c H1 locs1 c1 s1 Q (F0 m (pc + 3) ls (v.toList ++ rest))) : W p l e R s m args below meth c H locs cells slots Q (F0 m pc ls st0) := by
  have hFc := va_free hD hS hA isC hC
  subst hc1
  subst hs1
  intro T hT X
  obtain ⟨v, st₀, t, T', L, h0, X', hL, e1, e2, ⟨⟨v', w, hv, hpost, hP1, hD1⟩, hz, hk⟩, st⟩ := hr T hT X
  cases hv
  rw [h0] at hz hk
  have hk' : ∀ q : Nat, q < H.size → ¬ va_A wc H.size q → T'.heap[q]? = H[q]? := fun q h1 h2 => by rw [e1]; exact hk q h1 h2
  obtain ⟨hPj, hDj⟩ := va_join hP hD isC isR hC hR hn hdis hk' hFc (by rw [e1]; exact hP1) hD1
  obtain ⟨t2, a1, b1⟩ := kk v w T'.heap (locs ++ L) hpost hPj hDj
    ⟨Nat.le_trans hS.1 (by rw [e1]; exact hz), fun q h1 h2 => by rw [hk' q (Nat.lt_of_lt_of_le h1 hS.1) (fun z => h2 (hFc q z))]; exact hS.2.1 q h1 h2, fun q hq => by
      rcases List.mem_append.mp hq with h | h
      · exact hS.2.2 q h
      · exact hFc _ (hL q h)⟩ T' rfl X'
  exact ⟨t2, st t2 a1, b1⟩
variable {y : MethodName} {bytes : ByteArray} {maxL nL n index : Nat} {ret : Option FieldType} {wd : List Cond} {rm : Room} {Ts : List Cond} {own : String} {As : List Value} {Post : Option Value → va_W → Prop} {wc wr : va_W} {st0 : List Value}
theorem Ct.callS (S : CallFix p m c cc nL s args Ts own) (hM : Ct l g y wd rm As wc Post) (cw : CallB R s args own index y bytes maxL ret wd rm rm.cells rm.slots n ∧ (Cond.static y).before args s = true)
    (hG : GG g A s) (hP : va_P g.1 vwCl ws H) (hD : va_D A ws) (hS : va_S A s.heap H locs) (hA : ∀ q, s.heap.size ≤ q → A q) (isC isR : List Nat) (hC : isC.map (fun i => ws[i]?) = wc.map some) (hR : isR.map (fun i => ws[i]?) = wr.map some) (hnC : va_nd isC = true) (hn : va_nd isR = true) (hdis : ∀ i ∈ isR, i ∉ isC)
    (hlen : As.length = n) (hl : ls.size = nL) (hst : st0 = As.reverse ++ rest) (hW : (rest.map fun v => v.category).sum ≤ 8) (hdg : decode cc pc = .ok (.invokestatic index, 3)) (hf : cells + rm.cells ≤ R.cells ∧ slots + rm.slots ≤ R.slots)
    {c1 s1 : Nat} (hc1 : cells + rm.cells = c1) (hs1 : slots + rm.slots = s1) (kk : ∀ (v : Option Value) (w : va_W) (H1 : Heap) (locs1 : List Loc), Post v w → va_P g.1 vwCl (wr ++ w) H1 → va_D A (wr ++ w) → va_S A s.heap H1 locs1 → W p l e R s m args below meth c H1 locs1 c1 s1 Q (F0 m (pc + 3) ls (v.toList ++ rest))) : W p l e R s m args below meth c H locs cells slots Q (F0 m pc ls st0) :=
  Ct.go (va_runS S (hM H.size) cw (CP.pre hG hP hD hS hA isC hnC hC) rfl hlen hl hst (lv_room hW) hdg hf) hP hD hS hA isC isR hC hR hn hdis hc1 hs1 kk
theorem Ct.callSN (S : CallFix p m c cc nL s args Ts own) (hM : Ct l g y wd rm As wc Post) (cw : va_CN R s args own index y "LessonDesk" bytes maxL ret wd rm rm.cells rm.slots n ∧ (Cond.static y).before args s = true ∧ True)
    (hG : GG g A s) (hP : va_P g.1 vwCl ws H) (hD : va_D A ws) (hS : va_S A s.heap H locs) (hA : ∀ q, s.heap.size ≤ q → A q) (isC isR : List Nat) (hC : isC.map (fun i => ws[i]?) = wc.map some) (hR : isR.map (fun i => ws[i]?) = wr.map some) (hnC : va_nd isC = true) (hn : va_nd isR = true) (hdis : ∀ i ∈ isR, i ∉ isC)
    (hlen : As.length = n) (hl : ls.size = nL) (hst : st0 = As.reverse ++ rest) (hW : (rest.map fun v => v.category).sum ≤ 8) (hdg : decode cc pc = .ok (.invokestatic index, 3)) (hf : cells + rm.cells ≤ R.cells ∧ slots + rm.slots ≤ R.slots)
    {c1 s1 : Nat} (hc1 : cells + rm.cells = c1) (hs1 : slots + rm.slots = s1) (kk : ∀ (v : Option Value) (w : va_W) (H1 : Heap) (locs1 : List Loc), Post v w → va_P g.1 vwCl (wr ++ w) H1 → va_D A (wr ++ w) → va_S A s.heap H1 locs1 → W p l e R s m args below meth c H1 locs1 c1 s1 Q (F0 m (pc + 3) ls (v.toList ++ rest))) : W p l e R s m args below meth c H locs cells slots Q (F0 m pc ls st0) :=
  Ct.go (va_runSN S (hM H.size) cw (CP.pre hG hP hD hS hA isC hnC hC) rfl hlen hl hst (lv_room hW) hdg hf) hP hD hS hA isC isR hC hR hn hdis hc1 hs1 kk
theorem CP.preV {ci q0 : Nat} {b : Addr} {qc : vw_C} {fs : List Value} (hG : GG g A s) (hP : va_P g.1 vwCl ws H) (hD : va_D A ws) (hS : va_S A s.heap H locs) (hA : ∀ q, s.heap.size ≤ q → A q) (isC : List Nat) (hnC : va_nd isC = true) (hC : isC.map (fun i => ws[i]?) = wc.map some) (hci : vwCl[ci]? = some qc) (hq : ws[q0]? = some (b, .inr (ci, fs))) : PreV s H qc.1 b (CP g (.ref b :: As) wc H.size) As := by
  obtain ⟨h1, h2⟩ := CP.pre (As := .ref b :: As) hG hP hD hS hA isC hnC hC
  exact ⟨h1, va_recv hG.1 hP hci hq, h2⟩
theorem Ct.callV {ci q0 : Nat} {b : Addr} {qc : vw_C} {fs : List Value} (S : CallFix p m c cc nL s args Ts own) (hM : Ct l g y wd rm (.ref b :: As) wc Post) (hci : vwCl[ci]? = some qc) (hq : ws[q0]? = some (b, .inr (ci, fs))) (cw : CallW R s args own qc.1 index y bytes maxL ret wd rm rm.cells rm.slots n)
    (hG : GG g A s) (hP : va_P g.1 vwCl ws H) (hD : va_D A ws) (hS : va_S A s.heap H locs) (hA : ∀ q, s.heap.size ≤ q → A q) (isC isR : List Nat) (hC : isC.map (fun i => ws[i]?) = wc.map some) (hR : isR.map (fun i => ws[i]?) = wr.map some) (hnC : va_nd isC = true) (hn : va_nd isR = true) (hdis : ∀ i ∈ isR, i ∉ isC)
    (hlen : As.length = n) (hl : ls.size = nL) (hst : st0 = As.reverse ++ .ref b :: rest) (hW : (rest.map fun v => v.category).sum ≤ 8) (hdg : decode cc pc = .ok (.invokevirtual index, 3)) (hf : cells + rm.cells ≤ R.cells ∧ slots + rm.slots ≤ R.slots)
    {c1 s1 : Nat} (hc1 : cells + rm.cells = c1) (hs1 : slots + rm.slots = s1) (kk : ∀ (v : Option Value) (w : va_W) (H1 : Heap) (locs1 : List Loc), Post v w → va_P g.1 vwCl (wr ++ w) H1 → va_D A (wr ++ w) → va_S A s.heap H1 locs1 → W p l e R s m args below meth c H1 locs1 c1 s1 Q (F0 m (pc + 3) ls (v.toList ++ rest))) : W p l e R s m args below meth c H locs cells slots Q (F0 m pc ls st0) :=
  Ct.go (va_runV S (hM H.size) cw (CP.preV hG hP hD hS hA isC hnC hC hci hq) rfl hlen hl hst (lv_room hW) hdg hf) hP hD hS hA isC isR hC hR hn hdis hc1 hs1 kk
theorem Ct.callVN {ci q0 : Nat} {b : Addr} {qc : vw_C} {fs : List Value} (S : CallFix p m c cc nL s args Ts own) (hM : Ct l g y wd rm (.ref b :: As) wc Post) (hci : vwCl[ci]? = some qc) (hq : ws[q0]? = some (b, .inr (ci, fs))) (cw : va_CN R s args own index y "LessonDesk" bytes maxL ret wd rm rm.cells rm.slots n ∧ (Cond.instanceMethod y).before args s = true ∧ (Cond.selects qc.1 y y).before args s = true)
    (hG : GG g A s) (hP : va_P g.1 vwCl ws H) (hD : va_D A ws) (hS : va_S A s.heap H locs) (hA : ∀ q, s.heap.size ≤ q → A q) (isC isR : List Nat) (hC : isC.map (fun i => ws[i]?) = wc.map some) (hR : isR.map (fun i => ws[i]?) = wr.map some) (hnC : va_nd isC = true) (hn : va_nd isR = true) (hdis : ∀ i ∈ isR, i ∉ isC)
    (hlen : As.length = n) (hl : ls.size = nL) (hst : st0 = As.reverse ++ .ref b :: rest) (hW : (rest.map fun v => v.category).sum ≤ 8) (hdg : decode cc pc = .ok (.invokevirtual index, 3)) (hf : cells + rm.cells ≤ R.cells ∧ slots + rm.slots ≤ R.slots)
    {c1 s1 : Nat} (hc1 : cells + rm.cells = c1) (hs1 : slots + rm.slots = s1) (kk : ∀ (v : Option Value) (w : va_W) (H1 : Heap) (locs1 : List Loc), Post v w → va_P g.1 vwCl (wr ++ w) H1 → va_D A (wr ++ w) → va_S A s.heap H1 locs1 → W p l e R s m args below meth c H1 locs1 c1 s1 Q (F0 m (pc + 3) ls (v.toList ++ rest))) : W p l e R s m args below meth c H locs cells slots Q (F0 m pc ls st0) :=
  Ct.go (va_runVN S (hM H.size) cw (CP.preV hG hP hD hS hA isC hnC hC hci hq) rfl hlen hl hst (lv_room hW) hdg hf) hP hD hS hA isC isR hC hR hn hdis hc1 hs1 kk
theorem Ct.callI {b : Addr} (S : CallFix p m c cc nL s args Ts own) (hM : Ct l g y wd rm (.ref b :: As) wc Post) (cw : CallB R s args own index y bytes maxL none wd rm rm.cells rm.slots n ∧ y.name = "<init>" ∧ (Cond.instanceMethod y).before args s = true)
    (hG : GG g A s) (hP : va_P g.1 vwCl ws H) (hD : va_D A ws) (hS : va_S A s.heap H locs) (hA : ∀ q, s.heap.size ≤ q → A q) (isC isR : List Nat) (hC : isC.map (fun i => ws[i]?) = wc.map some) (hR : isR.map (fun i => ws[i]?) = wr.map some) (hnC : va_nd isC = true) (hn : va_nd isR = true) (hdis : ∀ i ∈ isR, i ∉ isC)
    (hlen : As.length = n) (hl : ls.size = nL) (hst : st0 = As.reverse ++ .ref b :: rest) (hW : (rest.map fun v => v.category).sum ≤ 8) (hdg : decode cc pc = .ok (.invokespecial index, 3)) (hf : cells + rm.cells ≤ R.cells ∧ slots + rm.slots ≤ R.slots)
    {c1 s1 : Nat} (hc1 : cells + rm.cells = c1) (hs1 : slots + rm.slots = s1) (kk : ∀ (v : Option Value) (w : va_W) (H1 : Heap) (locs1 : List Loc), Post v w → va_P g.1 vwCl (wr ++ w) H1 → va_D A (wr ++ w) → va_S A s.heap H1 locs1 → W p l e R s m args below meth c H1 locs1 c1 s1 Q (F0 m (pc + 3) ls (v.toList ++ rest))) : W p l e R s m args below meth c H locs cells slots Q (F0 m pc ls st0) :=
  Ct.go (va_runI S (hM H.size) cw (CP.pre hG hP hD hS hA isC hnC hC) rfl hlen hl hst (lv_room hW) hdg hf) hP hD hS hA isC isR hC hR hn hdis hc1 hs1 kk
theorem Ct.callIN {b : Addr} (S : CallFix p m c cc nL s args Ts own) (hM : Ct l g y wd rm (.ref b :: As) wc Post) (cw : va_CN R s args own index y "LessonDesk" bytes maxL none wd rm rm.cells rm.slots n ∧ y.name = "<init>" ∧ (Cond.instanceMethod y).before args s = true)
    (hG : GG g A s) (hP : va_P g.1 vwCl ws H) (hD : va_D A ws) (hS : va_S A s.heap H locs) (hA : ∀ q, s.heap.size ≤ q → A q) (isC isR : List Nat) (hC : isC.map (fun i => ws[i]?) = wc.map some) (hR : isR.map (fun i => ws[i]?) = wr.map some) (hnC : va_nd isC = true) (hn : va_nd isR = true) (hdis : ∀ i ∈ isR, i ∉ isC)
    (hlen : As.length = n) (hl : ls.size = nL) (hst : st0 = As.reverse ++ .ref b :: rest) (hW : (rest.map fun v => v.category).sum ≤ 8) (hdg : decode cc pc = .ok (.invokespecial index, 3)) (hf : cells + rm.cells ≤ R.cells ∧ slots + rm.slots ≤ R.slots)
    {c1 s1 : Nat} (hc1 : cells + rm.cells = c1) (hs1 : slots + rm.slots = s1) (kk : ∀ (v : Option Value) (w : va_W) (H1 : Heap) (locs1 : List Loc), Post v w → va_P g.1 vwCl (wr ++ w) H1 → va_D A (wr ++ w) → va_S A s.heap H1 locs1 → W p l e R s m args below meth c H1 locs1 c1 s1 Q (F0 m (pc + 3) ls (v.toList ++ rest))) : W p l e R s m args below meth c H locs cells slots Q (F0 m pc ls st0) :=
  Ct.go (va_runIN S (hM H.size) cw (CP.pre hG hP hD hS hA isC hnC hC) rfl hlen hl hst (lv_room hW) hdg hf) hP hD hS hA isC isR hC hR hn hdis hc1 hs1 kk
/-! returns -/
theorem Ct.iret {v : Int32} {mc ms : Nat} (hx : p.tables.exec = Jvm.exec) (hb : c.code = cc) (hr : meth.sig.returnType = some .int) (hlocks : meth.locks = false) (hP : va_P g.1 vwCl ws H) (hD : va_D A ws) (hS : va_S A s.heap H locs) (hc : cells ≤ mc ∧ slots ≤ ms) (hdg : decode cc pc = .ok (.ireturn, 1)) (hpost : Post (some (.int v)) ws) : W p l e R s m args below meth c H locs cells slots (MQ below (CQ g Post A) args s mc ms A) (F0 m pc ls [.int v]) :=
  W.widen hc.1 hc.2 (W.iret hx hb hr (fun t ht _ => ⟨⟨_, ws, rfl, hpost, by rw [ht]; exact hP, hD⟩, hS.F ht⟩) hS.2.2 hdg hlocks)
theorem Ct.zret {v : Int32} {mc ms : Nat} (hx : p.tables.exec = Jvm.exec) (hb : c.code = cc) (hr : meth.sig.returnType = some .boolean) (hlocks : meth.locks = false) (hP : va_P g.1 vwCl ws H) (hD : va_D A ws) (hS : va_S A s.heap H locs) (hc : cells ≤ mc ∧ slots ≤ ms) (hdg : decode cc pc = .ok (.ireturn, 1)) (hv : narrow .boolean (.int v) = .int v) (hpost : Post (some (.int v)) ws) : W p l e R s m args below meth c H locs cells slots (MQ below (CQ g Post A) args s mc ms A) (F0 m pc ls [.int v]) :=
  W.widen hc.1 hc.2 (W.zret hx hb hr hv (fun t ht _ => ⟨⟨_, ws, rfl, hpost, by rw [ht]; exact hP, hD⟩, hS.F ht⟩) hS.2.2 hdg hlocks)
theorem Ct.vret {mc ms : Nat} (hx : p.tables.exec = Jvm.exec) (hb : c.code = cc) (hr : meth.sig.returnType = none) (hlocks : meth.locks = false) (hP : va_P g.1 vwCl ws H) (hD : va_D A ws) (hS : va_S A s.heap H locs) (hc : cells ≤ mc ∧ slots ≤ ms) (hdg : decode cc pc = .ok (.return_, 1)) (hpost : Post none ws) : W p l e R s m args below meth c H locs cells slots (MQ below (CQ g Post A) args s mc ms A) (F0 m pc ls []) :=
  W.widen hc.1 hc.2 (W.vret hx hb hr (fun t ht _ => ⟨⟨_, ws, rfl, hpost, by rw [ht]; exact hP, hD⟩, hS.F ht⟩) hS.2.2 hdg hlocks)
theorem Ct.aret {v : Value} {rt : String} {mc ms : Nat} (hx : p.tables.exec = Jvm.exec) (hb : c.code = cc) (hr : meth.sig.returnType = some (.object rt)) (hlocks : meth.locks = false) (hP : va_P g.1 vwCl ws H) (hD : va_D A ws) (hS : va_S A s.heap H locs) (hc : cells ≤ mc ∧ slots ≤ ms) (hdg : decode cc pc = .ok (.areturn, 1)) (hv : v = .null ∨ ∃ a, v = .ref a) (hpost : Post (some v) ws) : W p l e R s m args below meth c H locs cells slots (MQ below (CQ g Post A) args s mc ms A) (F0 m pc ls [v]) :=
  W.widen hc.1 hc.2 (W.aret hx hb hr (Or.inl ⟨_, rfl⟩) hv (fun t ht _ => ⟨⟨_, ws, rfl, hpost, by rw [ht]; exact hP, hD⟩, hS.F ht⟩) hS.2.2 hdg hlocks)
theorem Ct.lret {v : Int64} {mc ms : Nat} (hx : p.tables.exec = Jvm.exec) (hb : c.code = cc) (hr : meth.sig.returnType = some .long) (hlocks : meth.locks = false) (hP : va_P g.1 vwCl ws H) (hD : va_D A ws) (hS : va_S A s.heap H locs) (hc : cells ≤ mc ∧ slots ≤ ms) (hdg : decode cc pc = .ok (.lreturn, 1)) (hpost : Post (some (.long v)) ws) : W p l e R s m args below meth c H locs cells slots (MQ below (CQ g Post A) args s mc ms A) (F0 m pc ls [.long v]) :=
  W.widen hc.1 hc.2 (W.lret hx hb hr (fun t ht _ => ⟨⟨_, ws, rfl, hpost, by rw [ht]; exact hP, hD⟩, hS.F ht⟩) hS.2.2 hdg hlocks)
/-! arrays of whole numbers as functions to the integers -/
abbrev aI (c : ClassId) (n : Nat) (f : Nat → Int) : va_E := .inl (c, n, .inl (fun j => iI (f j)))
abbrev aQ (c : ClassId) (n : Nat) (f : Nat → Option Nat) : va_E := .inl (c, n, .inr (.inr (.inr (.inr f))))
theorem up_iI (f : Nat → Int) (k : Nat) (v : Int) : upd (fun j => iI (f j)) k (iI v) = fun j => iI (va_up f k v j) := by
  funext j
  unfold upd va_up
  by_cases h : j = k
  · simp [h]
  · simp [h]
theorem iv_ix {z : Int} {n k : Nat} (hz : z = (k : Int)) (hk : k < n) (hn : n < 2147483648) : vp_in (iI z) n ∧ (iI z).toNatClampNeg = k := by
  subst hz
  exact ⟨iI_in (by omega) hn, by rw [iI_clamp (by omega)]; rfl⟩
variable {a : Nat}
theorem iv_iald (hx : p.tables.exec = Jvm.exec) (hb : c.code = cc) (hG : GG g A s) (hP : va_P g.1 vwCl ws H) (q0 : Nat) {n : Nat} {f : Nat → Int} (ha : ws[q0]? = some (a, aI (g.2.1 0) n f)) {z : Int} (k : Nat) (hz : z = (k : Int)) (hk : k < n) (hn : n < 2147483648) (hdg : decode cc pc = .ok (.iaload, 1))
    (kk : W p l e R s m args below meth c H locs cells slots Q (F0 m (pc + 1) ls (.int (iI (f k)) :: rest))) : W p l e R s m args below meth c H locs cells slots Q (F0 m pc ls (.int (iI z) :: .ref a :: rest)) := by
  obtain ⟨h1, h2⟩ := iv_ix hz hk hn
  refine va_iald hx hb hG.1 hP q0 0 ha rfl h1 hdg ?_
  rw [h2]
  exact kk
theorem iv_zald (hx : p.tables.exec = Jvm.exec) (hb : c.code = cc) (hG : GG g A s) (hP : va_P g.1 vwCl ws H) (q0 : Nat) {n : Nat} {f : Nat → Int} (ha : ws[q0]? = some (a, aI (g.2.1 1) n f)) {z : Int} (k : Nat) (hz : z = (k : Int)) (hk : k < n) (hn : n < 2147483648) (hdg : decode cc pc = .ok (.baload, 1))
    (kk : W p l e R s m args below meth c H locs cells slots Q (F0 m (pc + 1) ls (.int (iI (f k)) :: rest))) : W p l e R s m args below meth c H locs cells slots Q (F0 m pc ls (.int (iI z) :: .ref a :: rest)) := by
  obtain ⟨h1, h2⟩ := iv_ix hz hk hn
  refine va_zald hx hb hG.1 hP q0 1 ha rfl h1 hdg ?_
  rw [h2]
  exact kk
theorem iv_bald (hx : p.tables.exec = Jvm.exec) (hb : c.code = cc) (hG : GG g A s) (hP : va_P g.1 vwCl ws H) (q0 : Nat) {n : Nat} {f : Nat → Int} (ha : ws[q0]? = some (a, aI (g.2.1 2) n f)) {z : Int} (k : Nat) (hz : z = (k : Int)) (hk : k < n) (hn : n < 2147483648) (hdg : decode cc pc = .ok (.baload, 1))
    (kk : W p l e R s m args below meth c H locs cells slots Q (F0 m (pc + 1) ls (.int (iI (f k)) :: rest))) : W p l e R s m args below meth c H locs cells slots Q (F0 m pc ls (.int (iI z) :: .ref a :: rest)) := by
  obtain ⟨h1, h2⟩ := iv_ix hz hk hn
  refine va_bald hx hb hG.1 hP q0 2 ha rfl h1 hdg ?_
  rw [h2]
  exact kk
theorem iv_iast (hx : p.tables.exec = Jvm.exec) (hb : c.code = cc) (hG : GG g A s) (hP : va_P g.1 vwCl ws H) (hD : va_D A ws) (hS : va_S A s.heap H locs) (q0 : Nat) {n : Nat} {f : Nat → Int} (ha : ws[q0]? = some (a, aI (g.2.1 0) n f)) {z v : Int} (k : Nat) (hz : z = (k : Int)) (hk : k < n) (hn : n < 2147483648) (hdg : decode cc pc = .ok (.iastore, 1))
    (kk : ∀ (H1 : Heap) (locs1 : List Loc), va_P g.1 vwCl (ws.set q0 (a, aI (g.2.1 0) n (va_up f k v))) H1 → va_D A (ws.set q0 (a, aI (g.2.1 0) n (va_up f k v))) → va_S A s.heap H1 locs1 → W p l e R s m args below meth c H1 locs1 cells slots Q (F0 m (pc + 1) ls rest)) : W p l e R s m args below meth c H locs cells slots Q (F0 m pc ls (.int (iI v) :: .int (iI z) :: .ref a :: rest)) := by
  obtain ⟨h1, h2⟩ := iv_ix hz hk hn
  refine va_iast hx hb hG.1 hP hD hS q0 0 ha rfl h1 hdg ?_
  rw [h2, up_iI]
  exact kk
theorem iv_zast (hx : p.tables.exec = Jvm.exec) (hb : c.code = cc) (hG : GG g A s) (hP : va_P g.1 vwCl ws H) (hD : va_D A ws) (hS : va_S A s.heap H locs) (q0 : Nat) {n : Nat} {f : Nat → Int} (ha : ws[q0]? = some (a, aI (g.2.1 1) n f)) {z v : Int} (k : Nat) (hz : z = (k : Int)) (hk : k < n) (hn : n < 2147483648) (hv : v = 0 ∨ v = 1) (hdg : decode cc pc = .ok (.bastore, 1))
    (kk : ∀ (H1 : Heap) (locs1 : List Loc), va_P g.1 vwCl (ws.set q0 (a, aI (g.2.1 1) n (va_up f k v))) H1 → va_D A (ws.set q0 (a, aI (g.2.1 1) n (va_up f k v))) → va_S A s.heap H1 locs1 → W p l e R s m args below meth c H1 locs1 cells slots Q (F0 m (pc + 1) ls rest)) : W p l e R s m args below meth c H locs cells slots Q (F0 m pc ls (.int (iI v) :: .int (iI z) :: .ref a :: rest)) := by
  obtain ⟨h1, h2⟩ := iv_ix hz hk hn
  refine va_zast hx hb hG.1 hP hD hS q0 1 ha rfl h1 hdg ?_
  have h3 : vp_nar .boolean (iI v) = iI v := by rcases hv with rfl | rfl <;> decide
  rw [h2, h3, up_iI]
  exact kk
theorem iv_bast (hx : p.tables.exec = Jvm.exec) (hb : c.code = cc) (hG : GG g A s) (hP : va_P g.1 vwCl ws H) (hD : va_D A ws) (hS : va_S A s.heap H locs) (q0 : Nat) {n : Nat} {f : Nat → Int} (ha : ws[q0]? = some (a, aI (g.2.1 2) n f)) {z v : Int} (k : Nat) (hz : z = (k : Int)) (hk : k < n) (hn : n < 2147483648) (hv : vp_nar .byte (iI v) = iI v) (hdg : decode cc pc = .ok (.bastore, 1))
    (kk : ∀ (H1 : Heap) (locs1 : List Loc), va_P g.1 vwCl (ws.set q0 (a, aI (g.2.1 2) n (va_up f k v))) H1 → va_D A (ws.set q0 (a, aI (g.2.1 2) n (va_up f k v))) → va_S A s.heap H1 locs1 → W p l e R s m args below meth c H1 locs1 cells slots Q (F0 m (pc + 1) ls rest)) : W p l e R s m args below meth c H locs cells slots Q (F0 m pc ls (.int (iI v) :: .int (iI z) :: .ref a :: rest)) := by
  obtain ⟨h1, h2⟩ := iv_ix hz hk hn
  refine va_bast hx hb hG.1 hP hD hS q0 2 ha rfl h1 hdg ?_
  rw [h2, hv, up_iI]
  exact kk
theorem iv_aald (hx : p.tables.exec = Jvm.exec) (hb : c.code = cc) (hG : GG g A s) (hP : va_P g.1 vwCl ws H) (q0 t0 : Nat) {cA : ClassId} {C : String} {n : Nat} {f : Nat → Option Nat} (ha : ws[q0]? = some (a, aQ cA n f)) (ht : (TY g)[t0]? = some (cA, .object C)) {z : Int} (k : Nat) (hz : z = (k : Int)) (hk : k < n) (hn : n < 2147483648) (hdg : decode cc pc = .ok (.aaload, 1))
    (kk : W p l e R s m args below meth c H locs cells slots Q (F0 m (pc + 1) ls (va_rf (f k) :: rest))) : W p l e R s m args below meth c H locs cells slots Q (F0 m pc ls (.int (iI z) :: .ref a :: rest)) := by
  obtain ⟨h1, h2⟩ := iv_ix hz hk hn
  refine va_aldq hx hb hG.1 hP q0 t0 ha ht h1 hdg ?_
  rw [h2]
  exact kk
theorem iv_alen (hx : p.tables.exec = Jvm.exec) (hb : c.code = cc) (hG : GG g A s) (hP : va_P g.1 vwCl ws H) (q0 t0 : Nat) {cA : ClassId} {x : vp_A} (ha : ws[q0]? = some (a, .inl (cA, x))) {ty : FieldType} (ht : (TY g)[t0]? = some (cA, ty)) (hdg : decode cc pc = .ok (.arraylength, 1))
    (kk : W p l e R s m args below meth c H locs cells slots Q (F0 m (pc + 1) ls (.int (iI (x.1 : Int)) :: rest))) : W p l e R s m args below meth c H locs cells slots Q (F0 m pc ls (.ref a :: rest)) :=
  va_alen hx hb hG.1 hP q0 t0 ha ht (ofNat_iI x.1) hdg kk
/-! static tables -/
theorem iv_tld {nm : String} {t N : Nat} {f : Nat → Int} (hx : p.tables.exec = Jvm.exec) (hb : c.code = cc) (hT : ST1 nm t N f A s s.heap) (hS : va_S A s.heap H locs) {z : Int} (k : Nat) (hz : z = (k : Int)) (hk : k < N) (hn : N < 2147483648) (hdg : decode cc pc = .ok (.iaload, 1))
    (kk : W p l e R s m args below meth c H locs cells slots Q (F0 m (pc + 1) ls (.int (iI (f k)) :: rest))) : W p l e R s m args below meth c H locs cells slots Q (F0 m pc ls (.int (iI z) :: .ref t :: rest)) := by
  obtain ⟨h1, h2⟩ := iv_ix hz hk hn
  exact va_ti hx hb hT.2 hS h1 (by rw [h2]) hdg kk
theorem iv_tlen {nm : String} {t N : Nat} {f : Nat → Int} (hx : p.tables.exec = Jvm.exec) (hb : c.code = cc) (hT : ST1 nm t N f A s s.heap) (hS : va_S A s.heap H locs) (hdg : decode cc pc = .ok (.arraylength, 1))
    (kk : W p l e R s m args below meth c H locs cells slots Q (F0 m (pc + 1) ls (.int (iI (N : Int)) :: rest))) : W p l e R s m args below meth c H locs cells slots Q (F0 m pc ls (.ref t :: rest)) := va_tlen hx hb hT.2 hS (ofNat_iI N) hdg kk
/-! Math -/
theorem iv_min {own : String} {index : Nat} (hx : p.tables.exec = Jvm.exec) (hb : c.code = cc) (hml : c.maxLocals = ls.size) (hown : s.vm.findClass own = some m.cls) (hlink : (Cond.methodLink own index Lib.Math.min.name).before args s = true) (hstat : (Cond.static Lib.Math.min.name).before args s = true) (hini : (Cond.initialized "java/lang/Math").before args s = true) (hcode : (Cond.code Lib.Math.min.name Lib.Math.min.code 2 (some .int)).before args s = true)
    (hframes : 1 ≤ R.frames) (hlocals : (rest.map fun v => v.category).sum + 13 ≤ R.locals) (hc : cells ≤ R.cells) (hs : slots ≤ R.slots) {x y : Int} (hr : -2147483648 ≤ x ∧ x < 2147483648 ∧ -2147483648 ≤ y ∧ y < 2147483648) (hdg : decode cc pc = .ok (.invokestatic index, 3))
    (kk : W p l e R s m args below meth c H locs cells slots Q (F0 m (pc + 3) ls (.int (iI (min x y)) :: rest))) : W p l e R s m args below meth c H locs cells slots Q (F0 m pc ls (.int (iI y) :: .int (iI x) :: rest)) := by
  refine va_mmin hx hb hml hown hlink hstat hini hcode hframes hlocals hc hs hdg ?_
  have h : (if iI y < iI x then iI y else iI x) = iI (min x y) := by
    simp only [iI_lt (a := y) (b := x) (by omega)]
    split
    · congr 1; omega
    · congr 1; omega
  rw [h]
  exact kk
theorem iv_max {own : String} {index : Nat} (hx : p.tables.exec = Jvm.exec) (hb : c.code = cc) (hml : c.maxLocals = ls.size) (hown : s.vm.findClass own = some m.cls) (hlink : (Cond.methodLink own index Lib.Math.max.name).before args s = true) (hstat : (Cond.static Lib.Math.max.name).before args s = true) (hini : (Cond.initialized "java/lang/Math").before args s = true) (hcode : (Cond.code Lib.Math.max.name Lib.Math.max.code 2 (some .int)).before args s = true)
    (hframes : 1 ≤ R.frames) (hlocals : (rest.map fun v => v.category).sum + 13 ≤ R.locals) (hc : cells ≤ R.cells) (hs : slots ≤ R.slots) {x y : Int} (hr : -2147483648 ≤ x ∧ x < 2147483648 ∧ -2147483648 ≤ y ∧ y < 2147483648) (hdg : decode cc pc = .ok (.invokestatic index, 3))
    (kk : W p l e R s m args below meth c H locs cells slots Q (F0 m (pc + 3) ls (.int (iI (max x y)) :: rest))) : W p l e R s m args below meth c H locs cells slots Q (F0 m pc ls (.int (iI y) :: .int (iI x) :: rest)) := by
  refine va_mmax hx hb hml hown hlink hstat hini hcode hframes hlocals hc hs hdg ?_
  have h : (if iI x < iI y then iI y else iI x) = iI (max x y) := by
    simp only [iI_lt (a := x) (b := y) (by omega)]
    split
    · congr 1; omega
    · congr 1; omega
  rw [h]
  exact kk
theorem iv_abs {own : String} {index : Nat} (hx : p.tables.exec = Jvm.exec) (hb : c.code = cc) (hml : c.maxLocals = ls.size) (hown : s.vm.findClass own = some m.cls) (hlink : (Cond.methodLink own index Lib.Math.abs.name).before args s = true) (hstat : (Cond.static Lib.Math.abs.name).before args s = true) (hini : (Cond.initialized "java/lang/Math").before args s = true) (hcode : (Cond.code Lib.Math.abs.name Lib.Math.abs.code 1 (some .int)).before args s = true)
    (hframes : 1 ≤ R.frames) (hlocals : (rest.map fun v => v.category).sum + 13 ≤ R.locals) (hc : cells ≤ R.cells) (hs : slots ≤ R.slots) {x : Int} (hr : -2147483648 ≤ x ∧ x < 2147483648) (hdg : decode cc pc = .ok (.invokestatic index, 3))
    (kk : W p l e R s m args below meth c H locs cells slots Q (F0 m (pc + 3) ls (.int (iI (x.natAbs : Int)) :: rest))) : W p l e R s m args below meth c H locs cells slots Q (F0 m pc ls (.int (iI x) :: rest)) := by
  refine va_mabs hx hb hml hown hlink hstat hini hcode hframes hlocals hc hs hdg ?_
  have h : (if 0 ≤ iI x then iI x else 0 - iI x) = iI (x.natAbs : Int) := by
    rw [show (0 : Int32) = iI 0 from iI_0.symm]
    simp only [iI_le (a := 0) (b := x) (by omega), iI_sub]
    split
    · congr 1; omega
    · congr 1; omega
  rw [h]
  exact kk
theorem iv_ldc {own : String} {index : Nat} {v : Int32} {z : Int} (hx : p.tables.exec = Jvm.exec) (hb : c.code = cc) (hown : s.vm.findClass own = some m.cls) (hconst : (Jvm.Cond.constant own index v).before args s = true) (hdg : decode cc pc = .ok (.ldc index, 2)) (hz : iI z = v) (k : W p l e R s m args below meth c H locs cells slots Q (F0 m (pc + 2) ls (.int (iI z) :: rest))) : W p l e R s m args below meth c H locs cells slots Q (F0 m pc ls rest) := lv_ldc hx hb hown hconst hdg (by rw [← hz]; exact k)
theorem iv_ldcw {own : String} {index : Nat} {v : Int32} {z : Int} (hx : p.tables.exec = Jvm.exec) (hb : c.code = cc) (hown : s.vm.findClass own = some m.cls) (hconst : (Jvm.Cond.constant own index v).before args s = true) (hdg : decode cc pc = .ok (.ldc_w index, 3)) (hz : iI z = v) (k : W p l e R s m args below meth c H locs cells slots Q (F0 m (pc + 3) ls (.int (iI z) :: rest))) : W p l e R s m args below meth c H locs cells slots Q (F0 m pc ls rest) := lv_ldcw hx hb hown hconst hdg (by rw [← hz]; exact k)
theorem iv_ldc2 {own : String} {index : Nat} {v : Int64} {z : Int} (hx : p.tables.exec = Jvm.exec) (hb : c.code = cc) (hown : s.vm.findClass own = some m.cls) (hconst : (Jvm.Cond.constantLong own index v).before args s = true) (hdg : decode cc pc = .ok (.ldc2_w index, 3)) (hz : lI z = v) (k : W p l e R s m args below meth c H locs cells slots Q (F0 m (pc + 3) ls (.long (lI z) :: rest))) : W p l e R s m args below meth c H locs cells slots Q (F0 m pc ls rest) := lv_ldc2 hx hb hown hconst hdg (by rw [← hz]; exact k)
theorem iv_iand {x y z : Int} (hx : p.tables.exec = Jvm.exec) (hb : c.code = cc) (hdg : decode cc pc = .ok (.iand, 1)) (hz : iI x &&& iI y = iI z) (k : W p l e R s m args below meth c H locs cells slots Q (F0 m (pc + 1) ls (.int (iI z) :: rest))) : W p l e R s m args below meth c H locs cells slots Q (F0 m pc ls (.int (iI y) :: .int (iI x) :: rest)) := lv_iand hx hb hdg (by rw [hz]; exact k)
theorem iv_ior {x y z : Int} (hx : p.tables.exec = Jvm.exec) (hb : c.code = cc) (hdg : decode cc pc = .ok (.ior, 1)) (hz : iI x ||| iI y = iI z) (k : W p l e R s m args below meth c H locs cells slots Q (F0 m (pc + 1) ls (.int (iI z) :: rest))) : W p l e R s m args below meth c H locs cells slots Q (F0 m pc ls (.int (iI y) :: .int (iI x) :: rest)) := lv_ior hx hb hdg (by rw [hz]; exact k)
theorem iv_ixor {x y z : Int} (hx : p.tables.exec = Jvm.exec) (hb : c.code = cc) (hdg : decode cc pc = .ok (.ixor, 1)) (hz : iI x ^^^ iI y = iI z) (k : W p l e R s m args below meth c H locs cells slots Q (F0 m (pc + 1) ls (.int (iI z) :: rest))) : W p l e R s m args below meth c H locs cells slots Q (F0 m pc ls (.int (iI y) :: .int (iI x) :: rest)) := lv_ixor hx hb hdg (by rw [hz]; exact k)
/-! new arrays -/
theorem GG.cls {t0 : Nat} {cA cB : ClassId} {ty : FieldType} (hK : va_K g.1 vwCl (TY g) s) (ht : (TY g)[t0]? = some (cB, ty)) (hty : ∀ C, ty ≠ .object C) (h : va_RA s cA ty) : cA = cB := by
  have h2 := (hK.2 t0 _ ht).2
  cases ty with
  | object C => exact absurd rfl (hty C)
  | _ => exact Option.some.inj (h.symm.trans h2)
theorem GG.clsq {t0 : Nat} {cA cB : ClassId} {C : String} (hK : va_K g.1 vwCl (TY g) s) (ht : (TY g)[t0]? = some (cB, .object C)) (h : va_RA s cA (.object C)) : cA = cB := by
  obtain ⟨_, _, _, _, _, h2⟩ := (hK.2 t0 _ ht).2
  obtain ⟨_, _, _, _, _, h3⟩ := h
  exact Option.some.inj (h3.symm.trans h2)
theorem iv_newai {N : Nat} (hx : p.tables.exec = Jvm.exec) (hb : c.code = cc) (harr : (Cond.arrayClass .int).before args s = true) (hG : GG g A s) (hP : va_P g.1 vwCl ws H) (hD : va_D A ws) (hS : va_S A s.heap H locs) (hA : ∀ q, s.heap.size ≤ q → A q) (hN : N < 100000) (hcells : cells + 1 ≤ R.cells) (hslots : slots + N ≤ R.slots) (hdg : decode cc pc = .ok (.newarray .int, 2))
    (kk : ∀ (q : Nat) (H1 : Heap), va_P g.1 vwCl (ws ++ [(q, aI (g.2.1 0) N (fun _ => 0))]) H1 → va_D A (ws ++ [(q, aI (g.2.1 0) N (fun _ => 0))]) → va_S A s.heap H1 locs → W p l e R s m args below meth c H1 locs (cells + 1) (slots + N) Q (F0 m (pc + 2) ls (.ref q :: rest))) : W p l e R s m args below meth c H locs cells slots Q (F0 m pc ls (.int (iI (N : Int)) :: rest)) := by
  refine va_newa (atype := .int) (ty := .int) (a0 := (N, .inl (fun _ => iI 0))) hx hb harr rfl hG.1 hP hD hS hA (fun cA => ?_) (fun h => absurd h (by rw [← iI_0, iI_lt (by omega)]; omega)) (by rw [iI_clamp (by omega)]; simp) (by simp [componentBytes]; omega) hcells hslots hdg (fun q cA H1 hK2 hP hD hS => ?_)
  · rw [vp_cell_i]; rfl
  · have e : cA = g.2.1 0 := GG.cls (t0 := 0) (ty := .int) hG.1 rfl (fun C h => by cases h) (hK2.2 5 (cA, .int) rfl).2
    subst e
    exact kk q H1 hP hD hS
theorem iv_newaz {N : Nat} (hx : p.tables.exec = Jvm.exec) (hb : c.code = cc) (harr : (Cond.arrayClass .boolean).before args s = true) (hG : GG g A s) (hP : va_P g.1 vwCl ws H) (hD : va_D A ws) (hS : va_S A s.heap H locs) (hA : ∀ q, s.heap.size ≤ q → A q) (hN : N < 100000) (hcells : cells + 1 ≤ R.cells) (hslots : slots + N ≤ R.slots) (hdg : decode cc pc = .ok (.newarray .boolean, 2))
    (kk : ∀ (q : Nat) (H1 : Heap), va_P g.1 vwCl (ws ++ [(q, aI (g.2.1 1) N (fun _ => 0))]) H1 → va_D A (ws ++ [(q, aI (g.2.1 1) N (fun _ => 0))]) → va_S A s.heap H1 locs → W p l e R s m args below meth c H1 locs (cells + 1) (slots + N) Q (F0 m (pc + 2) ls (.ref q :: rest))) : W p l e R s m args below meth c H locs cells slots Q (F0 m pc ls (.int (iI (N : Int)) :: rest)) := by
  refine va_newa (atype := .boolean) (ty := .boolean) (a0 := (N, .inl (fun _ => iI 0))) hx hb harr rfl hG.1 hP hD hS hA (fun cA => ?_) (fun h => absurd h (by rw [← iI_0, iI_lt (by omega)]; omega)) (by rw [iI_clamp (by omega)]; simp) (by simp [componentBytes]; omega) hcells hslots hdg (fun q cA H1 hK2 hP hD hS => ?_)
  · rw [vp_cell_i]; rfl
  · have e : cA = g.2.1 1 := GG.cls (t0 := 1) (ty := .boolean) hG.1 rfl (fun C h => by cases h) (hK2.2 5 (cA, .boolean) rfl).2
    subst e
    exact kk q H1 hP hD hS
theorem iv_newab {N : Nat} (hx : p.tables.exec = Jvm.exec) (hb : c.code = cc) (harr : (Cond.arrayClass .byte).before args s = true) (hG : GG g A s) (hP : va_P g.1 vwCl ws H) (hD : va_D A ws) (hS : va_S A s.heap H locs) (hA : ∀ q, s.heap.size ≤ q → A q) (hN : N < 100000) (hcells : cells + 1 ≤ R.cells) (hslots : slots + N ≤ R.slots) (hdg : decode cc pc = .ok (.newarray .byte, 2))
    (kk : ∀ (q : Nat) (H1 : Heap), va_P g.1 vwCl (ws ++ [(q, aI (g.2.1 2) N (fun _ => 0))]) H1 → va_D A (ws ++ [(q, aI (g.2.1 2) N (fun _ => 0))]) → va_S A s.heap H1 locs → W p l e R s m args below meth c H1 locs (cells + 1) (slots + N) Q (F0 m (pc + 2) ls (.ref q :: rest))) : W p l e R s m args below meth c H locs cells slots Q (F0 m pc ls (.int (iI (N : Int)) :: rest)) := by
  refine va_newa (atype := .byte) (ty := .byte) (a0 := (N, .inl (fun _ => iI 0))) hx hb harr rfl hG.1 hP hD hS hA (fun cA => ?_) (fun h => absurd h (by rw [← iI_0, iI_lt (by omega)]; omega)) (by rw [iI_clamp (by omega)]; simp) (by simp [componentBytes]; omega) hcells hslots hdg (fun q cA H1 hK2 hP hD hS => ?_)
  · rw [vp_cell_i]; rfl
  · have e : cA = g.2.1 2 := GG.cls (t0 := 2) (ty := .byte) hG.1 rfl (fun C h => by cases h) (hK2.2 5 (cA, .byte) rfl).2
    subst e
    exact kk q H1 hP hD hS
theorem iv_newq {N t0 : Nat} {own C : String} {index : Nat} {cB : ClassId} (hx : p.tables.exec = Jvm.exec) (hb : c.code = cc) (hown : s.vm.findClass own = some m.cls) (hcl : (Cond.classLink own index C).before args s = true) (hover : va_AO C s) (ht : (TY g)[t0]? = some (cB, .object C)) (hG : GG g A s) (hP : va_P g.1 vwCl ws H) (hD : va_D A ws) (hS : va_S A s.heap H locs) (hA : ∀ q, s.heap.size ≤ q → A q) (hN : N < 100000) (hcells : cells + 1 ≤ R.cells) (hslots : slots + N ≤ R.slots) (hdg : decode cc pc = .ok (.anewarray index, 3))
    (kk : ∀ (q : Nat) (H1 : Heap), va_P g.1 vwCl (ws ++ [(q, aQ cB N (fun _ => none))]) H1 → va_D A (ws ++ [(q, aQ cB N (fun _ => none))]) → va_S A s.heap H1 locs → W p l e R s m args below meth c H1 locs (cells + 1) (slots + N) Q (F0 m (pc + 3) ls (.ref q :: rest))) : W p l e R s m args below meth c H locs cells slots Q (F0 m pc ls (.int (iI (N : Int)) :: rest)) := by
  refine va_newq hx hb hown hcl hover hG.1 hP hD hS hA (fun h => absurd h (by rw [← iI_0, iI_lt (by omega)]; omega)) (N' := N) (by rw [iI_clamp (by omega)]; simp) (by omega) hcells hslots hdg (fun q cA H1 hK2 hP hD hS => ?_)
  have e : cA = cB := GG.clsq (t0 := t0) hG.1 ht (hK2.2 5 (cA, .object C) rfl).2
  subst e
  exact kk q H1 hP hD hS
theorem iv_aast (hx : p.tables.exec = Jvm.exec) (hb : c.code = cc) (hG : GG g A s) (hP : va_P g.1 vwCl ws H) (hD : va_D A ws) (hS : va_S A s.heap H locs) (q0 t0 qk ci : Nat) {cA : ClassId} {r : vw_C} {n v : Nat} {vs : List Value} {f : Nat → Option Nat} (ha : ws[q0]? = some (a, aQ cA n f)) (ht : (TY g)[t0]? = some (cA, .object r.1)) (hv : ws[qk]? = some (v, .inr (ci, vs))) (hc : vwCl[ci]? = some r) {z : Int} (k : Nat) (hz : z = (k : Int)) (hk : k < n) (hn : n < 2147483648) (hdg : decode cc pc = .ok (.aastore, 1))
    (kk : ∀ (H1 : Heap) (locs1 : List Loc), va_P g.1 vwCl (ws.set q0 (a, aQ cA n (va_up f k (some v)))) H1 → va_D A (ws.set q0 (a, aQ cA n (va_up f k (some v)))) → va_S A s.heap H1 locs1 → W p l e R s m args below meth c H1 locs1 cells slots Q (F0 m (pc + 1) ls rest)) : W p l e R s m args below meth c H locs cells slots Q (F0 m pc ls (.ref v :: .int (iI z) :: .ref a :: rest)) := by
  obtain ⟨h1, h2⟩ := iv_ix hz hk hn
  refine va_astq hx hb hG.1 hP hD hS q0 t0 qk ci ha ht hv hc h1 hdg ?_
  rw [h2]
  exact kk
end CT
