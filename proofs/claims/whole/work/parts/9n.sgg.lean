def R_law : String := "LessonDeskLaw"
def lw_P (b : Addr) (xs : List Int32) (args : Array Value) (s : State) : Prop := args = #[.ref b] ∧ s.IntsAt b xs ∧ xs.length ≤ 3072 ∧ (Jvm.Cond.and given_1 narrow_1).before args s = true
def lw_Q (_ : Array Value) (s : State) (o : Outcome) (t : State) : Prop := o = .returned (some (.int 1)) ∧ Framed s o t [] 600000 7302250
def lw_Z (below : List Frame) (a : Array Value) (s : State) : State → Prop := fun t => ∃ o, t.status = .running ∧ Ended t below o ∧ lw_Q a s o t
/-- the law's own end, with 1 on the stack, nothing written that was there before, its room as the claim has it -/
theorem lw_ret {p : Program} {l : Launch} {e : Env} {s : State} {m : MethodId} {below : List Frame} {meth : Method} {c : Code} {b : Nat} (hx : p.tables.exec = Jvm.exec) (hb : c.code = code) (hr : meth.sig.returnType = ret) (hlocks : meth.locks = false) {pc : Nat} {H : Heap} {ls : Array Slot} (hdg : decode code pc = .ok (.ireturn, 1)) : W p l e room_1 s m #[Value.ref b] below meth c H [] 600000 7302250 (lw_Z below #[Value.ref b] s) (F0 m pc ls [.int 1]) := by
  intro T hT X
  obtain ⟨fs, hret, hrun, hended, hW, hframe⟩ := X.leave (v := some (.int 1)) (hlocks := hlocks) (fun h => by rw [hr] at h; cases h)
  have hmeth' : T.vm.method? m = some meth := X.method'
  refine ⟨T.setFrames fs, ?_, .returned (some (.int 1)), hrun, hended, rfl, ⟨_, rfl⟩, hW, hframe⟩
  jvm_step X.here [X.here.top, hx, hb, hdg, hmeth', hr, ret, narrow_b1]
  (try refine ⟨rfl, ?_⟩); (try refine ⟨rfl, ?_⟩)
  first | (intro acts; rw [hret _ acts rfl rfl rfl]) | rw [hret _ _ rfl rfl rfl]
  exact Steps.refl _
/-- what holds at the law's entry: the machine, the code, the tables' words (any of lw_tbl by 'hts w (by decide +kernel)'), the script of L ints xs at the cell b, what the Statement gives of the start (any of its parts by flat_of_before) -/
def lw_At (p : Program) (s : State) (m : MethodId) (meth : Method) (c : Code) (b L : Nat) (xs : Nat → Int32) : Prop :=
  p.tables.exec = Jvm.exec ∧ c.code = code ∧ meth.sig.returnType = ret ∧ c.maxLocals = 4 ∧ s.vm.findClass R_law = some m.cls ∧ (∀ w ∈ lw_tbl, w.before #[Value.ref b] s = true) ∧ va_X b L xs s s.heap ∧ b < s.heap.size ∧ meth.locks = false ∧ (Jvm.Cond.and given_1 narrow_1).before #[Value.ref b] s = true

theorem arr_i {s : State} {args : Array Value} (h : (Cond.arrayClass .int).before args s = true) : ∃ cA : ClassId, ArrOfT s cA .int ∧ va_RA s cA .int := by
  obtain ⟨c, k, comp, h1, h2, h3⟩ := Cond.arrayClass_spec h
  exact ⟨c, fun n z => ⟨fun k h => (by cases h), k, h2, comp, h3⟩, h1⟩
theorem arr_z {s : State} {args : Array Value} (h : (Cond.arrayClass .boolean).before args s = true) : ∃ cA : ClassId, ArrOfT s cA .boolean ∧ va_RA s cA .boolean := by
  obtain ⟨c, k, comp, h1, h2, h3⟩ := Cond.arrayClass_spec h
  exact ⟨c, fun n z => ⟨fun k h => (by cases h), k, h2, comp, h3⟩, h1⟩
theorem arr_b {s : State} {args : Array Value} (h : (Cond.arrayClass .byte).before args s = true) : ∃ cA : ClassId, ArrOfT s cA .byte ∧ va_RA s cA .byte := by
  obtain ⟨c, k, comp, h1, h2, h3⟩ := Cond.arrayClass_spec h
  exact ⟨c, fun n z => ⟨fun k h => (by cases h), k, h2, comp, h3⟩, h1⟩
theorem arr_q {s : State} {args : Array Value} {C : String} (h : (Cond.arrayOver (.object C)).before args s = true) : ∃ cA : ClassId, ArrOfT s cA (.object C) ∧ va_RA s cA (.object C) := by
  obtain ⟨comp, c, k, h1, h2, h3, h4, h5⟩ := Cond.arrayOver_spec h
  exact ⟨c, fun n z => ⟨fun k h => (by cases h), k, h3, comp, h4⟩, k, comp, h3, h4, h1, h5⟩
theorem nw_all : ∀ q ∈ nwL, Cond.methodLinkNest q.1 q.2.1 q.2.2 "LessonDesk" ∈ lw_tbl := by decide +kernel
abbrev nwPre : Jvm.Cond := Jvm.Cond.and given_1 narrow_1
theorem st_o : ∀ j, j < 93 → Cond.eq (.elem (.static "LessonDesk" "ORDER" "[I") (.int (Int32.ofNat j))) (.int (iI (oT j))) ∈ flatC nwPre := by decide +kernel
theorem st_t : ∀ j, j < 3 → Cond.eq (.elem (.static "LessonDesk" "TENS" "[I") (.int (Int32.ofNat j))) (.int (iI (tT j))) ∈ flatC nwPre := by decide +kernel
theorem st_l : ∀ j, j < 5 → Cond.eq (.elem (.static "LessonDesk" "LEAST_MARKS" "[I") (.int (Int32.ofNat j))) (.int (iI (lT j))) ∈ flatC nwPre := by decide +kernel
theorem st_m : ∀ j, j < 5 → Cond.eq (.elem (.static "LessonDesk" "MOST_MARKS" "[I") (.int (Int32.ofNat j))) (.int (iI (mT j))) ∈ flatC nwPre := by decide +kernel
theorem st_one {s : State} {b : Nat} {n : String} {N : Nat} {f : Nat → Int} (hfl : ∀ c ∈ flatC nwPre, c.before #[Value.ref b] s = true) (hl : (Cond.laysStatic "LessonDesk" n "[I").before #[Value.ref b] s = true) (hini : (Cond.initialized "LessonDesk").before #[Value.ref b] s = true) (hN : N < 2 ^ 31) (h1 : Cond.arrayOf (.static "LessonDesk" n "[I") .int ∈ flatC nwPre) (h2 : Cond.eq (.length (.static "LessonDesk" n "[I")) (.int (Int32.ofNat N)) ∈ flatC nwPre) (h3 : ∀ j, j < N → Cond.eq (.elem (.static "LessonDesk" n "[I") (.int (Int32.ofNat j))) (.int (iI (f j))) ∈ flatC nwPre) : ∃ t : Nat, ST1 n t N f (lwA s) s s.heap := by
  obtain ⟨t, ht, hT⟩ := va_Tof (tm := .static "LessonDesk" n "[I") (ty := .int) (N := N) (f := fun j => .int (iI (f j))) (A := lwA s) hN (hfl _ h1) (va_eqt (hfl _ h2)) (fun j hj => va_eqt (hfl _ (h3 j hj))) (fun a ha => Nat.not_le.mpr ha)
  exact ⟨t, va_Zof hl hini ht (fun a ha => Nat.not_le.mpr ha), hT⟩
set_option maxHeartbeats 4000000 in
set_option maxRecDepth 100000 in
theorem gg_start {s : State} {b : Nat} (hts : ∀ w ∈ lw_tbl, w.before #[Value.ref b] s = true) (hgv : (Jvm.Cond.and given_1 narrow_1).before #[Value.ref b] s = true) : ∃ g : GT, GG g (lwA s) s := by
  have htl : ∀ w ∈ wsL_law, w.before #[Value.ref b] s = true := fun w hw => hts w (wsL_law_in w hw)
  have hfl := flat_of_before nwPre hgv
  obtain ⟨c0, iS0, hK0⟩ := u_known (C := RX0) (T := TX0) (N := 3) (n := 3) hts wsX00_in (htl _ (List.mem_of_getElem? (i := 34) rfl))
  obtain ⟨c1, iS1, hK1⟩ := u_known (C := RX1) (T := TX1) (N := 7) (n := 7) hts wsX10_in (htl _ (List.mem_of_getElem? (i := 283) rfl))
  obtain ⟨c2, iS2, hK2⟩ := u_known (C := RX2) (T := TX2) (N := 3) (n := 3) hts wsX20_in (htl _ (List.mem_of_getElem? (i := 291) rfl))
  obtain ⟨c3, iS3, hK3⟩ := u_known (C := RX3) (T := TX3) (N := 3) (n := 3) hts wsX30_in (htl _ (List.mem_of_getElem? (i := 25) rfl))
  obtain ⟨c4, iS4, hK4⟩ := u_known (C := RX4) (T := TX4) (N := 3) (n := 3) hts wsX40_in (htl _ (List.mem_of_getElem? (i := 14) rfl))
  obtain ⟨c5, iS5, hK5⟩ := u_known (C := RX5) (T := TX5) (N := 3) (n := 3) hts wsX50_in (htl _ (List.mem_of_getElem? (i := 43) rfl))
  obtain ⟨c6, iS6, hK6⟩ := u_known (C := RX6) (T := TX6) (N := 3) (n := 3) hts wsX60_in (htl _ (List.mem_of_getElem? (i := 30) rfl))
  obtain ⟨c7, iS7, hK7⟩ := u_known (C := RX7) (T := TX7) (N := 3) (n := 3) hts wsX70_in (htl _ (List.mem_of_getElem? (i := 39) rfl))
  obtain ⟨c8, iS8, hK8⟩ := u_known (C := RX8) (T := TX8) (N := 13) (n := 13) hts wsX80_in (htl _ (List.mem_of_getElem? (i := 1) rfl))
  obtain ⟨c9, iS9, hK9⟩ := u_known (C := RX9) (T := TX9) (N := 37) (n := 37) hts wsX90_in (htl _ (List.mem_of_getElem? (i := 4) rfl))
  obtain ⟨ci, hci⟩ := arr_i (htl _ (List.mem_of_getElem? (i := 17) rfl))
  obtain ⟨cz, hcz⟩ := arr_z (htl _ (List.mem_of_getElem? (i := 96) rfl))
  obtain ⟨cb, hcb⟩ := arr_b (htl _ (List.mem_of_getElem? (i := 62) rfl))
  have ho1 : (Cond.arrayOver (.object "LessonDesk$Learner")).before #[Value.ref b] s = true := hts _ (by decide +kernel)
  have ho2 : (Cond.arrayOver (.object "LessonDesk$Sheet")).before #[Value.ref b] s = true := hts _ (by decide +kernel)
  obtain ⟨cl, hcl⟩ := arr_q ho1
  obtain ⟨cs, hcs⟩ := arr_q ho2
  obtain ⟨t0, hT0⟩ := st_one (n := "ORDER") (N := 93) (f := oT) hfl (hts _ (by decide +kernel)) (htl _ (List.mem_of_getElem? (i := 2) rfl)) (by decide) (by decide +kernel) (by decide +kernel) st_o
  obtain ⟨t1, hT1⟩ := st_one (n := "TENS") (N := 3) (f := tT) hfl (hts _ (by decide +kernel)) (htl _ (List.mem_of_getElem? (i := 2) rfl)) (by decide) (by decide +kernel) (by decide +kernel) st_t
  obtain ⟨t2, hT2⟩ := st_one (n := "LEAST_MARKS") (N := 5) (f := lT) hfl (hts _ (by decide +kernel)) (htl _ (List.mem_of_getElem? (i := 2) rfl)) (by decide) (by decide +kernel) (by decide +kernel) st_l
  obtain ⟨t3, hT3⟩ := st_one (n := "MOST_MARKS") (N := 5) (f := mT) hfl (hts _ (by decide +kernel)) (htl _ (List.mem_of_getElem? (i := 2) rfl)) (by decide) (by decide +kernel) (by decide +kernel) st_m
  refine ⟨((fun k => ([c0, c1, c2, c3, c4, c5, c6, c7, c8, c9] : List ClassId).getD k c0, fun k => ([iS0, iS1, iS2, iS3, iS4, iS5, iS6, iS7, iS8, iS9] : List (Nat → Nat)).getD k iS0), fun k => ([ci, cz, cb, cl, cs] : List ClassId).getD k ci, fun k => ([t0, t1, t2, t3] : List Nat).getD k t0), ⟨fun k q hq => ?_, fun k q hq => ?_⟩, ⟨fun q hq => va_Nw.of rfl (hts _ (nw_all q hq)), va_Nw.of rfl (hts (.fieldLinkNest "LessonDesk$Learner" 36 "LessonDesk" "ORDER" "[I" "LessonDesk") (by decide +kernel)), va_AO.of ho1, va_AO.of ho2⟩, hT0, hT1, hT2, hT3⟩
  · match k, hq with
    | 0, hq => cases hq; exact hK0
    | 1, hq => cases hq; exact hK1
    | 2, hq => cases hq; exact hK2
    | 3, hq => cases hq; exact hK3
    | 4, hq => cases hq; exact hK4
    | 5, hq => cases hq; exact hK5
    | 6, hq => cases hq; exact hK6
    | 7, hq => cases hq; exact hK7
    | 8, hq => cases hq; exact hK8
    | 9, hq => cases hq; exact hK9
    | k + 10, hq => simp [vwCl] at hq
  · match k, hq with
    | 0, hq => cases hq; exact hci
    | 1, hq => cases hq; exact hcz
    | 2, hq => cases hq; exact hcb
    | 3, hq => cases hq; exact hcl
    | 4, hq => cases hq; exact hcs
    | k + 5, hq => simp at hq
