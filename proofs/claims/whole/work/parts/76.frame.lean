/-! frames of contracts -/
theorem P_mem {D : va_G} {cl : List vw_C} {ws : va_W} {H : Heap} : va_P D cl ws H ↔ ∀ q ∈ ws, va_at D cl q H := by
  constructor
  · intro h q hq
    obtain ⟨k, hk⟩ := List.mem_iff_getElem?.mp hq
    exact h k q hk
  · intro h k q hk
    exact h q (List.mem_iff_getElem?.mpr ⟨k, hk⟩)
theorem D_pw {A : Nat → Prop} {ws : va_W} : va_D A ws ↔ ws.Pairwise (fun p q => p.1 ≠ q.1) ∧ ∀ q ∈ ws, A q.1 := by
  constructor
  · intro h
    refine ⟨List.pairwise_iff_getElem.mpr (fun i j hi hj hij e => ?_), fun q hq => ?_⟩
    · have := h.1 i j ws[i] ws[j] (List.getElem?_eq_getElem hi) (List.getElem?_eq_getElem hj) e
      omega
    · obtain ⟨k, hk⟩ := List.mem_iff_getElem?.mp hq
      exact h.2 k q hk
  · intro h
    refine ⟨fun i j p q hp hq e => ?_, fun k q hk => h.2 q (List.mem_iff_getElem?.mpr ⟨k, hk⟩)⟩
    obtain ⟨hi, rfl⟩ := List.getElem?_eq_some_iff.mp hp
    obtain ⟨hj, rfl⟩ := List.getElem?_eq_some_iff.mp hq
    rcases Nat.lt_trichotomy i j with z | z | z
    · exact absurd e (List.pairwise_iff_getElem.mp h.1 i j hi hj z)
    · exact z
    · exact absurd e.symm (List.pairwise_iff_getElem.mp h.1 j i hj hi z)
theorem va_P.perm {D : va_G} {cl : List vw_C} {ws ws' : va_W} {H : Heap} (h : va_P D cl ws H) (hp : ws.Perm ws') : va_P D cl ws' H := P_mem.mpr (fun q hq => P_mem.mp h q (hp.mem_iff.mpr hq))
theorem va_D.perm {A : Nat → Prop} {ws ws' : va_W} (h : va_D A ws) (hp : ws.Perm ws') : va_D A ws' := D_pw.mpr ⟨(List.Perm.pairwise_iff (fun h => h.symm) hp).mp (D_pw.mp h).1, fun q hq => (D_pw.mp h).2 q (hp.mem_iff.mpr hq)⟩
theorem cell_ext {c : ClassId} {n : Nat} {f f' : Nat → Int} (h : ∀ j, j < n → f j = f' j) : vp_cell c (n, .inl (fun j => iI (f j))) = vp_cell c (n, .inl (fun j => iI (f' j))) := by
  show arrV c n (fun j => .int (iI (f j))) = arrV c n (fun j => .int (iI (f' j)))
  unfold arrV
  congr 1
  congr 1
  funext j
  show Value.int (iI (f j.val)) = Value.int (iI (f' j.val))
  rw [h j.val j.isLt]
def WE (w w' : va_W) : Prop := w.map Prod.fst = w'.map Prod.fst ∧ ∀ D cl H, va_P D cl w H → va_P D cl w' H
theorem WE.rf (w : va_W) : WE w w := ⟨rfl, fun _ _ _ h => h⟩
theorem WE.cons {p q : Nat × va_E} {w w' : va_W} (h1 : p.1 = q.1) (h2 : ∀ D cl H, va_at D cl p H → va_at D cl q H) (h : WE w w') : WE (p :: w) (q :: w') := by
  refine ⟨by rw [List.map_cons, List.map_cons, h1, h.1], fun D cl H hP => P_mem.mpr (fun x hx => ?_)⟩
  rcases List.mem_cons.mp hx with rfl | hx
  · exact h2 D cl H (P_mem.mp hP p List.mem_cons_self)
  · exact P_mem.mp (h.2 D cl H (P_mem.mpr (fun y hy => P_mem.mp hP y (List.mem_cons_of_mem _ hy)))) x hx
theorem WE.same {p : Nat × va_E} {w w' : va_W} (h : WE w w') : WE (p :: w) (p :: w') := WE.cons rfl (fun _ _ _ h => h) h
theorem WE.arr {a : Nat} {c : ClassId} {n : Nat} {f f' : Nat → Int} {w w' : va_W} (hf : ∀ j, j < n → f j = f' j) (h : WE w w') : WE ((a, aI c n f) :: w) ((a, aI c n f') :: w') := WE.cons rfl (fun D cl H hA => by
  show H[a]? = some (vp_cell c (n, .inl (fun j => iI (f' j))))
  rw [← cell_ext hf]
  exact hA) h
theorem WE.D {w w' : va_W} (h : WE w w') {A : Nat → Prop} (hD : va_D A w) : va_D A w' := by
  have key : ∀ (u : va_W), va_D A u ↔ (u.map Prod.fst).Pairwise (fun p q => p ≠ q) ∧ ∀ q ∈ u.map Prod.fst, A q := fun u => by
    rw [D_pw, List.pairwise_map]
    refine and_congr Iff.rfl ⟨fun z q hq => ?_, fun z q hq => z _ (List.mem_map_of_mem hq)⟩
    obtain ⟨x, hx, rfl⟩ := List.mem_map.mp hq
    exact z x hx
  exact (key w').mpr (h.1 ▸ (key w).mp hD)
theorem WE.app {u u' w w' : va_W} (h1 : WE u u') (h2 : WE w w') : WE (u ++ w) (u' ++ w') := by
  refine ⟨by rw [List.map_append, List.map_append, h1.1, h2.1], fun D cl H hP => P_mem.mpr (fun x hx => ?_)⟩
  rcases List.mem_append.mp hx with z | z
  · exact P_mem.mp (h1.2 D cl H (P_mem.mpr (fun y hy => P_mem.mp hP y (List.mem_append_left _ hy)))) x z
  · exact P_mem.mp (h2.2 D cl H (P_mem.mpr (fun y hy => P_mem.mp hP y (List.mem_append_right _ hy)))) x z
theorem WE.tr {u v w : va_W} (h1 : WE u v) (h2 : WE v w) : WE u w := ⟨h1.1.trans h2.1, fun D cl H h => h2.2 D cl H (h1.2 D cl H h)⟩
/-- a world may be read as another -/
def WI (w w' : va_W) : Prop := ∃ u, w.Perm u ∧ WE u w'
theorem WI.P {w w' : va_W} (h : WI w w') {D : va_G} {cl : List vw_C} {H : Heap} (hP : va_P D cl w H) : va_P D cl w' H := by
  obtain ⟨u, h1, h2⟩ := h
  exact h2.2 D cl H (hP.perm h1)
theorem WI.D {w w' : va_W} (h : WI w w') {A : Nat → Prop} (hD : va_D A w) : va_D A w' := by
  obtain ⟨u, h1, h2⟩ := h
  exact h2.D (hD.perm h1)
theorem WI.we {w w' : va_W} (h : WE w w') : WI w w' := ⟨w, List.Perm.refl _, h⟩
theorem WI.pm {w w' : va_W} (h : w.Perm w') : WI w w' := ⟨w', h, WE.rf _⟩
theorem va_A_iff {ws : va_W} {sz q : Nat} : va_A ws sz q ↔ (∃ e, (q, e) ∈ ws) ∨ sz ≤ q := by
  unfold va_A
  constructor
  · rintro (⟨k, e, h⟩ | h)
    · exact Or.inl ⟨e, List.mem_iff_getElem?.mpr ⟨k, h⟩⟩
    · exact Or.inr h
  · rintro (⟨e, h⟩ | h)
    · obtain ⟨k, hk⟩ := List.mem_iff_getElem?.mp h
      exact Or.inl ⟨k, e, hk⟩
    · exact Or.inr h
theorem Ct.frame {l : Launch} {g : GT} {y : MethodName} {wd : List Cond} {rm : Room} {av : List Value} {wc wr W0 : va_W} {Post Post' : Option Value → va_W → Prop} (h : Ct l g y wd rm av wc Post) (hp : W0.Perm (wr ++ wc)) (hi : ∀ v w1, Post v w1 → ∃ w', WI (wr ++ w1) w' ∧ Post' v w') : Ct l g y wd rm av W0 Post' := by
  intro sz p e hl hf hc s m args below hfr happ hPc hK
  obtain ⟨ha, hsz, hP, hG, hD⟩ := hPc
  have hP2 := hP.perm hp
  have hD2 := hD.perm hp
  have hsub : ∀ q, va_A wc sz q → va_A W0 sz q := fun q hq => by
    rcases va_A_iff.mp hq with ⟨x, hx⟩ | hx
    · exact va_A_iff.mpr (Or.inl ⟨x, hp.mem_iff.mpr (List.mem_append_right _ hx)⟩)
    · exact va_A_iff.mpr (Or.inr hx)
  have hDc : va_D (fun _ => True) wc := D_pw.mpr ⟨(List.pairwise_append.mp (D_pw.mp hD2).1).2.1, fun _ _ => trivial⟩
  obtain ⟨n, o, h1, h2, h3, ⟨⟨v, w, ho, hpost, hPw, hDw⟩, hF1, hF2⟩, L, hL1, hL2⟩ := h sz p e hl hf hc s m args below hfr happ ⟨ha, hsz, P_mem.mpr (fun q hq => P_mem.mp hP2 q (List.mem_append_right _ hq)), ⟨hG.1, hG.2.1, hG.2.2.narrow hsub⟩, hDc⟩ hK
  obtain ⟨w', hw', hp'⟩ := hi v w hpost
  have hap : ∀ q ∈ wr, q.1 < sz ∧ ¬ va_A wc sz q.1 := fun q hq => by
    have hat := P_mem.mp hP2 q (List.mem_append_left _ hq)
    have hlt := hat.lt
    rw [hsz] at hlt
    refine ⟨hlt, fun z => ?_⟩
    rcases va_A_iff.mp z with ⟨x, hx⟩ | hx
    · exact (List.pairwise_append.mp (D_pw.mp hD2).1).2.2 q hq _ hx rfl
    · omega
  have hPn : va_P g.1 vwCl (wr ++ w) (stepsAlone p.tables e n s).heap := P_mem.mpr (fun q hq => by
    rcases List.mem_append.mp hq with z | z
    · exact (P_mem.mp hP2 q (List.mem_append_left _ z)).kept (hF2 q.1 (by rw [hsz]; exact (hap q z).1) (hap q z).2)
    · exact P_mem.mp hPw q z)
  have hDn : va_D (va_A W0 sz) (wr ++ w) := D_pw.mpr ⟨List.pairwise_append.mpr ⟨(List.pairwise_append.mp (D_pw.mp hD2).1).1, (D_pw.mp hDw).1, fun a ha b hb e => (hap a ha).2 (by rw [e]; exact (D_pw.mp hDw).2 b hb)⟩, fun q hq => by
    rcases List.mem_append.mp hq with z | z
    · exact va_A_iff.mpr (Or.inl ⟨q.2, hp.mem_iff.mpr (List.mem_append_left _ z)⟩)
    · exact hsub q.1 ((D_pw.mp hDw).2 q z)⟩
  exact ⟨n, o, h1, h2, h3, ⟨⟨v, w', ho, hp', hw'.P hPn, hw'.D hDn⟩, hF1, fun q hq hn => hF2 q hq (fun z => hn (hsub q z))⟩, L, hL1, fun q hq => hsub _ (hL2 q hq)⟩
theorem Ct.imp {l : Launch} {g : GT} {y : MethodName} {wd : List Cond} {rm : Room} {av : List Value} {W0 : va_W} {Post Post' : Option Value → va_W → Prop} (h : Ct l g y wd rm av W0 Post) (hi : ∀ v w, Post v w → Post' v w) : Ct l g y wd rm av W0 Post' := Ct.frame (wr := []) h (List.Perm.refl _) (fun v w hw => ⟨w, WI.pm (List.Perm.refl _), hi v w hw⟩)
/-- places in a world with a tail -/
theorem Ct.tail {l : Launch} {g : GT} {y : MethodName} {wd : List Cond} {rm : Room} {av : List Value} {wc wr X pl : va_W} {Post : Option Value → va_W → Prop} (h : Ct l g y wd rm av wc Post) (hp : X.Perm (wr ++ wc)) : Ct l g y wd rm av (X ++ pl) (fun v w => ∃ w1, Post v w1 ∧ w = (wr ++ w1) ++ pl) :=
  Ct.frame (wr := wr ++ pl) h ((hp.append_right pl).trans (by rw [List.append_assoc, List.append_assoc]; exact List.Perm.append_left wr List.perm_append_comm)) (fun v w hw => ⟨(wr ++ w) ++ pl, WI.pm (by rw [List.append_assoc, List.append_assoc]; exact List.Perm.append_left wr List.perm_append_comm), w, hw, rfl⟩)
theorem range_all {α : Type} (ws : List α) : (List.range ws.length).map (fun i => ws[i]?) = ws.map some := by
  apply List.ext_getElem?
  intro i
  rw [List.getElem?_map, List.getElem?_map]
  by_cases h : i < ws.length
  · rw [List.getElem?_range h]
    show some (ws[i]?) = _
    rw [List.getElem?_eq_getElem h]
    rfl
  · rw [List.getElem?_eq_none (by simpa using h), List.getElem?_eq_none (by simpa using h)]; rfl
