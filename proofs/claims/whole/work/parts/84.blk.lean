/-! worlds read as others; the learners' cells -/
def WS (w w' : va_W) : Prop := (∀ D cl H, va_P D cl w H → va_P D cl w' H) ∧ ∀ A, va_D A w → va_D A w'
theorem WI.ws {w w' : va_W} (h : WI w w') : WS w w' := ⟨fun _ _ _ hP => h.P hP, fun _ hD => h.D hD⟩
theorem WS.rf (w : va_W) : WS w w := ⟨fun _ _ _ h => h, fun _ h => h⟩
theorem WS.tr {u v w : va_W} (h1 : WS u v) (h2 : WS v w) : WS u w := ⟨fun D cl H h => h2.1 D cl H (h1.1 D cl H h), fun A h => h2.2 A (h1.2 A h)⟩
theorem WS.pm {w w' : va_W} (h : w.Perm w') : WS w w' := (WI.pm h).ws
theorem WS.we {w w' : va_W} (h : WE w w') : WS w w' := (WI.we h).ws
theorem WS.places {X cx pl : va_W} (is : List Nat) (hn : va_nd is = true) (hs : is.map (fun i => X[i]?) = cx.map some) : WS (X ++ pl) (cx ++ pl) := ⟨fun _ _ _ h => h.part is hs, fun _ h => h.part is hn hs⟩
theorem Ct.frameS {l : Launch} {g : GT} {y : MethodName} {wd : List Cond} {rm : Room} {av : List Value} {wc wr W0 : va_W} {Post Post' : Option Value → va_W → Prop} (h : Ct l g y wd rm av wc Post) (hp : WS W0 (wr ++ wc)) (hi : ∀ v w1, Post v w1 → ∃ w', WS (wr ++ w1) w' ∧ Post' v w') : Ct l g y wd rm av W0 Post' := by
  intro sz p e hl hf hc s m args below hfr happ hPc hK
  obtain ⟨ha, hsz, hP, hG, hD⟩ := hPc
  have hP2 := hp.1 _ _ _ hP
  have hD2 := hp.2 _ hD
  have hD3 := hp.2 _ (hD.self (sz := sz))
  have hsub : ∀ q, va_A wc sz q → va_A W0 sz q := fun q hq => by
    rcases va_A_iff.mp hq with ⟨x, hx⟩ | hx
    · exact (D_pw.mp hD3).2 (q, x) (List.mem_append_right _ hx)
    · exact va_A_iff.mpr (Or.inr hx)
  have hDc : va_D (fun _ => True) wc := D_pw.mpr ⟨(List.pairwise_append.mp (D_pw.mp hD2).1).2.1, fun _ _ => trivial⟩
  obtain ⟨n, o, h1, h2, h3, ⟨⟨v, w, ho, hpost, hPw, hDw⟩, hF1, hF2⟩, L, hL1, hL2⟩ := h sz p e hl hf hc s m args below hfr happ ⟨ha, hsz, P_mem.mpr (fun q hq => P_mem.mp hP2 q (List.mem_append_right _ hq)), ⟨hG.1, hG.2.1, hG.2.2.narrow hsub⟩, hDc⟩ hK
  obtain ⟨w', hw', hp'⟩ := hi v w hpost
  have hap : ∀ q ∈ wr, q.1 < sz ∧ ¬ va_A wc sz q.1 := fun q hq => by
    have hat := P_mem.mp hP2 q (List.mem_append_left _ hq)
    have hlt := hat.lt
    rw [hsz] at hlt
    refine ⟨hlt, fun z => ?_⟩
    rcases va_A_iff.mp z with ⟨x, hx⟩ | hx
    · exact (List.pairwise_append.mp (D_pw.mp hD2).1).2.2 q hq _ hx rfl
    · omega
  have hPn : va_P g.1 vwCl (wr ++ w) (stepsAlone p.tables e n s).heap := P_mem.mpr (fun q hq => by
    rcases List.mem_append.mp hq with z | z
    · exact (P_mem.mp hP2 q (List.mem_append_left _ z)).kept (hF2 q.1 (by rw [hsz]; exact (hap q z).1) (hap q z).2)
    · exact P_mem.mp hPw q z)
  have hDn : va_D (va_A W0 sz) (wr ++ w) := D_pw.mpr ⟨List.pairwise_append.mpr ⟨(List.pairwise_append.mp (D_pw.mp hD2).1).1, (D_pw.mp hDw).1, fun a ha b hb e => (hap a ha).2 (by rw [e]; exact (D_pw.mp hDw).2 b hb)⟩, fun q hq => by
    rcases List.mem_append.mp hq with z | z
    · exact (D_pw.mp hD3).2 q (List.mem_append_left _ z)
    · exact hsub q.1 ((D_pw.mp hDw).2 q z)⟩
  exact ⟨n, o, h1, h2, h3, ⟨⟨v, w', ho, hp', hw'.1 _ _ _ hPn, hw'.2 _ hDn⟩, hF1, fun q hq hn => hF2 q hq (fun z => hn (hsub q z))⟩, L, hL1, fun q hq => hsub _ (hL2 q hq)⟩
theorem app_swap (x y z : va_W) : ((x ++ y) ++ z).Perm ((x ++ z) ++ y) := by
  rw [List.append_assoc, List.append_assoc]
  exact List.Perm.append_left x List.perm_append_comm
/-- a call in a world with a tail -/
theorem Ct.tailQ {l : Launch} {g : GT} {y : MethodName} {wd : List Cond} {rm : Room} {av : List Value} {wc wr X pl : va_W} {Post : Option Value → va_W → Prop} (h : Ct l g y wd rm av wc Post) (is : List Nat) (hn : va_nd is = true) (hs : is.map (fun i => X[i]?) = (wr ++ wc).map some) : Ct l g y wd rm av (X ++ pl) (fun v w => ∃ w1, Post v w1 ∧ w = (wr ++ w1) ++ pl) :=
  Ct.frameS (wr := wr ++ pl) h ((WS.places is hn hs).tr (WS.pm (app_swap wr wc pl))) (fun v w hw => ⟨(wr ++ w) ++ pl, WS.pm (app_swap wr pl w), w, hw, rfl⟩)
theorem nd_of : ∀ l : List Nat, l.Nodup → va_nd l = true := by
  intro l
  induction l with
  | nil => intro _; rfl
  | cons a l ih =>
    intro h
    obtain ⟨h1, h2⟩ := List.nodup_cons.mp h
    unfold va_nd
    rw [ih h2, decide_eq_true h1]
    rfl
theorem nd_range (n : Nat) : va_nd (List.range n) = true := nd_of _ List.nodup_range
def lcs (g : GT) (A : Nat → Nat → Nat) (Z : Nat → Nat → Int) (T : Nat → Nat → Nat → Int) (j : Nat) : va_W :=
  [(A j 0, .inr (1, [.int (iI (Z j 0)), .int (iI (Z j 1)), .ref (A j 1), .ref (A j 5), .ref (A j 6), .ref (A j 7), .ref (A j 8)])), (A j 1, .inr (2, [.ref (A j 2), .ref (A j 3), .ref (A j 4)])),
   (A j 2, aI (g.2.1 0) 8 (T j 2)), (A j 3, aI (g.2.1 1) 8 (T j 3)), (A j 4, aI (g.2.1 0) 8 (T j 4)), (A j 5, aI (g.2.1 0) 40 (T j 5)), (A j 6, aI (g.2.1 1) 40 (T j 6)), (A j 7, aI (g.2.1 1) 40 (T j 7)), (A j 8, aI (g.2.1 0) 93 (T j 8))]
def blk (g : GT) (A : Nat → Nat → Nat) (Z : Nat → Nat → Int) (T : Nat → Nat → Nat → Int) : Nat → va_W
  | 0 => []
  | n + 1 => blk g A Z T n ++ lcs g A Z T n
def blkX (g : GT) (A : Nat → Nat → Nat) (Z : Nat → Nat → Int) (T : Nat → Nat → Nat → Int) (j : Nat) : Nat → va_W
  | 0 => []
  | n + 1 => if n = j then blk g A Z T n else blkX g A Z T j n ++ lcs g A Z T n
theorem blk_congr {g : GT} {A A' : Nat → Nat → Nat} {Z Z' : Nat → Nat → Int} {T T' : Nat → Nat → Nat → Int} : ∀ n, (∀ i, i < n → A i = A' i ∧ Z i = Z' i ∧ T i = T' i) → blk g A Z T n = blk g A' Z' T' n := by
  intro n
  induction n with
  | zero => intro _; rfl
  | succ n ih =>
    intro h
    have q := h n (by omega)
    unfold blk lcs
    rw [ih (fun i hi => h i (by omega)), q.1, q.2.1, q.2.2]
theorem blkX_congr {g : GT} {A A' : Nat → Nat → Nat} {Z Z' : Nat → Nat → Int} {T T' : Nat → Nat → Nat → Int} (j : Nat) : ∀ n, (∀ i, ¬ i = j → A i = A' i ∧ Z i = Z' i ∧ T i = T' i) → blkX g A Z T j n = blkX g A' Z' T' j n := by
  intro n
  induction n with
  | zero => intro _; rfl
  | succ n ih =>
    intro h
    unfold blkX
    split
    · rename_i e
      subst e
      exact blk_congr n (fun i hi => h i (by omega))
    · rename_i e
      have q := h n e
      unfold lcs
      rw [ih h, q.1, q.2.1, q.2.2]
theorem blk_perm (g : GT) (A : Nat → Nat → Nat) (Z : Nat → Nat → Int) (T : Nat → Nat → Nat → Int) (j : Nat) : ∀ n, j < n → (blk g A Z T n).Perm (lcs g A Z T j ++ blkX g A Z T j n) := by
  intro n
  induction n with
  | zero => intro h; omega
  | succ n ih =>
    intro h
    unfold blk blkX
    by_cases e : n = j
    · subst e
      rw [if_pos rfl]
      exact List.perm_append_comm
    · rw [if_neg e, ← List.append_assoc]
      exact (ih (by omega)).append_right _
/-- memories forgotten, those of the first j learners -/
def fgT (T : Nat → Nat → Nat → Int) (j : Nat) : Nat → Nat → Nat → Int := fun i k => if i < j then (if k = 2 then (fun _ => -1) else if k = 3 then (fun _ => 0) else if k = 4 then (fun _ => 8) else T i k) else T i k
theorem fgT_0 (T : Nat → Nat → Nat → Int) : fgT T 0 = T := by
  funext i k
  unfold fgT
  rw [if_neg (Nat.not_lt_zero i)]
theorem fgT_at (T : Nat → Nat → Nat → Int) (j : Nat) : fgT T j j = T j := by
  funext k
  unfold fgT
  rw [if_neg (Nat.lt_irrefl j)]
theorem fgT_ne (T : Nat → Nat → Nat → Int) {i j : Nat} (h : ¬ i = j) : fgT T j i = fgT T (j + 1) i := by
  funext k
  unfold fgT
  by_cases z : i < j
  · rw [if_pos z, if_pos (show i < j + 1 by omega)]
  · rw [if_neg z, if_neg (show ¬ i < j + 1 by omega)]
/-- the block, with learner j's cells shown -/
theorem blk_show {g : GT} {A : Nat → Nat → Nat} {Z : Nat → Nat → Int} {T : Nat → Nat → Nat → Int} {j n : Nat} (h : j < n) (X : va_W) : WS (X ++ blk g A Z T n) ((X ++ lcs g A Z T j) ++ blkX g A Z T j n) := WS.pm (by rw [List.append_assoc]; exact List.Perm.append_left X (blk_perm g A Z T j n h))
theorem blk_hide {g : GT} {A : Nat → Nat → Nat} {Z Z' : Nat → Nat → Int} {T T' : Nat → Nat → Nat → Int} {j n : Nat} (h : j < n) (X : va_W) (he : ∀ i, ¬ i = j → Z i = Z' i ∧ T i = T' i) : WS ((X ++ lcs g A Z' T' j) ++ blkX g A Z T j n) (X ++ blk g A Z' T' n) := by
  rw [blkX_congr (A' := A) (Z' := Z') (T' := T') j n (fun i hi => ⟨rfl, he i hi⟩)]
  exact WS.pm (by rw [List.append_assoc]; exact List.Perm.append_left X (blk_perm g A Z' T' j n h).symm)
