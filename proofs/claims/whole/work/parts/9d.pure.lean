/-! skills, days, ways -/
theorem MmR.M {k : Nat} {T : Nat → Nat → Int} {fh hv lt kn : Nat → Int} (h : MmR k T fh hv lt kn) : ∀ s, s < 8 → -1 ≤ T 2 s ∧ T 2 s ≤ 9999 ∧ (T 3 s = 0 ∨ T 3 s = 1) ∧ 1 ≤ T 4 s ∧ T 4 s ≤ 512 := by
  intro s hs
  have q := h s hs
  omega
theorem RMm.N {K : Nat} {LT : Nat → Nat → Nat → Int} {fh hv lt kn : Nat → Int} (h : RMm K LT fh hv lt kn) : ∀ q, q < 96 → 0 ≤ lt q ∧ lt q ≤ 9999 ∧ (kn q = 0 ∨ kn q = 1) ∧ 0 ≤ hv q ∧ hv q ≤ 512 ∧ (kn q = 1 → 1 ≤ hv q) := by
  intro q hq
  by_cases c : q / 8 < K
  · have e := h.1 (q / 8) c (q % 8) (by omega)
    rw [show 8 * (q / 8) + q % 8 = q from by omega] at e
    omega
  · have e := h.2 q (by omega) hq
    omega
theorem RelS.sk {sb : Int} {gh gg gl fh fg fl : Nat → Int} (h : RelS sb gh gg gl (fh, fg, fl)) {s : Nat} (hs : s < 8) : (sb / 2 ^ s % 2 = 1 ↔ 0 < fh s) ∧ (0 < fh s → gh s = fh s ∧ gg s = fg s ∧ gl s = fl s) := by
  have q := h.2 s hs
  have q0 : 0 < hsM sb s ↔ 0 < fh s := q.1
  have q1 := hsM_01 (rb := sb) s
  unfold hsM at q0 q1
  refine ⟨?_, q.2⟩
  constructor
  · intro z; exact q0.mp (by omega)
  · intro z; have := q0.mpr z; omega
theorem skill_eq {sb : Int} {gh gg gl fh fg fl : Nat → Int} (h : RelS sb gh gg gl (fh, fg, fl)) {sk what : Int} :
    (if ¬ (((0 ≤ sk ∧ sk ≤ 7) ∧ sb / 2 ^ sk.toNat % 2 = 1) ∧ 0 ≤ what ∧ what ≤ 2) then -1 else if what = 0 then gh sk.toNat else if what = 1 then gg sk.toNat else gl sk.toNat) = (if ¬ (((0 ≤ sk ∧ sk ≤ 7) ∧ 0 < fh sk.toNat) ∧ 0 ≤ what ∧ what ≤ 2) then -1 else if what = 0 then fh sk.toNat else if what = 1 then fg sk.toNat else fl sk.toNat) := by
  by_cases c : 0 ≤ sk ∧ sk ≤ 7
  · have q := h.sk (s := sk.toNat) (by omega)
    by_cases d : 0 < fh sk.toNat
    · have e := q.1.mpr d
      obtain ⟨e1, e2, e3⟩ := q.2 d
      rw [e1, e2, e3]
      by_cases w : 0 ≤ what ∧ what ≤ 2
      · rw [if_neg (show ¬ ¬ (((0 ≤ sk ∧ sk ≤ 7) ∧ sb / 2 ^ sk.toNat % 2 = 1) ∧ 0 ≤ what ∧ what ≤ 2) from fun z => z ⟨⟨c, e⟩, w⟩), if_neg (show ¬ ¬ (((0 ≤ sk ∧ sk ≤ 7) ∧ 0 < fh sk.toNat) ∧ 0 ≤ what ∧ what ≤ 2) from fun z => z ⟨⟨c, d⟩, w⟩)]
      · rw [if_pos (show ¬ (((0 ≤ sk ∧ sk ≤ 7) ∧ sb / 2 ^ sk.toNat % 2 = 1) ∧ 0 ≤ what ∧ what ≤ 2) from fun z => w z.2), if_pos (show ¬ (((0 ≤ sk ∧ sk ≤ 7) ∧ 0 < fh sk.toNat) ∧ 0 ≤ what ∧ what ≤ 2) from fun z => w z.2)]
    · rw [if_pos (show ¬ (((0 ≤ sk ∧ sk ≤ 7) ∧ sb / 2 ^ sk.toNat % 2 = 1) ∧ 0 ≤ what ∧ what ≤ 2) from fun z => d (q.1.mp z.1.2)), if_pos (show ¬ (((0 ≤ sk ∧ sk ≤ 7) ∧ 0 < fh sk.toNat) ∧ 0 ≤ what ∧ what ≤ 2) from fun z => d z.1.2)]
  · rw [if_pos (show ¬ (((0 ≤ sk ∧ sk ≤ 7) ∧ sb / 2 ^ sk.toNat % 2 = 1) ∧ 0 ≤ what ∧ what ≤ 2) from fun z => c z.1.1), if_pos (show ¬ (((0 ≤ sk ∧ sk ≤ 7) ∧ 0 < fh sk.toNat) ∧ 0 ≤ what ∧ what ≤ 2) from fun z => c z.1.1)]
theorem prS_rng {rt h : Int} (hh : 1 ≤ h ∧ h ≤ 512) : 1 ≤ prS rt h ∧ prS rt h ≤ 512 := by
  unfold prS
  split <;> omega
theorem MmR.put {k sk : Nat} {T T' : Nat → Nat → Int} {fh hv lt kn hv' lt' kn' : Nat → Int} {day h rt : Int} (H : MmR k T fh hv lt kn) (hs : sk < 8) (hf : 0 < fh sk) (hd : 0 ≤ day ∧ day ≤ 9999) (hh : 1 ≤ h ∧ h ≤ 512) (t2 : T' 2 = va_up (T 2) sk day) (t3 : T' 3 = if rt = 0 then T 3 else va_up (T 3) sk 1) (t4 : T' 4 = va_up (T 4) sk h)
    (m1 : hv' = va_up hv (8 * k + sk) h) (m2 : lt' = va_up lt (8 * k + sk) day) (m3 : kn' = va_up kn (8 * k + sk) (if rt = 0 then kn (8 * k + sk) else 1)) : MmR k T' fh hv' lt' kn' := by
  intro s h8
  have q := H s h8
  rw [t2, t3, t4, m1, m2, m3]
  by_cases c : s = sk
  · subst c
    refine Or.inr ⟨hf, ?_⟩
    rw [up_s, up_s, up_s, up_s, up_s]
    refine ⟨hd.1, hd.2, rfl, ?_, ?_, hh.1, hh.2, rfl⟩
    · by_cases e : rt = 0
      · rw [if_pos e]; omega
      · rw [if_neg e, up_s]; exact Or.inr rfl
    · by_cases e : rt = 0
      · rw [if_pos e, if_pos e]; omega
      · rw [if_neg e, if_neg e, up_s]
  · have e3 : (if rt = 0 then T 3 else va_up (T 3) sk 1) s = T 3 s := by
      by_cases e : rt = 0
      · rw [if_pos e]
      · rw [if_neg e, up_n _ _ _ _ c]
    rw [e3, up_n _ _ _ _ c, up_n _ _ _ _ c, up_n _ _ _ _ (by omega), up_n _ _ _ _ (by omega), up_n _ _ _ _ (by omega)]
    exact q
theorem MmR.same {k : Nat} {T : Nat → Nat → Int} {fh hv lt kn hv' lt' kn' : Nat → Int} (H : MmR k T fh hv lt kn) (e : ∀ s, s < 8 → hv' (8 * k + s) = hv (8 * k + s) ∧ lt' (8 * k + s) = lt (8 * k + s) ∧ kn' (8 * k + s) = kn (8 * k + s)) : MmR k T fh hv' lt' kn' := by
  intro s hs
  obtain ⟨e1, e2, e3⟩ := e s hs
  rw [e1, e2, e3]
  exact H s hs
theorem MmR.T {k : Nat} {T T' : Nat → Nat → Int} {fh hv lt kn : Nat → Int} (H : MmR k T fh hv lt kn) (e2 : T' 2 = T 2) (e3 : T' 3 = T 3) (e4 : T' 4 = T 4) : MmR k T' fh hv lt kn := by
  unfold MmR at H ⊢
  rw [e2, e3, e4]
  exact H
theorem ex_eq {k : Nat} {x sb : Int} {K : Int} {T : Nat → Nat → Int} {gh gg gl fh fg fl hv lt kn : Nat → Int} (h : RelS sb gh gg gl (fh, fg, fl)) (H : MmR k T fh hv lt kn) {sk day rt : Int} (hx : x.toNat = k) (h0 : 0 ≤ x ∧ x < K) :
    (if ¬ ((0 ≤ x ∧ x < K) ∧ ((0 ≤ sk ∧ sk ≤ 7) ∧ sb / 2 ^ sk.toNat % 2 = 1) ∧ 0 ≤ day ∧ day ≤ 9999) then -1 else if day < lt (8 * x.toNat + sk.toNat) then -2 else prS rt (if hv (8 * x.toNat + sk.toNat) = 0 then 8 else hv (8 * x.toNat + sk.toNat))) = (if ¬ (((0 ≤ sk ∧ sk ≤ 7) ∧ 0 < fh sk.toNat) ∧ 0 ≤ day ∧ day ≤ 9999) then -1 else if day < T 2 sk.toNat then -2 else prS rt (T 4 sk.toNat)) := by
  rw [hx]
  by_cases c : 0 ≤ sk ∧ sk ≤ 7
  · have q := h.sk (s := sk.toNat) (by omega)
    have m := H sk.toNat (by omega)
    by_cases d : 0 < fh sk.toNat ∧ 0 ≤ day ∧ day ≤ 9999
    · rw [if_neg (show ¬ ¬ ((0 ≤ x ∧ x < K) ∧ ((0 ≤ sk ∧ sk ≤ 7) ∧ sb / 2 ^ sk.toNat % 2 = 1) ∧ 0 ≤ day ∧ day ≤ 9999) from fun z => z ⟨h0, ⟨c, q.1.mpr d.1⟩, d.2⟩), if_neg (show ¬ ¬ (((0 ≤ sk ∧ sk ≤ 7) ∧ 0 < fh sk.toNat) ∧ 0 ≤ day ∧ day ≤ 9999) from fun z => z ⟨⟨c, d.1⟩, d.2⟩)]
      rcases m with m | m
      · rw [if_neg (show ¬ day < lt (8 * k + sk.toNat) by omega), if_neg (show ¬ day < T 2 sk.toNat by omega), if_pos m.2.2.2.1, m.2.2.1]
      · rw [← m.2.2.2.1, ← m.2.2.2.2.2.2.2.2, if_neg (show ¬ T 4 sk.toNat = 0 by omega)]
    · rw [if_pos (show ¬ ((0 ≤ x ∧ x < K) ∧ ((0 ≤ sk ∧ sk ≤ 7) ∧ sb / 2 ^ sk.toNat % 2 = 1) ∧ 0 ≤ day ∧ day ≤ 9999) from fun z => d ⟨q.1.mp z.2.1.2, z.2.2⟩), if_pos (show ¬ (((0 ≤ sk ∧ sk ≤ 7) ∧ 0 < fh sk.toNat) ∧ 0 ≤ day ∧ day ≤ 9999) from fun z => d ⟨z.1.2, z.2⟩)]
  · rw [if_pos (show ¬ ((0 ≤ x ∧ x < K) ∧ ((0 ≤ sk ∧ sk ≤ 7) ∧ sb / 2 ^ sk.toNat % 2 = 1) ∧ 0 ≤ day ∧ day ≤ 9999) from fun z => c z.2.1.1), if_pos (show ¬ (((0 ≤ sk ∧ sk ≤ 7) ∧ 0 < fh sk.toNat) ∧ 0 ≤ day ∧ day ≤ 9999) from fun z => c z.1.1)]
theorem ex_r {fh : Nat → Int} {sk day v a r : Int} (h : r = (if ¬ (((0 ≤ sk ∧ sk ≤ 7) ∧ 0 < fh sk.toNat) ∧ 0 ≤ day ∧ day ≤ 9999) then -1 else if day < a then -2 else v)) (hr : 0 ≤ r) : (0 ≤ sk ∧ sk ≤ 7) ∧ 0 < fh sk.toNat ∧ 0 ≤ day ∧ day ≤ 9999 := by
  by_cases c : ((0 ≤ sk ∧ sk ≤ 7) ∧ 0 < fh sk.toNat) ∧ 0 ≤ day ∧ day ≤ 9999
  · exact ⟨c.1.1, c.1.2, c.2⟩
  · rw [if_pos c] at h; omega
theorem odds_eq {k : Nat} {x sb : Int} {K : Int} {T : Nat → Nat → Int} {gh gg gl fh fg fl hv lt kn : Nat → Int} (h : RelS sb gh gg gl (fh, fg, fl)) (H : MmR k T fh hv lt kn) {sk day : Int} (hx : x.toNat = k) (h0 : 0 ≤ x ∧ x < K) :
    (if ¬ ((0 ≤ x ∧ x < K) ∧ ((0 ≤ sk ∧ sk ≤ 7) ∧ sb / 2 ^ sk.toNat % 2 = 1) ∧ 0 ≤ day ∧ day ≤ 9999) then -1 else if day < lt (8 * x.toNat + sk.toNat) then -2 else odF (kn (8 * x.toNat + sk.toNat)) (hv (8 * x.toNat + sk.toNat)) (lt (8 * x.toNat + sk.toNat)) day) = (if ¬ (((0 ≤ sk ∧ sk ≤ 7) ∧ 0 < fh sk.toNat) ∧ 0 ≤ day ∧ day ≤ 9999) then -1 else if day < T 2 sk.toNat then -2 else odF (T 3 sk.toNat) (T 4 sk.toNat) (T 2 sk.toNat) day) := by
  rw [hx]
  by_cases c : 0 ≤ sk ∧ sk ≤ 7
  · have q := h.sk (s := sk.toNat) (by omega)
    have m := H sk.toNat (by omega)
    by_cases d : 0 < fh sk.toNat ∧ 0 ≤ day ∧ day ≤ 9999
    · rw [if_neg (show ¬ ¬ ((0 ≤ x ∧ x < K) ∧ ((0 ≤ sk ∧ sk ≤ 7) ∧ sb / 2 ^ sk.toNat % 2 = 1) ∧ 0 ≤ day ∧ day ≤ 9999) from fun z => z ⟨h0, ⟨c, q.1.mpr d.1⟩, d.2⟩), if_neg (show ¬ ¬ (((0 ≤ sk ∧ sk ≤ 7) ∧ 0 < fh sk.toNat) ∧ 0 ≤ day ∧ day ≤ 9999) from fun z => z ⟨⟨c, d.1⟩, d.2⟩)]
      rcases m with m | m
      · rw [if_neg (show ¬ day < lt (8 * k + sk.toNat) by omega), if_neg (show ¬ day < T 2 sk.toNat by omega), m.2.1, m.2.2.2.2.2]
        unfold odF
        rw [if_pos rfl, if_pos rfl]
      · rw [← m.2.2.2.1, ← m.2.2.2.2.2.1, ← m.2.2.2.2.2.2.2.2]
    · rw [if_pos (show ¬ ((0 ≤ x ∧ x < K) ∧ ((0 ≤ sk ∧ sk ≤ 7) ∧ sb / 2 ^ sk.toNat % 2 = 1) ∧ 0 ≤ day ∧ day ≤ 9999) from fun z => d ⟨q.1.mp z.2.1.2, z.2.2⟩), if_pos (show ¬ (((0 ≤ sk ∧ sk ≤ 7) ∧ 0 < fh sk.toNat) ∧ 0 ≤ day ∧ day ≤ 9999) from fun z => d ⟨z.1.2, z.2⟩)]
  · rw [if_pos (show ¬ ((0 ≤ x ∧ x < K) ∧ ((0 ≤ sk ∧ sk ≤ 7) ∧ sb / 2 ^ sk.toNat % 2 = 1) ∧ 0 ≤ day ∧ day ≤ 9999) from fun z => c z.2.1.1), if_pos (show ¬ (((0 ≤ sk ∧ sk ≤ 7) ∧ 0 < fh sk.toNat) ∧ 0 ≤ day ∧ day ≤ 9999) from fun z => c z.1.1)]
theorem again_eq {k : Nat} {x sb : Int} {K : Int} {T : Nat → Nat → Int} {gh gg gl fh fg fl hv lt kn : Nat → Int} (h : RelS sb gh gg gl (fh, fg, fl)) (H : MmR k T fh hv lt kn) {sk v : Int} (hx : x.toNat = k) (h0 : 0 ≤ x ∧ x < K) :
    (if ¬ ((0 ≤ x ∧ x < K) ∧ ((0 ≤ sk ∧ sk ≤ 7) ∧ sb / 2 ^ sk.toNat % 2 = 1) ∧ 1 ≤ v ∧ v ≤ 1000) then -1 else if kn (8 * x.toNat + sk.toNat) = 0 then -4 else lt (8 * x.toNat + sk.toNat) + (1000 - v) * hv (8 * x.toNat + sk.toNat) / v + 1) = (if ¬ (((0 ≤ sk ∧ sk ≤ 7) ∧ 0 < fh sk.toNat) ∧ 1 ≤ v ∧ v ≤ 1000) then -1 else if T 3 sk.toNat = 0 then -4 else T 2 sk.toNat + (1000 - v) * T 4 sk.toNat / v + 1) := by
  rw [hx]
  by_cases c : 0 ≤ sk ∧ sk ≤ 7
  · have q := h.sk (s := sk.toNat) (by omega)
    have m := H sk.toNat (by omega)
    by_cases d : 0 < fh sk.toNat ∧ 1 ≤ v ∧ v ≤ 1000
    · rw [if_neg (show ¬ ¬ ((0 ≤ x ∧ x < K) ∧ ((0 ≤ sk ∧ sk ≤ 7) ∧ sb / 2 ^ sk.toNat % 2 = 1) ∧ 1 ≤ v ∧ v ≤ 1000) from fun z => z ⟨h0, ⟨c, q.1.mpr d.1⟩, d.2⟩), if_neg (show ¬ ¬ (((0 ≤ sk ∧ sk ≤ 7) ∧ 0 < fh sk.toNat) ∧ 1 ≤ v ∧ v ≤ 1000) from fun z => z ⟨⟨c, d.1⟩, d.2⟩)]
      rcases m with m | m
      · rw [if_pos m.2.2.2.2.2, if_pos m.2.1]
      · rw [← m.2.2.2.1, ← m.2.2.2.2.2.1, ← m.2.2.2.2.2.2.2.2]
    · rw [if_pos (show ¬ ((0 ≤ x ∧ x < K) ∧ ((0 ≤ sk ∧ sk ≤ 7) ∧ sb / 2 ^ sk.toNat % 2 = 1) ∧ 1 ≤ v ∧ v ≤ 1000) from fun z => d ⟨q.1.mp z.2.1.2, z.2.2⟩), if_pos (show ¬ (((0 ≤ sk ∧ sk ≤ 7) ∧ 0 < fh sk.toNat) ∧ 1 ≤ v ∧ v ≤ 1000) from fun z => d ⟨z.1.2, z.2⟩)]
  · rw [if_pos (show ¬ ((0 ≤ x ∧ x < K) ∧ ((0 ≤ sk ∧ sk ≤ 7) ∧ sb / 2 ^ sk.toNat % 2 = 1) ∧ 1 ≤ v ∧ v ≤ 1000) from fun z => c z.2.1.1), if_pos (show ¬ (((0 ≤ sk ∧ sk ≤ 7) ∧ 0 < fh sk.toNat) ∧ 1 ≤ v ∧ v ≤ 1000) from fun z => c z.1.1)]
theorem sD_congrB {f h : Nat → Int} {x : Int} : ∀ n, (∀ s, s < n → x / 2 ^ s % 2 = 1 → f s = h s) → sD f x n = sD h x n := by
  intro n
  induction n with
  | zero => intro _; rfl
  | succ n ih =>
    intro e
    unfold sD
    rw [ih (fun s hs => e s (by omega))]
    by_cases c : x / 2 ^ n % 2 = 1
    · rw [if_pos c, if_pos c, e n (by omega) c]
    · rw [if_neg c, if_neg c]
theorem bwF_adc {ad ad' : Nat → Int} {fh fg : Nat → Int} {hm : Int} : ∀ (f b be : Nat), (∀ q, b ≤ q → q < b + f → ad q = ad' q) → bwF ad fh fg hm f b be = bwF ad' fh fg hm f b be := by
  intro f
  induction f with
  | zero => intro b be _; rfl
  | succ f ih =>
    intro b be e
    unfold bwF bwC
    rw [e b (by omega) (by omega)]
    exact ih _ _ (fun q h1 h2 => e q (by omega) (by omega))
theorem ofP_iff {p q : Prop} (h : p ↔ q) : ofP p = ofP q := by rw [propext h]
theorem way_eq {k : Nat} {x sb : Int} {K : Int} {T : Nat → Nat → Int} {gh gg gl fh fg fl hv lt kn : Nat → Int} (h : RelS sb gh gg gl (fh, fg, fl)) (H : MmR k T fh hv lt kn) {day hm what r r' : Int} (hx : x.toNat = k) (h0 : 0 ≤ x ∧ x < K)
    (e : r = (if ¬ ((0 ≤ day ∧ day ≤ 9999) ∧ (0 ≤ hm ∧ hm ≤ 160) ∧ 0 ≤ what ∧ what ≤ 2) then -1 else if day < mxL (T 2) 8 then -2 else if what = 0 then ((bwF (fun b => ofP (b &&& hdN (fun s => odF (T 3 s) (T 4 s) (T 2 s) day) 8 = 0 ∧ StandP fh (fun s => (fl s).toNat) b (hdN (fun s => odF (T 3 s) (T 4 s) (T 2 s) day) 8))) fh fg hm 255 1 0 : Nat) : Int) else if what = 1 then sD fg ((bwF (fun b => ofP (b &&& hdN (fun s => odF (T 3 s) (T 4 s) (T 2 s) day) 8 = 0 ∧ StandP fh (fun s => (fl s).toNat) b (hdN (fun s => odF (T 3 s) (T 4 s) (T 2 s) day) 8))) fh fg hm 255 1 0 : Nat) : Int) 8 else sD fh ((bwF (fun b => ofP (b &&& hdN (fun s => odF (T 3 s) (T 4 s) (T 2 s) day) 8 = 0 ∧ StandP fh (fun s => (fl s).toNat) b (hdN (fun s => odF (T 3 s) (T 4 s) (T 2 s) day) 8))) fh fg hm 255 1 0 : Nat) : Int) 8))
    (e' : (r' = -1 ∧ ¬ ((0 ≤ x ∧ x < K) ∧ (0 ≤ day ∧ day ≤ 9999) ∧ (0 ≤ hm ∧ hm ≤ 160) ∧ 0 ≤ what ∧ what ≤ 2)) ∨ (((0 ≤ x ∧ x < K) ∧ (0 ≤ day ∧ day ≤ 9999) ∧ (0 ≤ hm ∧ hm ≤ 160) ∧ 0 ≤ what ∧ what ≤ 2) ∧ ((r' = -2 ∧ (∃ s, s < 8 ∧ sb / 2 ^ s % 2 = 1 ∧ day < lt (8 * x.toNat + s))) ∨ (¬ (∃ s, s < 8 ∧ sb / 2 ^ s % 2 = 1 ∧ day < lt (8 * x.toNat + s)) ∧ r' = (if what = 0 then ((bwF (fun b => ofP (ndn b sb.toNat = 0 ∧ b &&& (hdN (fun s => if sb / 2 ^ s % 2 = 1 then odF (kn (8 * x.toNat + s)) (hv (8 * x.toNat + s)) (lt (8 * x.toNat + s)) day else 0) 8) = 0 ∧ ∀ s, s < 8 → bitP b s → ndn (gl s).toNat (b ||| (hdN (fun s => if sb / 2 ^ s % 2 = 1 then odF (kn (8 * x.toNat + s)) (hv (8 * x.toNat + s)) (lt (8 * x.toNat + s)) day else 0) 8)) = 0)) gh gg hm 255 1 0 : Nat) : Int) else if what = 1 then sD gg ((bwF (fun b => ofP (ndn b sb.toNat = 0 ∧ b &&& (hdN (fun s => if sb / 2 ^ s % 2 = 1 then odF (kn (8 * x.toNat + s)) (hv (8 * x.toNat + s)) (lt (8 * x.toNat + s)) day else 0) 8) = 0 ∧ ∀ s, s < 8 → bitP b s → ndn (gl s).toNat (b ||| (hdN (fun s => if sb / 2 ^ s % 2 = 1 then odF (kn (8 * x.toNat + s)) (hv (8 * x.toNat + s)) (lt (8 * x.toNat + s)) day else 0) 8)) = 0)) gh gg hm 255 1 0 : Nat) : Int) 8 else sD gh ((bwF (fun b => ofP (ndn b sb.toNat = 0 ∧ b &&& (hdN (fun s => if sb / 2 ^ s % 2 = 1 then odF (kn (8 * x.toNat + s)) (hv (8 * x.toNat + s)) (lt (8 * x.toNat + s)) day else 0) 8) = 0 ∧ ∀ s, s < 8 → bitP b s → ndn (gl s).toNat (b ||| (hdN (fun s => if sb / 2 ^ s % 2 = 1 then odF (kn (8 * x.toNat + s)) (hv (8 * x.toNat + s)) (lt (8 * x.toNat + s)) day else 0) 8)) = 0)) gh gg hm 255 1 0 : Nat) : Int) 8))))) : r' = r := by
  rw [hx] at e'
  by_cases c : (0 ≤ day ∧ day ≤ 9999) ∧ (0 ≤ hm ∧ hm ≤ 160) ∧ 0 ≤ what ∧ what ≤ 2
  · rw [if_neg (fun z => z c)] at e
    rcases e' with ⟨-, z⟩ | ⟨-, e'⟩
    · exact absurd ⟨h0, c⟩ z
    · have ehd : hdN (fun s => if sb / 2 ^ s % 2 = 1 then odF (kn (8 * k + s)) (hv (8 * k + s)) (lt (8 * k + s)) day else 0) 8 = hdN (fun s => odF (T 3 s) (T 4 s) (T 2 s) day) 8 := hdN_congr 8 (fun s hs => by
        show (if sb / 2 ^ s % 2 = 1 then odF (kn (8 * k + s)) (hv (8 * k + s)) (lt (8 * k + s)) day else 0) = odF (T 3 s) (T 4 s) (T 2 s) day
        have q := h.sk hs
        rcases H s hs with m | m
        · rw [m.2.1, m.2.2.2.2.2]
          unfold odF
          rw [if_pos rfl, if_pos rfl]
          split <;> rfl
        · rw [if_pos (q.1.mpr m.1), ← m.2.2.2.1, ← m.2.2.2.2.2.1, ← m.2.2.2.2.2.2.2.2])
      have elate : day < mxL (T 2) 8 ↔ ∃ s, s < 8 ∧ sb / 2 ^ s % 2 = 1 ∧ day < lt (8 * k + s) := by
        constructor
        · intro z
          refine Classical.byContradiction (fun n => ?_)
          have := mxL_le (f := T 2) (B := day) (by omega) 8 (fun s hs => by
            rcases H s hs with m | m
            · omega
            · refine Classical.byContradiction (fun n2 => n ⟨s, hs, (h.sk hs).1.mpr m.1, by omega⟩))
          omega
        · intro ⟨s, hs, z1, z2⟩
          have := (mxL_ge (T 2) 8).2 s hs
          rcases H s hs with m | m <;> omega
      rw [ehd] at e'
      generalize hdN (fun s => odF (T 3 s) (T 4 s) (T 2 s) day) 8 = HD at e e'
      have hadq : ∀ b, b < 256 → ofP (ndn b sb.toNat = 0 ∧ b &&& HD = 0 ∧ ∀ s, s < 8 → bitP b s → ndn (gl s).toNat (b ||| HD) = 0) = ofP (b &&& HD = 0 ∧ StandP fh (fun s => (fl s).toNat) b HD) := fun b hb => ofP_iff (by
        have hsb : ∀ s, s < 8 → (bitP sb.toNat s ↔ 0 < fh s) := fun s hs => by
          unfold bitP
          rw [show ((sb.toNat : Nat) : Int) = sb from by have := h.1; omega]
          exact (h.sk hs).1
        rw [ndn_0 hb]
        constructor
        · intro ⟨z1, z2, z3⟩
          refine ⟨z2, fun s hs hb2 => ?_⟩
          have f := (hsb s hs).mp (z1 s hs hb2)
          refine ⟨f, ?_⟩
          show ndn (fl s).toNat (b ||| HD) = 0
          rw [← ((h.sk hs).2 f).2.2]
          exact z3 s hs hb2
        · intro ⟨z2, z3⟩
          refine ⟨fun s hs hb2 => (hsb s hs).mpr (z3 s hs hb2).1, z2, fun s hs hb2 => ?_⟩
          have f := z3 s hs hb2
          rw [((h.sk hs).2 f.1).2.2]
          exact f.2)
      have ebw : bwF (fun b => ofP (ndn b sb.toNat = 0 ∧ b &&& HD = 0 ∧ ∀ s, s < 8 → bitP b s → ndn (gl s).toNat (b ||| HD) = 0)) gh gg hm 255 1 0 = bwF (fun b => ofP (b &&& HD = 0 ∧ StandP fh (fun s => (fl s).toNat) b HD)) gh gg hm 255 1 0 := bwF_adc 255 1 0 (fun q _ h2 => hadq q (by omega))
      obtain ⟨f1, f2, f3⟩ := bwF_congr (ad := fun b => ofP (b &&& HD = 0 ∧ StandP fh (fun s => (fl s).toNat) b HD)) (fh := fh) (fg := fg) (fh' := gh) (fg' := gg) (hm := hm) (fun b hb => by
        have z := (ofP_1 hb).2
        exact ⟨sD_congrB 8 (fun s hs hb2 => ((h.sk hs).2 (z s hs hb2).1).1.symm), sD_congrB 8 (fun s hs hb2 => ((h.sk hs).2 (z s hs hb2).1).2.1.symm)⟩) 255 1 0 (by rw [show ((0 : Nat) : Int) = 0 from rfl, sD_z, sD_z, sD_z, sD_z]; exact ⟨rfl, rfl⟩)
      rw [ebw, ← f1, ← f2, ← f3] at e'
      rcases e' with ⟨e1, e2⟩ | ⟨e1, e2⟩
      · rw [if_pos (elate.mpr e2)] at e
        rw [e, e1]
      · rw [if_neg (fun z => e1 (elate.mp z))] at e
        rw [e, e2]
  · rw [if_pos c] at e
    rcases e' with ⟨e1, -⟩ | ⟨z, -⟩
    · rw [e, e1]
    · exact absurd z.2 c
theorem hint_eq {h m l much less w k : Int} (hR : RHt h m l) : hintF (if m = much ∧ l = less then 1 else 0) much less w k = hintF (if h = 1000 * much + less then 1 else 0) much less w k := by
  by_cases c : TaskP much less
  · have e : (m = much ∧ l = less) ↔ h = 1000 * much + less := by
      unfold RHt TaskP at hR
      unfold TaskP at c
      omega
    by_cases d : h = 1000 * much + less
    · rw [if_pos d, if_pos (e.mpr d)]
    · rw [if_neg d, if_neg (fun z => d (e.mp z))]
  · unfold hintF
    have h9 : ¬ (TaskP much less ∧ (0 ≤ k ∧ k ≤ 2) ∧ 0 ≤ w ∧ w ≤ tT k.toNat - 1) := fun z => c z.1
    rw [if_pos h9, if_pos h9]
theorem ans_eq {k : Nat} {ln la : Int} {it fl fz fi : Nat → Int} (h : RSk k ln la it fl fz fi) {mn lane x2 n : Int} {xs : Int} (hx : xs.toNat = k) : ansM mn (fl xs.toNat) (fz xs.toNat) lane x2 n (fun j => fi (40 * xs.toNat + x2.toNat + j)) = ansR mn ln la lane x2 n (fun j => it (x2.toNat + j)) := by
  rw [hx]
  unfold ansM ansR
  by_cases c : (0 ≤ lane ∧ lane ≤ 2) ∧ 0 ≤ n ∧ n ≤ 13
  · rw [if_neg (show ¬ ¬ ((0 ≤ lane ∧ lane ≤ 2) ∧ 0 ≤ n ∧ n ≤ 13) from fun z => z c), if_neg (show ¬ ¬ ((0 ≤ lane ∧ lane ≤ 2) ∧ 0 ≤ n ∧ n ≤ 13) from fun z => z c), ref_find h (by omega)]
    by_cases d : refS ln la lane x2 (3 * n) < 0
    · rw [if_pos d, if_pos d]
    · have q := ref_ok d
      have q1 := h.1
      rw [if_neg d, if_neg d, avF_congr (ps' := fun j => it (x2.toNat + j)) n.toNat 0 (fun j hj => by
        show fi (40 * k + x2.toNat + j) = it (x2.toNat + j)
        rw [(h.2.2.2 (x2.toNat + j) (by omega)).1, Nat.add_assoc])]
  · rw [if_pos (show ¬ ((0 ≤ lane ∧ lane ≤ 2) ∧ 0 ≤ n ∧ n ≤ 13) from c), if_pos (show ¬ ((0 ≤ lane ∧ lane ≤ 2) ∧ 0 ≤ n ∧ n ≤ 13) from c)]
theorem ans_r {ln la mn lane x2 n r : Int} {ps : Nat → Int} (h : r = ansR mn ln la lane x2 n ps) (hr : 0 ≤ r) : 0 ≤ ln ∧ 0 ≤ x2 ∧ 0 ≤ n ∧ x2 + 3 * n ≤ ln := by
  unfold ansR at h
  by_cases c : (0 ≤ lane ∧ lane ≤ 2) ∧ 0 ≤ n ∧ n ≤ 13
  · rw [if_neg (fun z => z c)] at h
    by_cases d : refS ln la lane x2 (3 * n) < 0
    · rw [if_pos d] at h; omega
    · have q := ref_ok d
      omega
  · rw [if_pos c] at h; omega
theorem set_rng {what v : Int} {h : Nat → Int} (hS : SetP what v) (h1 : ∀ p, p < 3 → 0 ≤ h p ∧ h p ≤ 99) (h2 : 0 ≤ h 3 ∧ h 3 ≤ 999) (h3 : 1 ≤ h 4 ∧ h 4 ≤ 500) : (∀ p, p < 3 → 0 ≤ va_up h what.toNat v p ∧ va_up h what.toNat v p ≤ 99) ∧ (0 ≤ va_up h what.toNat v 3 ∧ va_up h what.toNat v 3 ≤ 999) ∧ (1 ≤ va_up h what.toNat v 4 ∧ va_up h what.toNat v 4 ≤ 500) := by
  have q := lm_v what.toNat (by have := hS.1; omega)
  have s := hS.2
  have t := hS.1
  refine ⟨fun p hp => ?_, ?_, ?_⟩
  · unfold va_up
    split
    · rename_i c
      have := q.2.1 (by omega)
      have := q.2.2.1 (by omega)
      omega
    · exact h1 p hp
  · unfold va_up
    split
    · rename_i c
      have := q.2.1 (by omega)
      have := q.2.2.2.1 (by omega)
      omega
    · exact h2
  · unfold va_up
    split
    · rename_i c
      have := q.1 (by omega)
      have := q.2.2.2.2 (by omega)
      omega
    · exact h3
theorem typ_r {tl n r : Int} {w : Int64} (h : r = typS tl n w) (h0 : 0 ≤ tl) : r < 0 ∨ (0 ≤ r ∧ r = tl + n ∧ 1 ≤ n ∧ n ≤ 8 ∧ tl + n ≤ 100) := by
  unfold typS at h
  by_cases c : 1 ≤ n ∧ n ≤ 8
  · rw [if_neg (fun z => z c)] at h
    by_cases d : tyOK w n.toNat 0 = 0
    · rw [if_pos d] at h; omega
    · rw [if_neg d] at h
      by_cases e : 100 < tl + n
      · rw [if_pos e] at h; omega
      · rw [if_neg e] at h; omega
  · rw [if_pos c] at h; omega
theorem fsh_le {A : Nat → Nat} : fshF A 0 = some (A 40) ∧ fshF A 1 = some (A 41) ∧ fshF A 2 = some (A 42) ∧ fshF A 3 = some (A 43) := ⟨rfl, rfl, rfl, rfl⟩
theorem fle_at {LA : Nat → Nat → Nat} {K k : Nat} (h : k < K) : fleF LA K k = some (LA k 0) := if_pos h
theorem fle_up {LA : Nat → Nat → Nat} {K : Nat} {Ak : Nat → Nat} : va_up (fleF LA K) K (some (Ak 0)) = fleF (va_up LA K Ak) (K + 1) := by
  funext n
  unfold fleF
  by_cases c : n = K
  · subst c
    rw [up_s, if_pos (Nat.lt_succ_self n), up_s]
  · rw [up_n _ _ _ _ c, up_n _ _ _ _ c]
    by_cases d : n < K
    · rw [if_pos d, if_pos (by omega)]
    · rw [if_neg d, if_neg (by omega)]
