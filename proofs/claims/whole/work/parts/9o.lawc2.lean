set_option maxHeartbeats 4000000 in
set_option maxRecDepth 100000 in
theorem lw_case14 {p : Program} {l : Launch} {e : Env} {s : State} {m : MethodId} {below : List Frame} {meth : Method} {c : Code} {Q : State → Prop} {b L : Nat} {xs : Nat → Int32} {g : GT} {hd hm i : Nat} {a : Nat → Nat} (C : lw_C p s m meth c b L xs g) (hi : i + 6 ≤ L) (kont : lw_K p l e s m below meth c Q b g hd hm a i 1481 6) : lw_K p l e s m below meth c Q b g hd hm a i 778 0 := by
  intro A z F LA LZ LT K j G H locs ls hR hP hD hS hl
  have hx := C.1
  have hb := C.2.1
  have hts := C.2.2.2.2.2.1
  have hL := C.2.2.2.2.2.2.2.2.2.2
  refine lv_aload_n hx hb dL_law_778 rfl (lv_at hl 2 rfl) ?_
  refine lw_arg C hS hl 1 rfl (by omega) dL_law_779 dL_law_780 dL_law_781 dL_law_782 dL_law_783 ?_
  refine lw_arg C hS hl 2 rfl (by omega) dL_law_784 dL_law_785 dL_law_786 dL_law_787 dL_law_788 ?_
  refine lw_call8 (as := [.int (iI ((xs (i + 1)).toInt)), .int (iI ((xs (i + 2)).toInt))]) (y9 := yX9_count) (ws9 := wsX9_count) (rm9 := ({ frames := 3, cells := 0, slots := 0, locals := 74 } : Room)) C (pr_count l g ((xs (i + 1)).toInt) ((xs (i + 2)).toInt) (xr _) (xr _) hd hm A z F LA LZ LT K a j G hR) (cwV 2 hts gL_law_X8_count rfl rfl rfl (by decide +kernel) ⟨Nat.le_of_ble_eq_true rfl, Nat.le_of_ble_eq_true rfl⟩) hP hD hS rfl hl.1 rfl dL_law_789 (by show _ + 0 ≤ 600000 ∧ _ + 0 ≤ 7302250; omega) (fun r A z F LA LZ LT K H locs hQ hP hD hS => ?_)
  refine lv_aload_n hx hb dL_law_792 rfl (lv_at hl 1 rfl) ?_
  refine lw_arg C hS hl 1 rfl (by omega) dL_law_793 dL_law_794 dL_law_795 dL_law_796 dL_law_797 ?_
  refine lw_arg C hS hl 2 rfl (by omega) dL_law_798 dL_law_799 dL_law_800 dL_law_801 dL_law_802 ?_
  refine lw_call9 C hQ (cwV 2 hts gL_law_X9_count rfl rfl rfl (by decide +kernel) ⟨Nat.le_of_ble_eq_true rfl, Nat.le_of_ble_eq_true rfl⟩) hP hD hS rfl hl.1 rfl dL_law_803 (by show _ + 0 + 0 ≤ 600000 ∧ _ + 0 + 0 ≤ 7302250; omega) (fun j G H locs hR hP hD hS => ?_)
  refine lv_icmp_eq (tgt := 1481) hx hb dL_law_806 (by decide) (fun _ => ?_) (fun h9 => absurd rfl h9)
  refine W.widen (k := 100 + 2 * (i + 6)) (n := 4000 + 50 * (i + 6)) (by show _ + 0 + 0 ≤ _; omega) (by show _ + 0 + 0 ≤ _; omega) ?_
  exact kont A z F LA LZ LT K j G H locs ls hR hP hD hS hl
set_option maxHeartbeats 4000000 in
set_option maxRecDepth 100000 in
theorem lw_case15 {p : Program} {l : Launch} {e : Env} {s : State} {m : MethodId} {below : List Frame} {meth : Method} {c : Code} {Q : State → Prop} {b L : Nat} {xs : Nat → Int32} {g : GT} {hd hm i : Nat} {a : Nat → Nat} (C : lw_C p s m meth c b L xs g) (hi : i + 6 ≤ L) (kont : lw_K p l e s m below meth c Q b g hd hm a i 1481 6) : lw_K p l e s m below meth c Q b g hd hm a i 811 0 := by
  intro A z F LA LZ LT K j G H locs ls hR hP hD hS hl
  have hx := C.1
  have hb := C.2.1
  have hts := C.2.2.2.2.2.1
  have hL := C.2.2.2.2.2.2.2.2.2.2
  refine lv_aload_n hx hb dL_law_811 rfl (lv_at hl 2 rfl) ?_
  refine lw_arg C hS hl 1 rfl (by omega) dL_law_812 dL_law_813 dL_law_814 dL_law_815 dL_law_816 ?_
  refine lw_call8 (as := [.int (iI ((xs (i + 1)).toInt))]) (y9 := yX9_strange) (ws9 := wsX9_strange) (rm9 := ({ frames := 3, cells := 0, slots := 0, locals := 74 } : Room)) C (pr_strange l g ((xs (i + 1)).toInt) (xr _) hd hm A z F LA LZ LT K a j G hR) (cwV 1 hts gL_law_X8_strange rfl rfl rfl (by decide +kernel) ⟨Nat.le_of_ble_eq_true rfl, Nat.le_of_ble_eq_true rfl⟩) hP hD hS rfl hl.1 rfl dL_law_817 (by show _ + 0 ≤ 600000 ∧ _ + 0 ≤ 7302250; omega) (fun r A z F LA LZ LT K H locs hQ hP hD hS => ?_)
  refine lv_aload_n hx hb dL_law_820 rfl (lv_at hl 1 rfl) ?_
  refine lw_arg C hS hl 1 rfl (by omega) dL_law_821 dL_law_822 dL_law_823 dL_law_824 dL_law_825 ?_
  refine lw_call9 C hQ (cwV 1 hts gL_law_X9_strange rfl rfl rfl (by decide +kernel) ⟨Nat.le_of_ble_eq_true rfl, Nat.le_of_ble_eq_true rfl⟩) hP hD hS rfl hl.1 rfl dL_law_826 (by show _ + 0 + 0 ≤ 600000 ∧ _ + 0 + 0 ≤ 7302250; omega) (fun j G H locs hR hP hD hS => ?_)
  refine lv_icmp_eq (tgt := 1481) hx hb dL_law_829 (by decide) (fun _ => ?_) (fun h9 => absurd rfl h9)
  refine W.widen (k := 100 + 2 * (i + 6)) (n := 4000 + 50 * (i + 6)) (by show _ + 0 + 0 ≤ _; omega) (by show _ + 0 + 0 ≤ _; omega) ?_
  exact kont A z F LA LZ LT K j G H locs ls hR hP hD hS hl
set_option maxHeartbeats 4000000 in
set_option maxRecDepth 100000 in
theorem lw_case16 {p : Program} {l : Launch} {e : Env} {s : State} {m : MethodId} {below : List Frame} {meth : Method} {c : Code} {Q : State → Prop} {b L : Nat} {xs : Nat → Int32} {g : GT} {hd hm i : Nat} {a : Nat → Nat} (C : lw_C p s m meth c b L xs g) (hi : i + 6 ≤ L) (kont : lw_K p l e s m below meth c Q b g hd hm a i 1481 6) : lw_K p l e s m below meth c Q b g hd hm a i 834 0 := by
  intro A z F LA LZ LT K j G H locs ls hR hP hD hS hl
  have hx := C.1
  have hb := C.2.1
  have hts := C.2.2.2.2.2.1
  have hL := C.2.2.2.2.2.2.2.2.2.2
  refine lv_aload_n hx hb dL_law_834 rfl (lv_at hl 2 rfl) ?_
  refine lw_arg C hS hl 1 rfl (by omega) dL_law_835 dL_law_836 dL_law_837 dL_law_838 dL_law_839 ?_
  refine lw_arg C hS hl 2 rfl (by omega) dL_law_840 dL_law_841 dL_law_842 dL_law_843 dL_law_844 ?_
  refine lw_arg C hS hl 3 rfl (by omega) dL_law_845 dL_law_846 dL_law_847 dL_law_848 dL_law_849 ?_
  refine lw_arg C hS hl 4 rfl (by omega) dL_law_850 dL_law_851 dL_law_852 dL_law_853 dL_law_854 ?_
  refine lw_call8 (as := [.int (iI ((xs (i + 1)).toInt)), .int (iI ((xs (i + 2)).toInt)), .int (iI ((xs (i + 3)).toInt)), .int (iI ((xs (i + 4)).toInt))]) (y9 := yX9_hint) (ws9 := wsX9_hint) (rm9 := ({ frames := 2, cells := 0, slots := 0, locals := 46 } : Room)) C (pr_hint l g ((xs (i + 1)).toInt) ((xs (i + 2)).toInt) ((xs (i + 3)).toInt) ((xs (i + 4)).toInt) (xr _) (xr _) (xr _) (xr _) hd hm A z F LA LZ LT K a j G hR) (cwV 4 hts gL_law_X8_hint rfl rfl rfl (by decide +kernel) ⟨Nat.le_of_ble_eq_true rfl, Nat.le_of_ble_eq_true rfl⟩) hP hD hS rfl hl.1 rfl dL_law_855 (by show _ + 0 ≤ 600000 ∧ _ + 0 ≤ 7302250; omega) (fun r A z F LA LZ LT K H locs hQ hP hD hS => ?_)
  refine lv_aload_n hx hb dL_law_858 rfl (lv_at hl 1 rfl) ?_
  refine lw_arg C hS hl 1 rfl (by omega) dL_law_859 dL_law_860 dL_law_861 dL_law_862 dL_law_863 ?_
  refine lw_arg C hS hl 2 rfl (by omega) dL_law_864 dL_law_865 dL_law_866 dL_law_867 dL_law_868 ?_
  refine lw_arg C hS hl 3 rfl (by omega) dL_law_869 dL_law_870 dL_law_871 dL_law_872 dL_law_873 ?_
  refine lw_arg C hS hl 4 rfl (by omega) dL_law_874 dL_law_875 dL_law_876 dL_law_877 dL_law_878 ?_
  refine lw_call9 C hQ (cwV 4 hts gL_law_X9_hint rfl rfl rfl (by decide +kernel) ⟨Nat.le_of_ble_eq_true rfl, Nat.le_of_ble_eq_true rfl⟩) hP hD hS rfl hl.1 rfl dL_law_879 (by show _ + 0 + 0 ≤ 600000 ∧ _ + 0 + 0 ≤ 7302250; omega) (fun j G H locs hR hP hD hS => ?_)
  refine lv_icmp_eq (tgt := 1481) hx hb dL_law_882 (by decide) (fun _ => ?_) (fun h9 => absurd rfl h9)
  refine W.widen (k := 100 + 2 * (i + 6)) (n := 4000 + 50 * (i + 6)) (by show _ + 0 + 0 ≤ _; omega) (by show _ + 0 + 0 ≤ _; omega) ?_
  exact kont A z F LA LZ LT K j G H locs ls hR hP hD hS hl
set_option maxHeartbeats 4000000 in
set_option maxRecDepth 100000 in
theorem lw_case17 {p : Program} {l : Launch} {e : Env} {s : State} {m : MethodId} {below : List Frame} {meth : Method} {c : Code} {Q : State → Prop} {b L : Nat} {xs : Nat → Int32} {g : GT} {hd hm i : Nat} {a : Nat → Nat} (C : lw_C p s m meth c b L xs g) (hi : i + 6 ≤ L) (kont : lw_K p l e s m below meth c Q b g hd hm a i 1481 6) : lw_K p l e s m below meth c Q b g hd hm a i 887 0 := by
  intro A z F LA LZ LT K j G H locs ls hR hP hD hS hl
  have hx := C.1
  have hb := C.2.1
  have hts := C.2.2.2.2.2.1
  have hL := C.2.2.2.2.2.2.2.2.2.2
  refine lv_aload_n hx hb dL_law_887 rfl (lv_at hl 2 rfl) ?_
  refine lw_arg C hS hl 1 rfl (by omega) dL_law_888 dL_law_889 dL_law_890 dL_law_891 dL_law_892 ?_
  refine lv_i2l hx hb dL_law_893 rfl ?_
  refine lv_bipush (v := iI 32) hx hb dL_law_894 (by decide) ?_
  refine lv_lshl hx hb dL_law_896 rfl ?_
  refine lw_arg C hS hl 2 rfl (by omega) dL_law_897 dL_law_898 dL_law_899 dL_law_900 dL_law_901 ?_
  refine lv_i2l hx hb dL_law_902 rfl ?_
  refine lv_ldc2 (v := 4294967295) hx hb C.2.2.2.2.1 (hts _ (List.mem_of_getElem? (i := 6) rfl)) dL_law_903 ?_
  refine lv_land hx hb dL_law_906 ?_
  refine lv_lor hx hb dL_law_907 ?_
  refine lv_topl (fun wl hwl => ?_)
  refine lw_arg C hS hl 3 rfl (by omega) dL_law_908 dL_law_909 dL_law_910 dL_law_911 dL_law_912 ?_
  refine lw_call8 (as := [.long wl, .int (iI ((xs (i + 3)).toInt))]) (y9 := yX9_type) (ws9 := wsX9_type) (rm9 := ({ frames := 1, cells := 0, slots := 0, locals := 25 } : Room)) C (pr_type l g wl ((xs (i + 3)).toInt) (xr _) hd hm A z F LA LZ LT K a j G hR) (cwV 2 hts gL_law_X8_type rfl rfl rfl (by decide +kernel) ⟨Nat.le_of_ble_eq_true rfl, Nat.le_of_ble_eq_true rfl⟩) hP hD hS rfl hl.1 rfl dL_law_913 (by show _ + 0 ≤ 600000 ∧ _ + 0 ≤ 7302250; omega) (fun r A z F LA LZ LT K H locs hQ hP hD hS => ?_)
  refine lv_aload_n hx hb dL_law_916 rfl (lv_at hl 1 rfl) ?_
  refine lw_arg C hS hl 1 rfl (by omega) dL_law_917 dL_law_918 dL_law_919 dL_law_920 dL_law_921 ?_
  refine lv_i2l hx hb dL_law_922 rfl ?_
  refine lv_bipush (v := iI 32) hx hb dL_law_923 (by decide) ?_
  refine lv_lshl hx hb dL_law_925 rfl ?_
  refine lw_arg C hS hl 2 rfl (by omega) dL_law_926 dL_law_927 dL_law_928 dL_law_929 dL_law_930 ?_
  refine lv_i2l hx hb dL_law_931 rfl ?_
  refine lv_ldc2 (v := 4294967295) hx hb C.2.2.2.2.1 (hts _ (List.mem_of_getElem? (i := 6) rfl)) dL_law_932 ?_
  refine lv_land hx hb dL_law_935 ?_
  refine lv_lor hx hb dL_law_936 ?_
  refine lv_topl (fun wl2 hwl2 => ?_)
  have hwe : wl2 = wl := hwl2.trans hwl.symm
  subst hwe
  refine lw_arg C hS hl 3 rfl (by omega) dL_law_937 dL_law_938 dL_law_939 dL_law_940 dL_law_941 ?_
  refine lw_call9 C hQ (cwV 2 hts gL_law_X9_type rfl rfl rfl (by decide +kernel) ⟨Nat.le_of_ble_eq_true rfl, Nat.le_of_ble_eq_true rfl⟩) hP hD hS rfl hl.1 rfl dL_law_942 (by show _ + 0 + 0 ≤ 600000 ∧ _ + 0 + 0 ≤ 7302250; omega) (fun j G H locs hR hP hD hS => ?_)
  refine lv_icmp_eq (tgt := 1481) hx hb dL_law_945 (by decide) (fun _ => ?_) (fun h9 => absurd rfl h9)
  refine W.widen (k := 100 + 2 * (i + 6)) (n := 4000 + 50 * (i + 6)) (by show _ + 0 + 0 ≤ _; omega) (by show _ + 0 + 0 ≤ _; omega) ?_
  exact kont A z F LA LZ LT K j G H locs ls hR hP hD hS hl
set_option maxHeartbeats 4000000 in
set_option maxRecDepth 100000 in
theorem lw_case18 {p : Program} {l : Launch} {e : Env} {s : State} {m : MethodId} {below : List Frame} {meth : Method} {c : Code} {Q : State → Prop} {b L : Nat} {xs : Nat → Int32} {g : GT} {hd hm i : Nat} {a : Nat → Nat} (C : lw_C p s m meth c b L xs g) (hi : i + 6 ≤ L) (kont : lw_K p l e s m below meth c Q b g hd hm a i 1481 6) : lw_K p l e s m below meth c Q b g hd hm a i 950 0 := by
  intro A z F LA LZ LT K j G H locs ls hR hP hD hS hl
  have hx := C.1
  have hb := C.2.1
  have hts := C.2.2.2.2.2.1
  have hL := C.2.2.2.2.2.2.2.2.2.2
  refine lv_aload_n hx hb dL_law_950 rfl (lv_at hl 2 rfl) ?_
  refine lw_call8 (as := []) (y9 := yX9_skills) (ws9 := wsX9_skills) (rm9 := ({ frames := 3, cells := 0, slots := 0, locals := 74 } : Room)) C (pr_skills l g   hd hm A z F LA LZ LT K a j G hR) (cwV 0 hts gL_law_X8_skills rfl rfl rfl (by decide +kernel) ⟨Nat.le_of_ble_eq_true rfl, Nat.le_of_ble_eq_true rfl⟩) hP hD hS rfl hl.1 rfl dL_law_951 (by show _ + 0 ≤ 600000 ∧ _ + 0 ≤ 7302250; omega) (fun r A z F LA LZ LT K H locs hQ hP hD hS => ?_)
  refine lv_aload_n hx hb dL_law_954 rfl (lv_at hl 1 rfl) ?_
  refine lw_call9 C hQ (cwV 0 hts gL_law_X9_skills rfl rfl rfl (by decide +kernel) ⟨Nat.le_of_ble_eq_true rfl, Nat.le_of_ble_eq_true rfl⟩) hP hD hS rfl hl.1 rfl dL_law_955 (by show _ + 0 + 0 ≤ 600000 ∧ _ + 0 + 0 ≤ 7302250; omega) (fun j G H locs hR hP hD hS => ?_)
  refine lv_icmp_eq (tgt := 1481) hx hb dL_law_958 (by decide) (fun _ => ?_) (fun h9 => absurd rfl h9)
  refine W.widen (k := 100 + 2 * (i + 6)) (n := 4000 + 50 * (i + 6)) (by show _ + 0 + 0 ≤ _; omega) (by show _ + 0 + 0 ≤ _; omega) ?_
  exact kont A z F LA LZ LT K j G H locs ls hR hP hD hS hl
set_option maxHeartbeats 4000000 in
set_option maxRecDepth 100000 in
theorem lw_case19 {p : Program} {l : Launch} {e : Env} {s : State} {m : MethodId} {below : List Frame} {meth : Method} {c : Code} {Q : State → Prop} {b L : Nat} {xs : Nat → Int32} {g : GT} {hd hm i : Nat} {a : Nat → Nat} (C : lw_C p s m meth c b L xs g) (hi : i + 6 ≤ L) (kont : lw_K p l e s m below meth c Q b g hd hm a i 1481 6) : lw_K p l e s m below meth c Q b g hd hm a i 963 0 := by
  intro A z F LA LZ LT K j G H locs ls hR hP hD hS hl
  have hx := C.1
  have hb := C.2.1
  have hts := C.2.2.2.2.2.1
  have hL := C.2.2.2.2.2.2.2.2.2.2
  refine lv_aload_n hx hb dL_law_963 rfl (lv_at hl 2 rfl) ?_
  refine lw_arg C hS hl 1 rfl (by omega) dL_law_964 dL_law_965 dL_law_966 dL_law_967 dL_law_968 ?_
  refine lw_arg C hS hl 2 rfl (by omega) dL_law_969 dL_law_970 dL_law_971 dL_law_972 dL_law_973 ?_
  refine lw_call8 (as := [.int (iI ((xs (i + 1)).toInt)), .int (iI ((xs (i + 2)).toInt))]) (y9 := yX9_skill) (ws9 := wsX9_skill) (rm9 := ({ frames := 2, cells := 0, slots := 0, locals := 46 } : Room)) C (pr_skill l g ((xs (i + 1)).toInt) ((xs (i + 2)).toInt) (xr _) (xr _) hd hm A z F LA LZ LT K a j G hR) (cwV 2 hts gL_law_X8_skill rfl rfl rfl (by decide +kernel) ⟨Nat.le_of_ble_eq_true rfl, Nat.le_of_ble_eq_true rfl⟩) hP hD hS rfl hl.1 rfl dL_law_974 (by show _ + 0 ≤ 600000 ∧ _ + 0 ≤ 7302250; omega) (fun r A z F LA LZ LT K H locs hQ hP hD hS => ?_)
  refine lv_aload_n hx hb dL_law_977 rfl (lv_at hl 1 rfl) ?_
  refine lw_arg C hS hl 1 rfl (by omega) dL_law_978 dL_law_979 dL_law_980 dL_law_981 dL_law_982 ?_
  refine lw_arg C hS hl 2 rfl (by omega) dL_law_983 dL_law_984 dL_law_985 dL_law_986 dL_law_987 ?_
  refine lw_call9 C hQ (cwV 2 hts gL_law_X9_skill rfl rfl rfl (by decide +kernel) ⟨Nat.le_of_ble_eq_true rfl, Nat.le_of_ble_eq_true rfl⟩) hP hD hS rfl hl.1 rfl dL_law_988 (by show _ + 0 + 0 ≤ 600000 ∧ _ + 0 + 0 ≤ 7302250; omega) (fun j G H locs hR hP hD hS => ?_)
  refine lv_icmp_eq (tgt := 1481) hx hb dL_law_991 (by decide) (fun _ => ?_) (fun h9 => absurd rfl h9)
  refine W.widen (k := 100 + 2 * (i + 6)) (n := 4000 + 50 * (i + 6)) (by show _ + 0 + 0 ≤ _; omega) (by show _ + 0 + 0 ≤ _; omega) ?_
  exact kont A z F LA LZ LT K j G H locs ls hR hP hD hS hl
set_option maxHeartbeats 4000000 in
set_option maxRecDepth 100000 in
theorem lw_case20 {p : Program} {l : Launch} {e : Env} {s : State} {m : MethodId} {below : List Frame} {meth : Method} {c : Code} {Q : State → Prop} {b L : Nat} {xs : Nat → Int32} {g : GT} {hd hm i : Nat} {a : Nat → Nat} (C : lw_C p s m meth c b L xs g) (hi : i + 6 ≤ L) (kont : lw_K p l e s m below meth c Q b g hd hm a i 1481 6) : lw_K p l e s m below meth c Q b g hd hm a i 996 0 := by
  intro A z F LA LZ LT K j G H locs ls hR hP hD hS hl
  have hx := C.1
  have hb := C.2.1
  have hts := C.2.2.2.2.2.1
  have hL := C.2.2.2.2.2.2.2.2.2.2
  by_cases hz : (xs (i + 4)).toInt = 0
  · refine lv_aload_n hx hb dL_law_996 rfl (lv_at hl 2 rfl) ?_
    refine lw_arg C hS hl 1 rfl (by omega) dL_law_997 dL_law_998 dL_law_999 dL_law_1000 dL_law_1001 ?_
    refine lw_arg C hS hl 2 rfl (by omega) dL_law_1002 dL_law_1003 dL_law_1004 dL_law_1005 dL_law_1006 ?_
    refine lw_arg C hS hl 3 rfl (by omega) dL_law_1007 dL_law_1008 dL_law_1009 dL_law_1010 dL_law_1011 ?_
    refine lw_arg C hS hl 4 rfl (by omega) dL_law_1012 dL_law_1013 dL_law_1014 dL_law_1015 dL_law_1016 ?_
    refine iv_if_eq (tgt := 1024) hx hb dL_law_1017 (by decide) (xr _) (fun _ => ?_) (fun h9 => absurd hz h9)
    refine lv_iconst (v := iI 0) hx hb dL_law_1024 rfl ?_
    refine lw_call8 (as := [.int (iI ((xs (i + 1)).toInt)), .int (iI ((xs (i + 2)).toInt)), .int (iI ((xs (i + 3)).toInt)), .int (iI 0)]) (y9 := yX9_exercise) (ws9 := wsX9_exercise) (rm9 := ({ frames := 2, cells := 0, slots := 0, locals := 46 } : Room)) C (pr_exercise l g ((xs (i + 1)).toInt) ((xs (i + 2)).toInt) ((xs (i + 3)).toInt) 0 (xr _) (xr _) (xr _) (Or.inl rfl) hd hm A z F LA LZ LT K a j G hR) (cwV 4 hts gL_law_X8_exercise rfl rfl rfl (by decide +kernel) ⟨Nat.le_of_ble_eq_true rfl, Nat.le_of_ble_eq_true rfl⟩) hP hD hS rfl hl.1 rfl dL_law_1025 (by show _ + 0 ≤ 600000 ∧ _ + 0 ≤ 7302250; omega) (fun r A z F LA LZ LT K H locs hQ hP hD hS => ?_)
    refine lv_aload_n hx hb dL_law_1028 rfl (lv_at hl 1 rfl) ?_
    refine lw_arg C hS hl 1 rfl (by omega) dL_law_1029 dL_law_1030 dL_law_1031 dL_law_1032 dL_law_1033 ?_
    refine lw_arg C hS hl 2 rfl (by omega) dL_law_1034 dL_law_1035 dL_law_1036 dL_law_1037 dL_law_1038 ?_
    refine lw_arg C hS hl 3 rfl (by omega) dL_law_1039 dL_law_1040 dL_law_1041 dL_law_1042 dL_law_1043 ?_
    refine lw_arg C hS hl 4 rfl (by omega) dL_law_1044 dL_law_1045 dL_law_1046 dL_law_1047 dL_law_1048 ?_
    refine iv_if_eq (tgt := 1056) hx hb dL_law_1049 (by decide) (xr _) (fun _ => ?_) (fun h9 => absurd hz h9)
    refine lv_iconst (v := iI 0) hx hb dL_law_1056 rfl ?_
    refine lw_call9 C hQ (cwV 4 hts gL_law_X9_exercise rfl rfl rfl (by decide +kernel) ⟨Nat.le_of_ble_eq_true rfl, Nat.le_of_ble_eq_true rfl⟩) hP hD hS rfl hl.1 rfl dL_law_1057 (by show _ + 0 + 0 ≤ 600000 ∧ _ + 0 + 0 ≤ 7302250; omega) (fun j G H locs hR hP hD hS => ?_)
    refine lv_icmp_eq (tgt := 1481) hx hb dL_law_1060 (by decide) (fun _ => ?_) (fun h9 => absurd rfl h9)
    refine W.widen (k := 100 + 2 * (i + 6)) (n := 4000 + 50 * (i + 6)) (by show _ + 0 + 0 ≤ _; omega) (by show _ + 0 + 0 ≤ _; omega) ?_
    exact kont A z F LA LZ LT K j G H locs ls hR hP hD hS hl
  · refine lv_aload_n hx hb dL_law_996 rfl (lv_at hl 2 rfl) ?_
    refine lw_arg C hS hl 1 rfl (by omega) dL_law_997 dL_law_998 dL_law_999 dL_law_1000 dL_law_1001 ?_
    refine lw_arg C hS hl 2 rfl (by omega) dL_law_1002 dL_law_1003 dL_law_1004 dL_law_1005 dL_law_1006 ?_
    refine lw_arg C hS hl 3 rfl (by omega) dL_law_1007 dL_law_1008 dL_law_1009 dL_law_1010 dL_law_1011 ?_
    refine lw_arg C hS hl 4 rfl (by omega) dL_law_1012 dL_law_1013 dL_law_1014 dL_law_1015 dL_law_1016 ?_
    refine iv_if_eq (tgt := 1024) hx hb dL_law_1017 (by decide) (xr _) (fun h9 => absurd h9 hz) (fun _ => ?_)
    refine lv_iconst (v := iI 1) hx hb dL_law_1020 rfl ?_
    refine lv_goto (tgt := 1025) hx hb dL_law_1021 (by decide) ?_
    refine lw_call8 (as := [.int (iI ((xs (i + 1)).toInt)), .int (iI ((xs (i + 2)).toInt)), .int (iI ((xs (i + 3)).toInt)), .int (iI 1)]) (y9 := yX9_exercise) (ws9 := wsX9_exercise) (rm9 := ({ frames := 2, cells := 0, slots := 0, locals := 46 } : Room)) C (pr_exercise l g ((xs (i + 1)).toInt) ((xs (i + 2)).toInt) ((xs (i + 3)).toInt) 1 (xr _) (xr _) (xr _) (Or.inr rfl) hd hm A z F LA LZ LT K a j G hR) (cwV 4 hts gL_law_X8_exercise rfl rfl rfl (by decide +kernel) ⟨Nat.le_of_ble_eq_true rfl, Nat.le_of_ble_eq_true rfl⟩) hP hD hS rfl hl.1 rfl dL_law_1025 (by show _ + 0 ≤ 600000 ∧ _ + 0 ≤ 7302250; omega) (fun r A z F LA LZ LT K H locs hQ hP hD hS => ?_)
    refine lv_aload_n hx hb dL_law_1028 rfl (lv_at hl 1 rfl) ?_
    refine lw_arg C hS hl 1 rfl (by omega) dL_law_1029 dL_law_1030 dL_law_1031 dL_law_1032 dL_law_1033 ?_
    refine lw_arg C hS hl 2 rfl (by omega) dL_law_1034 dL_law_1035 dL_law_1036 dL_law_1037 dL_law_1038 ?_
    refine lw_arg C hS hl 3 rfl (by omega) dL_law_1039 dL_law_1040 dL_law_1041 dL_law_1042 dL_law_1043 ?_
    refine lw_arg C hS hl 4 rfl (by omega) dL_law_1044 dL_law_1045 dL_law_1046 dL_law_1047 dL_law_1048 ?_
    refine iv_if_eq (tgt := 1056) hx hb dL_law_1049 (by decide) (xr _) (fun h9 => absurd h9 hz) (fun _ => ?_)
    refine lv_iconst (v := iI 1) hx hb dL_law_1052 rfl ?_
    refine lv_goto (tgt := 1057) hx hb dL_law_1053 (by decide) ?_
    refine lw_call9 C hQ (cwV 4 hts gL_law_X9_exercise rfl rfl rfl (by decide +kernel) ⟨Nat.le_of_ble_eq_true rfl, Nat.le_of_ble_eq_true rfl⟩) hP hD hS rfl hl.1 rfl dL_law_1057 (by show _ + 0 + 0 ≤ 600000 ∧ _ + 0 + 0 ≤ 7302250; omega) (fun j G H locs hR hP hD hS => ?_)
    refine lv_icmp_eq (tgt := 1481) hx hb dL_law_1060 (by decide) (fun _ => ?_) (fun h9 => absurd rfl h9)
    refine W.widen (k := 100 + 2 * (i + 6)) (n := 4000 + 50 * (i + 6)) (by show _ + 0 + 0 ≤ _; omega) (by show _ + 0 + 0 ≤ _; omega) ?_
    exact kont A z F LA LZ LT K j G H locs ls hR hP hD hS hl
