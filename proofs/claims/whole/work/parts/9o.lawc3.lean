set_option maxHeartbeats 4000000 in
set_option maxRecDepth 100000 in
theorem lw_case21 {p : Program} {l : Launch} {e : Env} {s : State} {m : MethodId} {below : List Frame} {meth : Method} {c : Code} {Q : State → Prop} {b L : Nat} {xs : Nat → Int32} {g : GT} {hd hm i : Nat} {a : Nat → Nat} (C : lw_C p s m meth c b L xs g) (hi : i + 6 ≤ L) (kont : lw_K p l e s m below meth c Q b g hd hm a i 1481 6) : lw_K p l e s m below meth c Q b g hd hm a i 1065 0 := by
  intro A z F LA LZ LT K j G H locs ls hR hP hD hS hl
  have hx := C.1
  have hb := C.2.1
  have hts := C.2.2.2.2.2.1
  have hL := C.2.2.2.2.2.2.2.2.2.2
  refine lv_aload_n hx hb dL_law_1065 rfl (lv_at hl 2 rfl) ?_
  refine lw_arg C hS hl 1 rfl (by omega) dL_law_1066 dL_law_1067 dL_law_1068 dL_law_1069 dL_law_1070 ?_
  refine lw_arg C hS hl 2 rfl (by omega) dL_law_1071 dL_law_1072 dL_law_1073 dL_law_1074 dL_law_1075 ?_
  refine lw_arg C hS hl 3 rfl (by omega) dL_law_1076 dL_law_1077 dL_law_1078 dL_law_1079 dL_law_1080 ?_
  refine lw_call8 (as := [.int (iI ((xs (i + 1)).toInt)), .int (iI ((xs (i + 2)).toInt)), .int (iI ((xs (i + 3)).toInt))]) (y9 := yX9_odds) (ws9 := wsX9_odds) (rm9 := ({ frames := 2, cells := 0, slots := 0, locals := 46 } : Room)) C (pr_odds l g ((xs (i + 1)).toInt) ((xs (i + 2)).toInt) ((xs (i + 3)).toInt) (xr _) (xr _) (xr _) hd hm A z F LA LZ LT K a j G hR) (cwV 3 hts gL_law_X8_odds rfl rfl rfl (by decide +kernel) ⟨Nat.le_of_ble_eq_true rfl, Nat.le_of_ble_eq_true rfl⟩) hP hD hS rfl hl.1 rfl dL_law_1081 (by show _ + 0 ≤ 600000 ∧ _ + 0 ≤ 7302250; omega) (fun r A z F LA LZ LT K H locs hQ hP hD hS => ?_)
  refine lv_aload_n hx hb dL_law_1084 rfl (lv_at hl 1 rfl) ?_
  refine lw_arg C hS hl 1 rfl (by omega) dL_law_1085 dL_law_1086 dL_law_1087 dL_law_1088 dL_law_1089 ?_
  refine lw_arg C hS hl 2 rfl (by omega) dL_law_1090 dL_law_1091 dL_law_1092 dL_law_1093 dL_law_1094 ?_
  refine lw_arg C hS hl 3 rfl (by omega) dL_law_1095 dL_law_1096 dL_law_1097 dL_law_1098 dL_law_1099 ?_
  refine lw_call9 C hQ (cwV 3 hts gL_law_X9_odds rfl rfl rfl (by decide +kernel) ⟨Nat.le_of_ble_eq_true rfl, Nat.le_of_ble_eq_true rfl⟩) hP hD hS rfl hl.1 rfl dL_law_1100 (by show _ + 0 + 0 ≤ 600000 ∧ _ + 0 + 0 ≤ 7302250; omega) (fun j G H locs hR hP hD hS => ?_)
  refine lv_icmp_eq (tgt := 1481) hx hb dL_law_1103 (by decide) (fun _ => ?_) (fun h9 => absurd rfl h9)
  refine W.widen (k := 100 + 2 * (i + 6)) (n := 4000 + 50 * (i + 6)) (by show _ + 0 + 0 ≤ _; omega) (by show _ + 0 + 0 ≤ _; omega) ?_
  exact kont A z F LA LZ LT K j G H locs ls hR hP hD hS hl
set_option maxHeartbeats 4000000 in
set_option maxRecDepth 100000 in
theorem lw_case22 {p : Program} {l : Launch} {e : Env} {s : State} {m : MethodId} {below : List Frame} {meth : Method} {c : Code} {Q : State → Prop} {b L : Nat} {xs : Nat → Int32} {g : GT} {hd hm i : Nat} {a : Nat → Nat} (C : lw_C p s m meth c b L xs g) (hi : i + 6 ≤ L) (kont : lw_K p l e s m below meth c Q b g hd hm a i 1481 6) : lw_K p l e s m below meth c Q b g hd hm a i 1108 0 := by
  intro A z F LA LZ LT K j G H locs ls hR hP hD hS hl
  have hx := C.1
  have hb := C.2.1
  have hts := C.2.2.2.2.2.1
  have hL := C.2.2.2.2.2.2.2.2.2.2
  refine lv_aload_n hx hb dL_law_1108 rfl (lv_at hl 2 rfl) ?_
  refine lw_arg C hS hl 1 rfl (by omega) dL_law_1109 dL_law_1110 dL_law_1111 dL_law_1112 dL_law_1113 ?_
  refine lw_arg C hS hl 2 rfl (by omega) dL_law_1114 dL_law_1115 dL_law_1116 dL_law_1117 dL_law_1118 ?_
  refine lw_arg C hS hl 3 rfl (by omega) dL_law_1119 dL_law_1120 dL_law_1121 dL_law_1122 dL_law_1123 ?_
  refine lw_call8 (as := [.int (iI ((xs (i + 1)).toInt)), .int (iI ((xs (i + 2)).toInt)), .int (iI ((xs (i + 3)).toInt))]) (y9 := yX9_again) (ws9 := wsX9_again) (rm9 := ({ frames := 2, cells := 0, slots := 0, locals := 46 } : Room)) C (pr_again l g ((xs (i + 1)).toInt) ((xs (i + 2)).toInt) ((xs (i + 3)).toInt) (xr _) (xr _) (xr _) hd hm A z F LA LZ LT K a j G hR) (cwV 3 hts gL_law_X8_again rfl rfl rfl (by decide +kernel) ⟨Nat.le_of_ble_eq_true rfl, Nat.le_of_ble_eq_true rfl⟩) hP hD hS rfl hl.1 rfl dL_law_1124 (by show _ + 0 ≤ 600000 ∧ _ + 0 ≤ 7302250; omega) (fun r A z F LA LZ LT K H locs hQ hP hD hS => ?_)
  refine lv_aload_n hx hb dL_law_1127 rfl (lv_at hl 1 rfl) ?_
  refine lw_arg C hS hl 1 rfl (by omega) dL_law_1128 dL_law_1129 dL_law_1130 dL_law_1131 dL_law_1132 ?_
  refine lw_arg C hS hl 2 rfl (by omega) dL_law_1133 dL_law_1134 dL_law_1135 dL_law_1136 dL_law_1137 ?_
  refine lw_arg C hS hl 3 rfl (by omega) dL_law_1138 dL_law_1139 dL_law_1140 dL_law_1141 dL_law_1142 ?_
  refine lw_call9 C hQ (cwV 3 hts gL_law_X9_again rfl rfl rfl (by decide +kernel) ⟨Nat.le_of_ble_eq_true rfl, Nat.le_of_ble_eq_true rfl⟩) hP hD hS rfl hl.1 rfl dL_law_1143 (by show _ + 0 + 0 ≤ 600000 ∧ _ + 0 + 0 ≤ 7302250; omega) (fun j G H locs hR hP hD hS => ?_)
  refine lv_icmp_eq (tgt := 1481) hx hb dL_law_1146 (by decide) (fun _ => ?_) (fun h9 => absurd rfl h9)
  refine W.widen (k := 100 + 2 * (i + 6)) (n := 4000 + 50 * (i + 6)) (by show _ + 0 + 0 ≤ _; omega) (by show _ + 0 + 0 ≤ _; omega) ?_
  exact kont A z F LA LZ LT K j G H locs ls hR hP hD hS hl
set_option maxHeartbeats 4000000 in
set_option maxRecDepth 100000 in
theorem lw_case23 {p : Program} {l : Launch} {e : Env} {s : State} {m : MethodId} {below : List Frame} {meth : Method} {c : Code} {Q : State → Prop} {b L : Nat} {xs : Nat → Int32} {g : GT} {hd hm i : Nat} {a : Nat → Nat} (C : lw_C p s m meth c b L xs g) (hi : i + 6 ≤ L) (kont : lw_K p l e s m below meth c Q b g hd hm a i 1481 6) : lw_K p l e s m below meth c Q b g hd hm a i 1151 0 := by
  intro A z F LA LZ LT K j G H locs ls hR hP hD hS hl
  have hx := C.1
  have hb := C.2.1
  have hts := C.2.2.2.2.2.1
  have hL := C.2.2.2.2.2.2.2.2.2.2
  refine lv_aload_n hx hb dL_law_1151 rfl (lv_at hl 2 rfl) ?_
  refine lw_arg C hS hl 1 rfl (by omega) dL_law_1152 dL_law_1153 dL_law_1154 dL_law_1155 dL_law_1156 ?_
  refine lw_arg C hS hl 2 rfl (by omega) dL_law_1157 dL_law_1158 dL_law_1159 dL_law_1160 dL_law_1161 ?_
  refine lw_arg C hS hl 3 rfl (by omega) dL_law_1162 dL_law_1163 dL_law_1164 dL_law_1165 dL_law_1166 ?_
  refine lw_arg C hS hl 4 rfl (by omega) dL_law_1167 dL_law_1168 dL_law_1169 dL_law_1170 dL_law_1171 ?_
  refine lw_call8 (as := [.int (iI ((xs (i + 1)).toInt)), .int (iI ((xs (i + 2)).toInt)), .int (iI ((xs (i + 3)).toInt)), .int (iI ((xs (i + 4)).toInt))]) (y9 := yX9_way) (ws9 := wsX9_way) (rm9 := ({ frames := 2, cells := 0, slots := 0, locals := 46 } : Room)) C (pr_way l g ((xs (i + 1)).toInt) ((xs (i + 2)).toInt) ((xs (i + 3)).toInt) ((xs (i + 4)).toInt) (xr _) (xr _) (xr _) (xr _) hd hm A z F LA LZ LT K a j G hR) (cwV 4 hts gL_law_X8_way rfl rfl rfl (by decide +kernel) ⟨Nat.le_of_ble_eq_true rfl, Nat.le_of_ble_eq_true rfl⟩) hP hD hS rfl hl.1 rfl dL_law_1172 (by show _ + 0 ≤ 600000 ∧ _ + 0 ≤ 7302250; omega) (fun r A z F LA LZ LT K H locs hQ hP hD hS => ?_)
  refine lv_aload_n hx hb dL_law_1175 rfl (lv_at hl 1 rfl) ?_
  refine lw_arg C hS hl 1 rfl (by omega) dL_law_1176 dL_law_1177 dL_law_1178 dL_law_1179 dL_law_1180 ?_
  refine lw_arg C hS hl 2 rfl (by omega) dL_law_1181 dL_law_1182 dL_law_1183 dL_law_1184 dL_law_1185 ?_
  refine lw_arg C hS hl 3 rfl (by omega) dL_law_1186 dL_law_1187 dL_law_1188 dL_law_1189 dL_law_1190 ?_
  refine lw_arg C hS hl 4 rfl (by omega) dL_law_1191 dL_law_1192 dL_law_1193 dL_law_1194 dL_law_1195 ?_
  refine lw_call9 C hQ (cwV 4 hts gL_law_X9_way rfl rfl rfl (by decide +kernel) ⟨Nat.le_of_ble_eq_true rfl, Nat.le_of_ble_eq_true rfl⟩) hP hD hS rfl hl.1 rfl dL_law_1196 (by show _ + 0 + 0 ≤ 600000 ∧ _ + 0 + 0 ≤ 7302250; omega) (fun j G H locs hR hP hD hS => ?_)
  refine lv_icmp_eq (tgt := 1481) hx hb dL_law_1199 (by decide) (fun _ => ?_) (fun h9 => absurd rfl h9)
  refine W.widen (k := 100 + 2 * (i + 6)) (n := 4000 + 50 * (i + 6)) (by show _ + 0 + 0 ≤ _; omega) (by show _ + 0 + 0 ≤ _; omega) ?_
  exact kont A z F LA LZ LT K j G H locs ls hR hP hD hS hl
set_option maxHeartbeats 4000000 in
set_option maxRecDepth 100000 in
theorem lw_case24 {p : Program} {l : Launch} {e : Env} {s : State} {m : MethodId} {below : List Frame} {meth : Method} {c : Code} {Q : State → Prop} {b L : Nat} {xs : Nat → Int32} {g : GT} {hd hm i : Nat} {a : Nat → Nat} (C : lw_C p s m meth c b L xs g) (hi : i + 6 ≤ L) (kont : lw_K p l e s m below meth c Q b g hd hm a i 1481 6) : lw_K p l e s m below meth c Q b g hd hm a i 1204 0 := by
  intro A z F LA LZ LT K j G H locs ls hR hP hD hS hl
  have hx := C.1
  have hb := C.2.1
  have hts := C.2.2.2.2.2.1
  have hL := C.2.2.2.2.2.2.2.2.2.2
  refine lv_aload_n hx hb dL_law_1204 rfl (lv_at hl 2 rfl) ?_
  refine lw_arg C hS hl 1 rfl (by omega) dL_law_1205 dL_law_1206 dL_law_1207 dL_law_1208 dL_law_1209 ?_
  refine lw_arg C hS hl 2 rfl (by omega) dL_law_1210 dL_law_1211 dL_law_1212 dL_law_1213 dL_law_1214 ?_
  refine lw_call8 (as := [.int (iI ((xs (i + 1)).toInt)), .int (iI ((xs (i + 2)).toInt))]) (y9 := yX9_deal) (ws9 := wsX9_deal) (rm9 := ({ frames := 1, cells := 0, slots := 0, locals := 25 } : Room)) C (pr_deal l g ((xs (i + 1)).toInt) ((xs (i + 2)).toInt) (xr _) (xr _) hd hm A z F LA LZ LT K a j G hR) (cwV 2 hts gL_law_X8_deal rfl rfl rfl (by decide +kernel) ⟨Nat.le_of_ble_eq_true rfl, Nat.le_of_ble_eq_true rfl⟩) hP hD hS rfl hl.1 rfl dL_law_1215 (by show _ + 0 ≤ 600000 ∧ _ + 0 ≤ 7302250; omega) (fun r A z F LA LZ LT K H locs hQ hP hD hS => ?_)
  refine lv_aload_n hx hb dL_law_1218 rfl (lv_at hl 1 rfl) ?_
  refine lw_arg C hS hl 1 rfl (by omega) dL_law_1219 dL_law_1220 dL_law_1221 dL_law_1222 dL_law_1223 ?_
  refine lw_arg C hS hl 2 rfl (by omega) dL_law_1224 dL_law_1225 dL_law_1226 dL_law_1227 dL_law_1228 ?_
  refine lw_call9 C hQ (cwV 2 hts gL_law_X9_deal rfl rfl rfl (by decide +kernel) ⟨Nat.le_of_ble_eq_true rfl, Nat.le_of_ble_eq_true rfl⟩) hP hD hS rfl hl.1 rfl dL_law_1229 (by show _ + 0 + 0 ≤ 600000 ∧ _ + 0 + 0 ≤ 7302250; omega) (fun j G H locs hR hP hD hS => ?_)
  refine lv_icmp_eq (tgt := 1481) hx hb dL_law_1232 (by decide) (fun _ => ?_) (fun h9 => absurd rfl h9)
  refine W.widen (k := 100 + 2 * (i + 6)) (n := 4000 + 50 * (i + 6)) (by show _ + 0 + 0 ≤ _; omega) (by show _ + 0 + 0 ≤ _; omega) ?_
  exact kont A z F LA LZ LT K j G H locs ls hR hP hD hS hl
set_option maxHeartbeats 4000000 in
set_option maxRecDepth 100000 in
theorem lw_case25 {p : Program} {l : Launch} {e : Env} {s : State} {m : MethodId} {below : List Frame} {meth : Method} {c : Code} {Q : State → Prop} {b L : Nat} {xs : Nat → Int32} {g : GT} {hd hm i : Nat} {a : Nat → Nat} (C : lw_C p s m meth c b L xs g) (hi : i + 6 ≤ L) (kont : lw_K p l e s m below meth c Q b g hd hm a i 1481 6) : lw_K p l e s m below meth c Q b g hd hm a i 1237 0 := by
  intro A z F LA LZ LT K j G H locs ls hR hP hD hS hl
  have hx := C.1
  have hb := C.2.1
  have hts := C.2.2.2.2.2.1
  have hL := C.2.2.2.2.2.2.2.2.2.2
  refine lv_aload_n hx hb dL_law_1237 rfl (lv_at hl 2 rfl) ?_
  refine lw_call8 (as := []) (y9 := yX9_ends) (ws9 := wsX9_ends) (rm9 := ({ frames := 0, cells := 0, slots := 0, locals := 0 } : Room)) C (pr_ends l g   hd hm A z F LA LZ LT K a j G hR) (cwV 0 hts gL_law_X8_ends rfl rfl rfl (by decide +kernel) ⟨Nat.le_of_ble_eq_true rfl, Nat.le_of_ble_eq_true rfl⟩) hP hD hS rfl hl.1 rfl dL_law_1238 (by show _ + 0 ≤ 600000 ∧ _ + 0 ≤ 7302250; omega) (fun r A z F LA LZ LT K H locs hQ hP hD hS => ?_)
  refine lv_aload_n hx hb dL_law_1241 rfl (lv_at hl 1 rfl) ?_
  refine lw_call9 C hQ (cwV 0 hts gL_law_X9_ends rfl rfl rfl (by decide +kernel) ⟨Nat.le_of_ble_eq_true rfl, Nat.le_of_ble_eq_true rfl⟩) hP hD hS rfl hl.1 rfl dL_law_1242 (by show _ + 0 + 0 ≤ 600000 ∧ _ + 0 + 0 ≤ 7302250; omega) (fun j G H locs hR hP hD hS => ?_)
  refine lv_icmp_eq (tgt := 1481) hx hb dL_law_1245 (by decide) (fun _ => ?_) (fun h9 => absurd rfl h9)
  refine W.widen (k := 100 + 2 * (i + 6)) (n := 4000 + 50 * (i + 6)) (by show _ + 0 + 0 ≤ _; omega) (by show _ + 0 + 0 ≤ _; omega) ?_
  exact kont A z F LA LZ LT K j G H locs ls hR hP hD hS hl
set_option maxHeartbeats 4000000 in
set_option maxRecDepth 100000 in
theorem lw_case26 {p : Program} {l : Launch} {e : Env} {s : State} {m : MethodId} {below : List Frame} {meth : Method} {c : Code} {Q : State → Prop} {b L : Nat} {xs : Nat → Int32} {g : GT} {hd hm i : Nat} {a : Nat → Nat} (C : lw_C p s m meth c b L xs g) (hi : i + 6 ≤ L) (kont : lw_K p l e s m below meth c Q b g hd hm a i 1481 6) : lw_K p l e s m below meth c Q b g hd hm a i 1250 0 := by
  intro A z F LA LZ LT K j G H locs ls hR hP hD hS hl
  have hx := C.1
  have hb := C.2.1
  have hts := C.2.2.2.2.2.1
  have hL := C.2.2.2.2.2.2.2.2.2.2
  refine lv_aload_n hx hb dL_law_1250 rfl (lv_at hl 2 rfl) ?_
  refine lw_arg C hS hl 1 rfl (by omega) dL_law_1251 dL_law_1252 dL_law_1253 dL_law_1254 dL_law_1255 ?_
  refine lw_call8 (as := [.int (iI ((xs (i + 1)).toInt))]) (y9 := yX9_by) (ws9 := wsX9_by) (rm9 := ({ frames := 2, cells := 0, slots := 0, locals := 43 } : Room)) C (pr_by l g ((xs (i + 1)).toInt) (xr _) hd hm A z F LA LZ LT K a j G hR) (cwV 1 hts gL_law_X8_by rfl rfl rfl (by decide +kernel) ⟨Nat.le_of_ble_eq_true rfl, Nat.le_of_ble_eq_true rfl⟩) hP hD hS rfl hl.1 rfl dL_law_1256 (by show _ + 0 ≤ 600000 ∧ _ + 0 ≤ 7302250; omega) (fun r A z F LA LZ LT K H locs hQ hP hD hS => ?_)
  refine lv_aload_n hx hb dL_law_1259 rfl (lv_at hl 1 rfl) ?_
  refine lw_arg C hS hl 1 rfl (by omega) dL_law_1260 dL_law_1261 dL_law_1262 dL_law_1263 dL_law_1264 ?_
  refine lw_call9 C hQ (cwV 1 hts gL_law_X9_by rfl rfl rfl (by decide +kernel) ⟨Nat.le_of_ble_eq_true rfl, Nat.le_of_ble_eq_true rfl⟩) hP hD hS rfl hl.1 rfl dL_law_1265 (by show _ + 0 + 0 ≤ 600000 ∧ _ + 0 + 0 ≤ 7302250; omega) (fun j G H locs hR hP hD hS => ?_)
  refine lv_icmp_eq (tgt := 1481) hx hb dL_law_1268 (by decide) (fun _ => ?_) (fun h9 => absurd rfl h9)
  refine W.widen (k := 100 + 2 * (i + 6)) (n := 4000 + 50 * (i + 6)) (by show _ + 0 + 0 ≤ _; omega) (by show _ + 0 + 0 ≤ _; omega) ?_
  exact kont A z F LA LZ LT K j G H locs ls hR hP hD hS hl
