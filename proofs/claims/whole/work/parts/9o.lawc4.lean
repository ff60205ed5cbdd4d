set_option maxHeartbeats 4000000 in
set_option maxRecDepth 100000 in
theorem lw_case27 {p : Program} {l : Launch} {e : Env} {s : State} {m : MethodId} {below : List Frame} {meth : Method} {c : Code} {Q : State → Prop} {b L : Nat} {xs : Nat → Int32} {g : GT} {hd hm i : Nat} {a : Nat → Nat} (C : lw_C p s m meth c b L xs g) (hi : i + 6 ≤ L) (kont : lw_K p l e s m below meth c Q b g hd hm a i 1481 6) : lw_K p l e s m below meth c Q b g hd hm a i 1273 0 := by
  intro A z F LA LZ LT K j G H locs ls hR hP hD hS hl
  have hx := C.1
  have hb := C.2.1
  have hts := C.2.2.2.2.2.1
  have hL := C.2.2.2.2.2.2.2.2.2.2
  refine lv_aload_n hx hb dL_law_1273 rfl (lv_at hl 2 rfl) ?_
  refine lw_call8 (as := []) (y9 := yX9_share) (ws9 := wsX9_share) (rm9 := ({ frames := 2, cells := 0, slots := 0, locals := 49 } : Room)) C (pr_share l g   hd hm A z F LA LZ LT K a j G hR) (cwV 0 hts gL_law_X8_share rfl rfl rfl (by decide +kernel) ⟨Nat.le_of_ble_eq_true rfl, Nat.le_of_ble_eq_true rfl⟩) hP hD hS rfl hl.1 rfl dL_law_1274 (by show _ + 0 ≤ 600000 ∧ _ + 0 ≤ 7302250; omega) (fun r A z F LA LZ LT K H locs hQ hP hD hS => ?_)
  refine lv_aload_n hx hb dL_law_1277 rfl (lv_at hl 1 rfl) ?_
  refine lw_call9 C hQ (cwV 0 hts gL_law_X9_share rfl rfl rfl (by decide +kernel) ⟨Nat.le_of_ble_eq_true rfl, Nat.le_of_ble_eq_true rfl⟩) hP hD hS rfl hl.1 rfl dL_law_1278 (by show _ + 0 + 0 ≤ 600000 ∧ _ + 0 + 0 ≤ 7302250; omega) (fun j G H locs hR hP hD hS => ?_)
  refine lv_icmp_eq (tgt := 1481) hx hb dL_law_1281 (by decide) (fun _ => ?_) (fun h9 => absurd rfl h9)
  refine W.widen (k := 100 + 2 * (i + 6)) (n := 4000 + 50 * (i + 6)) (by show _ + 0 + 0 ≤ _; omega) (by show _ + 0 + 0 ≤ _; omega) ?_
  exact kont A z F LA LZ LT K j G H locs ls hR hP hD hS hl
set_option maxHeartbeats 4000000 in
set_option maxRecDepth 100000 in
theorem lw_case28 {p : Program} {l : Launch} {e : Env} {s : State} {m : MethodId} {below : List Frame} {meth : Method} {c : Code} {Q : State → Prop} {b L : Nat} {xs : Nat → Int32} {g : GT} {hd hm i : Nat} {a : Nat → Nat} (C : lw_C p s m meth c b L xs g) (hi : i + 6 ≤ L) (kont : lw_K p l e s m below meth c Q b g hd hm a i 1481 6) : lw_K p l e s m below meth c Q b g hd hm a i 1286 0 := by
  intro A z F LA LZ LT K j G H locs ls hR hP hD hS hl
  have hx := C.1
  have hb := C.2.1
  have hts := C.2.2.2.2.2.1
  have hL := C.2.2.2.2.2.2.2.2.2.2
  refine lv_aload_n hx hb dL_law_1286 rfl (lv_at hl 2 rfl) ?_
  refine lw_call8 (as := []) (y9 := yX9_verdict) (ws9 := wsX9_verdict) (rm9 := ({ frames := 2, cells := 0, slots := 0, locals := 49 } : Room)) C (pr_verdict l g   hd hm A z F LA LZ LT K a j G hR) (cwV 0 hts gL_law_X8_verdict rfl rfl rfl (by decide +kernel) ⟨Nat.le_of_ble_eq_true rfl, Nat.le_of_ble_eq_true rfl⟩) hP hD hS rfl hl.1 rfl dL_law_1287 (by show _ + 0 ≤ 600000 ∧ _ + 0 ≤ 7302250; omega) (fun r A z F LA LZ LT K H locs hQ hP hD hS => ?_)
  refine lv_aload_n hx hb dL_law_1290 rfl (lv_at hl 1 rfl) ?_
  refine lw_call9 C hQ (cwV 0 hts gL_law_X9_verdict rfl rfl rfl (by decide +kernel) ⟨Nat.le_of_ble_eq_true rfl, Nat.le_of_ble_eq_true rfl⟩) hP hD hS rfl hl.1 rfl dL_law_1291 (by show _ + 0 + 0 ≤ 600000 ∧ _ + 0 + 0 ≤ 7302250; omega) (fun j G H locs hR hP hD hS => ?_)
  refine lv_icmp_eq (tgt := 1481) hx hb dL_law_1294 (by decide) (fun _ => ?_) (fun h9 => absurd rfl h9)
  refine W.widen (k := 100 + 2 * (i + 6)) (n := 4000 + 50 * (i + 6)) (by show _ + 0 + 0 ≤ _; omega) (by show _ + 0 + 0 ≤ _; omega) ?_
  exact kont A z F LA LZ LT K j G H locs ls hR hP hD hS hl
set_option maxHeartbeats 4000000 in
set_option maxRecDepth 100000 in
theorem lw_case29 {p : Program} {l : Launch} {e : Env} {s : State} {m : MethodId} {below : List Frame} {meth : Method} {c : Code} {Q : State → Prop} {b L : Nat} {xs : Nat → Int32} {g : GT} {hd hm i : Nat} {a : Nat → Nat} (C : lw_C p s m meth c b L xs g) (hi : i + 6 ≤ L) (kont : lw_K p l e s m below meth c Q b g hd hm a i 1481 6) : lw_K p l e s m below meth c Q b g hd hm a i 1299 0 := by
  intro A z F LA LZ LT K j G H locs ls hR hP hD hS hl
  have hx := C.1
  have hb := C.2.1
  have hts := C.2.2.2.2.2.1
  have hL := C.2.2.2.2.2.2.2.2.2.2
  refine lv_aload_n hx hb dL_law_1299 rfl (lv_at hl 2 rfl) ?_
  refine lw_arg C hS hl 1 rfl (by omega) dL_law_1300 dL_law_1301 dL_law_1302 dL_law_1303 dL_law_1304 ?_
  refine lw_arg C hS hl 2 rfl (by omega) dL_law_1305 dL_law_1306 dL_law_1307 dL_law_1308 dL_law_1309 ?_
  refine lw_arg C hS hl 3 rfl (by omega) dL_law_1310 dL_law_1311 dL_law_1312 dL_law_1313 dL_law_1314 ?_
  refine lw_call8 (as := [.int (iI ((xs (i + 1)).toInt)), .int (iI ((xs (i + 2)).toInt)), .int (iI ((xs (i + 3)).toInt))]) (y9 := yX9_sheet) (ws9 := wsX9_sheet) (rm9 := ({ frames := 2, cells := 0, slots := 0, locals := 45 } : Room)) C (pr_sheet l g ((xs (i + 1)).toInt) ((xs (i + 2)).toInt) ((xs (i + 3)).toInt) (xr _) (xr _) (xr _) hd hm A z F LA LZ LT K a j G hR) (cwV 3 hts gL_law_X8_sheet rfl rfl rfl (by decide +kernel) ⟨Nat.le_of_ble_eq_true rfl, Nat.le_of_ble_eq_true rfl⟩) hP hD hS rfl hl.1 rfl dL_law_1315 (by show _ + 0 ≤ 600000 ∧ _ + 0 ≤ 7302250; omega) (fun r A z F LA LZ LT K H locs hQ hP hD hS => ?_)
  refine lv_aload_n hx hb dL_law_1318 rfl (lv_at hl 1 rfl) ?_
  refine lw_arg C hS hl 1 rfl (by omega) dL_law_1319 dL_law_1320 dL_law_1321 dL_law_1322 dL_law_1323 ?_
  refine lw_arg C hS hl 2 rfl (by omega) dL_law_1324 dL_law_1325 dL_law_1326 dL_law_1327 dL_law_1328 ?_
  refine lw_arg C hS hl 3 rfl (by omega) dL_law_1329 dL_law_1330 dL_law_1331 dL_law_1332 dL_law_1333 ?_
  refine lw_call9 C hQ (cwV 3 hts gL_law_X9_sheet rfl rfl rfl (by decide +kernel) ⟨Nat.le_of_ble_eq_true rfl, Nat.le_of_ble_eq_true rfl⟩) hP hD hS rfl hl.1 rfl dL_law_1334 (by show _ + 0 + 0 ≤ 600000 ∧ _ + 0 + 0 ≤ 7302250; omega) (fun j G H locs hR hP hD hS => ?_)
  refine lv_icmp_eq (tgt := 1481) hx hb dL_law_1337 (by decide) (fun _ => ?_) (fun h9 => absurd rfl h9)
  refine W.widen (k := 100 + 2 * (i + 6)) (n := 4000 + 50 * (i + 6)) (by show _ + 0 + 0 ≤ _; omega) (by show _ + 0 + 0 ≤ _; omega) ?_
  exact kont A z F LA LZ LT K j G H locs ls hR hP hD hS hl
set_option maxHeartbeats 4000000 in
set_option maxRecDepth 100000 in
theorem lw_case30 {p : Program} {l : Launch} {e : Env} {s : State} {m : MethodId} {below : List Frame} {meth : Method} {c : Code} {Q : State → Prop} {b L : Nat} {xs : Nat → Int32} {g : GT} {hd hm i : Nat} {a : Nat → Nat} (C : lw_C p s m meth c b L xs g) (hi : i + 6 ≤ L) (kont : lw_K p l e s m below meth c Q b g hd hm a i 1481 6) : lw_K p l e s m below meth c Q b g hd hm a i 1342 0 := by
  intro A z F LA LZ LT K j G H locs ls hR hP hD hS hl
  have hx := C.1
  have hb := C.2.1
  have hts := C.2.2.2.2.2.1
  have hL := C.2.2.2.2.2.2.2.2.2.2
  refine lv_aload_n hx hb dL_law_1342 rfl (lv_at hl 2 rfl) ?_
  refine lw_arg C hS hl 1 rfl (by omega) dL_law_1343 dL_law_1344 dL_law_1345 dL_law_1346 dL_law_1347 ?_
  refine lw_call8 (as := [.int (iI ((xs (i + 1)).toInt))]) (y9 := yX9_drop) (ws9 := wsX9_drop) (rm9 := ({ frames := 2, cells := 0, slots := 0, locals := 45 } : Room)) C (pr_drop l g ((xs (i + 1)).toInt) (xr _) hd hm A z F LA LZ LT K a j G hR) (cwV 1 hts gL_law_X8_drop rfl rfl rfl (by decide +kernel) ⟨Nat.le_of_ble_eq_true rfl, Nat.le_of_ble_eq_true rfl⟩) hP hD hS rfl hl.1 rfl dL_law_1348 (by show _ + 0 ≤ 600000 ∧ _ + 0 ≤ 7302250; omega) (fun r A z F LA LZ LT K H locs hQ hP hD hS => ?_)
  refine lv_aload_n hx hb dL_law_1351 rfl (lv_at hl 1 rfl) ?_
  refine lw_arg C hS hl 1 rfl (by omega) dL_law_1352 dL_law_1353 dL_law_1354 dL_law_1355 dL_law_1356 ?_
  refine lw_call9 C hQ (cwV 1 hts gL_law_X9_drop rfl rfl rfl (by decide +kernel) ⟨Nat.le_of_ble_eq_true rfl, Nat.le_of_ble_eq_true rfl⟩) hP hD hS rfl hl.1 rfl dL_law_1357 (by show _ + 0 + 0 ≤ 600000 ∧ _ + 0 + 0 ≤ 7302250; omega) (fun j G H locs hR hP hD hS => ?_)
  refine lv_icmp_eq (tgt := 1481) hx hb dL_law_1360 (by decide) (fun _ => ?_) (fun h9 => absurd rfl h9)
  refine W.widen (k := 100 + 2 * (i + 6)) (n := 4000 + 50 * (i + 6)) (by show _ + 0 + 0 ≤ _; omega) (by show _ + 0 + 0 ≤ _; omega) ?_
  exact kont A z F LA LZ LT K j G H locs ls hR hP hD hS hl
set_option maxHeartbeats 4000000 in
set_option maxRecDepth 100000 in
theorem lw_case31 {p : Program} {l : Launch} {e : Env} {s : State} {m : MethodId} {below : List Frame} {meth : Method} {c : Code} {Q : State → Prop} {b L : Nat} {xs : Nat → Int32} {g : GT} {hd hm i : Nat} {a : Nat → Nat} (C : lw_C p s m meth c b L xs g) (hi : i + 6 ≤ L) (kont : lw_K p l e s m below meth c Q b g hd hm a i 1481 6) : lw_K p l e s m below meth c Q b g hd hm a i 1365 0 := by
  intro A z F LA LZ LT K j G H locs ls hR hP hD hS hl
  have hx := C.1
  have hb := C.2.1
  have hts := C.2.2.2.2.2.1
  have hL := C.2.2.2.2.2.2.2.2.2.2
  refine lv_aload_n hx hb dL_law_1365 rfl (lv_at hl 2 rfl) ?_
  refine lw_arg C hS hl 1 rfl (by omega) dL_law_1366 dL_law_1367 dL_law_1368 dL_law_1369 dL_law_1370 ?_
  refine lw_arg C hS hl 2 rfl (by omega) dL_law_1371 dL_law_1372 dL_law_1373 dL_law_1374 dL_law_1375 ?_
  refine lw_arg C hS hl 3 rfl (by omega) dL_law_1376 dL_law_1377 dL_law_1378 dL_law_1379 dL_law_1380 ?_
  refine lw_arg C hS hl 4 rfl (by omega) dL_law_1381 dL_law_1382 dL_law_1383 dL_law_1384 dL_law_1385 ?_
  refine lw_call8 (as := [.int (iI ((xs (i + 1)).toInt)), .int (iI ((xs (i + 2)).toInt)), .int (iI ((xs (i + 3)).toInt)), .int (iI ((xs (i + 4)).toInt))]) (y9 := yX9_item) (ws9 := wsX9_item) (rm9 := ({ frames := 2, cells := 0, slots := 0, locals := 45 } : Room)) C (pr_item l g ((xs (i + 1)).toInt) ((xs (i + 2)).toInt) ((xs (i + 3)).toInt) ((xs (i + 4)).toInt) (xr _) (xr _) (xr _) (xr _) hd hm A z F LA LZ LT K a j G hR) (cwV 4 hts gL_law_X8_item rfl rfl rfl (by decide +kernel) ⟨Nat.le_of_ble_eq_true rfl, Nat.le_of_ble_eq_true rfl⟩) hP hD hS rfl hl.1 rfl dL_law_1386 (by show _ + 0 ≤ 600000 ∧ _ + 0 ≤ 7302250; omega) (fun r A z F LA LZ LT K H locs hQ hP hD hS => ?_)
  refine lv_aload_n hx hb dL_law_1389 rfl (lv_at hl 1 rfl) ?_
  refine lw_arg C hS hl 1 rfl (by omega) dL_law_1390 dL_law_1391 dL_law_1392 dL_law_1393 dL_law_1394 ?_
  refine lw_arg C hS hl 2 rfl (by omega) dL_law_1395 dL_law_1396 dL_law_1397 dL_law_1398 dL_law_1399 ?_
  refine lw_arg C hS hl 3 rfl (by omega) dL_law_1400 dL_law_1401 dL_law_1402 dL_law_1403 dL_law_1404 ?_
  refine lw_arg C hS hl 4 rfl (by omega) dL_law_1405 dL_law_1406 dL_law_1407 dL_law_1408 dL_law_1409 ?_
  refine lw_call9 C hQ (cwV 4 hts gL_law_X9_item rfl rfl rfl (by decide +kernel) ⟨Nat.le_of_ble_eq_true rfl, Nat.le_of_ble_eq_true rfl⟩) hP hD hS rfl hl.1 rfl dL_law_1410 (by show _ + 0 + 0 ≤ 600000 ∧ _ + 0 + 0 ≤ 7302250; omega) (fun j G H locs hR hP hD hS => ?_)
  refine lv_icmp_eq (tgt := 1481) hx hb dL_law_1413 (by decide) (fun _ => ?_) (fun h9 => absurd rfl h9)
  refine W.widen (k := 100 + 2 * (i + 6)) (n := 4000 + 50 * (i + 6)) (by show _ + 0 + 0 ≤ _; omega) (by show _ + 0 + 0 ≤ _; omega) ?_
  exact kont A z F LA LZ LT K j G H locs ls hR hP hD hS hl
set_option maxHeartbeats 4000000 in
set_option maxRecDepth 100000 in
theorem lw_case32 {p : Program} {l : Launch} {e : Env} {s : State} {m : MethodId} {below : List Frame} {meth : Method} {c : Code} {Q : State → Prop} {b L : Nat} {xs : Nat → Int32} {g : GT} {hd hm i : Nat} {a : Nat → Nat} (C : lw_C p s m meth c b L xs g) (hi : i + 6 ≤ L) (kont : lw_K p l e s m below meth c Q b g hd hm a i 1481 6) : lw_K p l e s m below meth c Q b g hd hm a i 1418 0 := by
  intro A z F LA LZ LT K j G H locs ls hR hP hD hS hl
  have hx := C.1
  have hb := C.2.1
  have hts := C.2.2.2.2.2.1
  have hL := C.2.2.2.2.2.2.2.2.2.2
  refine lv_aload_n hx hb dL_law_1418 rfl (lv_at hl 2 rfl) ?_
  refine lw_arg C hS hl 1 rfl (by omega) dL_law_1419 dL_law_1420 dL_law_1421 dL_law_1422 dL_law_1423 ?_
  refine lw_arg C hS hl 2 rfl (by omega) dL_law_1424 dL_law_1425 dL_law_1426 dL_law_1427 dL_law_1428 ?_
  refine lw_arg C hS hl 3 rfl (by omega) dL_law_1429 dL_law_1430 dL_law_1431 dL_law_1432 dL_law_1433 ?_
  refine lw_arg C hS hl 4 rfl (by omega) dL_law_1434 dL_law_1435 dL_law_1436 dL_law_1437 dL_law_1438 ?_
  refine lw_arg C hS hl 5 rfl (by omega) dL_law_1439 dL_law_1440 dL_law_1441 dL_law_1442 dL_law_1443 ?_
  refine lw_call8 (as := [.int (iI ((xs (i + 1)).toInt)), .int (iI ((xs (i + 2)).toInt)), .int (iI ((xs (i + 3)).toInt)), .int (iI ((xs (i + 4)).toInt)), .int (iI ((xs (i + 5)).toInt))]) (y9 := yX9_copy) (ws9 := wsX9_copy) (rm9 := ({ frames := 2, cells := 0, slots := 0, locals := 45 } : Room)) C (pr_copy l g ((xs (i + 1)).toInt) ((xs (i + 2)).toInt) ((xs (i + 3)).toInt) ((xs (i + 4)).toInt) ((xs (i + 5)).toInt) (xr _) (xr _) (xr _) (xr _) (xr _) hd hm A z F LA LZ LT K a j G hR) (cwV 5 hts gL_law_X8_copy rfl rfl rfl (by decide +kernel) ⟨Nat.le_of_ble_eq_true rfl, Nat.le_of_ble_eq_true rfl⟩) hP hD hS rfl hl.1 rfl dL_law_1444 (by show _ + 0 ≤ 600000 ∧ _ + 0 ≤ 7302250; omega) (fun r A z F LA LZ LT K H locs hQ hP hD hS => ?_)
  refine lv_aload_n hx hb dL_law_1447 rfl (lv_at hl 1 rfl) ?_
  refine lw_arg C hS hl 1 rfl (by omega) dL_law_1448 dL_law_1449 dL_law_1450 dL_law_1451 dL_law_1452 ?_
  refine lw_arg C hS hl 2 rfl (by omega) dL_law_1453 dL_law_1454 dL_law_1455 dL_law_1456 dL_law_1457 ?_
  refine lw_arg C hS hl 3 rfl (by omega) dL_law_1458 dL_law_1459 dL_law_1460 dL_law_1461 dL_law_1462 ?_
  refine lw_arg C hS hl 4 rfl (by omega) dL_law_1463 dL_law_1464 dL_law_1465 dL_law_1466 dL_law_1467 ?_
  refine lw_arg C hS hl 5 rfl (by omega) dL_law_1468 dL_law_1469 dL_law_1470 dL_law_1471 dL_law_1472 ?_
  refine lw_call9 C hQ (cwV 5 hts gL_law_X9_copy rfl rfl rfl (by decide +kernel) ⟨Nat.le_of_ble_eq_true rfl, Nat.le_of_ble_eq_true rfl⟩) hP hD hS rfl hl.1 rfl dL_law_1473 (by show _ + 0 + 0 ≤ 600000 ∧ _ + 0 + 0 ≤ 7302250; omega) (fun j G H locs hR hP hD hS => ?_)
  refine lv_icmp_eq (tgt := 1481) hx hb dL_law_1476 (by decide) (fun _ => ?_) (fun h9 => absurd rfl h9)
  refine W.widen (k := 100 + 2 * (i + 6)) (n := 4000 + 50 * (i + 6)) (by show _ + 0 + 0 ≤ _; omega) (by show _ + 0 + 0 ≤ _; omega) ?_
  exact kont A z F LA LZ LT K j G H locs ls hR hP hD hS hl
