section LW
variable {p : Program} {l : Launch} {e : Env} {s : State} {m : MethodId} {below : List Frame} {meth : Method} {c : Code} {H : Heap} {locs : List Loc} {cells slots : Nat} {Q : State → Prop} {ls : Array Slot} {D : va_G} {T : Nat → ClassId} {X : zFP} {A : Nat → Prop} {b L : Nat} {xs : Nat → Int32} {i : Nat} {ad : Nat → Nat → Nat} {hm : Nat → Nat} {gs : Nat → zM} {g : zM} {gl : zL}
set_option maxHeartbeats 4000000 in
set_option maxRecDepth 20000 in
theorem law_sheet (C : zLw p room_1 s m c b L xs D T X A cells slots) (hi : i + 6 ≤ L) (hv : yInv gs g gl) (hP : va_P D vwCl (zFlat (zWg T ad hm gs g gl)) H) (hD : va_D A (zFlat (zWg T ad hm gs g gl))) (hS : va_S A s.heap H locs) (hl : lv_has ls 4 [(0, .ref b), (1, .ref (ad 0 0)), (2, .ref (hm 0)), (3, .int (nI i))]) (kk : zGo p l e room_1 s m below meth c ls cells slots Q D T A b ad hm) : W p l e room_1 s m #[Value.ref b] below meth c H locs cells slots Q (F0 m 1326 ls []) := by
  have hx := C.hx
  have hb := C.hb
  obtain ⟨r, w10, g', gl', e1, e2, hv⟩ := v_sheet hv (zAt xs i 1) (zAt xs i 2) (zAt xs i 3)
  refine lv_aload_n hx hb dL_law_1326 rfl (lv_at hl 1 rfl) ?_
  refine zLd 1 C hS hl hi (by decide) rfl dL_law_1327 dL_law_1328 dL_law_1329 dL_law_1330 dL_law_1331 ?_
  refine zLd 2 C hS hl hi (by decide) rfl dL_law_1332 dL_law_1333 dL_law_1334 dL_law_1335 dL_law_1336 ?_
  refine zLd 3 C hS hl hi (by decide) rfl dL_law_1337 dL_law_1338 dL_law_1339 dL_law_1340 dL_law_1341 ?_
  refine zCallGI (zWg T ad hm gs g gl) (zWg T ad hm (zSet gs 10 w10) g gl) [.int (zAt xs i 1), .int (zAt xs i 2), .int (zAt xs i 3)] ⟨hx, hb, C.hml, C.hown, zHt C.hts tv_X9_sheet⟩ (pX9_sheet l D T X ad H.size (gs 0) (gs 10) (zAt xs i 1) (zAt xs i 2) (zAt xs i 3) r w10 e1) (cwV 3 (zHt C.hts tv_X9_sheet) gv_X9_sheet rfl rfl rfl (by decide +kernel) ⟨Nat.le_of_ble_eq_true rfl, Nat.le_of_ble_eq_true rfl⟩) C.hK hP hD hS C.hA C.hX [0, 10] [1, 2, 3, 4, 5, 6, 7, 8, 9, 11, 12] rfl (zFl2 _ _ ) (zFl2 _ _ ) rfl 0 rfl rfl rfl hl.1 rfl (Nat.le_of_ble_eq_true rfl) dL_law_1342 C.hf (fun H locs hP hD hS => ?_)
  refine lv_aload_n hx hb dL_law_1345 rfl (lv_at hl 2 rfl) ?_
  refine zLd 1 C hS hl hi (by decide) rfl dL_law_1346 dL_law_1347 dL_law_1348 dL_law_1349 dL_law_1350 ?_
  refine zLd 2 C hS hl hi (by decide) rfl dL_law_1351 dL_law_1352 dL_law_1353 dL_law_1354 dL_law_1355 ?_
  refine zLd 3 C hS hl hi (by decide) rfl dL_law_1356 dL_law_1357 dL_law_1358 dL_law_1359 dL_law_1360 ?_
  refine zCallGI (zWg T ad hm (zSet gs 10 w10) g gl) (zWg T ad hm (zSet gs 10 w10) g' gl') [.int (zAt xs i 1), .int (zAt xs i 2), .int (zAt xs i 3)] ⟨hx, hb, C.hml, C.hown, zHt C.hts tv_X10_sheet⟩ (pX10_sheet l D T X hm H.size g gl (zAt xs i 1) (zAt xs i 2) (zAt xs i 3) r g' gl' e2) (cwV 3 (zHt C.hts tv_X10_sheet) gv_X10_sheet rfl rfl rfl (by decide +kernel) ⟨Nat.le_of_ble_eq_true rfl, Nat.le_of_ble_eq_true rfl⟩) C.hK hP hD hS C.hA C.hX [12] [0, 1, 2, 3, 4, 5, 6, 7, 8, 9, 10, 11] rfl (zFl1 _) (zFl1 _) rfl 0 rfl rfl rfl hl.1 rfl (Nat.le_of_ble_eq_true rfl) dL_law_1361 C.hf (fun H locs hP hD hS => ?_)
  exact lv_icmp_eq (tgt := 1646) hx hb dL_law_1364 (by decide) (fun _ => kk _ _ _ H locs hv hP hD hS) (fun h9 => absurd rfl h9)
set_option maxHeartbeats 4000000 in
set_option maxRecDepth 20000 in
theorem law_put (C : zLw p room_1 s m c b L xs D T X A cells slots) (hi : i + 6 ≤ L) (hv : yInv gs g gl) (hP : va_P D vwCl (zFlat (zWg T ad hm gs g gl)) H) (hD : va_D A (zFlat (zWg T ad hm gs g gl))) (hS : va_S A s.heap H locs) (hl : lv_has ls 4 [(0, .ref b), (1, .ref (ad 0 0)), (2, .ref (hm 0)), (3, .int (nI i))]) (kk : zGo p l e room_1 s m below meth c ls cells slots Q D T A b ad hm) : W p l e room_1 s m #[Value.ref b] below meth c H locs cells slots Q (F0 m 1369 ls []) := by
  have hx := C.hx
  have hb := C.hb
  obtain ⟨r, w10, gl', e1, e2, hv⟩ := v_put hv (zAt xs i 1) (zAt xs i 2) (zAt xs i 3)
  refine lv_aload_n hx hb dL_law_1369 rfl (lv_at hl 1 rfl) ?_
  refine zLd 1 C hS hl hi (by decide) rfl dL_law_1370 dL_law_1371 dL_law_1372 dL_law_1373 dL_law_1374 ?_
  refine zLd 2 C hS hl hi (by decide) rfl dL_law_1375 dL_law_1376 dL_law_1377 dL_law_1378 dL_law_1379 ?_
  refine zLd 3 C hS hl hi (by decide) rfl dL_law_1380 dL_law_1381 dL_law_1382 dL_law_1383 dL_law_1384 ?_
  refine zCallGI (zWg T ad hm gs g gl) (zWg T ad hm (zSet gs 10 w10) g gl) [.int (zAt xs i 1), .int (zAt xs i 2), .int (zAt xs i 3)] ⟨hx, hb, C.hml, C.hown, zHt C.hts tv_X9_put⟩ (pX9_put l D T X ad H.size (gs 0) (gs 10) (zAt xs i 1) (zAt xs i 2) (zAt xs i 3) r w10 e1) (cwV 3 (zHt C.hts tv_X9_put) gv_X9_put rfl rfl rfl (by decide +kernel) ⟨Nat.le_of_ble_eq_true rfl, Nat.le_of_ble_eq_true rfl⟩) C.hK hP hD hS C.hA C.hX [0, 10] [1, 2, 3, 4, 5, 6, 7, 8, 9, 11, 12] rfl (zFl2 _ _ ) (zFl2 _ _ ) rfl 0 rfl rfl rfl hl.1 rfl (Nat.le_of_ble_eq_true rfl) dL_law_1385 C.hf (fun H locs hP hD hS => ?_)
  refine lv_aload_n hx hb dL_law_1388 rfl (lv_at hl 2 rfl) ?_
  refine zLd 1 C hS hl hi (by decide) rfl dL_law_1389 dL_law_1390 dL_law_1391 dL_law_1392 dL_law_1393 ?_
  refine zLd 2 C hS hl hi (by decide) rfl dL_law_1394 dL_law_1395 dL_law_1396 dL_law_1397 dL_law_1398 ?_
  refine zLd 3 C hS hl hi (by decide) rfl dL_law_1399 dL_law_1400 dL_law_1401 dL_law_1402 dL_law_1403 ?_
  refine zCallGI (zWg T ad hm (zSet gs 10 w10) g gl) (zWg T ad hm (zSet gs 10 w10) g gl') [.int (zAt xs i 1), .int (zAt xs i 2), .int (zAt xs i 3)] ⟨hx, hb, C.hml, C.hown, zHt C.hts tv_X10_put⟩ (pX10_put l D T X hm H.size g gl (zAt xs i 1) (zAt xs i 2) (zAt xs i 3) r gl' e2) (cwV 3 (zHt C.hts tv_X10_put) gv_X10_put rfl rfl rfl (by decide +kernel) ⟨Nat.le_of_ble_eq_true rfl, Nat.le_of_ble_eq_true rfl⟩) C.hK hP hD hS C.hA C.hX [12] [0, 1, 2, 3, 4, 5, 6, 7, 8, 9, 10, 11] rfl (zFl1 _) (zFl1 _) rfl 0 rfl rfl rfl hl.1 rfl (Nat.le_of_ble_eq_true rfl) dL_law_1404 C.hf (fun H locs hP hD hS => ?_)
  exact lv_icmp_eq (tgt := 1646) hx hb dL_law_1407 (by decide) (fun _ => kk _ _ _ H locs hv hP hD hS) (fun h9 => absurd rfl h9)
set_option maxHeartbeats 4000000 in
set_option maxRecDepth 20000 in
theorem law_item (C : zLw p room_1 s m c b L xs D T X A cells slots) (hi : i + 6 ≤ L) (hv : yInv gs g gl) (hP : va_P D vwCl (zFlat (zWg T ad hm gs g gl)) H) (hD : va_D A (zFlat (zWg T ad hm gs g gl))) (hS : va_S A s.heap H locs) (hl : lv_has ls 4 [(0, .ref b), (1, .ref (ad 0 0)), (2, .ref (hm 0)), (3, .int (nI i))]) (kk : zGo p l e room_1 s m below meth c ls cells slots Q D T A b ad hm) : W p l e room_1 s m #[Value.ref b] below meth c H locs cells slots Q (F0 m 1412 ls []) := by
  have hx := C.hx
  have hb := C.hb
  obtain ⟨r, e1, e2, hv⟩ := v_item hv (zAt xs i 1) (zAt xs i 2) (zAt xs i 3)
  refine lv_aload_n hx hb dL_law_1412 rfl (lv_at hl 1 rfl) ?_
  refine zLd 1 C hS hl hi (by decide) rfl dL_law_1413 dL_law_1414 dL_law_1415 dL_law_1416 dL_law_1417 ?_
  refine zLd 2 C hS hl hi (by decide) rfl dL_law_1418 dL_law_1419 dL_law_1420 dL_law_1421 dL_law_1422 ?_
  refine zLd 3 C hS hl hi (by decide) rfl dL_law_1423 dL_law_1424 dL_law_1425 dL_law_1426 dL_law_1427 ?_
  refine zCallGI (zWg T ad hm gs g gl) (zWg T ad hm gs g gl) [.int (zAt xs i 1), .int (zAt xs i 2), .int (zAt xs i 3)] ⟨hx, hb, C.hml, C.hown, zHt C.hts tv_X9_item⟩ (pX9_item l D T X ad H.size (gs 0) (gs 10) (zAt xs i 1) (zAt xs i 2) (zAt xs i 3) r  e1) (cwV 3 (zHt C.hts tv_X9_item) gv_X9_item rfl rfl rfl (by decide +kernel) ⟨Nat.le_of_ble_eq_true rfl, Nat.le_of_ble_eq_true rfl⟩) C.hK hP hD hS C.hA C.hX [0, 10] [1, 2, 3, 4, 5, 6, 7, 8, 9, 11, 12] rfl (zFl2 _ _ ) (zFl2 _ _ ) rfl 0 rfl rfl rfl hl.1 rfl (Nat.le_of_ble_eq_true rfl) dL_law_1428 C.hf (fun H locs hP hD hS => ?_)
  refine lv_aload_n hx hb dL_law_1431 rfl (lv_at hl 2 rfl) ?_
  refine zLd 1 C hS hl hi (by decide) rfl dL_law_1432 dL_law_1433 dL_law_1434 dL_law_1435 dL_law_1436 ?_
  refine zLd 2 C hS hl hi (by decide) rfl dL_law_1437 dL_law_1438 dL_law_1439 dL_law_1440 dL_law_1441 ?_
  refine zLd 3 C hS hl hi (by decide) rfl dL_law_1442 dL_law_1443 dL_law_1444 dL_law_1445 dL_law_1446 ?_
  refine zCallGI (zWg T ad hm gs g gl) (zWg T ad hm gs g gl) [.int (zAt xs i 1), .int (zAt xs i 2), .int (zAt xs i 3)] ⟨hx, hb, C.hml, C.hown, zHt C.hts tv_X10_item⟩ (pX10_item l D T X hm H.size g gl (zAt xs i 1) (zAt xs i 2) (zAt xs i 3) r  e2) (cwV 3 (zHt C.hts tv_X10_item) gv_X10_item rfl rfl rfl (by decide +kernel) ⟨Nat.le_of_ble_eq_true rfl, Nat.le_of_ble_eq_true rfl⟩) C.hK hP hD hS C.hA C.hX [12] [0, 1, 2, 3, 4, 5, 6, 7, 8, 9, 10, 11] rfl (zFl1 _) (zFl1 _) rfl 0 rfl rfl rfl hl.1 rfl (Nat.le_of_ble_eq_true rfl) dL_law_1447 C.hf (fun H locs hP hD hS => ?_)
  exact lv_icmp_eq (tgt := 1646) hx hb dL_law_1450 (by decide) (fun _ => kk _ _ _ H locs hv hP hD hS) (fun h9 => absurd rfl h9)
set_option maxHeartbeats 4000000 in
set_option maxRecDepth 20000 in
theorem law_shelf (C : zLw p room_1 s m c b L xs D T X A cells slots) (hi : i + 6 ≤ L) (hv : yInv gs g gl) (hP : va_P D vwCl (zFlat (zWg T ad hm gs g gl)) H) (hD : va_D A (zFlat (zWg T ad hm gs g gl))) (hS : va_S A s.heap H locs) (hl : lv_has ls 4 [(0, .ref b), (1, .ref (ad 0 0)), (2, .ref (hm 0)), (3, .int (nI i))]) (kk : zGo p l e room_1 s m below meth c ls cells slots Q D T A b ad hm) : W p l e room_1 s m #[Value.ref b] below meth c H locs cells slots Q (F0 m 1455 ls []) := by
  have hx := C.hx
  have hb := C.hb
  obtain ⟨r, w10, g', e1, e2, hv⟩ := v_shelf hv (zAt xs i 1) (zAt xs i 2) (zAt xs i 3)
  refine lv_aload_n hx hb dL_law_1455 rfl (lv_at hl 1 rfl) ?_
  refine zLd 1 C hS hl hi (by decide) rfl dL_law_1456 dL_law_1457 dL_law_1458 dL_law_1459 dL_law_1460 ?_
  refine zLd 2 C hS hl hi (by decide) rfl dL_law_1461 dL_law_1462 dL_law_1463 dL_law_1464 dL_law_1465 ?_
  refine zLd 3 C hS hl hi (by decide) rfl dL_law_1466 dL_law_1467 dL_law_1468 dL_law_1469 dL_law_1470 ?_
  refine zCallGI (zWg T ad hm gs g gl) (zWg T ad hm (zSet gs 10 w10) g gl) [.int (zAt xs i 1), .int (zAt xs i 2), .int (zAt xs i 3)] ⟨hx, hb, C.hml, C.hown, zHt C.hts tv_X9_shelf⟩ (pX9_shelf l D T X ad H.size (gs 0) (gs 1) (gs 10) (zAt xs i 1) (zAt xs i 2) (zAt xs i 3) r w10 e1) (cwV 3 (zHt C.hts tv_X9_shelf) gv_X9_shelf rfl rfl rfl (by decide +kernel) ⟨Nat.le_of_ble_eq_true rfl, Nat.le_of_ble_eq_true rfl⟩) C.hK hP hD hS C.hA C.hX [0, 1, 10] [2, 3, 4, 5, 6, 7, 8, 9, 11, 12] rfl (zFl3 _ _ _ ) (zFl3 _ _ _ ) rfl 0 rfl rfl rfl hl.1 rfl (Nat.le_of_ble_eq_true rfl) dL_law_1471 C.hf (fun H locs hP hD hS => ?_)
  refine lv_aload_n hx hb dL_law_1474 rfl (lv_at hl 2 rfl) ?_
  refine zLd 1 C hS hl hi (by decide) rfl dL_law_1475 dL_law_1476 dL_law_1477 dL_law_1478 dL_law_1479 ?_
  refine zLd 2 C hS hl hi (by decide) rfl dL_law_1480 dL_law_1481 dL_law_1482 dL_law_1483 dL_law_1484 ?_
  refine zLd 3 C hS hl hi (by decide) rfl dL_law_1485 dL_law_1486 dL_law_1487 dL_law_1488 dL_law_1489 ?_
  refine zCallGI (zWg T ad hm (zSet gs 10 w10) g gl) (zWg T ad hm (zSet gs 10 w10) g' gl) [.int (zAt xs i 1), .int (zAt xs i 2), .int (zAt xs i 3)] ⟨hx, hb, C.hml, C.hown, zHt C.hts tv_X10_shelf⟩ (pX10_shelf l D T X hm H.size g gl (zAt xs i 1) (zAt xs i 2) (zAt xs i 3) r g' e2) (cwV 3 (zHt C.hts tv_X10_shelf) gv_X10_shelf rfl rfl rfl (by decide +kernel) ⟨Nat.le_of_ble_eq_true rfl, Nat.le_of_ble_eq_true rfl⟩) C.hK hP hD hS C.hA C.hX [12] [0, 1, 2, 3, 4, 5, 6, 7, 8, 9, 10, 11] rfl (zFl1 _) (zFl1 _) rfl 0 rfl rfl rfl hl.1 rfl (Nat.le_of_ble_eq_true rfl) dL_law_1490 C.hf (fun H locs hP hD hS => ?_)
  exact lv_icmp_eq (tgt := 1646) hx hb dL_law_1493 (by decide) (fun _ => kk _ _ _ H locs hv hP hD hS) (fun h9 => absurd rfl h9)
set_option maxHeartbeats 4000000 in
set_option maxRecDepth 20000 in
theorem law_taken (C : zLw p room_1 s m c b L xs D T X A cells slots) (hi : i + 6 ≤ L) (hv : yInv gs g gl) (hP : va_P D vwCl (zFlat (zWg T ad hm gs g gl)) H) (hD : va_D A (zFlat (zWg T ad hm gs g gl))) (hS : va_S A s.heap H locs) (hl : lv_has ls 4 [(0, .ref b), (1, .ref (ad 0 0)), (2, .ref (hm 0)), (3, .int (nI i))]) (kk : zGo p l e room_1 s m below meth c ls cells slots Q D T A b ad hm) : W p l e room_1 s m #[Value.ref b] below meth c H locs cells slots Q (F0 m 1498 ls []) := by
  have hx := C.hx
  have hb := C.hb
  obtain ⟨r, e1, e2, hv⟩ := v_taken hv (zAt xs i 1) (zAt xs i 2)
  refine lv_aload_n hx hb dL_law_1498 rfl (lv_at hl 1 rfl) ?_
  refine zLd 1 C hS hl hi (by decide) rfl dL_law_1499 dL_law_1500 dL_law_1501 dL_law_1502 dL_law_1503 ?_
  refine zLd 2 C hS hl hi (by decide) rfl dL_law_1504 dL_law_1505 dL_law_1506 dL_law_1507 dL_law_1508 ?_
  refine zCallGI (zWg T ad hm gs g gl) (zWg T ad hm gs g gl) [.int (zAt xs i 1), .int (zAt xs i 2)] ⟨hx, hb, C.hml, C.hown, zHt C.hts tv_X9_taken⟩ (pX9_taken l D T X ad H.size (gs 0) (gs 1) (gs 10) (zAt xs i 1) (zAt xs i 2) r  e1) (cwV 2 (zHt C.hts tv_X9_taken) gv_X9_taken rfl rfl rfl (by decide +kernel) ⟨Nat.le_of_ble_eq_true rfl, Nat.le_of_ble_eq_true rfl⟩) C.hK hP hD hS C.hA C.hX [0, 1, 10] [2, 3, 4, 5, 6, 7, 8, 9, 11, 12] rfl (zFl3 _ _ _ ) (zFl3 _ _ _ ) rfl 0 rfl rfl rfl hl.1 rfl (Nat.le_of_ble_eq_true rfl) dL_law_1509 C.hf (fun H locs hP hD hS => ?_)
  refine lv_aload_n hx hb dL_law_1512 rfl (lv_at hl 2 rfl) ?_
  refine zLd 1 C hS hl hi (by decide) rfl dL_law_1513 dL_law_1514 dL_law_1515 dL_law_1516 dL_law_1517 ?_
  refine zLd 2 C hS hl hi (by decide) rfl dL_law_1518 dL_law_1519 dL_law_1520 dL_law_1521 dL_law_1522 ?_
  refine zCallGI (zWg T ad hm gs g gl) (zWg T ad hm gs g gl) [.int (zAt xs i 1), .int (zAt xs i 2)] ⟨hx, hb, C.hml, C.hown, zHt C.hts tv_X10_taken⟩ (pX10_taken l D T X hm H.size g gl (zAt xs i 1) (zAt xs i 2) r  e2) (cwV 2 (zHt C.hts tv_X10_taken) gv_X10_taken rfl rfl rfl (by decide +kernel) ⟨Nat.le_of_ble_eq_true rfl, Nat.le_of_ble_eq_true rfl⟩) C.hK hP hD hS C.hA C.hX [12] [0, 1, 2, 3, 4, 5, 6, 7, 8, 9, 10, 11] rfl (zFl1 _) (zFl1 _) rfl 0 rfl rfl rfl hl.1 rfl (Nat.le_of_ble_eq_true rfl) dL_law_1523 C.hf (fun H locs hP hD hS => ?_)
  exact lv_icmp_eq (tgt := 1646) hx hb dL_law_1526 (by decide) (fun _ => kk _ _ _ H locs hv hP hD hS) (fun h9 => absurd rfl h9)
set_option maxHeartbeats 4000000 in
set_option maxRecDepth 20000 in
theorem law_act (C : zLw p room_1 s m c b L xs D T X A cells slots) (hi : i + 6 ≤ L) (hv : yInv gs g gl) (hP : va_P D vwCl (zFlat (zWg T ad hm gs g gl)) H) (hD : va_D A (zFlat (zWg T ad hm gs g gl))) (hS : va_S A s.heap H locs) (hl : lv_has ls 4 [(0, .ref b), (1, .ref (ad 0 0)), (2, .ref (hm 0)), (3, .int (nI i))]) (kk : zGo p l e room_1 s m below meth c ls cells slots Q D T A b ad hm) : W p l e room_1 s m #[Value.ref b] below meth c H locs cells slots Q (F0 m 1531 ls []) := by
  have hx := C.hx
  have hb := C.hb
  obtain ⟨r, w11, g', e1, e2, hv⟩ := v_act hv (zAt xs i 1) (zAt xs i 2) (zAt xs i 3)
  refine lv_aload_n hx hb dL_law_1531 rfl (lv_at hl 1 rfl) ?_
  refine zLd 1 C hS hl hi (by decide) rfl dL_law_1532 dL_law_1533 dL_law_1534 dL_law_1535 dL_law_1536 ?_
  refine zLd 2 C hS hl hi (by decide) rfl dL_law_1537 dL_law_1538 dL_law_1539 dL_law_1540 dL_law_1541 ?_
  refine zLd 3 C hS hl hi (by decide) rfl dL_law_1542 dL_law_1543 dL_law_1544 dL_law_1545 dL_law_1546 ?_
  refine zCallGI (zWg T ad hm gs g gl) (zWg T ad hm (zSet gs 11 w11) g gl) [.int (zAt xs i 1), .int (zAt xs i 2), .int (zAt xs i 3)] ⟨hx, hb, C.hml, C.hown, zHt C.hts tv_X9_act⟩ (pX9_act l D T X ad H.size (gs 0) (gs 1) (gs 10) (gs 11) (zAt xs i 1) (zAt xs i 2) (zAt xs i 3) r w11 e1) (cwV 3 (zHt C.hts tv_X9_act) gv_X9_act rfl rfl rfl (by decide +kernel) ⟨Nat.le_of_ble_eq_true rfl, Nat.le_of_ble_eq_true rfl⟩) C.hK hP hD hS C.hA C.hX [0, 1, 10, 11] [2, 3, 4, 5, 6, 7, 8, 9, 12] rfl (zFl4 _ _ _ _ ) (zFl4 _ _ _ _ ) rfl 0 rfl rfl rfl hl.1 rfl (Nat.le_of_ble_eq_true rfl) dL_law_1547 C.hf (fun H locs hP hD hS => ?_)
  refine lv_aload_n hx hb dL_law_1550 rfl (lv_at hl 2 rfl) ?_
  refine zLd 1 C hS hl hi (by decide) rfl dL_law_1551 dL_law_1552 dL_law_1553 dL_law_1554 dL_law_1555 ?_
  refine zLd 2 C hS hl hi (by decide) rfl dL_law_1556 dL_law_1557 dL_law_1558 dL_law_1559 dL_law_1560 ?_
  refine zLd 3 C hS hl hi (by decide) rfl dL_law_1561 dL_law_1562 dL_law_1563 dL_law_1564 dL_law_1565 ?_
  refine zCallGI (zWg T ad hm (zSet gs 11 w11) g gl) (zWg T ad hm (zSet gs 11 w11) g' gl) [.int (zAt xs i 1), .int (zAt xs i 2), .int (zAt xs i 3)] ⟨hx, hb, C.hml, C.hown, zHt C.hts tv_X10_act⟩ (pX10_act l D T X hm H.size g gl (zAt xs i 1) (zAt xs i 2) (zAt xs i 3) r g' e2) (cwV 3 (zHt C.hts tv_X10_act) gv_X10_act rfl rfl rfl (by decide +kernel) ⟨Nat.le_of_ble_eq_true rfl, Nat.le_of_ble_eq_true rfl⟩) C.hK hP hD hS C.hA C.hX [12] [0, 1, 2, 3, 4, 5, 6, 7, 8, 9, 10, 11] rfl (zFl1 _) (zFl1 _) rfl 0 rfl rfl rfl hl.1 rfl (Nat.le_of_ble_eq_true rfl) dL_law_1566 C.hf (fun H locs hP hD hS => ?_)
  exact lv_icmp_eq (tgt := 1646) hx hb dL_law_1569 (by decide) (fun _ => kk _ _ _ H locs hv hP hD hS) (fun h9 => absurd rfl h9)
set_option maxHeartbeats 4000000 in
set_option maxRecDepth 20000 in
theorem law_trace (C : zLw p room_1 s m c b L xs D T X A cells slots) (hi : i + 6 ≤ L) (hv : yInv gs g gl) (hP : va_P D vwCl (zFlat (zWg T ad hm gs g gl)) H) (hD : va_D A (zFlat (zWg T ad hm gs g gl))) (hS : va_S A s.heap H locs) (hl : lv_has ls 4 [(0, .ref b), (1, .ref (ad 0 0)), (2, .ref (hm 0)), (3, .int (nI i))]) (kk : zGo p l e room_1 s m below meth c ls cells slots Q D T A b ad hm) : W p l e room_1 s m #[Value.ref b] below meth c H locs cells slots Q (F0 m 1574 ls []) := by
  have hx := C.hx
  have hb := C.hb
  obtain ⟨r, e1, e2, hv⟩ := v_trace hv (zAt xs i 1)
  refine lv_aload_n hx hb dL_law_1574 rfl (lv_at hl 1 rfl) ?_
  refine zLd 1 C hS hl hi (by decide) rfl dL_law_1575 dL_law_1576 dL_law_1577 dL_law_1578 dL_law_1579 ?_
  refine zCallGI (zWg T ad hm gs g gl) (zWg T ad hm gs g gl) [.int (zAt xs i 1)] ⟨hx, hb, C.hml, C.hown, zHt C.hts tv_X9_trace⟩ (pX9_trace l D T X ad H.size (gs 0) (gs 11) (zAt xs i 1) r  e1) (cwV 1 (zHt C.hts tv_X9_trace) gv_X9_trace rfl rfl rfl (by decide +kernel) ⟨Nat.le_of_ble_eq_true rfl, Nat.le_of_ble_eq_true rfl⟩) C.hK hP hD hS C.hA C.hX [0, 11] [1, 2, 3, 4, 5, 6, 7, 8, 9, 10, 12] rfl (zFl2 _ _ ) (zFl2 _ _ ) rfl 0 rfl rfl rfl hl.1 rfl (Nat.le_of_ble_eq_true rfl) dL_law_1580 C.hf (fun H locs hP hD hS => ?_)
  refine lv_aload_n hx hb dL_law_1583 rfl (lv_at hl 2 rfl) ?_
  refine zLd 1 C hS hl hi (by decide) rfl dL_law_1584 dL_law_1585 dL_law_1586 dL_law_1587 dL_law_1588 ?_
  refine zCallGI (zWg T ad hm gs g gl) (zWg T ad hm gs g gl) [.int (zAt xs i 1)] ⟨hx, hb, C.hml, C.hown, zHt C.hts tv_X10_trace⟩ (pX10_trace l D T X hm H.size g gl (zAt xs i 1) r  e2) (cwV 1 (zHt C.hts tv_X10_trace) gv_X10_trace rfl rfl rfl (by decide +kernel) ⟨Nat.le_of_ble_eq_true rfl, Nat.le_of_ble_eq_true rfl⟩) C.hK hP hD hS C.hA C.hX [12] [0, 1, 2, 3, 4, 5, 6, 7, 8, 9, 10, 11] rfl (zFl1 _) (zFl1 _) rfl 0 rfl rfl rfl hl.1 rfl (Nat.le_of_ble_eq_true rfl) dL_law_1589 C.hf (fun H locs hP hD hS => ?_)
  exact lv_icmp_eq (tgt := 1646) hx hb dL_law_1592 (by decide) (fun _ => kk _ _ _ H locs hv hP hD hS) (fun h9 => absurd rfl h9)
set_option maxHeartbeats 4000000 in
set_option maxRecDepth 20000 in
theorem law_many (C : zLw p room_1 s m c b L xs D T X A cells slots) (hi : i + 6 ≤ L) (hv : yInv gs g gl) (hP : va_P D vwCl (zFlat (zWg T ad hm gs g gl)) H) (hD : va_D A (zFlat (zWg T ad hm gs g gl))) (hS : va_S A s.heap H locs) (hl : lv_has ls 4 [(0, .ref b), (1, .ref (ad 0 0)), (2, .ref (hm 0)), (3, .int (nI i))]) (kk : zGo p l e room_1 s m below meth c ls cells slots Q D T A b ad hm) : W p l e room_1 s m #[Value.ref b] below meth c H locs cells slots Q (F0 m 1597 ls []) := by
  have hx := C.hx
  have hb := C.hb
  obtain ⟨r, e1, e2, hv⟩ := v_many hv (zAt xs i 1)
  refine lv_aload_n hx hb dL_law_1597 rfl (lv_at hl 1 rfl) ?_
  refine zLd 1 C hS hl hi (by decide) rfl dL_law_1598 dL_law_1599 dL_law_1600 dL_law_1601 dL_law_1602 ?_
  refine zCallGI (zWg T ad hm gs g gl) (zWg T ad hm gs g gl) [.int (zAt xs i 1)] ⟨hx, hb, C.hml, C.hown, zHt C.hts tv_X9_many⟩ (pX9_many l D T X ad H.size (gs 0) (gs 1) (gs 4) (gs 9) (gs 11) (zAt xs i 1) r  e1) (cwV 1 (zHt C.hts tv_X9_many) gv_X9_many rfl rfl rfl (by decide +kernel) ⟨Nat.le_of_ble_eq_true rfl, Nat.le_of_ble_eq_true rfl⟩) C.hK hP hD hS C.hA C.hX [0, 1, 4, 9, 11] [2, 3, 5, 6, 7, 8, 10, 12] rfl (zFl5 _ _ _ _ _ ) (zFl5 _ _ _ _ _ ) rfl 0 rfl rfl rfl hl.1 rfl (Nat.le_of_ble_eq_true rfl) dL_law_1603 C.hf (fun H locs hP hD hS => ?_)
  refine lv_aload_n hx hb dL_law_1606 rfl (lv_at hl 2 rfl) ?_
  refine zLd 1 C hS hl hi (by decide) rfl dL_law_1607 dL_law_1608 dL_law_1609 dL_law_1610 dL_law_1611 ?_
  refine zCallGI (zWg T ad hm gs g gl) (zWg T ad hm gs g gl) [.int (zAt xs i 1)] ⟨hx, hb, C.hml, C.hown, zHt C.hts tv_X10_many⟩ (pX10_many l D T X hm H.size g gl (zAt xs i 1) r  e2) (cwV 1 (zHt C.hts tv_X10_many) gv_X10_many rfl rfl rfl (by decide +kernel) ⟨Nat.le_of_ble_eq_true rfl, Nat.le_of_ble_eq_true rfl⟩) C.hK hP hD hS C.hA C.hX [12] [0, 1, 2, 3, 4, 5, 6, 7, 8, 9, 10, 11] rfl (zFl1 _) (zFl1 _) rfl 0 rfl rfl rfl hl.1 rfl (Nat.le_of_ble_eq_true rfl) dL_law_1612 C.hf (fun H locs hP hD hS => ?_)
  exact lv_icmp_eq (tgt := 1646) hx hb dL_law_1615 (by decide) (fun _ => kk _ _ _ H locs hv hP hD hS) (fun h9 => absurd rfl h9)
set_option maxHeartbeats 4000000 in
set_option maxRecDepth 20000 in
theorem law_keep (C : zLw p room_1 s m c b L xs D T X A cells slots) (hi : i + 6 ≤ L) (hv : yInv gs g gl) (hP : va_P D vwCl (zFlat (zWg T ad hm gs g gl)) H) (hD : va_D A (zFlat (zWg T ad hm gs g gl))) (hS : va_S A s.heap H locs) (hl : lv_has ls 4 [(0, .ref b), (1, .ref (ad 0 0)), (2, .ref (hm 0)), (3, .int (nI i))]) (kk : zGo p l e room_1 s m below meth c ls cells slots Q D T A b ad hm) : W p l e room_1 s m #[Value.ref b] below meth c H locs cells slots Q (F0 m 1620 ls []) := by
  have hx := C.hx
  have hb := C.hb
  obtain ⟨r, w0, w3, g', e1, e2, hv⟩ := v_keep hv 
  refine lv_aload_n hx hb dL_law_1620 rfl (lv_at hl 1 rfl) ?_
  refine zCallGI (zWg T ad hm gs g gl) (zWg T ad hm (zSet (zSet gs 0 w0) 3 w3) g gl) [] ⟨hx, hb, C.hml, C.hown, zHt C.hts tv_X9_keep⟩ (pX9_keep l D T X ad H.size (gs 0) (gs 1) (gs 3)  r w0 w3 e1) (cwV 0 (zHt C.hts tv_X9_keep) gv_X9_keep rfl rfl rfl (by decide +kernel) ⟨Nat.le_of_ble_eq_true rfl, Nat.le_of_ble_eq_true rfl⟩) C.hK hP hD hS C.hA C.hX [0, 1, 3] [2, 4, 5, 6, 7, 8, 9, 10, 11, 12] rfl (zFl3 _ _ _ ) (zFl3 _ _ _ ) rfl 0 rfl rfl rfl hl.1 rfl (Nat.le_of_ble_eq_true rfl) dL_law_1621 C.hf (fun H locs hP hD hS => ?_)
  refine lv_aload_n hx hb dL_law_1624 rfl (lv_at hl 2 rfl) ?_
  refine zCallGI (zWg T ad hm (zSet (zSet gs 0 w0) 3 w3) g gl) (zWg T ad hm (zSet (zSet gs 0 w0) 3 w3) g' gl) [] ⟨hx, hb, C.hml, C.hown, zHt C.hts tv_X10_keep⟩ (pX10_keep l D T X hm H.size g gl  r g' e2) (cwV 0 (zHt C.hts tv_X10_keep) gv_X10_keep rfl rfl rfl (by decide +kernel) ⟨Nat.le_of_ble_eq_true rfl, Nat.le_of_ble_eq_true rfl⟩) C.hK hP hD hS C.hA C.hX [12] [0, 1, 2, 3, 4, 5, 6, 7, 8, 9, 10, 11] rfl (zFl1 _) (zFl1 _) rfl 0 rfl rfl rfl hl.1 rfl (Nat.le_of_ble_eq_true rfl) dL_law_1625 C.hf (fun H locs hP hD hS => ?_)
  exact lv_icmp_eq (tgt := 1646) hx hb dL_law_1628 (by decide) (fun _ => kk _ _ _ H locs hv hP hD hS) (fun h9 => absurd rfl h9)
set_option maxHeartbeats 4000000 in
set_option maxRecDepth 20000 in
theorem law_back (C : zLw p room_1 s m c b L xs D T X A cells slots) (hi : i + 6 ≤ L) (hv : yInv gs g gl) (hP : va_P D vwCl (zFlat (zWg T ad hm gs g gl)) H) (hD : va_D A (zFlat (zWg T ad hm gs g gl))) (hS : va_S A s.heap H locs) (hl : lv_has ls 4 [(0, .ref b), (1, .ref (ad 0 0)), (2, .ref (hm 0)), (3, .int (nI i))]) (kk : zGo p l e room_1 s m below meth c ls cells slots Q D T A b ad hm) : W p l e room_1 s m #[Value.ref b] below meth c H locs cells slots Q (F0 m 1633 ls []) := by
  have hx := C.hx
  have hb := C.hb
  obtain ⟨r, w1, g', e1, e2, hv⟩ := v_back hv 
  refine lv_aload_n hx hb dL_law_1633 rfl (lv_at hl 1 rfl) ?_
  refine zCallGI (zWg T ad hm gs g gl) (zWg T ad hm (zSet gs 1 w1) g gl) [] ⟨hx, hb, C.hml, C.hown, zHt C.hts tv_X9_back⟩ (pX9_back l D T X ad H.size (gs 0) (gs 1) (gs 3)  r w1 e1) (cwV 0 (zHt C.hts tv_X9_back) gv_X9_back rfl rfl rfl (by decide +kernel) ⟨Nat.le_of_ble_eq_true rfl, Nat.le_of_ble_eq_true rfl⟩) C.hK hP hD hS C.hA C.hX [0, 1, 3] [2, 4, 5, 6, 7, 8, 9, 10, 11, 12] rfl (zFl3 _ _ _ ) (zFl3 _ _ _ ) rfl 0 rfl rfl rfl hl.1 rfl (Nat.le_of_ble_eq_true rfl) dL_law_1634 C.hf (fun H locs hP hD hS => ?_)
  refine lv_aload_n hx hb dL_law_1637 rfl (lv_at hl 2 rfl) ?_
  refine zCallGI (zWg T ad hm (zSet gs 1 w1) g gl) (zWg T ad hm (zSet gs 1 w1) g' gl) [] ⟨hx, hb, C.hml, C.hown, zHt C.hts tv_X10_back⟩ (pX10_back l D T X hm H.size g gl  r g' e2) (cwV 0 (zHt C.hts tv_X10_back) gv_X10_back rfl rfl rfl (by decide +kernel) ⟨Nat.le_of_ble_eq_true rfl, Nat.le_of_ble_eq_true rfl⟩) C.hK hP hD hS C.hA C.hX [12] [0, 1, 2, 3, 4, 5, 6, 7, 8, 9, 10, 11] rfl (zFl1 _) (zFl1 _) rfl 0 rfl rfl rfl hl.1 rfl (Nat.le_of_ble_eq_true rfl) dL_law_1638 C.hf (fun H locs hP hD hS => ?_)
  exact lv_icmp_eq (tgt := 1646) hx hb dL_law_1641 (by decide) (fun _ => kk _ _ _ H locs hv hP hD hS) (fun h9 => absurd rfl h9)
end LW
