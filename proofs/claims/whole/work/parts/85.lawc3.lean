/-! ===== the law, call by call: 3 ===== -/
section LAWC
variable {p : Program} {l : Launch} {e : Env} {s : State} {m : MethodId} {args : Array Value} {below : List Frame} {meth : Method} {c : Code} {D : va_G} {cy : Nat → ClassId} {ad : Ads} {nc ns : Nat} {Q : State → Prop} {x : Mem} {b L : Nat} {xs : Nat → Int32}
theorem law_count (h : LW p s m args meth c D cy ad l b L xs) {B t : Nat} (hi : INV x x B) (ht : 4 * t + 4 ≤ L) (hnc : nc + 1 ≤ room_1.cells ∧ ns + 6 ≤ room_1.slots) (kk : ∀ x' : Mem, INV x' x' (B + 60) → RM p l e room_1 s m args below meth c 9 (AA ad s.heap.size) (GG D cy ad x') (nc + 1) (ns + 6) Q 1637 (l5 ad b t) []) : RM p l e room_1 s m args below meth c 9 (AA ad s.heap.size) (GG D cy ad x) nc ns Q 1210 (l5 ad b t) [] := by
  have h' := h
  obtain ⟨hc, hX, hfl, hsc, hbl, hbA, hL⟩ := h'
  have hI : IJ ad := hc.2.2.2.2.1
  obtain ⟨P1, hw, hm⟩ := pr_count (l := l) (D := D) (cy := cy) hI hfl hi (xs (4 * t + 1))
  refine rm_aload_n hc dL_law_1210 rfl rfl ?_
  refine law_arg h (j := 1) dL_law_1211 dL_law_1212 dL_law_1214 dL_law_1215 dL_law_1216 (by decide) rfl rfl (by omega) ht ?_
  refine rm_aload_n hc dL_law_1217 rfl rfl ?_
  refine rm_callW (As := [.ref (ad 8 9 0), .int (xs (4 * t + 1)), .ref (ad 16 19 0)]) (rest := []) hc hX dL_law_1218 hw mw_L_154 rfl rfl (Nat.le_of_ble_eq_true rfl) ⟨⟨rfl, rfl⟩, Nat.le_of_ble_eq_true rfl, Nat.le_of_ble_eq_true rfl⟩ hnc (fun k y1 hk => ?_)
  obtain ⟨P2, hm1, hm2⟩ := hm k y1 hk
  refine rm_istore (ls' := l6 ad b t k) hc dL_law_1221 (by omega) rfl ?_
  refine rm_aload_n hc dL_law_1223 rfl rfl ?_
  refine law_arg h (j := 1) dL_law_1224 dL_law_1225 dL_law_1227 dL_law_1228 dL_law_1229 (by decide) rfl rfl (by omega) ht ?_
  refine rm_calliV (As := [.int (xs (4 * t + 1))]) (rest := []) hc dL_law_1230 hm1 mv_L_156 dm_14 rfl rfl (hn := rfl) (hst := rfl) (hw := Nat.le_of_ble_eq_true rfl) (hR := ⟨⟨rfl, rfl⟩, Nat.le_of_ble_eq_true rfl, Nat.le_of_ble_eq_true rfl⟩) (hnc := hnc) (fun bb y2 hb => ?_)
  obtain ⟨h1, h2, h3⟩ := hm2 bb y2 hb
  exact law_tail h h1 h2 dL_law_1233 dL_law_1235 dL_law_1236 dL_law_1239 dL_law_1241 dL_law_1246 dL_law_1248 dL_law_1251 dL_law_1252 dL_law_1253 dL_law_1254 dL_law_1256 dL_law_1257 dL_law_1258 dL_law_1263 (by decide) hnc (kk y2 h3)
theorem law_setting (h : LW p s m args meth c D cy ad l b L xs) {B t : Nat} (hi : INV x x B) (ht : 4 * t + 4 ≤ L) (hnc : nc + 1 ≤ room_1.cells ∧ ns + 6 ≤ room_1.slots) (kk : ∀ x' : Mem, INV x' x' (B + 60) → RM p l e room_1 s m args below meth c 9 (AA ad s.heap.size) (GG D cy ad x') (nc + 1) (ns + 6) Q 1637 (l5 ad b t) []) : RM p l e room_1 s m args below meth c 9 (AA ad s.heap.size) (GG D cy ad x) nc ns Q 1266 (l5 ad b t) [] := by
  have h' := h
  obtain ⟨hc, hX, hfl, hsc, hbl, hbA, hL⟩ := h'
  have hI : IJ ad := hc.2.2.2.2.1
  obtain ⟨P1, hw, hm⟩ := pr_setting (l := l) (D := D) (cy := cy) hI hfl hi (xs (4 * t + 1))
  refine rm_aload_n hc dL_law_1266 rfl rfl ?_
  refine law_arg h (j := 1) dL_law_1267 dL_law_1268 dL_law_1270 dL_law_1271 dL_law_1272 (by decide) rfl rfl (by omega) ht ?_
  refine rm_aload_n hc dL_law_1273 rfl rfl ?_
  refine rm_callW (As := [.ref (ad 8 9 0), .int (xs (4 * t + 1)), .ref (ad 16 19 0)]) (rest := []) hc hX dL_law_1274 hw mw_L_157 rfl rfl (Nat.le_of_ble_eq_true rfl) ⟨⟨rfl, rfl⟩, Nat.le_of_ble_eq_true rfl, Nat.le_of_ble_eq_true rfl⟩ hnc (fun k y1 hk => ?_)
  obtain ⟨P2, hm1, hm2⟩ := hm k y1 hk
  refine rm_istore (ls' := l6 ad b t k) hc dL_law_1277 (by omega) rfl ?_
  refine rm_aload_n hc dL_law_1279 rfl rfl ?_
  refine law_arg h (j := 1) dL_law_1280 dL_law_1281 dL_law_1283 dL_law_1284 dL_law_1285 (by decide) rfl rfl (by omega) ht ?_
  refine rm_calliV (As := [.int (xs (4 * t + 1))]) (rest := []) hc dL_law_1286 hm1 mv_L_159 dm_14 rfl rfl (hn := rfl) (hst := rfl) (hw := Nat.le_of_ble_eq_true rfl) (hR := ⟨⟨rfl, rfl⟩, Nat.le_of_ble_eq_true rfl, Nat.le_of_ble_eq_true rfl⟩) (hnc := hnc) (fun bb y2 hb => ?_)
  obtain ⟨h1, h2, h3⟩ := hm2 bb y2 hb
  exact law_tail h h1 h2 dL_law_1289 dL_law_1291 dL_law_1292 dL_law_1295 dL_law_1297 dL_law_1302 dL_law_1304 dL_law_1307 dL_law_1308 dL_law_1309 dL_law_1310 dL_law_1312 dL_law_1313 dL_law_1314 dL_law_1319 (by decide) hnc (kk y2 h3)
theorem law_ifHeard (h : LW p s m args meth c D cy ad l b L xs) {B t : Nat} (hi : INV x x B) (ht : 4 * t + 4 ≤ L) (hnc : nc + 1 ≤ room_1.cells ∧ ns + 6 ≤ room_1.slots) (kk : ∀ x' : Mem, INV x' x' (B + 60) → RM p l e room_1 s m args below meth c 9 (AA ad s.heap.size) (GG D cy ad x') (nc + 1) (ns + 6) Q 1637 (l5 ad b t) []) : RM p l e room_1 s m args below meth c 9 (AA ad s.heap.size) (GG D cy ad x) nc ns Q 1322 (l5 ad b t) [] := by
  have h' := h
  obtain ⟨hc, hX, hfl, hsc, hbl, hbA, hL⟩ := h'
  have hI : IJ ad := hc.2.2.2.2.1
  obtain ⟨P1, hw, hm⟩ := pr_ifHeard (l := l) (D := D) (cy := cy) hI hfl hi (xs (4 * t + 1)) (xs (4 * t + 2))
  refine rm_aload_n hc dL_law_1322 rfl rfl ?_
  refine law_arg h (j := 1) dL_law_1323 dL_law_1324 dL_law_1326 dL_law_1327 dL_law_1328 (by decide) rfl rfl (by omega) ht ?_
  refine law_arg h (j := 2) dL_law_1329 dL_law_1330 dL_law_1332 dL_law_1333 dL_law_1334 (by decide) rfl rfl (by omega) ht ?_
  refine rm_aload_n hc dL_law_1335 rfl rfl ?_
  refine rm_callW (As := [.ref (ad 8 9 0), .int (xs (4 * t + 1)), .int (xs (4 * t + 2)), .ref (ad 16 19 0)]) (rest := []) hc hX dL_law_1336 hw mw_L_160 rfl rfl (Nat.le_of_ble_eq_true rfl) ⟨⟨rfl, rfl⟩, Nat.le_of_ble_eq_true rfl, Nat.le_of_ble_eq_true rfl⟩ hnc (fun k y1 hk => ?_)
  obtain ⟨P2, hm1, hm2⟩ := hm k y1 hk
  refine rm_istore (ls' := l6 ad b t k) hc dL_law_1339 (by omega) rfl ?_
  refine rm_aload_n hc dL_law_1341 rfl rfl ?_
  refine law_arg h (j := 1) dL_law_1342 dL_law_1343 dL_law_1345 dL_law_1346 dL_law_1347 (by decide) rfl rfl (by omega) ht ?_
  refine law_arg h (j := 2) dL_law_1348 dL_law_1349 dL_law_1351 dL_law_1352 dL_law_1353 (by decide) rfl rfl (by omega) ht ?_
  refine rm_calliV (As := [.int (xs (4 * t + 1)), .int (xs (4 * t + 2))]) (rest := []) hc dL_law_1354 hm1 mv_L_162 dm_14 rfl rfl (hn := rfl) (hst := rfl) (hw := Nat.le_of_ble_eq_true rfl) (hR := ⟨⟨rfl, rfl⟩, Nat.le_of_ble_eq_true rfl, Nat.le_of_ble_eq_true rfl⟩) (hnc := hnc) (fun bb y2 hb => ?_)
  obtain ⟨h1, h2, h3⟩ := hm2 bb y2 hb
  exact law_tail h h1 h2 dL_law_1357 dL_law_1359 dL_law_1360 dL_law_1363 dL_law_1365 dL_law_1370 dL_law_1372 dL_law_1375 dL_law_1376 dL_law_1377 dL_law_1378 dL_law_1380 dL_law_1381 dL_law_1382 dL_law_1387 (by decide) hnc (kk y2 h3)
theorem law_opensIn (h : LW p s m args meth c D cy ad l b L xs) {B t : Nat} (hi : INV x x B) (ht : 4 * t + 4 ≤ L) (hnc : nc + 1 ≤ room_1.cells ∧ ns + 6 ≤ room_1.slots) (kk : ∀ x' : Mem, INV x' x' (B + 60) → RM p l e room_1 s m args below meth c 9 (AA ad s.heap.size) (GG D cy ad x') (nc + 1) (ns + 6) Q 1637 (l5 ad b t) []) : RM p l e room_1 s m args below meth c 9 (AA ad s.heap.size) (GG D cy ad x) nc ns Q 1390 (l5 ad b t) [] := by
  have h' := h
  obtain ⟨hc, hX, hfl, hsc, hbl, hbA, hL⟩ := h'
  have hI : IJ ad := hc.2.2.2.2.1
  obtain ⟨P1, hw, hm⟩ := pr_opensIn (l := l) (D := D) (cy := cy) hI hfl hi (xs (4 * t + 1)) (xs (4 * t + 2))
  refine rm_aload_n hc dL_law_1390 rfl rfl ?_
  refine law_arg h (j := 1) dL_law_1391 dL_law_1392 dL_law_1394 dL_law_1395 dL_law_1396 (by decide) rfl rfl (by omega) ht ?_
  refine law_arg h (j := 2) dL_law_1397 dL_law_1398 dL_law_1400 dL_law_1401 dL_law_1402 (by decide) rfl rfl (by omega) ht ?_
  refine rm_aload_n hc dL_law_1403 rfl rfl ?_
  refine rm_callW (As := [.ref (ad 8 9 0), .int (xs (4 * t + 1)), .int (xs (4 * t + 2)), .ref (ad 16 19 0)]) (rest := []) hc hX dL_law_1404 hw mw_L_163 rfl rfl (Nat.le_of_ble_eq_true rfl) ⟨⟨rfl, rfl⟩, Nat.le_of_ble_eq_true rfl, Nat.le_of_ble_eq_true rfl⟩ hnc (fun k y1 hk => ?_)
  obtain ⟨P2, hm1, hm2⟩ := hm k y1 hk
  refine rm_istore (ls' := l6 ad b t k) hc dL_law_1407 (by omega) rfl ?_
  refine rm_aload_n hc dL_law_1409 rfl rfl ?_
  refine law_arg h (j := 1) dL_law_1410 dL_law_1411 dL_law_1413 dL_law_1414 dL_law_1415 (by decide) rfl rfl (by omega) ht ?_
  refine law_arg h (j := 2) dL_law_1416 dL_law_1417 dL_law_1419 dL_law_1420 dL_law_1421 (by decide) rfl rfl (by omega) ht ?_
  refine rm_calliV (As := [.int (xs (4 * t + 1)), .int (xs (4 * t + 2))]) (rest := []) hc dL_law_1422 hm1 mv_L_165 dm_14 rfl rfl (hn := rfl) (hst := rfl) (hw := Nat.le_of_ble_eq_true rfl) (hR := ⟨⟨rfl, rfl⟩, Nat.le_of_ble_eq_true rfl, Nat.le_of_ble_eq_true rfl⟩) (hnc := hnc) (fun bb y2 hb => ?_)
  obtain ⟨h1, h2, h3⟩ := hm2 bb y2 hb
  exact law_tail h h1 h2 dL_law_1425 dL_law_1427 dL_law_1428 dL_law_1431 dL_law_1433 dL_law_1438 dL_law_1440 dL_law_1443 dL_law_1444 dL_law_1445 dL_law_1446 dL_law_1448 dL_law_1449 dL_law_1450 dL_law_1455 (by decide) hnc (kk y2 h3)
theorem law_unheard (h : LW p s m args meth c D cy ad l b L xs) {B t : Nat} (hi : INV x x B) (ht : 4 * t + 4 ≤ L) (hnc : nc + 1 ≤ room_1.cells ∧ ns + 6 ≤ room_1.slots) (kk : ∀ x' : Mem, INV x' x' (B + 60) → RM p l e room_1 s m args below meth c 9 (AA ad s.heap.size) (GG D cy ad x') (nc + 1) (ns + 6) Q 1637 (l5 ad b t) []) : RM p l e room_1 s m args below meth c 9 (AA ad s.heap.size) (GG D cy ad x) nc ns Q 1458 (l5 ad b t) [] := by
  have h' := h
  obtain ⟨hc, hX, hfl, hsc, hbl, hbA, hL⟩ := h'
  have hI : IJ ad := hc.2.2.2.2.1
  obtain ⟨P1, hw, hm⟩ := pr_unheard (l := l) (D := D) (cy := cy) hI hfl hi (xs (4 * t + 1)) (xs (4 * t + 2))
  refine rm_aload_n hc dL_law_1458 rfl rfl ?_
  refine law_arg h (j := 1) dL_law_1459 dL_law_1460 dL_law_1462 dL_law_1463 dL_law_1464 (by decide) rfl rfl (by omega) ht ?_
  refine law_arg h (j := 2) dL_law_1465 dL_law_1466 dL_law_1468 dL_law_1469 dL_law_1470 (by decide) rfl rfl (by omega) ht ?_
  refine rm_aload_n hc dL_law_1471 rfl rfl ?_
  refine rm_callW (As := [.ref (ad 8 9 0), .int (xs (4 * t + 1)), .int (xs (4 * t + 2)), .ref (ad 16 19 0)]) (rest := []) hc hX dL_law_1472 hw mw_L_166 rfl rfl (Nat.le_of_ble_eq_true rfl) ⟨⟨rfl, rfl⟩, Nat.le_of_ble_eq_true rfl, Nat.le_of_ble_eq_true rfl⟩ hnc (fun k y1 hk => ?_)
  obtain ⟨P2, hm1, hm2⟩ := hm k y1 hk
  refine rm_istore (ls' := l6 ad b t k) hc dL_law_1475 (by omega) rfl ?_
  refine rm_aload_n hc dL_law_1477 rfl rfl ?_
  refine law_arg h (j := 1) dL_law_1478 dL_law_1479 dL_law_1481 dL_law_1482 dL_law_1483 (by decide) rfl rfl (by omega) ht ?_
  refine law_arg h (j := 2) dL_law_1484 dL_law_1485 dL_law_1487 dL_law_1488 dL_law_1489 (by decide) rfl rfl (by omega) ht ?_
  refine rm_calliV (As := [.int (xs (4 * t + 1)), .int (xs (4 * t + 2))]) (rest := []) hc dL_law_1490 hm1 mv_L_168 dm_14 rfl rfl (hn := rfl) (hst := rfl) (hw := Nat.le_of_ble_eq_true rfl) (hR := ⟨⟨rfl, rfl⟩, Nat.le_of_ble_eq_true rfl, Nat.le_of_ble_eq_true rfl⟩) (hnc := hnc) (fun bb y2 hb => ?_)
  obtain ⟨h1, h2, h3⟩ := hm2 bb y2 hb
  exact law_tail h h1 h2 dL_law_1493 dL_law_1495 dL_law_1496 dL_law_1499 dL_law_1501 dL_law_1506 dL_law_1508 dL_law_1511 dL_law_1512 dL_law_1513 dL_law_1514 dL_law_1516 dL_law_1517 dL_law_1518 dL_law_1523 (by decide) hnc (kk y2 h3)
theorem law_useful (h : LW p s m args meth c D cy ad l b L xs) {B t : Nat} (hi : INV x x B) (ht : 4 * t + 4 ≤ L) (hnc : nc + 1 ≤ room_1.cells ∧ ns + 6 ≤ room_1.slots) (kk : ∀ x' : Mem, INV x' x' (B + 60) → RM p l e room_1 s m args below meth c 9 (AA ad s.heap.size) (GG D cy ad x') (nc + 1) (ns + 6) Q 1637 (l5 ad b t) []) : RM p l e room_1 s m args below meth c 9 (AA ad s.heap.size) (GG D cy ad x) nc ns Q 1526 (l5 ad b t) [] := by
  have h' := h
  obtain ⟨hc, hX, hfl, hsc, hbl, hbA, hL⟩ := h'
  have hI : IJ ad := hc.2.2.2.2.1
  obtain ⟨P1, hw, hm⟩ := pr_useful (l := l) (D := D) (cy := cy) hI hfl hi (xs (4 * t + 1))
  refine rm_aload_n hc dL_law_1526 rfl rfl ?_
  refine law_arg h (j := 1) dL_law_1527 dL_law_1528 dL_law_1530 dL_law_1531 dL_law_1532 (by decide) rfl rfl (by omega) ht ?_
  refine rm_aload_n hc dL_law_1533 rfl rfl ?_
  refine rm_callW (As := [.ref (ad 8 9 0), .int (xs (4 * t + 1)), .ref (ad 16 19 0)]) (rest := []) hc hX dL_law_1534 hw mw_L_169 rfl rfl (Nat.le_of_ble_eq_true rfl) ⟨⟨rfl, rfl⟩, Nat.le_of_ble_eq_true rfl, Nat.le_of_ble_eq_true rfl⟩ hnc (fun k y1 hk => ?_)
  obtain ⟨P2, hm1, hm2⟩ := hm k y1 hk
  refine rm_istore (ls' := l6 ad b t k) hc dL_law_1537 (by omega) rfl ?_
  refine rm_aload_n hc dL_law_1539 rfl rfl ?_
  refine law_arg h (j := 1) dL_law_1540 dL_law_1541 dL_law_1543 dL_law_1544 dL_law_1545 (by decide) rfl rfl (by omega) ht ?_
  refine rm_calliV (As := [.int (xs (4 * t + 1))]) (rest := []) hc dL_law_1546 hm1 mv_L_171 dm_14 rfl rfl (hn := rfl) (hst := rfl) (hw := Nat.le_of_ble_eq_true rfl) (hR := ⟨⟨rfl, rfl⟩, Nat.le_of_ble_eq_true rfl, Nat.le_of_ble_eq_true rfl⟩) (hnc := hnc) (fun bb y2 hb => ?_)
  obtain ⟨h1, h2, h3⟩ := hm2 bb y2 hb
  exact law_tail h h1 h2 dL_law_1549 dL_law_1551 dL_law_1552 dL_law_1555 dL_law_1557 dL_law_1562 dL_law_1564 dL_law_1567 dL_law_1568 dL_law_1569 dL_law_1570 dL_law_1572 dL_law_1573 dL_law_1574 dL_law_1579 (by decide) hnc (kk y2 h3)
theorem law_openShare (h : LW p s m args meth c D cy ad l b L xs) {B t : Nat} (hi : INV x x B) (hB : 3 * B < 2 ^ 20) (ht : 4 * t + 4 ≤ L) (hnc : nc + 1 ≤ room_1.cells ∧ ns + 6 ≤ room_1.slots) (kk : ∀ x' : Mem, INV x' x' (B + 60) → RM p l e room_1 s m args below meth c 9 (AA ad s.heap.size) (GG D cy ad x') (nc + 1) (ns + 6) Q 1637 (l5 ad b t) []) : RM p l e room_1 s m args below meth c 9 (AA ad s.heap.size) (GG D cy ad x) nc ns Q 1582 (l5 ad b t) [] := by
  have h' := h
  obtain ⟨hc, hX, hfl, hsc, hbl, hbA, hL⟩ := h'
  have hI : IJ ad := hc.2.2.2.2.1
  obtain ⟨P1, h1, h2⟩ := pq_share (l := l) (D := D) (cy := cy) hI hi hB
  refine rm_aload_n hc dL_law_1582 rfl rfl ?_
  refine rm_calldV (As := []) (rest := []) hc dL_law_1583 h1 mv_L_172 dm_9 rfl rfl (hn := rfl) (hst := rfl) (hw := Nat.le_of_ble_eq_true rfl) (hR := ⟨⟨rfl, rfl⟩, Nat.le_of_ble_eq_true rfl, Nat.le_of_ble_eq_true rfl⟩) (hnc := ⟨by omega, by omega⟩) (fun aa y1 ha => ?_)
  obtain ⟨P2, h3, h4⟩ := h2 aa y1 ha
  refine rm_dstore (ls' := [(0, .ref b), (1, .ref (ad 8 9 0)), (2, .ref (ad 15 14 0)), (3, .ref (ad 16 19 0)), (4, .int (nI (4 * t))), (5, .double aa)]) hc dL_law_1586 (by omega) rfl ?_
  refine rm_aload_n hc dL_law_1588 rfl rfl ?_
  refine rm_calldV (As := []) (rest := []) hc dL_law_1589 h3 mv_L_176 dm_14 rfl rfl (hn := rfl) (hst := rfl) (hw := Nat.le_of_ble_eq_true rfl) (hR := ⟨⟨rfl, rfl⟩, Nat.le_of_ble_eq_true rfl, Nat.le_of_ble_eq_true rfl⟩) (hnc := ⟨by omega, by omega⟩) (fun bb y2 hb => ?_)
  obtain ⟨e1, e0, e2⟩ := h4 bb y2 hb
  refine rm_dstore (ls' := [(0, .ref b), (1, .ref (ad 8 9 0)), (2, .ref (ad 15 14 0)), (3, .ref (ad 16 19 0)), (4, .int (nI (4 * t))), (5, .double aa), (7, .double bb)]) hc dL_law_1592 (by omega) rfl ?_
  refine rm_dload hc dL_law_1594 rfl ?_
  refine rm_dload hc dL_law_1596 rfl ?_
  refine rm_dcmp hc dL_law_1598 (fun v ev => ?_)
  have hv : v = 0 := by rw [ev, e1]; exact SH0.self e0 _
  refine rm_if_eq (tgt := 1620) hc dL_law_1599 (by decide) (fun _ => ?_) (fun q => absurd hv q)
  refine rm_goto (tgt := 1637) hc dL_law_1620 (by decide) ?_
  exact rm_sub [0, 1, 2, 3, 4] rfl (rm_wid (by omega) (by omega) (kk y2 e2))
theorem law_digest (h : LW p s m args meth c D cy ad l b L xs) {B t : Nat} (hi : INV x x B) (hB : 3 * B < 2 ^ 20) (ht : 4 * t + 4 ≤ L) (hnc : nc + 1 ≤ room_1.cells ∧ ns + 6 ≤ room_1.slots) (kk : ∀ x' : Mem, INV x' x' (B + 60) → RM p l e room_1 s m args below meth c 9 (AA ad s.heap.size) (GG D cy ad x') (nc + 1) (ns + 6) Q 1637 (l5 ad b t) []) : RM p l e room_1 s m args below meth c 9 (AA ad s.heap.size) (GG D cy ad x) nc ns Q 1623 (l5 ad b t) [] := by
  have h' := h
  obtain ⟨hc, hX, hfl, hsc, hbl, hbA, hL⟩ := h'
  have hI : IJ ad := hc.2.2.2.2.1
  obtain ⟨P1, h1, h2⟩ := pq_digest (l := l) (D := D) (cy := cy) hI hi hB
  refine rm_aload_n hc dL_law_1623 rfl rfl ?_
  refine rm_calllV (As := []) (rest := []) hc dL_law_1624 h1 mv_L_177 dm_9 rfl rfl (hn := rfl) (hst := rfl) (hw := Nat.le_of_ble_eq_true rfl) (hR := ⟨⟨rfl, rfl⟩, Nat.le_of_ble_eq_true rfl, Nat.le_of_ble_eq_true rfl⟩) (hnc := ⟨by omega, by omega⟩) (fun aa y1 ha => ?_)
  obtain ⟨P2, h3, h4⟩ := h2 aa y1 ha
  refine rm_aload_n hc dL_law_1627 rfl rfl ?_
  refine rm_calllV (As := []) (rest := [.long aa]) hc dL_law_1628 h3 mv_L_181 dm_14 rfl rfl (hn := rfl) (hst := rfl) (hw := Nat.le_of_ble_eq_true rfl) (hR := ⟨⟨rfl, rfl⟩, Nat.le_of_ble_eq_true rfl, Nat.le_of_ble_eq_true rfl⟩) (hnc := ⟨by omega, by omega⟩) (fun bb y2 hb => ?_)
  obtain ⟨e1, e2⟩ := h4 bb y2 hb
  refine rm_lcmp hc dL_law_1631 (fun v ev => ?_)
  have hv : v = 0 := by rw [ev, e1, if_neg (fun q : aa > aa => Int64.lt_irrefl q), if_pos rfl]
  exact rm_if_eq (tgt := 1637) hc dL_law_1632 (by decide) (fun _ => rm_wid (by omega) (by omega) (kk y2 e2)) (fun q => absurd hv q)
end LAWC
