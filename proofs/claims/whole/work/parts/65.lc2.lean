section P65c
variable {p : Program} {l : Launch} {e : Env} {s : State} {m : MethodId} {below : List Frame} {meth : Method} {c : Code} {Q : State → Prop} {g : xG} {b L i : Nat} {xs : Nat → Int32}
set_option maxHeartbeats 4000000 in
set_option maxRecDepth 100000 in
theorem lw_c20 (hfl : l.stackTraces = false) (C : lCtx g p s m meth c b) (hX : va_X b L xs s s.heap) (hbl : b < s.heap.size) (hbA : ¬ xA g b) (hL : L ≤ 2048) (hi : i + 4 ≤ L) {I : xMem} {α : aS} (hc : cInv I α) (hm : mInv I α) {H : Heap} {locs : List Loc} (hr : xRep g s I H locs) {ls : Array Slot} (hl : lv_has ls 7 (lvC g b i)) {cells slots : Nat} (hcs : cells + 1 ≤ 601024 ∧ slots + 6 ≤ 7293034) (kk : lNext p l e s m b below meth c g i (cells + 1) (slots + 6) Q) : W p l e room_1 s m #[Value.ref b] below meth c H locs cells slots Q (F0 m 1243 ls []) := by
  obtain ⟨k, v, β, I1, I3, hk, r1, r3, c3, m3, h0, hv⟩ := l_pack (op_gain (α := α) (xs (i + 1))) hc hm
  have hk3 : k ≤ 3 := Nat.le_trans hk (by decide)
  have hx := C.1
  have hb := C.2.1
  refine lv_aload_n hx hb dL_law_1243 rfl (lv_at hl 1 rfl) ?_
  refine l_arg (j := 1) (a0 := 0) (a4 := 4) C hX hbl hbA hr.2.2 hl rfl rfl (by omega) hL (by decide) dL_law_1244 dL_law_1245 dL_law_1247 dL_law_1248 dL_law_1249 ?_
  refine lv_aload_n hx hb dL_law_1250 rfl (lv_at hl 3 rfl) ?_
  refine lc_H C (h_gain l hfl g (xs (i + 1)) I hk r1) dL_law_1251 (n := 3) ⟨by decide, by decide, by decide +kernel⟩ wh864 wh865 wh0 wh866 ⟨Nat.le_of_ble_eq_true rfl, Nat.le_of_ble_eq_true rfl⟩ rfl rfl hl.1 hr hcs (fun H1 locs1 hr1 => ?_)
  refine lv_istore (lv' := lvK g b i k) hx hb dL_law_1254 hl (by decide) rfl (fun ls hl => ?_)
  refine lv_aload_n hx hb dL_law_1256 rfl (lv_at hl 3 rfl) ?_
  refine l_arg (j := 1) (a0 := 1) (a4 := 5) C hX hbl hbA hr1.2.2 hl rfl rfl (by omega) hL (by decide) dL_law_1257 dL_law_1258 dL_law_1260 dL_law_1261 dL_law_1262 ?_
  refine lc_V C (m_X9_gain l g) (st := [.int (xs (i + 1)), .ref 189]) (rest := []) (n := 1) (b' := 189) dL_law_1263 (rfl : vwCl[9]? = some (RX9, TX9, 17)) (by omega) rfl ⟨by decide, by decide, by decide +kernel⟩ wh1323 wh1324 wh1325 wh10 wh1326 ⟨Nat.le_of_ble_eq_true rfl, Nat.le_of_ble_eq_true rfl⟩ rfl (by decide) (Nat.le_of_ble_eq_true rfl) r3 hl.1 hr1 hcs (fun H3 locs3 hr3 => ?_)
  exact l_tail C hl hr3 hcs hk3 h0 hv wh1070 wh1071 wh1072 wh10 wh1073 dL_law_1266 dL_law_1268 dL_law_1269 dL_law_1272 dL_law_1274 dL_law_1279 dL_law_1281 dL_law_1284 dL_law_1285 dL_law_1286 dL_law_1287 dL_law_1289 dL_law_1290 dL_law_1291 dL_law_1296 (by decide) (fun H4 locs4 ls' hr4 hl4 => kk I3 β H4 locs4 ls' c3 m3 hr4 hl4)
set_option maxHeartbeats 4000000 in
set_option maxRecDepth 100000 in
theorem lw_c21 (hfl : l.stackTraces = false) (C : lCtx g p s m meth c b) (hX : va_X b L xs s s.heap) (hbl : b < s.heap.size) (hbA : ¬ xA g b) (hL : L ≤ 2048) (hi : i + 4 ≤ L) {I : xMem} {α : aS} (hc : cInv I α) (hm : mInv I α) {H : Heap} {locs : List Loc} (hr : xRep g s I H locs) {ls : Array Slot} (hl : lv_has ls 7 (lvC g b i)) {cells slots : Nat} (hcs : cells + 1 ≤ 601024 ∧ slots + 6 ≤ 7293034) (kk : lNext p l e s m b below meth c g i (cells + 1) (slots + 6) Q) : W p l e room_1 s m #[Value.ref b] below meth c H locs cells slots Q (F0 m 1299 ls []) := by
  obtain ⟨k, v, β, I1, I3, hk, r1, r3, c3, m3, h0, hv⟩ := l_pack (op_bestCut (α := α) (xs (i + 1))) hc hm
  have hk3 : k ≤ 3 := Nat.le_trans hk (by decide)
  have hx := C.1
  have hb := C.2.1
  refine lv_aload_n hx hb dL_law_1299 rfl (lv_at hl 1 rfl) ?_
  refine l_arg (j := 1) (a0 := 0) (a4 := 4) C hX hbl hbA hr.2.2 hl rfl rfl (by omega) hL (by decide) dL_law_1300 dL_law_1301 dL_law_1303 dL_law_1304 dL_law_1305 ?_
  refine lv_aload_n hx hb dL_law_1306 rfl (lv_at hl 3 rfl) ?_
  refine lc_H C (h_bestCut l hfl g (xs (i + 1)) I hk r1) dL_law_1307 (n := 3) ⟨by decide, by decide, by decide +kernel⟩ wh872 wh873 wh0 wh874 ⟨Nat.le_of_ble_eq_true rfl, Nat.le_of_ble_eq_true rfl⟩ rfl rfl hl.1 hr hcs (fun H1 locs1 hr1 => ?_)
  refine lv_istore (lv' := lvK g b i k) hx hb dL_law_1310 hl (by decide) rfl (fun ls hl => ?_)
  refine lv_aload_n hx hb dL_law_1312 rfl (lv_at hl 3 rfl) ?_
  refine l_arg (j := 1) (a0 := 1) (a4 := 5) C hX hbl hbA hr1.2.2 hl rfl rfl (by omega) hL (by decide) dL_law_1313 dL_law_1314 dL_law_1316 dL_law_1317 dL_law_1318 ?_
  refine lc_V C (m_X9_bestCut l g) (st := [.int (xs (i + 1)), .ref 189]) (rest := []) (n := 1) (b' := 189) dL_law_1319 (rfl : vwCl[9]? = some (RX9, TX9, 17)) (by omega) rfl ⟨by decide, by decide, by decide +kernel⟩ wh1327 wh1328 wh1329 wh10 wh1330 ⟨Nat.le_of_ble_eq_true rfl, Nat.le_of_ble_eq_true rfl⟩ rfl (by decide) (Nat.le_of_ble_eq_true rfl) r3 hl.1 hr1 hcs (fun H3 locs3 hr3 => ?_)
  exact l_tail C hl hr3 hcs hk3 h0 hv wh1070 wh1071 wh1072 wh10 wh1073 dL_law_1322 dL_law_1324 dL_law_1325 dL_law_1328 dL_law_1330 dL_law_1335 dL_law_1337 dL_law_1340 dL_law_1341 dL_law_1342 dL_law_1343 dL_law_1345 dL_law_1346 dL_law_1347 dL_law_1352 (by decide) (fun H4 locs4 ls' hr4 hl4 => kk I3 β H4 locs4 ls' c3 m3 hr4 hl4)
set_option maxHeartbeats 4000000 in
set_option maxRecDepth 100000 in
theorem lw_c22 (hfl : l.stackTraces = false) (C : lCtx g p s m meth c b) (hX : va_X b L xs s s.heap) (hbl : b < s.heap.size) (hbA : ¬ xA g b) (hL : L ≤ 2048) (hi : i + 4 ≤ L) {I : xMem} {α : aS} (hc : cInv I α) (hm : mInv I α) {H : Heap} {locs : List Loc} (hr : xRep g s I H locs) {ls : Array Slot} (hl : lv_has ls 7 (lvC g b i)) {cells slots : Nat} (hcs : cells + 1 ≤ 601024 ∧ slots + 6 ≤ 7293034) (kk : lNext p l e s m b below meth c g i (cells + 1) (slots + 6) Q) : W p l e room_1 s m #[Value.ref b] below meth c H locs cells slots Q (F0 m 1355 ls []) := by
  obtain ⟨v, β, I1, I3, r1, r3, c3, m3⟩ := l_pack0 (op_smallest (α := α)) hc hm
  have hx := C.1
  have hb := C.2.1
  refine W.widen (k := cells + 1) (n := slots + 6) (by omega) (by omega) ?_
  refine lv_aload_n hx hb dL_law_1355 rfl (lv_at hl 1 rfl) ?_
  refine lc_V C (m_X8_smallest l g) (st := [.ref 0]) (rest := []) (n := 0) (b' := 0) dL_law_1356 (rfl : vwCl[8]? = some (RX8, TX8, 10)) (by omega) rfl ⟨by decide, by decide, by decide +kernel⟩ wh428 wh429 wh430 wh1 wh431 ⟨Nat.le_of_ble_eq_true rfl, Nat.le_of_ble_eq_true rfl⟩ rfl (by decide) (Nat.le_of_ble_eq_true rfl) r1 hl.1 hr hcs (fun H1 locs1 hr1 => ?_)
  refine lv_aload_n hx hb dL_law_1359 rfl (lv_at hl 2 rfl) ?_
  refine lc_V C (m_X9_smallest l g) (st := [.ref 189, .int v]) (rest := [.int v]) (n := 0) (b' := 189) dL_law_1360 (rfl : vwCl[9]? = some (RX9, TX9, 17)) (by omega) rfl ⟨by decide, by decide, by decide +kernel⟩ wh1332 wh1333 wh1334 wh10 wh1335 ⟨Nat.le_of_ble_eq_true rfl, Nat.le_of_ble_eq_true rfl⟩ rfl (by decide) (Nat.le_of_ble_eq_true rfl) r3 hl.1 hr1 hcs (fun H3 locs3 hr3 => ?_)
  exact lv_icmp_eq (tgt := 1736) hx hb dL_law_1363 (by decide) (fun _ => kk I3 β H3 locs3 ls c3 m3 hr3 hl) (fun q => absurd rfl q)
set_option maxHeartbeats 4000000 in
set_option maxRecDepth 100000 in
theorem lw_c23 (hfl : l.stackTraces = false) (C : lCtx g p s m meth c b) (hX : va_X b L xs s s.heap) (hbl : b < s.heap.size) (hbA : ¬ xA g b) (hL : L ≤ 2048) (hi : i + 4 ≤ L) {I : xMem} {α : aS} (hc : cInv I α) (hm : mInv I α) {H : Heap} {locs : List Loc} (hr : xRep g s I H locs) {ls : Array Slot} (hl : lv_has ls 7 (lvC g b i)) {cells slots : Nat} (hcs : cells + 1 ≤ 601024 ∧ slots + 6 ≤ 7293034) (kk : lNext p l e s m b below meth c g i (cells + 1) (slots + 6) Q) : W p l e room_1 s m #[Value.ref b] below meth c H locs cells slots Q (F0 m 1368 ls []) := by
  obtain ⟨k, v, β, I1, I3, hk, r1, r3, c3, m3, h0, hv⟩ := l_pack (op_bestNext (α := α) (xs (i + 1))) hc hm
  have hk3 : k ≤ 3 := Nat.le_trans hk (by decide)
  have hx := C.1
  have hb := C.2.1
  refine lv_aload_n hx hb dL_law_1368 rfl (lv_at hl 1 rfl) ?_
  refine l_arg (j := 1) (a0 := 0) (a4 := 4) C hX hbl hbA hr.2.2 hl rfl rfl (by omega) hL (by decide) dL_law_1369 dL_law_1370 dL_law_1372 dL_law_1373 dL_law_1374 ?_
  refine lv_aload_n hx hb dL_law_1375 rfl (lv_at hl 3 rfl) ?_
  refine lc_H C (h_bestNext l hfl g (xs (i + 1)) I hk r1) dL_law_1376 (n := 3) ⟨by decide, by decide, by decide +kernel⟩ wh884 wh885 wh0 wh886 ⟨Nat.le_of_ble_eq_true rfl, Nat.le_of_ble_eq_true rfl⟩ rfl rfl hl.1 hr hcs (fun H1 locs1 hr1 => ?_)
  refine lv_istore (lv' := lvK g b i k) hx hb dL_law_1379 hl (by decide) rfl (fun ls hl => ?_)
  refine lv_aload_n hx hb dL_law_1381 rfl (lv_at hl 3 rfl) ?_
  refine l_arg (j := 1) (a0 := 1) (a4 := 5) C hX hbl hbA hr1.2.2 hl rfl rfl (by omega) hL (by decide) dL_law_1382 dL_law_1383 dL_law_1385 dL_law_1386 dL_law_1387 ?_
  refine lc_V C (m_X9_bestNext l g) (st := [.int (xs (i + 1)), .ref 189]) (rest := []) (n := 1) (b' := 189) dL_law_1388 (rfl : vwCl[9]? = some (RX9, TX9, 17)) (by omega) rfl ⟨by decide, by decide, by decide +kernel⟩ wh1336 wh1337 wh1338 wh10 wh1339 ⟨Nat.le_of_ble_eq_true rfl, Nat.le_of_ble_eq_true rfl⟩ rfl (by decide) (Nat.le_of_ble_eq_true rfl) r3 hl.1 hr1 hcs (fun H3 locs3 hr3 => ?_)
  exact l_tail C hl hr3 hcs hk3 h0 hv wh1070 wh1071 wh1072 wh10 wh1073 dL_law_1391 dL_law_1393 dL_law_1394 dL_law_1397 dL_law_1399 dL_law_1404 dL_law_1406 dL_law_1409 dL_law_1410 dL_law_1411 dL_law_1412 dL_law_1414 dL_law_1415 dL_law_1416 dL_law_1421 (by decide) (fun H4 locs4 ls' hr4 hl4 => kk I3 β H4 locs4 ls' c3 m3 hr4 hl4)
set_option maxHeartbeats 4000000 in
set_option maxRecDepth 100000 in
theorem lw_c24 (hfl : l.stackTraces = false) (C : lCtx g p s m meth c b) (hX : va_X b L xs s s.heap) (hbl : b < s.heap.size) (hbA : ¬ xA g b) (hL : L ≤ 2048) (hi : i + 4 ≤ L) {I : xMem} {α : aS} (hc : cInv I α) (hm : mInv I α) {H : Heap} {locs : List Loc} (hr : xRep g s I H locs) {ls : Array Slot} (hl : lv_has ls 7 (lvC g b i)) {cells slots : Nat} (hcs : cells + 1 ≤ 601024 ∧ slots + 6 ≤ 7293034) (kk : lNext p l e s m b below meth c g i (cells + 1) (slots + 6) Q) : W p l e room_1 s m #[Value.ref b] below meth c H locs cells slots Q (F0 m 1424 ls []) := by
  obtain ⟨k, v, β, I1, I3, hk, r1, r3, c3, m3, h0, hv⟩ := l_packW (op_runScript (α := α) (xs (i + 1)) ((((xs (i + 2)).toInt64 <<< ((32 : Int32).toInt64 &&& 63)) ||| ((xs (i + 3)).toInt64 &&& (4294967295 : Int64))))) hc hm
  have hk3 : k ≤ 3 := Nat.le_trans hk (by decide)
  have hx := C.1
  have hb := C.2.1
  refine lv_aload_n hx hb dL_law_1424 rfl (lv_at hl 1 rfl) ?_
  refine l_arg (j := 1) (a0 := 0) (a4 := 4) C hX hbl hbA hr.2.2 hl rfl rfl (by omega) hL (by decide) dL_law_1425 dL_law_1426 dL_law_1428 dL_law_1429 dL_law_1430 ?_
  refine l_arg (j := 2) (a0 := 0) (a4 := 4) C hX hbl hbA hr.2.2 hl rfl rfl (by omega) hL (by decide) dL_law_1431 dL_law_1432 dL_law_1434 dL_law_1435 dL_law_1436 ?_
  refine lv_i2l C.1 C.2.1 dL_law_1437 rfl ?_
  refine lv_bipush (v := 32) C.1 C.2.1 dL_law_1438 (by decide) ?_
  refine lv_lshl C.1 C.2.1 dL_law_1440 rfl ?_
  refine l_arg (j := 3) (a0 := 0) (a4 := 4) C hX hbl hbA hr.2.2 hl rfl rfl (by omega) hL (by decide) dL_law_1441 dL_law_1442 dL_law_1444 dL_law_1445 dL_law_1446 ?_
  refine lv_i2l C.1 C.2.1 dL_law_1447 rfl ?_
  refine lv_ldc2 C.1 C.2.1 C.2.2.2.1 (C.2.2.2.2.1 _ wh1366) dL_law_1448 ?_
  refine lv_land C.1 C.2.1 dL_law_1451 ?_
  refine lv_lor C.1 C.2.1 dL_law_1452 ?_
  refine lv_aload_n hx hb dL_law_1453 rfl (lv_at hl 3 rfl) ?_
  refine lc_H C (h_runScript l hfl g (xs (i + 1)) ((((xs (i + 2)).toInt64 <<< ((32 : Int32).toInt64 &&& 63)) ||| ((xs (i + 3)).toInt64 &&& (4294967295 : Int64)))) I hk r1) dL_law_1454 (n := 4) ⟨by decide, by decide, by decide +kernel⟩ wh896 wh897 wh0 wh898 ⟨Nat.le_of_ble_eq_true rfl, Nat.le_of_ble_eq_true rfl⟩ rfl rfl hl.1 hr hcs (fun H1 locs1 hr1 => ?_)
  refine lv_istore (lv' := lvK g b i k) hx hb dL_law_1457 hl (by decide) rfl (fun ls hl => ?_)
  refine lv_aload_n hx hb dL_law_1459 rfl (lv_at hl 3 rfl) ?_
  refine l_arg (j := 1) (a0 := 1) (a4 := 5) C hX hbl hbA hr1.2.2 hl rfl rfl (by omega) hL (by decide) dL_law_1460 dL_law_1461 dL_law_1463 dL_law_1464 dL_law_1465 ?_
  refine l_arg (j := 2) (a0 := 1) (a4 := 5) C hX hbl hbA hr1.2.2 hl rfl rfl (by omega) hL (by decide) dL_law_1466 dL_law_1467 dL_law_1469 dL_law_1470 dL_law_1471 ?_
  refine lv_i2l C.1 C.2.1 dL_law_1472 rfl ?_
  refine lv_bipush (v := 32) C.1 C.2.1 dL_law_1473 (by decide) ?_
  refine lv_lshl C.1 C.2.1 dL_law_1475 rfl ?_
  refine l_arg (j := 3) (a0 := 1) (a4 := 5) C hX hbl hbA hr1.2.2 hl rfl rfl (by omega) hL (by decide) dL_law_1476 dL_law_1477 dL_law_1479 dL_law_1480 dL_law_1481 ?_
  refine lv_i2l C.1 C.2.1 dL_law_1482 rfl ?_
  refine lv_ldc2 C.1 C.2.1 C.2.2.2.1 (C.2.2.2.2.1 _ wh1366) dL_law_1483 ?_
  refine lv_land C.1 C.2.1 dL_law_1486 ?_
  refine lv_lor C.1 C.2.1 dL_law_1487 ?_
  refine lc_V C (m_X9_runScript l g) (st := [.long ((((xs (i + 2)).toInt64 <<< ((32 : Int32).toInt64 &&& 63)) ||| ((xs (i + 3)).toInt64 &&& (4294967295 : Int64)))), .int (xs (i + 1)), .ref 189]) (rest := []) (n := 2) (b' := 189) dL_law_1488 (rfl : vwCl[9]? = some (RX9, TX9, 17)) (by omega) rfl ⟨by decide, by decide, by decide +kernel⟩ wh1340 wh1341 wh1342 wh10 wh1343 ⟨Nat.le_of_ble_eq_true rfl, Nat.le_of_ble_eq_true rfl⟩ rfl (by decide) (Nat.le_of_ble_eq_true rfl) r3 hl.1 hr1 hcs (fun H3 locs3 hr3 => ?_)
  exact l_tail C hl hr3 hcs hk3 h0 hv wh1070 wh1071 wh1072 wh10 wh1073 dL_law_1491 dL_law_1493 dL_law_1494 dL_law_1497 dL_law_1499 dL_law_1504 dL_law_1506 dL_law_1509 dL_law_1510 dL_law_1511 dL_law_1512 dL_law_1514 dL_law_1515 dL_law_1516 dL_law_1521 (by decide) (fun H4 locs4 ls' hr4 hl4 => kk I3 β H4 locs4 ls' c3 m3 hr4 hl4)
set_option maxHeartbeats 4000000 in
set_option maxRecDepth 100000 in
theorem lw_c25 (hfl : l.stackTraces = false) (C : lCtx g p s m meth c b) (hX : va_X b L xs s s.heap) (hbl : b < s.heap.size) (hbA : ¬ xA g b) (hL : L ≤ 2048) (hi : i + 4 ≤ L) {I : xMem} {α : aS} (hc : cInv I α) (hm : mInv I α) {H : Heap} {locs : List Loc} (hr : xRep g s I H locs) {ls : Array Slot} (hl : lv_has ls 7 (lvC g b i)) {cells slots : Nat} (hcs : cells + 1 ≤ 601024 ∧ slots + 6 ≤ 7293034) (kk : lNext p l e s m b below meth c g i (cells + 1) (slots + 6) Q) : W p l e room_1 s m #[Value.ref b] below meth c H locs cells slots Q (F0 m 1524 ls []) := by
  obtain ⟨k, v, β, I1, I3, hk, r1, r3, c3, m3, h0, hv⟩ := l_pack (op_simulate (α := α) ((((xs (i + 1)).toInt64 <<< ((32 : Int32).toInt64 &&& 63)) ||| ((xs (i + 2)).toInt64 &&& (4294967295 : Int64)))) (xs (i + 3))) hc hm
  have hk3 : k ≤ 3 := Nat.le_trans hk (by decide)
  have hx := C.1
  have hb := C.2.1
  refine lv_aload_n hx hb dL_law_1524 rfl (lv_at hl 1 rfl) ?_
  refine l_arg (j := 1) (a0 := 0) (a4 := 4) C hX hbl hbA hr.2.2 hl rfl rfl (by omega) hL (by decide) dL_law_1525 dL_law_1526 dL_law_1528 dL_law_1529 dL_law_1530 ?_
  refine lv_i2l C.1 C.2.1 dL_law_1531 rfl ?_
  refine lv_bipush (v := 32) C.1 C.2.1 dL_law_1532 (by decide) ?_
  refine lv_lshl C.1 C.2.1 dL_law_1534 rfl ?_
  refine l_arg (j := 2) (a0 := 0) (a4 := 4) C hX hbl hbA hr.2.2 hl rfl rfl (by omega) hL (by decide) dL_law_1535 dL_law_1536 dL_law_1538 dL_law_1539 dL_law_1540 ?_
  refine lv_i2l C.1 C.2.1 dL_law_1541 rfl ?_
  refine lv_ldc2 C.1 C.2.1 C.2.2.2.1 (C.2.2.2.2.1 _ wh1366) dL_law_1542 ?_
  refine lv_land C.1 C.2.1 dL_law_1545 ?_
  refine lv_lor C.1 C.2.1 dL_law_1546 ?_
  refine l_arg (j := 3) (a0 := 0) (a4 := 4) C hX hbl hbA hr.2.2 hl rfl rfl (by omega) hL (by decide) dL_law_1547 dL_law_1548 dL_law_1550 dL_law_1551 dL_law_1552 ?_
  refine lv_aload_n hx hb dL_law_1553 rfl (lv_at hl 3 rfl) ?_
  refine lc_H C (h_simulate l hfl g ((((xs (i + 1)).toInt64 <<< ((32 : Int32).toInt64 &&& 63)) ||| ((xs (i + 2)).toInt64 &&& (4294967295 : Int64)))) (xs (i + 3)) I hk r1) dL_law_1554 (n := 4) ⟨by decide, by decide, by decide +kernel⟩ wh953 wh954 wh0 wh955 ⟨Nat.le_of_ble_eq_true rfl, Nat.le_of_ble_eq_true rfl⟩ rfl rfl hl.1 hr hcs (fun H1 locs1 hr1 => ?_)
  refine lv_istore (lv' := lvK g b i k) hx hb dL_law_1557 hl (by decide) rfl (fun ls hl => ?_)
  refine lv_aload_n hx hb dL_law_1559 rfl (lv_at hl 3 rfl) ?_
  refine l_arg (j := 1) (a0 := 1) (a4 := 5) C hX hbl hbA hr1.2.2 hl rfl rfl (by omega) hL (by decide) dL_law_1560 dL_law_1561 dL_law_1563 dL_law_1564 dL_law_1565 ?_
  refine lv_i2l C.1 C.2.1 dL_law_1566 rfl ?_
  refine lv_bipush (v := 32) C.1 C.2.1 dL_law_1567 (by decide) ?_
  refine lv_lshl C.1 C.2.1 dL_law_1569 rfl ?_
  refine l_arg (j := 2) (a0 := 1) (a4 := 5) C hX hbl hbA hr1.2.2 hl rfl rfl (by omega) hL (by decide) dL_law_1570 dL_law_1571 dL_law_1573 dL_law_1574 dL_law_1575 ?_
  refine lv_i2l C.1 C.2.1 dL_law_1576 rfl ?_
  refine lv_ldc2 C.1 C.2.1 C.2.2.2.1 (C.2.2.2.2.1 _ wh1366) dL_law_1577 ?_
  refine lv_land C.1 C.2.1 dL_law_1580 ?_
  refine lv_lor C.1 C.2.1 dL_law_1581 ?_
  refine l_arg (j := 3) (a0 := 1) (a4 := 5) C hX hbl hbA hr1.2.2 hl rfl rfl (by omega) hL (by decide) dL_law_1582 dL_law_1583 dL_law_1585 dL_law_1586 dL_law_1587 ?_
  refine lc_V C (m_X9_simulate l g) (st := [.int (xs (i + 3)), .long ((((xs (i + 1)).toInt64 <<< ((32 : Int32).toInt64 &&& 63)) ||| ((xs (i + 2)).toInt64 &&& (4294967295 : Int64)))), .ref 189]) (rest := []) (n := 2) (b' := 189) dL_law_1588 (rfl : vwCl[9]? = some (RX9, TX9, 17)) (by omega) rfl ⟨by decide, by decide, by decide +kernel⟩ wh1351 wh1352 wh1353 wh10 wh1354 ⟨Nat.le_of_ble_eq_true rfl, Nat.le_of_ble_eq_true rfl⟩ rfl (by decide) (Nat.le_of_ble_eq_true rfl) r3 hl.1 hr1 hcs (fun H3 locs3 hr3 => ?_)
  exact l_tail C hl hr3 hcs hk3 h0 hv wh1070 wh1071 wh1072 wh10 wh1073 dL_law_1591 dL_law_1593 dL_law_1594 dL_law_1597 dL_law_1599 dL_law_1604 dL_law_1606 dL_law_1609 dL_law_1610 dL_law_1611 dL_law_1612 dL_law_1614 dL_law_1615 dL_law_1616 dL_law_1621 (by decide) (fun H4 locs4 ls' hr4 hl4 => kk I3 β H4 locs4 ls' c3 m3 hr4 hl4)
set_option maxHeartbeats 4000000 in
set_option maxRecDepth 100000 in
theorem lw_c26 (hfl : l.stackTraces = false) (C : lCtx g p s m meth c b) (hX : va_X b L xs s s.heap) (hbl : b < s.heap.size) (hbA : ¬ xA g b) (hL : L ≤ 2048) (hi : i + 4 ≤ L) {I : xMem} {α : aS} (hc : cInv I α) (hm : mInv I α) {H : Heap} {locs : List Loc} (hr : xRep g s I H locs) {ls : Array Slot} (hl : lv_has ls 7 (lvC g b i)) {cells slots : Nat} (hcs : cells + 1 ≤ 601024 ∧ slots + 6 ≤ 7293034) (kk : lNext p l e s m b below meth c g i (cells + 1) (slots + 6) Q) : W p l e room_1 s m #[Value.ref b] below meth c H locs cells slots Q (F0 m 1624 ls []) := by
  obtain ⟨k, v, β, I1, I3, hk, r1, r3, c3, m3, h0, hv⟩ := l_pack (op_save (α := α) (xs (i + 1))) hc hm
  have hk3 : k ≤ 3 := Nat.le_trans hk (by decide)
  have hx := C.1
  have hb := C.2.1
  refine lv_aload_n hx hb dL_law_1624 rfl (lv_at hl 1 rfl) ?_
  refine l_arg (j := 1) (a0 := 0) (a4 := 4) C hX hbl hbA hr.2.2 hl rfl rfl (by omega) hL (by decide) dL_law_1625 dL_law_1626 dL_law_1628 dL_law_1629 dL_law_1630 ?_
  refine lv_aload_n hx hb dL_law_1631 rfl (lv_at hl 3 rfl) ?_
  refine lc_H C (h_save l hfl g (xs (i + 1)) I hk r1) dL_law_1632 (n := 3) ⟨by decide, by decide, by decide +kernel⟩ wh984 wh985 wh0 wh986 ⟨Nat.le_of_ble_eq_true rfl, Nat.le_of_ble_eq_true rfl⟩ rfl rfl hl.1 hr hcs (fun H1 locs1 hr1 => ?_)
  refine lv_istore (lv' := lvK g b i k) hx hb dL_law_1635 hl (by decide) rfl (fun ls hl => ?_)
  refine lv_aload_n hx hb dL_law_1637 rfl (lv_at hl 3 rfl) ?_
  refine l_arg (j := 1) (a0 := 1) (a4 := 5) C hX hbl hbA hr1.2.2 hl rfl rfl (by omega) hL (by decide) dL_law_1638 dL_law_1639 dL_law_1641 dL_law_1642 dL_law_1643 ?_
  refine lc_V C (m_X9_save l g) (st := [.int (xs (i + 1)), .ref 189]) (rest := []) (n := 1) (b' := 189) dL_law_1644 (rfl : vwCl[9]? = some (RX9, TX9, 17)) (by omega) rfl ⟨by decide, by decide, by decide +kernel⟩ wh1358 wh1359 wh1360 wh10 wh1361 ⟨Nat.le_of_ble_eq_true rfl, Nat.le_of_ble_eq_true rfl⟩ rfl (by decide) (Nat.le_of_ble_eq_true rfl) r3 hl.1 hr1 hcs (fun H3 locs3 hr3 => ?_)
  exact l_tail C hl hr3 hcs hk3 h0 hv wh1070 wh1071 wh1072 wh10 wh1073 dL_law_1647 dL_law_1649 dL_law_1650 dL_law_1653 dL_law_1655 dL_law_1660 dL_law_1662 dL_law_1665 dL_law_1666 dL_law_1667 dL_law_1668 dL_law_1670 dL_law_1671 dL_law_1672 dL_law_1677 (by decide) (fun H4 locs4 ls' hr4 hl4 => kk I3 β H4 locs4 ls' c3 m3 hr4 hl4)
set_option maxHeartbeats 4000000 in
set_option maxRecDepth 100000 in
theorem lw_c27 (hfl : l.stackTraces = false) (C : lCtx g p s m meth c b) (hX : va_X b L xs s s.heap) (hbl : b < s.heap.size) (hbA : ¬ xA g b) (hL : L ≤ 2048) (hi : i + 4 ≤ L) {I : xMem} {α : aS} (hc : cInv I α) (hm : mInv I α) {H : Heap} {locs : List Loc} (hr : xRep g s I H locs) {ls : Array Slot} (hl : lv_has ls 7 (lvC g b i)) {cells slots : Nat} (hcs : cells + 1 ≤ 601024 ∧ slots + 6 ≤ 7293034) (kk : lNext p l e s m b below meth c g i (cells + 1) (slots + 6) Q) : W p l e room_1 s m #[Value.ref b] below meth c H locs cells slots Q (F0 m 1680 ls []) := by
  obtain ⟨k, v, β, I1, I3, hk, r1, r3, c3, m3, h0, hv⟩ := l_pack (op_restore (α := α) (xs (i + 1))) hc hm
  have hk3 : k ≤ 3 := Nat.le_trans hk (by decide)
  have hx := C.1
  have hb := C.2.1
  refine lv_aload_n hx hb dL_law_1680 rfl (lv_at hl 1 rfl) ?_
  refine l_arg (j := 1) (a0 := 0) (a4 := 4) C hX hbl hbA hr.2.2 hl rfl rfl (by omega) hL (by decide) dL_law_1681 dL_law_1682 dL_law_1684 dL_law_1685 dL_law_1686 ?_
  refine lv_aload_n hx hb dL_law_1687 rfl (lv_at hl 3 rfl) ?_
  refine lc_H C (h_restore l hfl g (xs (i + 1)) I hk r1) dL_law_1688 (n := 3) ⟨by decide, by decide, by decide +kernel⟩ wh993 wh994 wh0 wh995 ⟨Nat.le_of_ble_eq_true rfl, Nat.le_of_ble_eq_true rfl⟩ rfl rfl hl.1 hr hcs (fun H1 locs1 hr1 => ?_)
  refine lv_istore (lv' := lvK g b i k) hx hb dL_law_1691 hl (by decide) rfl (fun ls hl => ?_)
  refine lv_aload_n hx hb dL_law_1693 rfl (lv_at hl 3 rfl) ?_
  refine l_arg (j := 1) (a0 := 1) (a4 := 5) C hX hbl hbA hr1.2.2 hl rfl rfl (by omega) hL (by decide) dL_law_1694 dL_law_1695 dL_law_1697 dL_law_1698 dL_law_1699 ?_
  refine lc_V C (m_X9_restore l g) (st := [.int (xs (i + 1)), .ref 189]) (rest := []) (n := 1) (b' := 189) dL_law_1700 (rfl : vwCl[9]? = some (RX9, TX9, 17)) (by omega) rfl ⟨by decide, by decide, by decide +kernel⟩ wh1362 wh1363 wh1364 wh10 wh1365 ⟨Nat.le_of_ble_eq_true rfl, Nat.le_of_ble_eq_true rfl⟩ rfl (by decide) (Nat.le_of_ble_eq_true rfl) r3 hl.1 hr1 hcs (fun H3 locs3 hr3 => ?_)
  exact l_tail C hl hr3 hcs hk3 h0 hv wh1070 wh1071 wh1072 wh10 wh1073 dL_law_1703 dL_law_1705 dL_law_1706 dL_law_1709 dL_law_1711 dL_law_1716 dL_law_1718 dL_law_1721 dL_law_1722 dL_law_1723 dL_law_1724 dL_law_1726 dL_law_1727 dL_law_1728 dL_law_1733 (by decide) (fun H4 locs4 ls' hr4 hl4 => kk I3 β H4 locs4 ls' c3 m3 hr4 hl4)
end P65c
