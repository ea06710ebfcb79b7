/-! ===== the law: a call of the script, case by case ===== -/
section
variable {p : Program} {l : Launch} {e9 : Env} {s : State} {m : MethodId} {below : List Frame} {meth : Method} {c : Code} {H : Heap} {locs : List Loc} {cells slots : Nat} {Q : State → Prop}
variable {ls : Array Slot} {D : va_G} {cy : Nat → ClassId} {A : Nat → Prop} {C : List Nat} {ad : Nat → Nat} {e : Nat → Nat → Nat} {b L i : Nat} {xs : Nat → Int32}
set_option maxHeartbeats 4000000 in
set_option maxRecDepth 100000 in
theorem law_paid (hfl : l.stackTraces = false) (M : MC p s m #[Value.ref b] meth c code wsL_law RL 7 D cy A) (Th : TH A s s.heap) (hN : NC s) (hX : va_X b L xs s s.heap) (hbl : b < s.heap.size) (hbA : ¬ A b) (hL : L ≤ 2560) (hi : i + 5 ≤ L) (w : MO D A s.heap (C, ad, G cy ad e) H locs) (hI : INV e) (hC : CC (e 0 1) (e 0 3) C) (hl : lv_has ls 7 (lvL b ad i)) (hc : cells + 11 ≤ 601024) (hs : slots + 3850 ≤ 7293034)
    (kk : ∀ (C2 : List Nat) (ad2 : Nat → Nat) (e2 : Nat → Nat → Nat) (H2 : Heap) (locs2 : List Loc) (ls2 : Array Slot), MO D A s.heap (C2, ad2, G cy ad2 e2) H2 locs2 → INV e2 → CC (e2 0 1) (e2 0 3) C2 → lv_has ls2 7 (lvL b ad2 i) → W p l e9 room_1 s m #[Value.ref b] below meth c H2 locs2 (cells + 11) (slots + 3850) Q (F0 m 1558 ls2 [])) : W p l e9 room_1 s m #[Value.ref b] below meth c H locs cells slots Q (F0 m 1286 ls []) := by
  have hx := M.1.1
  have hb := M.1.2.1
  have hB := hC.B
  have hl : lv_has ls 7 [(0, .ref b), (1, .ref (ad 0)), (2, .ref (ad 7)), (3, .ref (ad 6)), (4, .int (nI i))] := hl
  obtain ⟨a1, ha1, x1⟩ := nI_all (xs (i + 1))
  obtain ⟨a2, ha2, x2⟩ := nI_all (xs (i + 2))
  refine lv_aload_n hx hb dL_law_1286 rfl (lv_at hl 1 rfl) ?_
  refine la_arg M w hX hbl hbA hL hl 0 4 rfl rfl (k := 1) (show Int32.ofInt 1 = nI 1 from rfl) (by omega) x1 1287 dL_law_1287 dL_law_1288 dL_law_1290 dL_law_1291 dL_law_1292 ?_
  refine la_arg M w hX hbl hbA hL hl 0 4 rfl rfl (k := 2) (show Int32.ofInt 2 = nI 2 from rfl) (by omega) x2 1293 dL_law_1293 dL_law_1294 dL_law_1296 dL_law_1297 dL_law_1298 ?_
  refine lv_aload_n hx hb dL_law_1299 rfl (lv_at hl 3 rfl) ?_
  refine mxw_SW M w Th hN (kL_paid l hfl D cy C ad e H.size a1 a2 hC hI.1 ha1 ha2) (vx_cwSW 4 M.1.2.2.2.2 gL_law_L_paid rfl rfl rfl (by decide +kernel) ⟨Nat.le_of_ble_eq_true rfl, Nat.le_of_ble_eq_true rfl⟩) rfl hl.1 rfl (Nat.le_of_ble_eq_true rfl) dL_law_1300 ⟨by show cells + 2 ≤ 601024; omega, by show slots + 12 ≤ 7293034; omega⟩ (fun r u1 H locs hp w => ?_)
  obtain ⟨j, v, e1, C1, ad1, rfl, hj, had, rfl, hT⟩ := hp
  have h6 := lw_h6 e1 v j
  have h60 := lw_h60 e1 v j
  generalize (if j = 0 then es e1 6 0 (lK v) else e1) = e' at w h6 h60
  obtain ⟨hB1, hM1, hst⟩ := stp_paid hI hC hT h6
  have hl : lv_has ls 7 [(0, .ref b), (1, .ref (ad1 0)), (2, .ref (ad1 7)), (3, .ref (ad1 6)), (4, .int (nI i))] := by
    have h9 := lvL_eq had hB b i
    unfold lvL at h9
    rw [h9] at hl
    exact hl
  refine lv_istore (lv' := [(5, .int (nI j)), (0, .ref b), (1, .ref (ad1 0)), (2, .ref (ad1 7)), (3, .ref (ad1 6)), (4, .int (nI i))]) hx hb dL_law_1303 hl (by decide) rfl (fun ls hl => ?_)
  refine lv_aload_n hx hb dL_law_1305 rfl (lv_at hl 3 rfl) ?_
  refine la_arg M w hX hbl hbA hL hl 1 5 rfl rfl (k := 1) (show Int32.ofInt 1 = nI 1 from rfl) (by omega) x1 1306 dL_law_1306 dL_law_1307 dL_law_1309 dL_law_1310 dL_law_1311 ?_
  refine la_arg M w hX hbl hbA hL hl 1 5 rfl rfl (k := 2) (show Int32.ofInt 2 = nI 2 from rfl) (by omega) x2 1312 dL_law_1312 dL_law_1313 dL_law_1315 dL_law_1316 dL_law_1317 ?_
  refine mx_Vi M w (kX4_paid l D cy C1 ad1 e' H.size a1 a2 hB1 hM1 ha1 ha2) (cwV 2 M.1.2.2.2.2 gL_law_X4_paid rfl rfl rfl (by decide +kernel) ⟨Nat.le_of_ble_eq_true rfl, Nat.le_of_ble_eq_true rfl⟩) (mo_rec M w (hB1 7 (by decide)) (g := G cy ad1 e') (sh_7 cy ad1 (e' 7)) rfl) rfl hl.1 rfl (Nat.le_of_ble_eq_true rfl) dL_law_1318 ⟨by show cells + 2 + 0 ≤ 601024; omega, by show slots + 12 + 0 ≤ 7293034; omega⟩ (fun r u1 H locs hp w => ?_)
  obtain ⟨e2, rfl, hI2, hC2, q1, q2, q3⟩ := hst cy ad1 r u1 hp
  refine lv_istore (lv' := [(6, .int r), (5, .int (nI j)), (0, .ref b), (1, .ref (ad1 0)), (2, .ref (ad1 7)), (3, .ref (ad1 6)), (4, .int (nI i))]) hx hb dL_law_1321 hl (by decide) rfl (fun ls hl => ?_)
  refine la_tail M w hB1 hj q1 q2 (fun z => by rw [q3]; exact h60 z) hl 4 5 1 0 rfl rfl rfl rfl (cwV 0 M.1.2.2.2.2 gL_law_X4_thrown rfl rfl rfl (by decide +kernel) ⟨Nat.le_of_ble_eq_true rfl, Nat.le_of_ble_eq_true rfl⟩) ⟨by show cells + 2 + 0 ≤ 601024; omega, by show slots + 12 + 0 ≤ 7293034; omega⟩ 1323 1558 dL_law_1323 dL_law_1324 dL_law_1327 dL_law_1329 dL_law_1334 dL_law_1336 dL_law_1339 dL_law_1340 dL_law_1341 dL_law_1342 dL_law_1344 dL_law_1345 dL_law_1346 dL_law_1351 (by decide) (fun H locs w => ?_)
  refine W.widen (k := cells + 11) (n := slots + 3850) (by omega) (by omega) ?_
  exact kk C1 ad1 e2 H locs ls w hI2 hC2 (lv_sub hl [2, 3, 4, 5, 6] rfl)
set_option maxHeartbeats 4000000 in
set_option maxRecDepth 100000 in
theorem law_borrowed (hfl : l.stackTraces = false) (M : MC p s m #[Value.ref b] meth c code wsL_law RL 7 D cy A) (Th : TH A s s.heap) (hN : NC s) (hX : va_X b L xs s s.heap) (hbl : b < s.heap.size) (hbA : ¬ A b) (hL : L ≤ 2560) (hi : i + 5 ≤ L) (w : MO D A s.heap (C, ad, G cy ad e) H locs) (hI : INV e) (hC : CC (e 0 1) (e 0 3) C) (hl : lv_has ls 7 (lvL b ad i)) (hc : cells + 11 ≤ 601024) (hs : slots + 3850 ≤ 7293034)
    (kk : ∀ (C2 : List Nat) (ad2 : Nat → Nat) (e2 : Nat → Nat → Nat) (H2 : Heap) (locs2 : List Loc) (ls2 : Array Slot), MO D A s.heap (C2, ad2, G cy ad2 e2) H2 locs2 → INV e2 → CC (e2 0 1) (e2 0 3) C2 → lv_has ls2 7 (lvL b ad2 i) → W p l e9 room_1 s m #[Value.ref b] below meth c H2 locs2 (cells + 11) (slots + 3850) Q (F0 m 1558 ls2 [])) : W p l e9 room_1 s m #[Value.ref b] below meth c H locs cells slots Q (F0 m 1354 ls []) := by
  have hx := M.1.1
  have hb := M.1.2.1
  have hB := hC.B
  have hl : lv_has ls 7 [(0, .ref b), (1, .ref (ad 0)), (2, .ref (ad 7)), (3, .ref (ad 6)), (4, .int (nI i))] := hl
  obtain ⟨a1, ha1, x1⟩ := nI_all (xs (i + 1))
  obtain ⟨a2, ha2, x2⟩ := nI_all (xs (i + 2))
  refine lv_aload_n hx hb dL_law_1354 rfl (lv_at hl 1 rfl) ?_
  refine la_arg M w hX hbl hbA hL hl 0 4 rfl rfl (k := 1) (show Int32.ofInt 1 = nI 1 from rfl) (by omega) x1 1355 dL_law_1355 dL_law_1356 dL_law_1358 dL_law_1359 dL_law_1360 ?_
  refine la_arg M w hX hbl hbA hL hl 0 4 rfl rfl (k := 2) (show Int32.ofInt 2 = nI 2 from rfl) (by omega) x2 1361 dL_law_1361 dL_law_1362 dL_law_1364 dL_law_1365 dL_law_1366 ?_
  refine lv_aload_n hx hb dL_law_1367 rfl (lv_at hl 3 rfl) ?_
  refine mxw_SW M w Th hN (kL_borrowed l hfl D cy C ad e H.size a1 a2 hC hI.1 ha1 ha2) (vx_cwSW 4 M.1.2.2.2.2 gL_law_L_borrowed rfl rfl rfl (by decide +kernel) ⟨Nat.le_of_ble_eq_true rfl, Nat.le_of_ble_eq_true rfl⟩) rfl hl.1 rfl (Nat.le_of_ble_eq_true rfl) dL_law_1368 ⟨by show cells + 2 ≤ 601024; omega, by show slots + 12 ≤ 7293034; omega⟩ (fun r u1 H locs hp w => ?_)
  obtain ⟨j, v, e1, C1, ad1, rfl, hj, had, rfl, hT⟩ := hp
  have h6 := lw_h6 e1 v j
  have h60 := lw_h60 e1 v j
  generalize (if j = 0 then es e1 6 0 (lK v) else e1) = e' at w h6 h60
  obtain ⟨hB1, hM1, hst⟩ := stp_borrowed hI hC hT h6
  have hl : lv_has ls 7 [(0, .ref b), (1, .ref (ad1 0)), (2, .ref (ad1 7)), (3, .ref (ad1 6)), (4, .int (nI i))] := by
    have h9 := lvL_eq had hB b i
    unfold lvL at h9
    rw [h9] at hl
    exact hl
  refine lv_istore (lv' := [(5, .int (nI j)), (0, .ref b), (1, .ref (ad1 0)), (2, .ref (ad1 7)), (3, .ref (ad1 6)), (4, .int (nI i))]) hx hb dL_law_1371 hl (by decide) rfl (fun ls hl => ?_)
  refine lv_aload_n hx hb dL_law_1373 rfl (lv_at hl 3 rfl) ?_
  refine la_arg M w hX hbl hbA hL hl 1 5 rfl rfl (k := 1) (show Int32.ofInt 1 = nI 1 from rfl) (by omega) x1 1374 dL_law_1374 dL_law_1375 dL_law_1377 dL_law_1378 dL_law_1379 ?_
  refine la_arg M w hX hbl hbA hL hl 1 5 rfl rfl (k := 2) (show Int32.ofInt 2 = nI 2 from rfl) (by omega) x2 1380 dL_law_1380 dL_law_1381 dL_law_1383 dL_law_1384 dL_law_1385 ?_
  refine mx_Vi M w (kX4_borrowed l D cy C1 ad1 e' H.size a1 a2 hB1 hM1 ha1 ha2) (cwV 2 M.1.2.2.2.2 gL_law_X4_borrowed rfl rfl rfl (by decide +kernel) ⟨Nat.le_of_ble_eq_true rfl, Nat.le_of_ble_eq_true rfl⟩) (mo_rec M w (hB1 7 (by decide)) (g := G cy ad1 e') (sh_7 cy ad1 (e' 7)) rfl) rfl hl.1 rfl (Nat.le_of_ble_eq_true rfl) dL_law_1386 ⟨by show cells + 2 + 0 ≤ 601024; omega, by show slots + 12 + 0 ≤ 7293034; omega⟩ (fun r u1 H locs hp w => ?_)
  obtain ⟨e2, rfl, hI2, hC2, q1, q2, q3⟩ := hst cy ad1 r u1 hp
  refine lv_istore (lv' := [(6, .int r), (5, .int (nI j)), (0, .ref b), (1, .ref (ad1 0)), (2, .ref (ad1 7)), (3, .ref (ad1 6)), (4, .int (nI i))]) hx hb dL_law_1389 hl (by decide) rfl (fun ls hl => ?_)
  refine la_tail M w hB1 hj q1 q2 (fun z => by rw [q3]; exact h60 z) hl 4 5 1 0 rfl rfl rfl rfl (cwV 0 M.1.2.2.2.2 gL_law_X4_thrown rfl rfl rfl (by decide +kernel) ⟨Nat.le_of_ble_eq_true rfl, Nat.le_of_ble_eq_true rfl⟩) ⟨by show cells + 2 + 0 ≤ 601024; omega, by show slots + 12 + 0 ≤ 7293034; omega⟩ 1391 1558 dL_law_1391 dL_law_1392 dL_law_1395 dL_law_1397 dL_law_1402 dL_law_1404 dL_law_1407 dL_law_1408 dL_law_1409 dL_law_1410 dL_law_1412 dL_law_1413 dL_law_1414 dL_law_1419 (by decide) (fun H locs w => ?_)
  refine W.widen (k := cells + 11) (n := slots + 3850) (by omega) (by omega) ?_
  exact kk C1 ad1 e2 H locs ls w hI2 hC2 (lv_sub hl [2, 3, 4, 5, 6] rfl)
set_option maxHeartbeats 4000000 in
set_option maxRecDepth 100000 in
theorem law_unpaid (hfl : l.stackTraces = false) (M : MC p s m #[Value.ref b] meth c code wsL_law RL 7 D cy A) (Th : TH A s s.heap) (hN : NC s) (hX : va_X b L xs s s.heap) (hbl : b < s.heap.size) (hbA : ¬ A b) (hL : L ≤ 2560) (hi : i + 5 ≤ L) (w : MO D A s.heap (C, ad, G cy ad e) H locs) (hI : INV e) (hC : CC (e 0 1) (e 0 3) C) (hl : lv_has ls 7 (lvL b ad i)) (hc : cells + 11 ≤ 601024) (hs : slots + 3850 ≤ 7293034)
    (kk : ∀ (C2 : List Nat) (ad2 : Nat → Nat) (e2 : Nat → Nat → Nat) (H2 : Heap) (locs2 : List Loc) (ls2 : Array Slot), MO D A s.heap (C2, ad2, G cy ad2 e2) H2 locs2 → INV e2 → CC (e2 0 1) (e2 0 3) C2 → lv_has ls2 7 (lvL b ad2 i) → W p l e9 room_1 s m #[Value.ref b] below meth c H2 locs2 (cells + 11) (slots + 3850) Q (F0 m 1558 ls2 [])) : W p l e9 room_1 s m #[Value.ref b] below meth c H locs cells slots Q (F0 m 1422 ls []) := by
  have hx := M.1.1
  have hb := M.1.2.1
  have hB := hC.B
  have hl : lv_has ls 7 [(0, .ref b), (1, .ref (ad 0)), (2, .ref (ad 7)), (3, .ref (ad 6)), (4, .int (nI i))] := hl
  obtain ⟨a1, ha1, x1⟩ := nI_all (xs (i + 1))
  obtain ⟨a2, ha2, x2⟩ := nI_all (xs (i + 2))
  refine lv_aload_n hx hb dL_law_1422 rfl (lv_at hl 1 rfl) ?_
  refine la_arg M w hX hbl hbA hL hl 0 4 rfl rfl (k := 1) (show Int32.ofInt 1 = nI 1 from rfl) (by omega) x1 1423 dL_law_1423 dL_law_1424 dL_law_1426 dL_law_1427 dL_law_1428 ?_
  refine la_arg M w hX hbl hbA hL hl 0 4 rfl rfl (k := 2) (show Int32.ofInt 2 = nI 2 from rfl) (by omega) x2 1429 dL_law_1429 dL_law_1430 dL_law_1432 dL_law_1433 dL_law_1434 ?_
  refine lv_aload_n hx hb dL_law_1435 rfl (lv_at hl 3 rfl) ?_
  refine mxw_SW M w Th hN (kL_unpaid l hfl D cy C ad e H.size a1 a2 hC hI.1 ha1 ha2) (vx_cwSW 4 M.1.2.2.2.2 gL_law_L_unpaid rfl rfl rfl (by decide +kernel) ⟨Nat.le_of_ble_eq_true rfl, Nat.le_of_ble_eq_true rfl⟩) rfl hl.1 rfl (Nat.le_of_ble_eq_true rfl) dL_law_1436 ⟨by show cells + 2 ≤ 601024; omega, by show slots + 12 ≤ 7293034; omega⟩ (fun r u1 H locs hp w => ?_)
  obtain ⟨j, v, e1, C1, ad1, rfl, hj, had, rfl, hT⟩ := hp
  have h6 := lw_h6 e1 v j
  have h60 := lw_h60 e1 v j
  generalize (if j = 0 then es e1 6 0 (lK v) else e1) = e' at w h6 h60
  obtain ⟨hB1, hM1, hst⟩ := stp_unpaid hI hC hT h6
  have hl : lv_has ls 7 [(0, .ref b), (1, .ref (ad1 0)), (2, .ref (ad1 7)), (3, .ref (ad1 6)), (4, .int (nI i))] := by
    have h9 := lvL_eq had hB b i
    unfold lvL at h9
    rw [h9] at hl
    exact hl
  refine lv_istore (lv' := [(5, .int (nI j)), (0, .ref b), (1, .ref (ad1 0)), (2, .ref (ad1 7)), (3, .ref (ad1 6)), (4, .int (nI i))]) hx hb dL_law_1439 hl (by decide) rfl (fun ls hl => ?_)
  refine lv_aload_n hx hb dL_law_1441 rfl (lv_at hl 3 rfl) ?_
  refine la_arg M w hX hbl hbA hL hl 1 5 rfl rfl (k := 1) (show Int32.ofInt 1 = nI 1 from rfl) (by omega) x1 1442 dL_law_1442 dL_law_1443 dL_law_1445 dL_law_1446 dL_law_1447 ?_
  refine la_arg M w hX hbl hbA hL hl 1 5 rfl rfl (k := 2) (show Int32.ofInt 2 = nI 2 from rfl) (by omega) x2 1448 dL_law_1448 dL_law_1449 dL_law_1451 dL_law_1452 dL_law_1453 ?_
  refine mx_Vi M w (kX4_unpaid l D cy C1 ad1 e' H.size a1 a2 hB1 hM1 ha1 ha2) (cwV 2 M.1.2.2.2.2 gL_law_X4_unpaid rfl rfl rfl (by decide +kernel) ⟨Nat.le_of_ble_eq_true rfl, Nat.le_of_ble_eq_true rfl⟩) (mo_rec M w (hB1 7 (by decide)) (g := G cy ad1 e') (sh_7 cy ad1 (e' 7)) rfl) rfl hl.1 rfl (Nat.le_of_ble_eq_true rfl) dL_law_1454 ⟨by show cells + 2 + 0 ≤ 601024; omega, by show slots + 12 + 0 ≤ 7293034; omega⟩ (fun r u1 H locs hp w => ?_)
  obtain ⟨e2, rfl, hI2, hC2, q1, q2, q3⟩ := hst cy ad1 r u1 hp
  refine lv_istore (lv' := [(6, .int r), (5, .int (nI j)), (0, .ref b), (1, .ref (ad1 0)), (2, .ref (ad1 7)), (3, .ref (ad1 6)), (4, .int (nI i))]) hx hb dL_law_1457 hl (by decide) rfl (fun ls hl => ?_)
  refine la_tail M w hB1 hj q1 q2 (fun z => by rw [q3]; exact h60 z) hl 4 5 1 0 rfl rfl rfl rfl (cwV 0 M.1.2.2.2.2 gL_law_X4_thrown rfl rfl rfl (by decide +kernel) ⟨Nat.le_of_ble_eq_true rfl, Nat.le_of_ble_eq_true rfl⟩) ⟨by show cells + 2 + 0 ≤ 601024; omega, by show slots + 12 + 0 ≤ 7293034; omega⟩ 1459 1558 dL_law_1459 dL_law_1460 dL_law_1463 dL_law_1465 dL_law_1470 dL_law_1472 dL_law_1475 dL_law_1476 dL_law_1477 dL_law_1478 dL_law_1480 dL_law_1481 dL_law_1482 dL_law_1487 (by decide) (fun H locs w => ?_)
  refine W.widen (k := cells + 11) (n := slots + 3850) (by omega) (by omega) ?_
  exact kk C1 ad1 e2 H locs ls w hI2 hC2 (lv_sub hl [2, 3, 4, 5, 6] rfl)
set_option maxHeartbeats 4000000 in
set_option maxRecDepth 100000 in
theorem law_nextExpiry (hfl : l.stackTraces = false) (M : MC p s m #[Value.ref b] meth c code wsL_law RL 7 D cy A) (Th : TH A s s.heap) (hN : NC s) (hX : va_X b L xs s s.heap) (hbl : b < s.heap.size) (hbA : ¬ A b) (hL : L ≤ 2560) (hi : i + 5 ≤ L) (w : MO D A s.heap (C, ad, G cy ad e) H locs) (hI : INV e) (hC : CC (e 0 1) (e 0 3) C) (hl : lv_has ls 7 (lvL b ad i)) (hc : cells + 11 ≤ 601024) (hs : slots + 3850 ≤ 7293034)
    (kk : ∀ (C2 : List Nat) (ad2 : Nat → Nat) (e2 : Nat → Nat → Nat) (H2 : Heap) (locs2 : List Loc) (ls2 : Array Slot), MO D A s.heap (C2, ad2, G cy ad2 e2) H2 locs2 → INV e2 → CC (e2 0 1) (e2 0 3) C2 → lv_has ls2 7 (lvL b ad2 i) → W p l e9 room_1 s m #[Value.ref b] below meth c H2 locs2 (cells + 11) (slots + 3850) Q (F0 m 1558 ls2 [])) : W p l e9 room_1 s m #[Value.ref b] below meth c H locs cells slots Q (F0 m 1490 ls []) := by
  have hx := M.1.1
  have hb := M.1.2.1
  have hB := hC.B
  have hl : lv_has ls 7 [(0, .ref b), (1, .ref (ad 0)), (2, .ref (ad 7)), (3, .ref (ad 6)), (4, .int (nI i))] := hl
  obtain ⟨a1, ha1, x1⟩ := nI_all (xs (i + 1))
  obtain ⟨a2, ha2, x2⟩ := nI_all (xs (i + 2))
  refine lv_aload_n hx hb dL_law_1490 rfl (lv_at hl 1 rfl) ?_
  refine la_arg M w hX hbl hbA hL hl 0 4 rfl rfl (k := 1) (show Int32.ofInt 1 = nI 1 from rfl) (by omega) x1 1491 dL_law_1491 dL_law_1492 dL_law_1494 dL_law_1495 dL_law_1496 ?_
  refine la_arg M w hX hbl hbA hL hl 0 4 rfl rfl (k := 2) (show Int32.ofInt 2 = nI 2 from rfl) (by omega) x2 1497 dL_law_1497 dL_law_1498 dL_law_1500 dL_law_1501 dL_law_1502 ?_
  refine lv_aload_n hx hb dL_law_1503 rfl (lv_at hl 3 rfl) ?_
  refine mxw_SW M w Th hN (kL_nextExpiry l hfl D cy C ad e H.size a1 a2 hC hI.1 ha1 ha2) (vx_cwSW 4 M.1.2.2.2.2 gL_law_L_nextExpiry rfl rfl rfl (by decide +kernel) ⟨Nat.le_of_ble_eq_true rfl, Nat.le_of_ble_eq_true rfl⟩) rfl hl.1 rfl (Nat.le_of_ble_eq_true rfl) dL_law_1504 ⟨by show cells + 2 ≤ 601024; omega, by show slots + 12 ≤ 7293034; omega⟩ (fun r u1 H locs hp w => ?_)
  obtain ⟨j, v, e1, C1, ad1, rfl, hj, had, rfl, hT⟩ := hp
  have h6 := lw_h6 e1 v j
  have h60 := lw_h60 e1 v j
  generalize (if j = 0 then es e1 6 0 (lK v) else e1) = e' at w h6 h60
  obtain ⟨hB1, hM1, hst⟩ := stp_nextExpiry hI hC hT h6
  have hl : lv_has ls 7 [(0, .ref b), (1, .ref (ad1 0)), (2, .ref (ad1 7)), (3, .ref (ad1 6)), (4, .int (nI i))] := by
    have h9 := lvL_eq had hB b i
    unfold lvL at h9
    rw [h9] at hl
    exact hl
  refine lv_istore (lv' := [(5, .int (nI j)), (0, .ref b), (1, .ref (ad1 0)), (2, .ref (ad1 7)), (3, .ref (ad1 6)), (4, .int (nI i))]) hx hb dL_law_1507 hl (by decide) rfl (fun ls hl => ?_)
  refine lv_aload_n hx hb dL_law_1509 rfl (lv_at hl 3 rfl) ?_
  refine la_arg M w hX hbl hbA hL hl 1 5 rfl rfl (k := 1) (show Int32.ofInt 1 = nI 1 from rfl) (by omega) x1 1510 dL_law_1510 dL_law_1511 dL_law_1513 dL_law_1514 dL_law_1515 ?_
  refine la_arg M w hX hbl hbA hL hl 1 5 rfl rfl (k := 2) (show Int32.ofInt 2 = nI 2 from rfl) (by omega) x2 1516 dL_law_1516 dL_law_1517 dL_law_1519 dL_law_1520 dL_law_1521 ?_
  refine mx_Vi M w (kX4_nextExpiry l D cy C1 ad1 e' H.size a1 a2 hB1 hM1 ha1 ha2) (cwV 2 M.1.2.2.2.2 gL_law_X4_nextExpiry rfl rfl rfl (by decide +kernel) ⟨Nat.le_of_ble_eq_true rfl, Nat.le_of_ble_eq_true rfl⟩) (mo_rec M w (hB1 7 (by decide)) (g := G cy ad1 e') (sh_7 cy ad1 (e' 7)) rfl) rfl hl.1 rfl (Nat.le_of_ble_eq_true rfl) dL_law_1522 ⟨by show cells + 2 + 0 ≤ 601024; omega, by show slots + 12 + 0 ≤ 7293034; omega⟩ (fun r u1 H locs hp w => ?_)
  obtain ⟨e2, rfl, hI2, hC2, q1, q2, q3⟩ := hst cy ad1 r u1 hp
  refine lv_istore (lv' := [(6, .int r), (5, .int (nI j)), (0, .ref b), (1, .ref (ad1 0)), (2, .ref (ad1 7)), (3, .ref (ad1 6)), (4, .int (nI i))]) hx hb dL_law_1525 hl (by decide) rfl (fun ls hl => ?_)
  refine la_tail M w hB1 hj q1 q2 (fun z => by rw [q3]; exact h60 z) hl 4 5 1 0 rfl rfl rfl rfl (cwV 0 M.1.2.2.2.2 gL_law_X4_thrown rfl rfl rfl (by decide +kernel) ⟨Nat.le_of_ble_eq_true rfl, Nat.le_of_ble_eq_true rfl⟩) ⟨by show cells + 2 + 0 ≤ 601024; omega, by show slots + 12 + 0 ≤ 7293034; omega⟩ 1527 1558 dL_law_1527 dL_law_1528 dL_law_1531 dL_law_1533 dL_law_1538 dL_law_1540 dL_law_1543 dL_law_1544 dL_law_1545 dL_law_1546 dL_law_1548 dL_law_1549 dL_law_1550 dL_law_1555 (by decide) (fun H locs w => ?_)
  refine W.widen (k := cells + 11) (n := slots + 3850) (by omega) (by omega) ?_
  exact kk C1 ad1 e2 H locs ls w hI2 hC2 (lv_sub hl [2, 3, 4, 5, 6] rfl)
end
