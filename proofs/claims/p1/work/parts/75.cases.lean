set_option maxHeartbeats 4000000 in
set_option maxRecDepth 100000 in
theorem law_case_28 {p : Program} {l : Launch} {e : Env} {s : State} {m : MethodId} {below : List Frame} {meth : Method} {c : Code} {G : tw_G} {b : Nat} {xs : Nat → Int32} (hst : l.stackTraces = false) (F : tw_F p m c code 7 s #[Value.ref b] RL G (fun q => s.heap.size ≤ q)) (hr : meth.sig.returnType = ret) (hlk : meth.locks = false) (hX : va_X b 7 xs s s.heap) (hbl : b < s.heap.size) {ad1 ad2 : Nat → Nat} {w1 w2 : Nat → va_E} {ao : Nat} (k1_0 : w1 0 = .inr (11, [.ref (ad1 4), .ref (ad1 14), .ref (ad1 156), .ref (ad1 221), .ref (ad1 225), .ref (ad1 233), .ref (ad1 236), .int (0 : Int32), .ref (ad1 237), .int (0 : Int32), .ref (ad1 238)])) (k1_14 : w1 14 = .inr (2, [.ref (ad1 4), .ref (ad1 1), .ref (ad1 15), .ref (ad1 16), .ref (ad1 17), .int (0 : Int32), .int (0 : Int32), .int (0 : Int32)])) (k2_0 : w2 0 = .inr (12, [.int (0 : Int32), .int (2 : Int32), .int (1 : Int32), .ref (ad2 1), .ref (ad2 2), .ref (ad2 3), .ref (ad2 4), .ref (ad2 5), .int (0 : Int32), .ref (ad2 6), .ref (ad2 7), .ref (ad2 8), .int (0 : Int32), .ref (ad2 9), .ref (ad2 10), .ref (ad2 11), .ref (ad2 12), .int (0 : Int32), .ref (ad2 13), .ref (ad2 14), .ref (ad2 15), .ref (ad2 16), .ref (ad2 17), .ref (ad2 18), .ref (ad2 19), .ref (ad2 20), .ref (ad2 21), .ref (ad2 22), .ref (ad2 23), .ref (ad2 24), .ref (ad2 25), .ref (ad2 26), .ref (ad2 27), .ref (ad2 28), .ref (ad2 29), .ref (ad2 30), .ref (ad2 31), .ref (ad2 32), .ref (ad2 33), .ref (ad2 34), .int (0 : Int32), .int (0 : Int32), .int (0 : Int32), .ref (G.2.2 (100 + 10)), .ref (ad2 35), .ref (ad2 36), .ref (ad2 37), .int (0 : Int32), .ref (ad2 38), .ref (ad2 39), .ref (ad2 40), .ref (ad2 41), .ref (ad2 42), .ref (ad2 43), .ref (ad2 44), .ref (ad2 45), .ref (ad2 46), .ref (ad2 47), .ref (ad2 48), .ref (ad2 49), .ref (ad2 50), .ref (ad2 51), .ref (ad2 52), .ref (ad2 53), .ref (ad2 54), .ref (ad2 55), .ref (ad2 56), .ref (ad2 57), .ref (ad2 58), .ref (ad2 59), .int (0 : Int32), .ref (ad2 60), .int (0 : Int32), .ref (ad2 61), .ref (ad2 62), .int (0 : Int32), .ref (ad2 63), .ref (ad2 64), .ref (ad2 65), .ref (ad2 66), .ref (ad2 67), .ref (ad2 68), .int (0 : Int32), .ref (ad2 69), .ref (ad2 70), .ref (ad2 71), .ref (ad2 72), .ref (ad2 73), .int (0 : Int32), .int (0 : Int32), .int (0 : Int32), .ref (ad2 74), .ref (ad2 75), .ref (ad2 76), .ref (ad2 77), .ref (ad2 78), .ref (ad2 79)])) {H : Heap} {locs : List Loc} (h2 : tw_2 G 244 ad1 w1 80 ad2 w2 (fun q => s.heap.size ≤ q) s H locs) {ls : Array Slot} (hl : lv_has ls 7 [(4, .int (0 : Int32)), (3, .ref ao), (2, .ref (ad2 0)), (1, .ref (ad1 0)), (0, .ref b)]) {cells slots : Nat} (h3 : cells ≤ 1000) (h4 : slots ≤ 20000) : W p l e room_1 s m #[Value.ref b] below meth c H locs cells slots (lw_Z below #[Value.ref b] s) (F0 m 1400 ls []) := by
  refine W.widen (k := 1000) (n := 20000) h3 h4 ?_
  have hx := F.1.1
  have hb := F.1.2.1
  have hbA : ¬ (fun q : Nat => s.heap.size ≤ q) b := Nat.not_le.mpr hbl
  refine lv_aload_n hx hb dL_law_1400 rfl (lv_at hl 3 rfl) ?_
  refine lv_aload_n hx hb dL_law_1401 rfl (lv_at hl 4 rfl) ?_
  refine lv_iload hx hb dL_law_1402 (lv_at hl 0 rfl) ?_
  refine lv_iconst (v := 1) hx hb dL_law_1404 (by decide) ?_
  refine lv_iadd hx hb dL_law_1405 ?_
  refine tw_cv (v := (1 : Int32)) (by decide) ?_
  refine va_sld hx hb hX hbl hbA h2.1.2.2 (tw_ix (j := 1) (by decide) (by decide)).1 dL_law_1406 ?_
  refine tw_cv (v := xs 1) rfl ?_
  refine lv_aload_n hx hb dL_law_1407 rfl (lv_at hl 4 rfl) ?_
  refine lv_iload hx hb dL_law_1408 (lv_at hl 0 rfl) ?_
  refine lv_iconst (v := 2) hx hb dL_law_1410 (by decide) ?_
  refine lv_iadd hx hb dL_law_1411 ?_
  refine tw_cv (v := (2 : Int32)) (by decide) ?_
  refine va_sld hx hb hX hbl hbA h2.1.2.2 (tw_ix (j := 2) (by decide) (by decide)).1 dL_law_1412 ?_
  refine tw_cv (v := xs 2) rfl ?_
  refine lv_aload_n hx hb dL_law_1413 rfl (lv_at hl 4 rfl) ?_
  refine lv_iload hx hb dL_law_1414 (lv_at hl 0 rfl) ?_
  refine lv_iconst (v := 3) hx hb dL_law_1416 (by decide) ?_
  refine lv_iadd hx hb dL_law_1417 ?_
  refine tw_cv (v := (3 : Int32)) (by decide) ?_
  refine va_sld hx hb hX hbl hbA h2.1.2.2 (tw_ix (j := 3) (by decide) (by decide)).1 dL_law_1418 ?_
  refine tw_cv (v := xs 3) rfl ?_
  refine lv_aload_n hx hb dL_law_1419 rfl (lv_at hl 4 rfl) ?_
  refine lv_iload hx hb dL_law_1420 (lv_at hl 0 rfl) ?_
  refine lv_iconst (v := 4) hx hb dL_law_1422 (by decide) ?_
  refine lv_iadd hx hb dL_law_1423 ?_
  refine tw_cv (v := (4 : Int32)) (by decide) ?_
  refine va_sld hx hb hX hbl hbA h2.1.2.2 (tw_ix (j := 4) (by decide) (by decide)).1 dL_law_1424 ?_
  refine tw_cv (v := xs 4) rfl ?_
  refine tw_calli_1 F h2 (tw_runV (r := 0) (As := [.int (xs 1), .int (xs 2), .int (xs 3), .int (xs 4)]) (rest := []) F h2.1 (c_X11_move l G ad1 w1 H.size (xs 1) ((xs 1).toInt) rfl (xs 2) ((xs 2).toInt) rfl (xs 3) ((xs 3).toInt) rfl (xs 4) ((xs 4).toInt) rfl k1_0 k1_14) (tw_gl kw_1129 rfl) km_X11_move kv_X11_move rfl rfl ⟨(Nat.le_of_ble_eq_true rfl), (Nat.le_of_ble_eq_true rfl)⟩ (by decide) k1_0 rfl rfl hl.1 rfl (Nat.le_of_ble_eq_true rfl) dL_law_1425 ⟨(Nat.le_of_ble_eq_true rfl), (Nat.le_of_ble_eq_true rfl)⟩) (fun r1 wv2 H locs hp3 h2 => ?_)
  obtain ⟨rfl, hc4⟩ := hp3
  refine lv_aload_n hx hb dL_law_1428 rfl (lv_at hl 2 rfl) ?_
  refine lv_aload_n hx hb dL_law_1429 rfl (lv_at hl 4 rfl) ?_
  refine lv_iload hx hb dL_law_1430 (lv_at hl 0 rfl) ?_
  refine lv_iconst (v := 1) hx hb dL_law_1432 (by decide) ?_
  refine lv_iadd hx hb dL_law_1433 ?_
  refine tw_cv (v := (1 : Int32)) (by decide) ?_
  refine va_sld hx hb hX hbl hbA h2.1.2.2 (tw_ix (j := 1) (by decide) (by decide)).1 dL_law_1434 ?_
  refine tw_cv (v := xs 1) rfl ?_
  refine lv_aload_n hx hb dL_law_1435 rfl (lv_at hl 4 rfl) ?_
  refine lv_iload hx hb dL_law_1436 (lv_at hl 0 rfl) ?_
  refine lv_iconst (v := 2) hx hb dL_law_1438 (by decide) ?_
  refine lv_iadd hx hb dL_law_1439 ?_
  refine tw_cv (v := (2 : Int32)) (by decide) ?_
  refine va_sld hx hb hX hbl hbA h2.1.2.2 (tw_ix (j := 2) (by decide) (by decide)).1 dL_law_1440 ?_
  refine tw_cv (v := xs 2) rfl ?_
  refine lv_aload_n hx hb dL_law_1441 rfl (lv_at hl 4 rfl) ?_
  refine lv_iload hx hb dL_law_1442 (lv_at hl 0 rfl) ?_
  refine lv_iconst (v := 3) hx hb dL_law_1444 (by decide) ?_
  refine lv_iadd hx hb dL_law_1445 ?_
  refine tw_cv (v := (3 : Int32)) (by decide) ?_
  refine va_sld hx hb hX hbl hbA h2.1.2.2 (tw_ix (j := 3) (by decide) (by decide)).1 dL_law_1446 ?_
  refine tw_cv (v := xs 3) rfl ?_
  refine lv_aload_n hx hb dL_law_1447 rfl (lv_at hl 4 rfl) ?_
  refine lv_iload hx hb dL_law_1448 (lv_at hl 0 rfl) ?_
  refine lv_iconst (v := 4) hx hb dL_law_1450 (by decide) ?_
  refine lv_iadd hx hb dL_law_1451 ?_
  refine tw_cv (v := (4 : Int32)) (by decide) ?_
  refine va_sld hx hb hX hbl hbA h2.1.2.2 (tw_ix (j := 4) (by decide) (by decide)).1 dL_law_1452 ?_
  refine tw_cv (v := xs 4) rfl ?_
  refine tw_calli_2 F h2 (tw_runV (r := 0) (As := [.int (xs 1), .int (xs 2), .int (xs 3), .int (xs 4)]) (rest := [.int (-1 : Int32)]) F h2.2.1 (c_X12_move l G ad2 w2 H.size (xs 1) ((xs 1).toInt) rfl (xs 2) ((xs 2).toInt) rfl (xs 3) ((xs 3).toInt) rfl (xs 4) ((xs 4).toInt) rfl k2_0) (tw_gl kw_1705 rfl) km_X12_move kv_X12_move rfl rfl ⟨(Nat.le_of_ble_eq_true rfl), (Nat.le_of_ble_eq_true rfl)⟩ (by decide) k2_0 rfl rfl hl.1 rfl (Nat.le_of_ble_eq_true rfl) dL_law_1453 ⟨(Nat.le_of_ble_eq_true rfl), (Nat.le_of_ble_eq_true rfl)⟩) (fun r5 wv6 H locs hp7 h2 => ?_)
  obtain ⟨rfl, hc8⟩ := hp7
  refine lv_icmp_eq (tgt := 1975) hx hb dL_law_1456 (by decide) (fun _ => ?_) (fun c => absurd c (by decide))
  exact law_tail F hr hlk hX hbl h2.1.2.2 (Nat.le_of_ble_eq_true rfl) (Nat.le_of_ble_eq_true rfl) (lv_sub hl [0, 1, 2, 3, 4] rfl)
set_option maxHeartbeats 4000000 in
set_option maxRecDepth 100000 in
theorem law_case_29 {p : Program} {l : Launch} {e : Env} {s : State} {m : MethodId} {below : List Frame} {meth : Method} {c : Code} {G : tw_G} {b : Nat} {xs : Nat → Int32} (hst : l.stackTraces = false) (F : tw_F p m c code 7 s #[Value.ref b] RL G (fun q => s.heap.size ≤ q)) (hr : meth.sig.returnType = ret) (hlk : meth.locks = false) (hX : va_X b 7 xs s s.heap) (hbl : b < s.heap.size) {ad1 ad2 : Nat → Nat} {w1 w2 : Nat → va_E} {ao : Nat} (k1_0 : w1 0 = .inr (11, [.ref (ad1 4), .ref (ad1 14), .ref (ad1 156), .ref (ad1 221), .ref (ad1 225), .ref (ad1 233), .ref (ad1 236), .int (0 : Int32), .ref (ad1 237), .int (0 : Int32), .ref (ad1 238)])) (k1_14 : w1 14 = .inr (2, [.ref (ad1 4), .ref (ad1 1), .ref (ad1 15), .ref (ad1 16), .ref (ad1 17), .int (0 : Int32), .int (0 : Int32), .int (0 : Int32)])) (k2_0 : w2 0 = .inr (12, [.int (0 : Int32), .int (2 : Int32), .int (1 : Int32), .ref (ad2 1), .ref (ad2 2), .ref (ad2 3), .ref (ad2 4), .ref (ad2 5), .int (0 : Int32), .ref (ad2 6), .ref (ad2 7), .ref (ad2 8), .int (0 : Int32), .ref (ad2 9), .ref (ad2 10), .ref (ad2 11), .ref (ad2 12), .int (0 : Int32), .ref (ad2 13), .ref (ad2 14), .ref (ad2 15), .ref (ad2 16), .ref (ad2 17), .ref (ad2 18), .ref (ad2 19), .ref (ad2 20), .ref (ad2 21), .ref (ad2 22), .ref (ad2 23), .ref (ad2 24), .ref (ad2 25), .ref (ad2 26), .ref (ad2 27), .ref (ad2 28), .ref (ad2 29), .ref (ad2 30), .ref (ad2 31), .ref (ad2 32), .ref (ad2 33), .ref (ad2 34), .int (0 : Int32), .int (0 : Int32), .int (0 : Int32), .ref (G.2.2 (100 + 10)), .ref (ad2 35), .ref (ad2 36), .ref (ad2 37), .int (0 : Int32), .ref (ad2 38), .ref (ad2 39), .ref (ad2 40), .ref (ad2 41), .ref (ad2 42), .ref (ad2 43), .ref (ad2 44), .ref (ad2 45), .ref (ad2 46), .ref (ad2 47), .ref (ad2 48), .ref (ad2 49), .ref (ad2 50), .ref (ad2 51), .ref (ad2 52), .ref (ad2 53), .ref (ad2 54), .ref (ad2 55), .ref (ad2 56), .ref (ad2 57), .ref (ad2 58), .ref (ad2 59), .int (0 : Int32), .ref (ad2 60), .int (0 : Int32), .ref (ad2 61), .ref (ad2 62), .int (0 : Int32), .ref (ad2 63), .ref (ad2 64), .ref (ad2 65), .ref (ad2 66), .ref (ad2 67), .ref (ad2 68), .int (0 : Int32), .ref (ad2 69), .ref (ad2 70), .ref (ad2 71), .ref (ad2 72), .ref (ad2 73), .int (0 : Int32), .int (0 : Int32), .int (0 : Int32), .ref (ad2 74), .ref (ad2 75), .ref (ad2 76), .ref (ad2 77), .ref (ad2 78), .ref (ad2 79)])) {H : Heap} {locs : List Loc} (h2 : tw_2 G 244 ad1 w1 80 ad2 w2 (fun q => s.heap.size ≤ q) s H locs) {ls : Array Slot} (hl : lv_has ls 7 [(4, .int (0 : Int32)), (3, .ref ao), (2, .ref (ad2 0)), (1, .ref (ad1 0)), (0, .ref b)]) {cells slots : Nat} (h3 : cells ≤ 1000) (h4 : slots ≤ 20000) : W p l e room_1 s m #[Value.ref b] below meth c H locs cells slots (lw_Z below #[Value.ref b] s) (F0 m 1461 ls []) := by
  refine W.widen (k := 1000) (n := 20000) h3 h4 ?_
  have hx := F.1.1
  have hb := F.1.2.1
  have hbA : ¬ (fun q : Nat => s.heap.size ≤ q) b := Nat.not_le.mpr hbl
  refine lv_aload_n hx hb dL_law_1461 rfl (lv_at hl 3 rfl) ?_
  refine lv_aload_n hx hb dL_law_1462 rfl (lv_at hl 4 rfl) ?_
  refine lv_iload hx hb dL_law_1463 (lv_at hl 0 rfl) ?_
  refine lv_iconst (v := 1) hx hb dL_law_1465 (by decide) ?_
  refine lv_iadd hx hb dL_law_1466 ?_
  refine tw_cv (v := (1 : Int32)) (by decide) ?_
  refine va_sld hx hb hX hbl hbA h2.1.2.2 (tw_ix (j := 1) (by decide) (by decide)).1 dL_law_1467 ?_
  refine tw_cv (v := xs 1) rfl ?_
  refine lv_aload_n hx hb dL_law_1468 rfl (lv_at hl 4 rfl) ?_
  refine lv_iload hx hb dL_law_1469 (lv_at hl 0 rfl) ?_
  refine lv_iconst (v := 2) hx hb dL_law_1471 (by decide) ?_
  refine lv_iadd hx hb dL_law_1472 ?_
  refine tw_cv (v := (2 : Int32)) (by decide) ?_
  refine va_sld hx hb hX hbl hbA h2.1.2.2 (tw_ix (j := 2) (by decide) (by decide)).1 dL_law_1473 ?_
  refine tw_cv (v := xs 2) rfl ?_
  refine lv_aload_n hx hb dL_law_1474 rfl (lv_at hl 4 rfl) ?_
  refine lv_iload hx hb dL_law_1475 (lv_at hl 0 rfl) ?_
  refine lv_iconst (v := 3) hx hb dL_law_1477 (by decide) ?_
  refine lv_iadd hx hb dL_law_1478 ?_
  refine tw_cv (v := (3 : Int32)) (by decide) ?_
  refine va_sld hx hb hX hbl hbA h2.1.2.2 (tw_ix (j := 3) (by decide) (by decide)).1 dL_law_1479 ?_
  refine tw_cv (v := xs 3) rfl ?_
  refine tw_calli_1 F h2 (tw_runV (r := 0) (As := [.int (xs 1), .int (xs 2), .int (xs 3)]) (rest := []) F h2.1 (c_X11_best l G ad1 w1 H.size (xs 1) ((xs 1).toInt) rfl (xs 2) ((xs 2).toInt) rfl (xs 3) ((xs 3).toInt) rfl k1_0 k1_14) (tw_gl kw_1136 rfl) km_X11_best kv_X11_best rfl rfl ⟨(Nat.le_of_ble_eq_true rfl), (Nat.le_of_ble_eq_true rfl)⟩ (by decide) k1_0 rfl rfl hl.1 rfl (Nat.le_of_ble_eq_true rfl) dL_law_1480 ⟨(Nat.le_of_ble_eq_true rfl), (Nat.le_of_ble_eq_true rfl)⟩) (fun r1 wv2 H locs hp3 h2 => ?_)
  obtain ⟨rfl, hc4⟩ := hp3
  refine lv_aload_n hx hb dL_law_1483 rfl (lv_at hl 2 rfl) ?_
  refine lv_aload_n hx hb dL_law_1484 rfl (lv_at hl 4 rfl) ?_
  refine lv_iload hx hb dL_law_1485 (lv_at hl 0 rfl) ?_
  refine lv_iconst (v := 1) hx hb dL_law_1487 (by decide) ?_
  refine lv_iadd hx hb dL_law_1488 ?_
  refine tw_cv (v := (1 : Int32)) (by decide) ?_
  refine va_sld hx hb hX hbl hbA h2.1.2.2 (tw_ix (j := 1) (by decide) (by decide)).1 dL_law_1489 ?_
  refine tw_cv (v := xs 1) rfl ?_
  refine lv_aload_n hx hb dL_law_1490 rfl (lv_at hl 4 rfl) ?_
  refine lv_iload hx hb dL_law_1491 (lv_at hl 0 rfl) ?_
  refine lv_iconst (v := 2) hx hb dL_law_1493 (by decide) ?_
  refine lv_iadd hx hb dL_law_1494 ?_
  refine tw_cv (v := (2 : Int32)) (by decide) ?_
  refine va_sld hx hb hX hbl hbA h2.1.2.2 (tw_ix (j := 2) (by decide) (by decide)).1 dL_law_1495 ?_
  refine tw_cv (v := xs 2) rfl ?_
  refine lv_aload_n hx hb dL_law_1496 rfl (lv_at hl 4 rfl) ?_
  refine lv_iload hx hb dL_law_1497 (lv_at hl 0 rfl) ?_
  refine lv_iconst (v := 3) hx hb dL_law_1499 (by decide) ?_
  refine lv_iadd hx hb dL_law_1500 ?_
  refine tw_cv (v := (3 : Int32)) (by decide) ?_
  refine va_sld hx hb hX hbl hbA h2.1.2.2 (tw_ix (j := 3) (by decide) (by decide)).1 dL_law_1501 ?_
  refine tw_cv (v := xs 3) rfl ?_
  refine tw_calli_2 F h2 (tw_runV (r := 0) (As := [.int (xs 1), .int (xs 2), .int (xs 3)]) (rest := [.int (-1 : Int32)]) F h2.2.1 (c_X12_best l G ad2 w2 H.size (xs 1) ((xs 1).toInt) rfl (xs 2) ((xs 2).toInt) rfl (xs 3) ((xs 3).toInt) rfl k2_0) (tw_gl kw_1709 rfl) km_X12_best kv_X12_best rfl rfl ⟨(Nat.le_of_ble_eq_true rfl), (Nat.le_of_ble_eq_true rfl)⟩ (by decide) k2_0 rfl rfl hl.1 rfl (Nat.le_of_ble_eq_true rfl) dL_law_1502 ⟨(Nat.le_of_ble_eq_true rfl), (Nat.le_of_ble_eq_true rfl)⟩) (fun r5 wv6 H locs hp7 h2 => ?_)
  obtain ⟨rfl, hc8⟩ := hp7
  refine lv_icmp_eq (tgt := 1975) hx hb dL_law_1505 (by decide) (fun _ => ?_) (fun c => absurd c (by decide))
  exact law_tail F hr hlk hX hbl h2.1.2.2 (Nat.le_of_ble_eq_true rfl) (Nat.le_of_ble_eq_true rfl) (lv_sub hl [0, 1, 2, 3, 4] rfl)
set_option maxHeartbeats 4000000 in
set_option maxRecDepth 100000 in
theorem law_case_30 {p : Program} {l : Launch} {e : Env} {s : State} {m : MethodId} {below : List Frame} {meth : Method} {c : Code} {G : tw_G} {b : Nat} {xs : Nat → Int32} (hst : l.stackTraces = false) (F : tw_F p m c code 7 s #[Value.ref b] RL G (fun q => s.heap.size ≤ q)) (hr : meth.sig.returnType = ret) (hlk : meth.locks = false) (hX : va_X b 7 xs s s.heap) (hbl : b < s.heap.size) {ad1 ad2 : Nat → Nat} {w1 w2 : Nat → va_E} {ao : Nat} (k1_0 : w1 0 = .inr (11, [.ref (ad1 4), .ref (ad1 14), .ref (ad1 156), .ref (ad1 221), .ref (ad1 225), .ref (ad1 233), .ref (ad1 236), .int (0 : Int32), .ref (ad1 237), .int (0 : Int32), .ref (ad1 238)])) (k1_14 : w1 14 = .inr (2, [.ref (ad1 4), .ref (ad1 1), .ref (ad1 15), .ref (ad1 16), .ref (ad1 17), .int (0 : Int32), .int (0 : Int32), .int (0 : Int32)])) (k2_0 : w2 0 = .inr (12, [.int (0 : Int32), .int (2 : Int32), .int (1 : Int32), .ref (ad2 1), .ref (ad2 2), .ref (ad2 3), .ref (ad2 4), .ref (ad2 5), .int (0 : Int32), .ref (ad2 6), .ref (ad2 7), .ref (ad2 8), .int (0 : Int32), .ref (ad2 9), .ref (ad2 10), .ref (ad2 11), .ref (ad2 12), .int (0 : Int32), .ref (ad2 13), .ref (ad2 14), .ref (ad2 15), .ref (ad2 16), .ref (ad2 17), .ref (ad2 18), .ref (ad2 19), .ref (ad2 20), .ref (ad2 21), .ref (ad2 22), .ref (ad2 23), .ref (ad2 24), .ref (ad2 25), .ref (ad2 26), .ref (ad2 27), .ref (ad2 28), .ref (ad2 29), .ref (ad2 30), .ref (ad2 31), .ref (ad2 32), .ref (ad2 33), .ref (ad2 34), .int (0 : Int32), .int (0 : Int32), .int (0 : Int32), .ref (G.2.2 (100 + 10)), .ref (ad2 35), .ref (ad2 36), .ref (ad2 37), .int (0 : Int32), .ref (ad2 38), .ref (ad2 39), .ref (ad2 40), .ref (ad2 41), .ref (ad2 42), .ref (ad2 43), .ref (ad2 44), .ref (ad2 45), .ref (ad2 46), .ref (ad2 47), .ref (ad2 48), .ref (ad2 49), .ref (ad2 50), .ref (ad2 51), .ref (ad2 52), .ref (ad2 53), .ref (ad2 54), .ref (ad2 55), .ref (ad2 56), .ref (ad2 57), .ref (ad2 58), .ref (ad2 59), .int (0 : Int32), .ref (ad2 60), .int (0 : Int32), .ref (ad2 61), .ref (ad2 62), .int (0 : Int32), .ref (ad2 63), .ref (ad2 64), .ref (ad2 65), .ref (ad2 66), .ref (ad2 67), .ref (ad2 68), .int (0 : Int32), .ref (ad2 69), .ref (ad2 70), .ref (ad2 71), .ref (ad2 72), .ref (ad2 73), .int (0 : Int32), .int (0 : Int32), .int (0 : Int32), .ref (ad2 74), .ref (ad2 75), .ref (ad2 76), .ref (ad2 77), .ref (ad2 78), .ref (ad2 79)])) {H : Heap} {locs : List Loc} (h2 : tw_2 G 244 ad1 w1 80 ad2 w2 (fun q => s.heap.size ≤ q) s H locs) {ls : Array Slot} (hl : lv_has ls 7 [(4, .int (0 : Int32)), (3, .ref ao), (2, .ref (ad2 0)), (1, .ref (ad1 0)), (0, .ref b)]) {cells slots : Nat} (h3 : cells ≤ 1000) (h4 : slots ≤ 20000) : W p l e room_1 s m #[Value.ref b] below meth c H locs cells slots (lw_Z below #[Value.ref b] s) (F0 m 1510 ls []) := by
  refine W.widen (k := 1000) (n := 20000) h3 h4 ?_
  have hx := F.1.1
  have hb := F.1.2.1
  have hbA : ¬ (fun q : Nat => s.heap.size ≤ q) b := Nat.not_le.mpr hbl
  refine lv_aload_n hx hb dL_law_1510 rfl (lv_at hl 3 rfl) ?_
  refine lv_aload_n hx hb dL_law_1511 rfl (lv_at hl 4 rfl) ?_
  refine lv_iload hx hb dL_law_1512 (lv_at hl 0 rfl) ?_
  refine lv_iconst (v := 1) hx hb dL_law_1514 (by decide) ?_
  refine lv_iadd hx hb dL_law_1515 ?_
  refine tw_cv (v := (1 : Int32)) (by decide) ?_
  refine va_sld hx hb hX hbl hbA h2.1.2.2 (tw_ix (j := 1) (by decide) (by decide)).1 dL_law_1516 ?_
  refine tw_cv (v := xs 1) rfl ?_
  refine lv_aload_n hx hb dL_law_1517 rfl (lv_at hl 4 rfl) ?_
  refine lv_iload hx hb dL_law_1518 (lv_at hl 0 rfl) ?_
  refine lv_iconst (v := 2) hx hb dL_law_1520 (by decide) ?_
  refine lv_iadd hx hb dL_law_1521 ?_
  refine tw_cv (v := (2 : Int32)) (by decide) ?_
  refine va_sld hx hb hX hbl hbA h2.1.2.2 (tw_ix (j := 2) (by decide) (by decide)).1 dL_law_1522 ?_
  refine tw_cv (v := xs 2) rfl ?_
  refine lv_aload_n hx hb dL_law_1523 rfl (lv_at hl 4 rfl) ?_
  refine lv_iload hx hb dL_law_1524 (lv_at hl 0 rfl) ?_
  refine lv_iconst (v := 3) hx hb dL_law_1526 (by decide) ?_
  refine lv_iadd hx hb dL_law_1527 ?_
  refine tw_cv (v := (3 : Int32)) (by decide) ?_
  refine va_sld hx hb hX hbl hbA h2.1.2.2 (tw_ix (j := 3) (by decide) (by decide)).1 dL_law_1528 ?_
  refine tw_cv (v := xs 3) rfl ?_
  refine tw_calli_1 F h2 (tw_runV (r := 0) (As := [.int (xs 1), .int (xs 2), .int (xs 3)]) (rest := []) F h2.1 (c_X11_gain l G ad1 w1 H.size (xs 1) ((xs 1).toInt) rfl (xs 2) ((xs 2).toInt) rfl (xs 3) ((xs 3).toInt) rfl k1_0 k1_14) (tw_gl kw_1178 rfl) km_X11_gain kv_X11_gain rfl rfl ⟨(Nat.le_of_ble_eq_true rfl), (Nat.le_of_ble_eq_true rfl)⟩ (by decide) k1_0 rfl rfl hl.1 rfl (Nat.le_of_ble_eq_true rfl) dL_law_1529 ⟨(Nat.le_of_ble_eq_true rfl), (Nat.le_of_ble_eq_true rfl)⟩) (fun r1 wv2 H locs hp3 h2 => ?_)
  obtain ⟨rfl, hc4⟩ := hp3
  refine lv_aload_n hx hb dL_law_1532 rfl (lv_at hl 2 rfl) ?_
  refine lv_aload_n hx hb dL_law_1533 rfl (lv_at hl 4 rfl) ?_
  refine lv_iload hx hb dL_law_1534 (lv_at hl 0 rfl) ?_
  refine lv_iconst (v := 1) hx hb dL_law_1536 (by decide) ?_
  refine lv_iadd hx hb dL_law_1537 ?_
  refine tw_cv (v := (1 : Int32)) (by decide) ?_
  refine va_sld hx hb hX hbl hbA h2.1.2.2 (tw_ix (j := 1) (by decide) (by decide)).1 dL_law_1538 ?_
  refine tw_cv (v := xs 1) rfl ?_
  refine lv_aload_n hx hb dL_law_1539 rfl (lv_at hl 4 rfl) ?_
  refine lv_iload hx hb dL_law_1540 (lv_at hl 0 rfl) ?_
  refine lv_iconst (v := 2) hx hb dL_law_1542 (by decide) ?_
  refine lv_iadd hx hb dL_law_1543 ?_
  refine tw_cv (v := (2 : Int32)) (by decide) ?_
  refine va_sld hx hb hX hbl hbA h2.1.2.2 (tw_ix (j := 2) (by decide) (by decide)).1 dL_law_1544 ?_
  refine tw_cv (v := xs 2) rfl ?_
  refine lv_aload_n hx hb dL_law_1545 rfl (lv_at hl 4 rfl) ?_
  refine lv_iload hx hb dL_law_1546 (lv_at hl 0 rfl) ?_
  refine lv_iconst (v := 3) hx hb dL_law_1548 (by decide) ?_
  refine lv_iadd hx hb dL_law_1549 ?_
  refine tw_cv (v := (3 : Int32)) (by decide) ?_
  refine va_sld hx hb hX hbl hbA h2.1.2.2 (tw_ix (j := 3) (by decide) (by decide)).1 dL_law_1550 ?_
  refine tw_cv (v := xs 3) rfl ?_
  refine tw_calli_2 F h2 (tw_runV (r := 0) (As := [.int (xs 1), .int (xs 2), .int (xs 3)]) (rest := [.int (-1 : Int32)]) F h2.2.1 (c_X12_gain l G ad2 w2 H.size (xs 1) ((xs 1).toInt) rfl (xs 2) ((xs 2).toInt) rfl (xs 3) ((xs 3).toInt) rfl k2_0) (tw_gl kw_1736 rfl) km_X12_gain kv_X12_gain rfl rfl ⟨(Nat.le_of_ble_eq_true rfl), (Nat.le_of_ble_eq_true rfl)⟩ (by decide) k2_0 rfl rfl hl.1 rfl (Nat.le_of_ble_eq_true rfl) dL_law_1551 ⟨(Nat.le_of_ble_eq_true rfl), (Nat.le_of_ble_eq_true rfl)⟩) (fun r5 wv6 H locs hp7 h2 => ?_)
  obtain ⟨rfl, hc8⟩ := hp7
  refine lv_icmp_eq (tgt := 1975) hx hb dL_law_1554 (by decide) (fun _ => ?_) (fun c => absurd c (by decide))
  exact law_tail F hr hlk hX hbl h2.1.2.2 (Nat.le_of_ble_eq_true rfl) (Nat.le_of_ble_eq_true rfl) (lv_sub hl [0, 1, 2, 3, 4] rfl)
set_option maxHeartbeats 4000000 in
set_option maxRecDepth 100000 in
theorem law_case_31 {p : Program} {l : Launch} {e : Env} {s : State} {m : MethodId} {below : List Frame} {meth : Method} {c : Code} {G : tw_G} {b : Nat} {xs : Nat → Int32} (hst : l.stackTraces = false) (F : tw_F p m c code 7 s #[Value.ref b] RL G (fun q => s.heap.size ≤ q)) (hr : meth.sig.returnType = ret) (hlk : meth.locks = false) (hX : va_X b 7 xs s s.heap) (hbl : b < s.heap.size) {ad1 ad2 : Nat → Nat} {w1 w2 : Nat → va_E} {ao : Nat} (k1_0 : w1 0 = .inr (11, [.ref (ad1 4), .ref (ad1 14), .ref (ad1 156), .ref (ad1 221), .ref (ad1 225), .ref (ad1 233), .ref (ad1 236), .int (0 : Int32), .ref (ad1 237), .int (0 : Int32), .ref (ad1 238)])) (k1_14 : w1 14 = .inr (2, [.ref (ad1 4), .ref (ad1 1), .ref (ad1 15), .ref (ad1 16), .ref (ad1 17), .int (0 : Int32), .int (0 : Int32), .int (0 : Int32)])) (k2_0 : w2 0 = .inr (12, [.int (0 : Int32), .int (2 : Int32), .int (1 : Int32), .ref (ad2 1), .ref (ad2 2), .ref (ad2 3), .ref (ad2 4), .ref (ad2 5), .int (0 : Int32), .ref (ad2 6), .ref (ad2 7), .ref (ad2 8), .int (0 : Int32), .ref (ad2 9), .ref (ad2 10), .ref (ad2 11), .ref (ad2 12), .int (0 : Int32), .ref (ad2 13), .ref (ad2 14), .ref (ad2 15), .ref (ad2 16), .ref (ad2 17), .ref (ad2 18), .ref (ad2 19), .ref (ad2 20), .ref (ad2 21), .ref (ad2 22), .ref (ad2 23), .ref (ad2 24), .ref (ad2 25), .ref (ad2 26), .ref (ad2 27), .ref (ad2 28), .ref (ad2 29), .ref (ad2 30), .ref (ad2 31), .ref (ad2 32), .ref (ad2 33), .ref (ad2 34), .int (0 : Int32), .int (0 : Int32), .int (0 : Int32), .ref (G.2.2 (100 + 10)), .ref (ad2 35), .ref (ad2 36), .ref (ad2 37), .int (0 : Int32), .ref (ad2 38), .ref (ad2 39), .ref (ad2 40), .ref (ad2 41), .ref (ad2 42), .ref (ad2 43), .ref (ad2 44), .ref (ad2 45), .ref (ad2 46), .ref (ad2 47), .ref (ad2 48), .ref (ad2 49), .ref (ad2 50), .ref (ad2 51), .ref (ad2 52), .ref (ad2 53), .ref (ad2 54), .ref (ad2 55), .ref (ad2 56), .ref (ad2 57), .ref (ad2 58), .ref (ad2 59), .int (0 : Int32), .ref (ad2 60), .int (0 : Int32), .ref (ad2 61), .ref (ad2 62), .int (0 : Int32), .ref (ad2 63), .ref (ad2 64), .ref (ad2 65), .ref (ad2 66), .ref (ad2 67), .ref (ad2 68), .int (0 : Int32), .ref (ad2 69), .ref (ad2 70), .ref (ad2 71), .ref (ad2 72), .ref (ad2 73), .int (0 : Int32), .int (0 : Int32), .int (0 : Int32), .ref (ad2 74), .ref (ad2 75), .ref (ad2 76), .ref (ad2 77), .ref (ad2 78), .ref (ad2 79)])) {H : Heap} {locs : List Loc} (h2 : tw_2 G 244 ad1 w1 80 ad2 w2 (fun q => s.heap.size ≤ q) s H locs) {ls : Array Slot} (hl : lv_has ls 7 [(4, .int (0 : Int32)), (3, .ref ao), (2, .ref (ad2 0)), (1, .ref (ad1 0)), (0, .ref b)]) {cells slots : Nat} (h3 : cells ≤ 1000) (h4 : slots ≤ 20000) : W p l e room_1 s m #[Value.ref b] below meth c H locs cells slots (lw_Z below #[Value.ref b] s) (F0 m 1559 ls []) := by
  refine W.widen (k := 1000) (n := 20000) h3 h4 ?_
  have hx := F.1.1
  have hb := F.1.2.1
  have hbA : ¬ (fun q : Nat => s.heap.size ≤ q) b := Nat.not_le.mpr hbl
  refine lv_aload_n hx hb dL_law_1559 rfl (lv_at hl 3 rfl) ?_
  refine lv_aload_n hx hb dL_law_1560 rfl (lv_at hl 4 rfl) ?_
  refine lv_iload hx hb dL_law_1561 (lv_at hl 0 rfl) ?_
  refine lv_iconst (v := 1) hx hb dL_law_1563 (by decide) ?_
  refine lv_iadd hx hb dL_law_1564 ?_
  refine tw_cv (v := (1 : Int32)) (by decide) ?_
  refine va_sld hx hb hX hbl hbA h2.1.2.2 (tw_ix (j := 1) (by decide) (by decide)).1 dL_law_1565 ?_
  refine tw_cv (v := xs 1) rfl ?_
  refine lv_aload_n hx hb dL_law_1566 rfl (lv_at hl 4 rfl) ?_
  refine lv_iload hx hb dL_law_1567 (lv_at hl 0 rfl) ?_
  refine lv_iconst (v := 2) hx hb dL_law_1569 (by decide) ?_
  refine lv_iadd hx hb dL_law_1570 ?_
  refine tw_cv (v := (2 : Int32)) (by decide) ?_
  refine va_sld hx hb hX hbl hbA h2.1.2.2 (tw_ix (j := 2) (by decide) (by decide)).1 dL_law_1571 ?_
  refine tw_cv (v := xs 2) rfl ?_
  refine lv_aload_n hx hb dL_law_1572 rfl (lv_at hl 4 rfl) ?_
  refine lv_iload hx hb dL_law_1573 (lv_at hl 0 rfl) ?_
  refine lv_iconst (v := 3) hx hb dL_law_1575 (by decide) ?_
  refine lv_iadd hx hb dL_law_1576 ?_
  refine tw_cv (v := (3 : Int32)) (by decide) ?_
  refine va_sld hx hb hX hbl hbA h2.1.2.2 (tw_ix (j := 3) (by decide) (by decide)).1 dL_law_1577 ?_
  refine tw_cv (v := xs 3) rfl ?_
  refine tw_calli_1 F h2 (tw_runV (r := 0) (As := [.int (xs 1), .int (xs 2), .int (xs 3)]) (rest := []) F h2.1 (c_X11_option l G ad1 w1 H.size (xs 1) ((xs 1).toInt) rfl (xs 2) ((xs 2).toInt) rfl (xs 3) ((xs 3).toInt) rfl k1_0 k1_14) (tw_gl kw_1184 rfl) km_X11_option kv_X11_option rfl rfl ⟨(Nat.le_of_ble_eq_true rfl), (Nat.le_of_ble_eq_true rfl)⟩ (by decide) k1_0 rfl rfl hl.1 rfl (Nat.le_of_ble_eq_true rfl) dL_law_1578 ⟨(Nat.le_of_ble_eq_true rfl), (Nat.le_of_ble_eq_true rfl)⟩) (fun r1 wv2 H locs hp3 h2 => ?_)
  obtain ⟨rfl, hc4⟩ := hp3
  refine lv_aload_n hx hb dL_law_1581 rfl (lv_at hl 2 rfl) ?_
  refine lv_aload_n hx hb dL_law_1582 rfl (lv_at hl 4 rfl) ?_
  refine lv_iload hx hb dL_law_1583 (lv_at hl 0 rfl) ?_
  refine lv_iconst (v := 1) hx hb dL_law_1585 (by decide) ?_
  refine lv_iadd hx hb dL_law_1586 ?_
  refine tw_cv (v := (1 : Int32)) (by decide) ?_
  refine va_sld hx hb hX hbl hbA h2.1.2.2 (tw_ix (j := 1) (by decide) (by decide)).1 dL_law_1587 ?_
  refine tw_cv (v := xs 1) rfl ?_
  refine lv_aload_n hx hb dL_law_1588 rfl (lv_at hl 4 rfl) ?_
  refine lv_iload hx hb dL_law_1589 (lv_at hl 0 rfl) ?_
  refine lv_iconst (v := 2) hx hb dL_law_1591 (by decide) ?_
  refine lv_iadd hx hb dL_law_1592 ?_
  refine tw_cv (v := (2 : Int32)) (by decide) ?_
  refine va_sld hx hb hX hbl hbA h2.1.2.2 (tw_ix (j := 2) (by decide) (by decide)).1 dL_law_1593 ?_
  refine tw_cv (v := xs 2) rfl ?_
  refine lv_aload_n hx hb dL_law_1594 rfl (lv_at hl 4 rfl) ?_
  refine lv_iload hx hb dL_law_1595 (lv_at hl 0 rfl) ?_
  refine lv_iconst (v := 3) hx hb dL_law_1597 (by decide) ?_
  refine lv_iadd hx hb dL_law_1598 ?_
  refine tw_cv (v := (3 : Int32)) (by decide) ?_
  refine va_sld hx hb hX hbl hbA h2.1.2.2 (tw_ix (j := 3) (by decide) (by decide)).1 dL_law_1599 ?_
  refine tw_cv (v := xs 3) rfl ?_
  refine tw_calli_2 F h2 (tw_runV (r := 0) (As := [.int (xs 1), .int (xs 2), .int (xs 3)]) (rest := [.int (-1 : Int32)]) F h2.2.1 (c_X12_option l G ad2 w2 H.size (xs 1) ((xs 1).toInt) rfl (xs 2) ((xs 2).toInt) rfl (xs 3) ((xs 3).toInt) rfl k2_0) (tw_gl kw_1740 rfl) km_X12_option kv_X12_option rfl rfl ⟨(Nat.le_of_ble_eq_true rfl), (Nat.le_of_ble_eq_true rfl)⟩ (by decide) k2_0 rfl rfl hl.1 rfl (Nat.le_of_ble_eq_true rfl) dL_law_1600 ⟨(Nat.le_of_ble_eq_true rfl), (Nat.le_of_ble_eq_true rfl)⟩) (fun r5 wv6 H locs hp7 h2 => ?_)
  obtain ⟨rfl, hc8⟩ := hp7
  refine lv_icmp_eq (tgt := 1975) hx hb dL_law_1603 (by decide) (fun _ => ?_) (fun c => absurd c (by decide))
  exact law_tail F hr hlk hX hbl h2.1.2.2 (Nat.le_of_ble_eq_true rfl) (Nat.le_of_ble_eq_true rfl) (lv_sub hl [0, 1, 2, 3, 4] rfl)
set_option maxHeartbeats 4000000 in
set_option maxRecDepth 100000 in
theorem law_case_32 {p : Program} {l : Launch} {e : Env} {s : State} {m : MethodId} {below : List Frame} {meth : Method} {c : Code} {G : tw_G} {b : Nat} {xs : Nat → Int32} (hst : l.stackTraces = false) (F : tw_F p m c code 7 s #[Value.ref b] RL G (fun q => s.heap.size ≤ q)) (hr : meth.sig.returnType = ret) (hlk : meth.locks = false) (hX : va_X b 7 xs s s.heap) (hbl : b < s.heap.size) {ad1 ad2 : Nat → Nat} {w1 w2 : Nat → va_E} {ao : Nat} (k1_0 : w1 0 = .inr (11, [.ref (ad1 4), .ref (ad1 14), .ref (ad1 156), .ref (ad1 221), .ref (ad1 225), .ref (ad1 233), .ref (ad1 236), .int (0 : Int32), .ref (ad1 237), .int (0 : Int32), .ref (ad1 238)])) (k1_14 : w1 14 = .inr (2, [.ref (ad1 4), .ref (ad1 1), .ref (ad1 15), .ref (ad1 16), .ref (ad1 17), .int (0 : Int32), .int (0 : Int32), .int (0 : Int32)])) (k2_0 : w2 0 = .inr (12, [.int (0 : Int32), .int (2 : Int32), .int (1 : Int32), .ref (ad2 1), .ref (ad2 2), .ref (ad2 3), .ref (ad2 4), .ref (ad2 5), .int (0 : Int32), .ref (ad2 6), .ref (ad2 7), .ref (ad2 8), .int (0 : Int32), .ref (ad2 9), .ref (ad2 10), .ref (ad2 11), .ref (ad2 12), .int (0 : Int32), .ref (ad2 13), .ref (ad2 14), .ref (ad2 15), .ref (ad2 16), .ref (ad2 17), .ref (ad2 18), .ref (ad2 19), .ref (ad2 20), .ref (ad2 21), .ref (ad2 22), .ref (ad2 23), .ref (ad2 24), .ref (ad2 25), .ref (ad2 26), .ref (ad2 27), .ref (ad2 28), .ref (ad2 29), .ref (ad2 30), .ref (ad2 31), .ref (ad2 32), .ref (ad2 33), .ref (ad2 34), .int (0 : Int32), .int (0 : Int32), .int (0 : Int32), .ref (G.2.2 (100 + 10)), .ref (ad2 35), .ref (ad2 36), .ref (ad2 37), .int (0 : Int32), .ref (ad2 38), .ref (ad2 39), .ref (ad2 40), .ref (ad2 41), .ref (ad2 42), .ref (ad2 43), .ref (ad2 44), .ref (ad2 45), .ref (ad2 46), .ref (ad2 47), .ref (ad2 48), .ref (ad2 49), .ref (ad2 50), .ref (ad2 51), .ref (ad2 52), .ref (ad2 53), .ref (ad2 54), .ref (ad2 55), .ref (ad2 56), .ref (ad2 57), .ref (ad2 58), .ref (ad2 59), .int (0 : Int32), .ref (ad2 60), .int (0 : Int32), .ref (ad2 61), .ref (ad2 62), .int (0 : Int32), .ref (ad2 63), .ref (ad2 64), .ref (ad2 65), .ref (ad2 66), .ref (ad2 67), .ref (ad2 68), .int (0 : Int32), .ref (ad2 69), .ref (ad2 70), .ref (ad2 71), .ref (ad2 72), .ref (ad2 73), .int (0 : Int32), .int (0 : Int32), .int (0 : Int32), .ref (ad2 74), .ref (ad2 75), .ref (ad2 76), .ref (ad2 77), .ref (ad2 78), .ref (ad2 79)])) (k2_31 : w2 31 = .inl (G.2.1 0, 6, .inl (upd (upd (upd (upd (upd (upd (fun _ => 0) 0 (0 : Int32)) 1 (0 : Int32)) 2 (0 : Int32)) 3 (0 : Int32)) 4 (0 : Int32)) 5 (0 : Int32)))) {H : Heap} {locs : List Loc} (h2 : tw_2 G 244 ad1 w1 80 ad2 w2 (fun q => s.heap.size ≤ q) s H locs) {ls : Array Slot} (hl : lv_has ls 7 [(4, .int (0 : Int32)), (3, .ref ao), (2, .ref (ad2 0)), (1, .ref (ad1 0)), (0, .ref b)]) {cells slots : Nat} (h3 : cells ≤ 1000) (h4 : slots ≤ 20000) : W p l e room_1 s m #[Value.ref b] below meth c H locs cells slots (lw_Z below #[Value.ref b] s) (F0 m 1608 ls []) := by
  refine W.widen (k := 1000) (n := 20000) h3 h4 ?_
  have hx := F.1.1
  have hb := F.1.2.1
  have hbA : ¬ (fun q : Nat => s.heap.size ≤ q) b := Nat.not_le.mpr hbl
  refine lv_aload_n hx hb dL_law_1608 rfl (lv_at hl 3 rfl) ?_
  refine tw_calli_1 F h2 (tw_runV (r := 0) (As := []) (rest := []) F h2.1 (c_X11_clear l G ad1 w1 H.size k1_0 k1_14) (tw_gl kw_1188 rfl) km_X11_clear kv_X11_clear rfl rfl ⟨(Nat.le_of_ble_eq_true rfl), (Nat.le_of_ble_eq_true rfl)⟩ (by decide) k1_0 rfl rfl hl.1 rfl (Nat.le_of_ble_eq_true rfl) dL_law_1609 ⟨(Nat.le_of_ble_eq_true rfl), (Nat.le_of_ble_eq_true rfl)⟩) (fun r1 wv2 H locs hp3 h2 => ?_)
  obtain ⟨rfl, -⟩ := hp3
  refine lv_aload_n hx hb dL_law_1612 rfl (lv_at hl 2 rfl) ?_
  refine tw_calli_2 F h2 (tw_runV (r := 0) (As := []) (rest := [.int (0 : Int32)]) F h2.2.1 (c_X12_clear l G ad2 w2 H.size k2_0 k2_31) (tw_gl kw_1744 rfl) km_X12_clear kv_X12_clear rfl rfl ⟨(Nat.le_of_ble_eq_true rfl), (Nat.le_of_ble_eq_true rfl)⟩ (by decide) k2_0 rfl rfl hl.1 rfl (Nat.le_of_ble_eq_true rfl) dL_law_1613 ⟨(Nat.le_of_ble_eq_true rfl), (Nat.le_of_ble_eq_true rfl)⟩) (fun r5 wv6 H locs hp7 h2 => ?_)
  obtain ⟨rfl, -⟩ := hp7
  refine lv_icmp_eq (tgt := 1975) hx hb dL_law_1616 (by decide) (fun _ => ?_) (fun c => absurd c (by decide))
  exact law_tail F hr hlk hX hbl h2.1.2.2 (Nat.le_of_ble_eq_true rfl) (Nat.le_of_ble_eq_true rfl) (lv_sub hl [0, 1, 2, 3, 4] rfl)
set_option maxHeartbeats 4000000 in
set_option maxRecDepth 100000 in
theorem law_case_33 {p : Program} {l : Launch} {e : Env} {s : State} {m : MethodId} {below : List Frame} {meth : Method} {c : Code} {G : tw_G} {b : Nat} {xs : Nat → Int32} (hst : l.stackTraces = false) (F : tw_F p m c code 7 s #[Value.ref b] RL G (fun q => s.heap.size ≤ q)) (hr : meth.sig.returnType = ret) (hlk : meth.locks = false) (hX : va_X b 7 xs s s.heap) (hbl : b < s.heap.size) {ad1 ad2 : Nat → Nat} {w1 w2 : Nat → va_E} {ao : Nat} (k1_0 : w1 0 = .inr (11, [.ref (ad1 4), .ref (ad1 14), .ref (ad1 156), .ref (ad1 221), .ref (ad1 225), .ref (ad1 233), .ref (ad1 236), .int (0 : Int32), .ref (ad1 237), .int (0 : Int32), .ref (ad1 238)])) (k1_14 : w1 14 = .inr (2, [.ref (ad1 4), .ref (ad1 1), .ref (ad1 15), .ref (ad1 16), .ref (ad1 17), .int (0 : Int32), .int (0 : Int32), .int (0 : Int32)])) (k2_0 : w2 0 = .inr (12, [.int (0 : Int32), .int (2 : Int32), .int (1 : Int32), .ref (ad2 1), .ref (ad2 2), .ref (ad2 3), .ref (ad2 4), .ref (ad2 5), .int (0 : Int32), .ref (ad2 6), .ref (ad2 7), .ref (ad2 8), .int (0 : Int32), .ref (ad2 9), .ref (ad2 10), .ref (ad2 11), .ref (ad2 12), .int (0 : Int32), .ref (ad2 13), .ref (ad2 14), .ref (ad2 15), .ref (ad2 16), .ref (ad2 17), .ref (ad2 18), .ref (ad2 19), .ref (ad2 20), .ref (ad2 21), .ref (ad2 22), .ref (ad2 23), .ref (ad2 24), .ref (ad2 25), .ref (ad2 26), .ref (ad2 27), .ref (ad2 28), .ref (ad2 29), .ref (ad2 30), .ref (ad2 31), .ref (ad2 32), .ref (ad2 33), .ref (ad2 34), .int (0 : Int32), .int (0 : Int32), .int (0 : Int32), .ref (G.2.2 (100 + 10)), .ref (ad2 35), .ref (ad2 36), .ref (ad2 37), .int (0 : Int32), .ref (ad2 38), .ref (ad2 39), .ref (ad2 40), .ref (ad2 41), .ref (ad2 42), .ref (ad2 43), .ref (ad2 44), .ref (ad2 45), .ref (ad2 46), .ref (ad2 47), .ref (ad2 48), .ref (ad2 49), .ref (ad2 50), .ref (ad2 51), .ref (ad2 52), .ref (ad2 53), .ref (ad2 54), .ref (ad2 55), .ref (ad2 56), .ref (ad2 57), .ref (ad2 58), .ref (ad2 59), .int (0 : Int32), .ref (ad2 60), .int (0 : Int32), .ref (ad2 61), .ref (ad2 62), .int (0 : Int32), .ref (ad2 63), .ref (ad2 64), .ref (ad2 65), .ref (ad2 66), .ref (ad2 67), .ref (ad2 68), .int (0 : Int32), .ref (ad2 69), .ref (ad2 70), .ref (ad2 71), .ref (ad2 72), .ref (ad2 73), .int (0 : Int32), .int (0 : Int32), .int (0 : Int32), .ref (ad2 74), .ref (ad2 75), .ref (ad2 76), .ref (ad2 77), .ref (ad2 78), .ref (ad2 79)])) {H : Heap} {locs : List Loc} (h2 : tw_2 G 244 ad1 w1 80 ad2 w2 (fun q => s.heap.size ≤ q) s H locs) {ls : Array Slot} (hl : lv_has ls 7 [(4, .int (0 : Int32)), (3, .ref ao), (2, .ref (ad2 0)), (1, .ref (ad1 0)), (0, .ref b)]) {cells slots : Nat} (h3 : cells ≤ 1000) (h4 : slots ≤ 20000) : W p l e room_1 s m #[Value.ref b] below meth c H locs cells slots (lw_Z below #[Value.ref b] s) (F0 m 1621 ls []) := by
  refine W.widen (k := 1000) (n := 20000) h3 h4 ?_
  have hx := F.1.1
  have hb := F.1.2.1
  have hbA : ¬ (fun q : Nat => s.heap.size ≤ q) b := Nat.not_le.mpr hbl
  refine lv_aload_n hx hb dL_law_1621 rfl (lv_at hl 3 rfl) ?_
  refine lv_aload_n hx hb dL_law_1622 rfl (lv_at hl 4 rfl) ?_
  refine lv_iload hx hb dL_law_1623 (lv_at hl 0 rfl) ?_
  refine lv_iconst (v := 1) hx hb dL_law_1625 (by decide) ?_
  refine lv_iadd hx hb dL_law_1626 ?_
  refine tw_cv (v := (1 : Int32)) (by decide) ?_
  refine va_sld hx hb hX hbl hbA h2.1.2.2 (tw_ix (j := 1) (by decide) (by decide)).1 dL_law_1627 ?_
  refine tw_cv (v := xs 1) rfl ?_
  refine lv_aload_n hx hb dL_law_1628 rfl (lv_at hl 4 rfl) ?_
  refine lv_iload hx hb dL_law_1629 (lv_at hl 0 rfl) ?_
  refine lv_iconst (v := 2) hx hb dL_law_1631 (by decide) ?_
  refine lv_iadd hx hb dL_law_1632 ?_
  refine tw_cv (v := (2 : Int32)) (by decide) ?_
  refine va_sld hx hb hX hbl hbA h2.1.2.2 (tw_ix (j := 2) (by decide) (by decide)).1 dL_law_1633 ?_
  refine tw_cv (v := xs 2) rfl ?_
  refine lv_aload_n hx hb dL_law_1634 rfl (lv_at hl 4 rfl) ?_
  refine lv_iload hx hb dL_law_1635 (lv_at hl 0 rfl) ?_
  refine lv_iconst (v := 3) hx hb dL_law_1637 (by decide) ?_
  refine lv_iadd hx hb dL_law_1638 ?_
  refine tw_cv (v := (3 : Int32)) (by decide) ?_
  refine va_sld hx hb hX hbl hbA h2.1.2.2 (tw_ix (j := 3) (by decide) (by decide)).1 dL_law_1639 ?_
  refine tw_cv (v := xs 3) rfl ?_
  refine tw_calli_1 F h2 (tw_runV (r := 0) (As := [.int (xs 1), .int (xs 2), .int (xs 3)]) (rest := []) F h2.1 (c_X11_settle l G ad1 w1 H.size (xs 1) ((xs 1).toInt) rfl (xs 2) ((xs 2).toInt) rfl (xs 3) ((xs 3).toInt) rfl k1_0 k1_14) (tw_gl kw_1192 rfl) km_X11_settle kv_X11_settle rfl rfl ⟨(Nat.le_of_ble_eq_true rfl), (Nat.le_of_ble_eq_true rfl)⟩ (by decide) k1_0 rfl rfl hl.1 rfl (Nat.le_of_ble_eq_true rfl) dL_law_1640 ⟨(Nat.le_of_ble_eq_true rfl), (Nat.le_of_ble_eq_true rfl)⟩) (fun r1 wv2 H locs hp3 h2 => ?_)
  obtain ⟨rfl, hc4⟩ := hp3
  refine lv_aload_n hx hb dL_law_1643 rfl (lv_at hl 2 rfl) ?_
  refine lv_aload_n hx hb dL_law_1644 rfl (lv_at hl 4 rfl) ?_
  refine lv_iload hx hb dL_law_1645 (lv_at hl 0 rfl) ?_
  refine lv_iconst (v := 1) hx hb dL_law_1647 (by decide) ?_
  refine lv_iadd hx hb dL_law_1648 ?_
  refine tw_cv (v := (1 : Int32)) (by decide) ?_
  refine va_sld hx hb hX hbl hbA h2.1.2.2 (tw_ix (j := 1) (by decide) (by decide)).1 dL_law_1649 ?_
  refine tw_cv (v := xs 1) rfl ?_
  refine lv_aload_n hx hb dL_law_1650 rfl (lv_at hl 4 rfl) ?_
  refine lv_iload hx hb dL_law_1651 (lv_at hl 0 rfl) ?_
  refine lv_iconst (v := 2) hx hb dL_law_1653 (by decide) ?_
  refine lv_iadd hx hb dL_law_1654 ?_
  refine tw_cv (v := (2 : Int32)) (by decide) ?_
  refine va_sld hx hb hX hbl hbA h2.1.2.2 (tw_ix (j := 2) (by decide) (by decide)).1 dL_law_1655 ?_
  refine tw_cv (v := xs 2) rfl ?_
  refine lv_aload_n hx hb dL_law_1656 rfl (lv_at hl 4 rfl) ?_
  refine lv_iload hx hb dL_law_1657 (lv_at hl 0 rfl) ?_
  refine lv_iconst (v := 3) hx hb dL_law_1659 (by decide) ?_
  refine lv_iadd hx hb dL_law_1660 ?_
  refine tw_cv (v := (3 : Int32)) (by decide) ?_
  refine va_sld hx hb hX hbl hbA h2.1.2.2 (tw_ix (j := 3) (by decide) (by decide)).1 dL_law_1661 ?_
  refine tw_cv (v := xs 3) rfl ?_
  refine tw_calli_2 F h2 (tw_runV (r := 0) (As := [.int (xs 1), .int (xs 2), .int (xs 3)]) (rest := [.int (-1 : Int32)]) F h2.2.1 (c_X12_settle l G ad2 w2 H.size (xs 1) ((xs 1).toInt) rfl (xs 2) ((xs 2).toInt) rfl (xs 3) ((xs 3).toInt) rfl k2_0) (tw_gl kw_1748 rfl) km_X12_settle kv_X12_settle rfl rfl ⟨(Nat.le_of_ble_eq_true rfl), (Nat.le_of_ble_eq_true rfl)⟩ (by decide) k2_0 rfl rfl hl.1 rfl (Nat.le_of_ble_eq_true rfl) dL_law_1662 ⟨(Nat.le_of_ble_eq_true rfl), (Nat.le_of_ble_eq_true rfl)⟩) (fun r5 wv6 H locs hp7 h2 => ?_)
  obtain ⟨rfl, hc8⟩ := hp7
  refine lv_icmp_eq (tgt := 1975) hx hb dL_law_1665 (by decide) (fun _ => ?_) (fun c => absurd c (by decide))
  exact law_tail F hr hlk hX hbl h2.1.2.2 (Nat.le_of_ble_eq_true rfl) (Nat.le_of_ble_eq_true rfl) (lv_sub hl [0, 1, 2, 3, 4] rfl)
set_option maxHeartbeats 4000000 in
set_option maxRecDepth 100000 in
theorem law_case_34 {p : Program} {l : Launch} {e : Env} {s : State} {m : MethodId} {below : List Frame} {meth : Method} {c : Code} {G : tw_G} {b : Nat} {xs : Nat → Int32} (hst : l.stackTraces = false) (F : tw_F p m c code 7 s #[Value.ref b] RL G (fun q => s.heap.size ≤ q)) (hr : meth.sig.returnType = ret) (hlk : meth.locks = false) (hX : va_X b 7 xs s s.heap) (hbl : b < s.heap.size) {ad1 ad2 : Nat → Nat} {w1 w2 : Nat → va_E} {ao : Nat} (k1_0 : w1 0 = .inr (11, [.ref (ad1 4), .ref (ad1 14), .ref (ad1 156), .ref (ad1 221), .ref (ad1 225), .ref (ad1 233), .ref (ad1 236), .int (0 : Int32), .ref (ad1 237), .int (0 : Int32), .ref (ad1 238)])) (k1_4 : w1 4 = .inr (9, [.int (2 : Int32), .int (1 : Int32), .ref (ad1 5), .ref (ad1 6), .ref (ad1 7), .ref (ad1 8), .ref (ad1 9), .ref (ad1 10), .ref (ad1 12)])) (k1_7 : w1 7 = .inl (G.2.1 1, 5, .inl (upd (upd (upd (upd (upd (fun _ => 0) 0 (0 : Int32)) 1 (0 : Int32)) 2 (0 : Int32)) 3 (0 : Int32)) 4 (0 : Int32)))) (k2_0 : w2 0 = .inr (12, [.int (0 : Int32), .int (2 : Int32), .int (1 : Int32), .ref (ad2 1), .ref (ad2 2), .ref (ad2 3), .ref (ad2 4), .ref (ad2 5), .int (0 : Int32), .ref (ad2 6), .ref (ad2 7), .ref (ad2 8), .int (0 : Int32), .ref (ad2 9), .ref (ad2 10), .ref (ad2 11), .ref (ad2 12), .int (0 : Int32), .ref (ad2 13), .ref (ad2 14), .ref (ad2 15), .ref (ad2 16), .ref (ad2 17), .ref (ad2 18), .ref (ad2 19), .ref (ad2 20), .ref (ad2 21), .ref (ad2 22), .ref (ad2 23), .ref (ad2 24), .ref (ad2 25), .ref (ad2 26), .ref (ad2 27), .ref (ad2 28), .ref (ad2 29), .ref (ad2 30), .ref (ad2 31), .ref (ad2 32), .ref (ad2 33), .ref (ad2 34), .int (0 : Int32), .int (0 : Int32), .int (0 : Int32), .ref (G.2.2 (100 + 10)), .ref (ad2 35), .ref (ad2 36), .ref (ad2 37), .int (0 : Int32), .ref (ad2 38), .ref (ad2 39), .ref (ad2 40), .ref (ad2 41), .ref (ad2 42), .ref (ad2 43), .ref (ad2 44), .ref (ad2 45), .ref (ad2 46), .ref (ad2 47), .ref (ad2 48), .ref (ad2 49), .ref (ad2 50), .ref (ad2 51), .ref (ad2 52), .ref (ad2 53), .ref (ad2 54), .ref (ad2 55), .ref (ad2 56), .ref (ad2 57), .ref (ad2 58), .ref (ad2 59), .int (0 : Int32), .ref (ad2 60), .int (0 : Int32), .ref (ad2 61), .ref (ad2 62), .int (0 : Int32), .ref (ad2 63), .ref (ad2 64), .ref (ad2 65), .ref (ad2 66), .ref (ad2 67), .ref (ad2 68), .int (0 : Int32), .ref (ad2 69), .ref (ad2 70), .ref (ad2 71), .ref (ad2 72), .ref (ad2 73), .int (0 : Int32), .int (0 : Int32), .int (0 : Int32), .ref (ad2 74), .ref (ad2 75), .ref (ad2 76), .ref (ad2 77), .ref (ad2 78), .ref (ad2 79)])) (k2_3 : w2 3 = .inl (G.2.1 1, 5, .inl (upd (upd (upd (upd (upd (fun _ => 0) 0 (0 : Int32)) 1 (0 : Int32)) 2 (0 : Int32)) 3 (0 : Int32)) 4 (0 : Int32)))) {H : Heap} {locs : List Loc} (h2 : tw_2 G 244 ad1 w1 80 ad2 w2 (fun q => s.heap.size ≤ q) s H locs) {ls : Array Slot} (hl : lv_has ls 7 [(4, .int (0 : Int32)), (3, .ref ao), (2, .ref (ad2 0)), (1, .ref (ad1 0)), (0, .ref b)]) {cells slots : Nat} (h3 : cells ≤ 1000) (h4 : slots ≤ 20000) : W p l e room_1 s m #[Value.ref b] below meth c H locs cells slots (lw_Z below #[Value.ref b] s) (F0 m 1670 ls []) := by
  refine W.widen (k := 1000) (n := 20000) h3 h4 ?_
  have hx := F.1.1
  have hb := F.1.2.1
  have hbA : ¬ (fun q : Nat => s.heap.size ≤ q) b := Nat.not_le.mpr hbl
  refine lv_aload_n hx hb dL_law_1670 rfl (lv_at hl 3 rfl) ?_
  refine lv_aload_n hx hb dL_law_1671 rfl (lv_at hl 4 rfl) ?_
  refine lv_iload hx hb dL_law_1672 (lv_at hl 0 rfl) ?_
  refine lv_iconst (v := 1) hx hb dL_law_1674 (by decide) ?_
  refine lv_iadd hx hb dL_law_1675 ?_
  refine tw_cv (v := (1 : Int32)) (by decide) ?_
  refine va_sld hx hb hX hbl hbA h2.1.2.2 (tw_ix (j := 1) (by decide) (by decide)).1 dL_law_1676 ?_
  refine tw_cv (v := xs 1) rfl ?_
  refine lv_aload_n hx hb dL_law_1677 rfl (lv_at hl 4 rfl) ?_
  refine lv_iload hx hb dL_law_1678 (lv_at hl 0 rfl) ?_
  refine lv_iconst (v := 2) hx hb dL_law_1680 (by decide) ?_
  refine lv_iadd hx hb dL_law_1681 ?_
  refine tw_cv (v := (2 : Int32)) (by decide) ?_
  refine va_sld hx hb hX hbl hbA h2.1.2.2 (tw_ix (j := 2) (by decide) (by decide)).1 dL_law_1682 ?_
  refine tw_cv (v := xs 2) rfl ?_
  refine lv_if_eq (tgt := 1690) hx hb dL_law_1683 (by decide) (fun c1 => ?_) (fun c1 => ?_)
  · have c1 := (tw_eq rfl (by decide : (0 : Int32).toInt = 0)).mp c1
    refine lv_iconst (v := 0) hx hb dL_law_1690 (by decide) ?_
    refine tw_calli_1 F h2 (tw_runV (r := 0) (As := [.int (xs 1), .int (0 : Int32)]) (rest := []) F h2.1 (c_X11_lost l G ad1 w1 H.size (xs 1) ((xs 1).toInt) rfl (0 : Int32) 0 (by decide : (0 : Int32).toInt = 0) (by decide) k1_0 k1_4 k1_7) (tw_gl kw_1215 rfl) km_X11_lost kv_X11_lost rfl rfl ⟨(Nat.le_of_ble_eq_true rfl), (Nat.le_of_ble_eq_true rfl)⟩ (by decide) k1_0 rfl rfl hl.1 rfl (Nat.le_of_ble_eq_true rfl) dL_law_1691 ⟨(Nat.le_of_ble_eq_true rfl), (Nat.le_of_ble_eq_true rfl)⟩) (fun r2 wv3 H locs hp4 h2 => ?_)
    rcases hp4 with ⟨rfl, hc5⟩ | ⟨rfl, hc6⟩
    · skip
      refine lv_aload_n hx hb dL_law_1694 rfl (lv_at hl 2 rfl) ?_
      refine lv_aload_n hx hb dL_law_1695 rfl (lv_at hl 4 rfl) ?_
      refine lv_iload hx hb dL_law_1696 (lv_at hl 0 rfl) ?_
      refine lv_iconst (v := 1) hx hb dL_law_1698 (by decide) ?_
      refine lv_iadd hx hb dL_law_1699 ?_
      refine tw_cv (v := (1 : Int32)) (by decide) ?_
      refine va_sld hx hb hX hbl hbA h2.1.2.2 (tw_ix (j := 1) (by decide) (by decide)).1 dL_law_1700 ?_
      refine tw_cv (v := xs 1) rfl ?_
      refine lv_aload_n hx hb dL_law_1701 rfl (lv_at hl 4 rfl) ?_
      refine lv_iload hx hb dL_law_1702 (lv_at hl 0 rfl) ?_
      refine lv_iconst (v := 2) hx hb dL_law_1704 (by decide) ?_
      refine lv_iadd hx hb dL_law_1705 ?_
      refine tw_cv (v := (2 : Int32)) (by decide) ?_
      refine va_sld hx hb hX hbl hbA h2.1.2.2 (tw_ix (j := 2) (by decide) (by decide)).1 dL_law_1706 ?_
      refine tw_cv (v := xs 2) rfl ?_
      refine lv_if_eq (tgt := 1714) hx hb dL_law_1707 (by decide) (fun _ => ?_) (fun c7 => False.elim (by have c7 := mt (tw_eq rfl (by decide : (0 : Int32).toInt = 0)).mpr c7; omega))
      refine lv_iconst (v := 0) hx hb dL_law_1714 (by decide) ?_
      refine tw_calli_2 F h2 (tw_runV (r := 0) (As := [.int (xs 1), .int (0 : Int32)]) (rest := [.int (0 : Int32)]) F h2.2.1 (c_X12_lost l G ad2 w2 H.size (xs 1) ((xs 1).toInt) rfl (0 : Int32) 0 (by decide : (0 : Int32).toInt = 0) (by decide) k2_0 k2_3) (tw_gl kw_1760 rfl) km_X12_lost kv_X12_lost rfl rfl ⟨(Nat.le_of_ble_eq_true rfl), (Nat.le_of_ble_eq_true rfl)⟩ (by decide) k2_0 rfl rfl hl.1 rfl (Nat.le_of_ble_eq_true rfl) dL_law_1715 ⟨(Nat.le_of_ble_eq_true rfl), (Nat.le_of_ble_eq_true rfl)⟩) (fun r8 wv9 H locs hp10 h2 => ?_)
      rcases hp10 with ⟨rfl, hc11⟩ | ⟨rfl, hc12⟩
      · skip
        refine lv_icmp_eq (tgt := 1975) hx hb dL_law_1718 (by decide) (fun _ => ?_) (fun c => absurd c (by decide))
        exact law_tail F hr hlk hX hbl h2.1.2.2 (Nat.le_of_ble_eq_true rfl) (Nat.le_of_ble_eq_true rfl) (lv_sub hl [0, 1, 2, 3, 4] rfl)
      · exfalso; omega
    · skip
      refine lv_aload_n hx hb dL_law_1694 rfl (lv_at hl 2 rfl) ?_
      refine lv_aload_n hx hb dL_law_1695 rfl (lv_at hl 4 rfl) ?_
      refine lv_iload hx hb dL_law_1696 (lv_at hl 0 rfl) ?_
      refine lv_iconst (v := 1) hx hb dL_law_1698 (by decide) ?_
      refine lv_iadd hx hb dL_law_1699 ?_
      refine tw_cv (v := (1 : Int32)) (by decide) ?_
      refine va_sld hx hb hX hbl hbA h2.1.2.2 (tw_ix (j := 1) (by decide) (by decide)).1 dL_law_1700 ?_
      refine tw_cv (v := xs 1) rfl ?_
      refine lv_aload_n hx hb dL_law_1701 rfl (lv_at hl 4 rfl) ?_
      refine lv_iload hx hb dL_law_1702 (lv_at hl 0 rfl) ?_
      refine lv_iconst (v := 2) hx hb dL_law_1704 (by decide) ?_
      refine lv_iadd hx hb dL_law_1705 ?_
      refine tw_cv (v := (2 : Int32)) (by decide) ?_
      refine va_sld hx hb hX hbl hbA h2.1.2.2 (tw_ix (j := 2) (by decide) (by decide)).1 dL_law_1706 ?_
      refine tw_cv (v := xs 2) rfl ?_
      refine lv_if_eq (tgt := 1714) hx hb dL_law_1707 (by decide) (fun _ => ?_) (fun c13 => False.elim (by have c13 := mt (tw_eq rfl (by decide : (0 : Int32).toInt = 0)).mpr c13; omega))
      refine lv_iconst (v := 0) hx hb dL_law_1714 (by decide) ?_
      refine tw_calli_2 F h2 (tw_runV (r := 0) (As := [.int (xs 1), .int (0 : Int32)]) (rest := [.int (1 : Int32)]) F h2.2.1 (c_X12_lost l G ad2 w2 H.size (xs 1) ((xs 1).toInt) rfl (0 : Int32) 0 (by decide : (0 : Int32).toInt = 0) (by decide) k2_0 k2_3) (tw_gl kw_1760 rfl) km_X12_lost kv_X12_lost rfl rfl ⟨(Nat.le_of_ble_eq_true rfl), (Nat.le_of_ble_eq_true rfl)⟩ (by decide) k2_0 rfl rfl hl.1 rfl (Nat.le_of_ble_eq_true rfl) dL_law_1715 ⟨(Nat.le_of_ble_eq_true rfl), (Nat.le_of_ble_eq_true rfl)⟩) (fun r14 wv15 H locs hp16 h2 => ?_)
      rcases hp16 with ⟨rfl, hc17⟩ | ⟨rfl, hc18⟩
      · exfalso; omega
      · skip
        refine lv_icmp_eq (tgt := 1975) hx hb dL_law_1718 (by decide) (fun _ => ?_) (fun c => absurd c (by decide))
        exact law_tail F hr hlk hX hbl h2.1.2.2 (Nat.le_of_ble_eq_true rfl) (Nat.le_of_ble_eq_true rfl) (lv_sub hl [0, 1, 2, 3, 4] rfl)
  · have c1 := mt (tw_eq rfl (by decide : (0 : Int32).toInt = 0)).mpr c1
    refine lv_iconst (v := 1) hx hb dL_law_1686 (by decide) ?_
    refine lv_goto (tgt := 1691) hx hb dL_law_1687 (by decide) ?_
    refine tw_calli_1 F h2 (tw_runV (r := 0) (As := [.int (xs 1), .int (1 : Int32)]) (rest := []) F h2.1 (c_X11_lost l G ad1 w1 H.size (xs 1) ((xs 1).toInt) rfl (1 : Int32) 1 (by decide : (1 : Int32).toInt = 1) (by decide) k1_0 k1_4 k1_7) (tw_gl kw_1215 rfl) km_X11_lost kv_X11_lost rfl rfl ⟨(Nat.le_of_ble_eq_true rfl), (Nat.le_of_ble_eq_true rfl)⟩ (by decide) k1_0 rfl rfl hl.1 rfl (Nat.le_of_ble_eq_true rfl) dL_law_1691 ⟨(Nat.le_of_ble_eq_true rfl), (Nat.le_of_ble_eq_true rfl)⟩) (fun r19 wv20 H locs hp21 h2 => ?_)
    rcases hp21 with ⟨rfl, hc22⟩ | ⟨rfl, hc23⟩
    · skip
      refine lv_aload_n hx hb dL_law_1694 rfl (lv_at hl 2 rfl) ?_
      refine lv_aload_n hx hb dL_law_1695 rfl (lv_at hl 4 rfl) ?_
      refine lv_iload hx hb dL_law_1696 (lv_at hl 0 rfl) ?_
      refine lv_iconst (v := 1) hx hb dL_law_1698 (by decide) ?_
      refine lv_iadd hx hb dL_law_1699 ?_
      refine tw_cv (v := (1 : Int32)) (by decide) ?_
      refine va_sld hx hb hX hbl hbA h2.1.2.2 (tw_ix (j := 1) (by decide) (by decide)).1 dL_law_1700 ?_
      refine tw_cv (v := xs 1) rfl ?_
      refine lv_aload_n hx hb dL_law_1701 rfl (lv_at hl 4 rfl) ?_
      refine lv_iload hx hb dL_law_1702 (lv_at hl 0 rfl) ?_
      refine lv_iconst (v := 2) hx hb dL_law_1704 (by decide) ?_
      refine lv_iadd hx hb dL_law_1705 ?_
      refine tw_cv (v := (2 : Int32)) (by decide) ?_
      refine va_sld hx hb hX hbl hbA h2.1.2.2 (tw_ix (j := 2) (by decide) (by decide)).1 dL_law_1706 ?_
      refine tw_cv (v := xs 2) rfl ?_
      refine lv_if_eq (tgt := 1714) hx hb dL_law_1707 (by decide) (fun c24 => False.elim (by have c24 := (tw_eq rfl (by decide : (0 : Int32).toInt = 0)).mp c24; omega)) (fun _ => ?_)
      refine lv_iconst (v := 1) hx hb dL_law_1710 (by decide) ?_
      refine lv_goto (tgt := 1715) hx hb dL_law_1711 (by decide) ?_
      refine tw_calli_2 F h2 (tw_runV (r := 0) (As := [.int (xs 1), .int (1 : Int32)]) (rest := [.int (0 : Int32)]) F h2.2.1 (c_X12_lost l G ad2 w2 H.size (xs 1) ((xs 1).toInt) rfl (1 : Int32) 1 (by decide : (1 : Int32).toInt = 1) (by decide) k2_0 k2_3) (tw_gl kw_1760 rfl) km_X12_lost kv_X12_lost rfl rfl ⟨(Nat.le_of_ble_eq_true rfl), (Nat.le_of_ble_eq_true rfl)⟩ (by decide) k2_0 rfl rfl hl.1 rfl (Nat.le_of_ble_eq_true rfl) dL_law_1715 ⟨(Nat.le_of_ble_eq_true rfl), (Nat.le_of_ble_eq_true rfl)⟩) (fun r25 wv26 H locs hp27 h2 => ?_)
      rcases hp27 with ⟨rfl, hc28⟩ | ⟨rfl, hc29⟩
      · skip
        refine lv_icmp_eq (tgt := 1975) hx hb dL_law_1718 (by decide) (fun _ => ?_) (fun c => absurd c (by decide))
        exact law_tail F hr hlk hX hbl h2.1.2.2 (Nat.le_of_ble_eq_true rfl) (Nat.le_of_ble_eq_true rfl) (lv_sub hl [0, 1, 2, 3, 4] rfl)
      · exfalso; omega
    · skip
      refine lv_aload_n hx hb dL_law_1694 rfl (lv_at hl 2 rfl) ?_
      refine lv_aload_n hx hb dL_law_1695 rfl (lv_at hl 4 rfl) ?_
      refine lv_iload hx hb dL_law_1696 (lv_at hl 0 rfl) ?_
      refine lv_iconst (v := 1) hx hb dL_law_1698 (by decide) ?_
      refine lv_iadd hx hb dL_law_1699 ?_
      refine tw_cv (v := (1 : Int32)) (by decide) ?_
      refine va_sld hx hb hX hbl hbA h2.1.2.2 (tw_ix (j := 1) (by decide) (by decide)).1 dL_law_1700 ?_
      refine tw_cv (v := xs 1) rfl ?_
      refine lv_aload_n hx hb dL_law_1701 rfl (lv_at hl 4 rfl) ?_
      refine lv_iload hx hb dL_law_1702 (lv_at hl 0 rfl) ?_
      refine lv_iconst (v := 2) hx hb dL_law_1704 (by decide) ?_
      refine lv_iadd hx hb dL_law_1705 ?_
      refine tw_cv (v := (2 : Int32)) (by decide) ?_
      refine va_sld hx hb hX hbl hbA h2.1.2.2 (tw_ix (j := 2) (by decide) (by decide)).1 dL_law_1706 ?_
      refine tw_cv (v := xs 2) rfl ?_
      refine lv_if_eq (tgt := 1714) hx hb dL_law_1707 (by decide) (fun c30 => False.elim (by have c30 := (tw_eq rfl (by decide : (0 : Int32).toInt = 0)).mp c30; omega)) (fun _ => ?_)
      refine lv_iconst (v := 1) hx hb dL_law_1710 (by decide) ?_
      refine lv_goto (tgt := 1715) hx hb dL_law_1711 (by decide) ?_
      refine tw_calli_2 F h2 (tw_runV (r := 0) (As := [.int (xs 1), .int (1 : Int32)]) (rest := [.int (1 : Int32)]) F h2.2.1 (c_X12_lost l G ad2 w2 H.size (xs 1) ((xs 1).toInt) rfl (1 : Int32) 1 (by decide : (1 : Int32).toInt = 1) (by decide) k2_0 k2_3) (tw_gl kw_1760 rfl) km_X12_lost kv_X12_lost rfl rfl ⟨(Nat.le_of_ble_eq_true rfl), (Nat.le_of_ble_eq_true rfl)⟩ (by decide) k2_0 rfl rfl hl.1 rfl (Nat.le_of_ble_eq_true rfl) dL_law_1715 ⟨(Nat.le_of_ble_eq_true rfl), (Nat.le_of_ble_eq_true rfl)⟩) (fun r31 wv32 H locs hp33 h2 => ?_)
      rcases hp33 with ⟨rfl, hc34⟩ | ⟨rfl, hc35⟩
      · exfalso; omega
      · skip
        refine lv_icmp_eq (tgt := 1975) hx hb dL_law_1718 (by decide) (fun _ => ?_) (fun c => absurd c (by decide))
        exact law_tail F hr hlk hX hbl h2.1.2.2 (Nat.le_of_ble_eq_true rfl) (Nat.le_of_ble_eq_true rfl) (lv_sub hl [0, 1, 2, 3, 4] rfl)
set_option maxHeartbeats 4000000 in
set_option maxRecDepth 100000 in
theorem law_case_35 {p : Program} {l : Launch} {e : Env} {s : State} {m : MethodId} {below : List Frame} {meth : Method} {c : Code} {G : tw_G} {b : Nat} {xs : Nat → Int32} (hst : l.stackTraces = false) (F : tw_F p m c code 7 s #[Value.ref b] RL G (fun q => s.heap.size ≤ q)) (hr : meth.sig.returnType = ret) (hlk : meth.locks = false) (hX : va_X b 7 xs s s.heap) (hbl : b < s.heap.size) {ad1 ad2 : Nat → Nat} {w1 w2 : Nat → va_E} {ao : Nat} (k1_0 : w1 0 = .inr (11, [.ref (ad1 4), .ref (ad1 14), .ref (ad1 156), .ref (ad1 221), .ref (ad1 225), .ref (ad1 233), .ref (ad1 236), .int (0 : Int32), .ref (ad1 237), .int (0 : Int32), .ref (ad1 238)])) (k1_14 : w1 14 = .inr (2, [.ref (ad1 4), .ref (ad1 1), .ref (ad1 15), .ref (ad1 16), .ref (ad1 17), .int (0 : Int32), .int (0 : Int32), .int (0 : Int32)])) (k2_0 : w2 0 = .inr (12, [.int (0 : Int32), .int (2 : Int32), .int (1 : Int32), .ref (ad2 1), .ref (ad2 2), .ref (ad2 3), .ref (ad2 4), .ref (ad2 5), .int (0 : Int32), .ref (ad2 6), .ref (ad2 7), .ref (ad2 8), .int (0 : Int32), .ref (ad2 9), .ref (ad2 10), .ref (ad2 11), .ref (ad2 12), .int (0 : Int32), .ref (ad2 13), .ref (ad2 14), .ref (ad2 15), .ref (ad2 16), .ref (ad2 17), .ref (ad2 18), .ref (ad2 19), .ref (ad2 20), .ref (ad2 21), .ref (ad2 22), .ref (ad2 23), .ref (ad2 24), .ref (ad2 25), .ref (ad2 26), .ref (ad2 27), .ref (ad2 28), .ref (ad2 29), .ref (ad2 30), .ref (ad2 31), .ref (ad2 32), .ref (ad2 33), .ref (ad2 34), .int (0 : Int32), .int (0 : Int32), .int (0 : Int32), .ref (G.2.2 (100 + 10)), .ref (ad2 35), .ref (ad2 36), .ref (ad2 37), .int (0 : Int32), .ref (ad2 38), .ref (ad2 39), .ref (ad2 40), .ref (ad2 41), .ref (ad2 42), .ref (ad2 43), .ref (ad2 44), .ref (ad2 45), .ref (ad2 46), .ref (ad2 47), .ref (ad2 48), .ref (ad2 49), .ref (ad2 50), .ref (ad2 51), .ref (ad2 52), .ref (ad2 53), .ref (ad2 54), .ref (ad2 55), .ref (ad2 56), .ref (ad2 57), .ref (ad2 58), .ref (ad2 59), .int (0 : Int32), .ref (ad2 60), .int (0 : Int32), .ref (ad2 61), .ref (ad2 62), .int (0 : Int32), .ref (ad2 63), .ref (ad2 64), .ref (ad2 65), .ref (ad2 66), .ref (ad2 67), .ref (ad2 68), .int (0 : Int32), .ref (ad2 69), .ref (ad2 70), .ref (ad2 71), .ref (ad2 72), .ref (ad2 73), .int (0 : Int32), .int (0 : Int32), .int (0 : Int32), .ref (ad2 74), .ref (ad2 75), .ref (ad2 76), .ref (ad2 77), .ref (ad2 78), .ref (ad2 79)])) {H : Heap} {locs : List Loc} (h2 : tw_2 G 244 ad1 w1 80 ad2 w2 (fun q => s.heap.size ≤ q) s H locs) {ls : Array Slot} (hl : lv_has ls 7 [(4, .int (0 : Int32)), (3, .ref ao), (2, .ref (ad2 0)), (1, .ref (ad1 0)), (0, .ref b)]) {cells slots : Nat} (h3 : cells ≤ 1000) (h4 : slots ≤ 20000) : W p l e room_1 s m #[Value.ref b] below meth c H locs cells slots (lw_Z below #[Value.ref b] s) (F0 m 1723 ls []) := by
  refine W.widen (k := 1000) (n := 20000) h3 h4 ?_
  have hx := F.1.1
  have hb := F.1.2.1
  have hbA : ¬ (fun q : Nat => s.heap.size ≤ q) b := Nat.not_le.mpr hbl
  refine lv_aload_n hx hb dL_law_1723 rfl (lv_at hl 3 rfl) ?_
  refine lv_aload_n hx hb dL_law_1724 rfl (lv_at hl 4 rfl) ?_
  refine lv_iload hx hb dL_law_1725 (lv_at hl 0 rfl) ?_
  refine lv_iconst (v := 1) hx hb dL_law_1727 (by decide) ?_
  refine lv_iadd hx hb dL_law_1728 ?_
  refine tw_cv (v := (1 : Int32)) (by decide) ?_
  refine va_sld hx hb hX hbl hbA h2.1.2.2 (tw_ix (j := 1) (by decide) (by decide)).1 dL_law_1729 ?_
  refine tw_cv (v := xs 1) rfl ?_
  refine lv_aload_n hx hb dL_law_1730 rfl (lv_at hl 4 rfl) ?_
  refine lv_iload hx hb dL_law_1731 (lv_at hl 0 rfl) ?_
  refine lv_iconst (v := 2) hx hb dL_law_1733 (by decide) ?_
  refine lv_iadd hx hb dL_law_1734 ?_
  refine tw_cv (v := (2 : Int32)) (by decide) ?_
  refine va_sld hx hb hX hbl hbA h2.1.2.2 (tw_ix (j := 2) (by decide) (by decide)).1 dL_law_1735 ?_
  refine tw_cv (v := xs 2) rfl ?_
  refine lv_aload_n hx hb dL_law_1736 rfl (lv_at hl 4 rfl) ?_
  refine lv_iload hx hb dL_law_1737 (lv_at hl 0 rfl) ?_
  refine lv_iconst (v := 3) hx hb dL_law_1739 (by decide) ?_
  refine lv_iadd hx hb dL_law_1740 ?_
  refine tw_cv (v := (3 : Int32)) (by decide) ?_
  refine va_sld hx hb hX hbl hbA h2.1.2.2 (tw_ix (j := 3) (by decide) (by decide)).1 dL_law_1741 ?_
  refine tw_cv (v := xs 3) rfl ?_
  refine lv_aload_n hx hb dL_law_1742 rfl (lv_at hl 4 rfl) ?_
  refine lv_iload hx hb dL_law_1743 (lv_at hl 0 rfl) ?_
  refine lv_iconst (v := 4) hx hb dL_law_1745 (by decide) ?_
  refine lv_iadd hx hb dL_law_1746 ?_
  refine tw_cv (v := (4 : Int32)) (by decide) ?_
  refine va_sld hx hb hX hbl hbA h2.1.2.2 (tw_ix (j := 4) (by decide) (by decide)).1 dL_law_1747 ?_
  refine tw_cv (v := xs 4) rfl ?_
  refine tw_calli_1 F h2 (tw_runV (r := 0) (As := [.int (xs 1), .int (xs 2), .int (xs 3), .int (xs 4)]) (rest := []) F h2.1 (c_X11_known l G ad1 w1 H.size (xs 1) ((xs 1).toInt) rfl (xs 2) ((xs 2).toInt) rfl (xs 3) ((xs 3).toInt) rfl (xs 4) ((xs 4).toInt) rfl k1_0 k1_14) (tw_gl kw_1219 rfl) km_X11_known kv_X11_known rfl rfl ⟨(Nat.le_of_ble_eq_true rfl), (Nat.le_of_ble_eq_true rfl)⟩ (by decide) k1_0 rfl rfl hl.1 rfl (Nat.le_of_ble_eq_true rfl) dL_law_1748 ⟨(Nat.le_of_ble_eq_true rfl), (Nat.le_of_ble_eq_true rfl)⟩) (fun r1 wv2 H locs hp3 h2 => ?_)
  obtain ⟨rfl, hc4⟩ := hp3
  refine lv_aload_n hx hb dL_law_1751 rfl (lv_at hl 2 rfl) ?_
  refine lv_aload_n hx hb dL_law_1752 rfl (lv_at hl 4 rfl) ?_
  refine lv_iload hx hb dL_law_1753 (lv_at hl 0 rfl) ?_
  refine lv_iconst (v := 1) hx hb dL_law_1755 (by decide) ?_
  refine lv_iadd hx hb dL_law_1756 ?_
  refine tw_cv (v := (1 : Int32)) (by decide) ?_
  refine va_sld hx hb hX hbl hbA h2.1.2.2 (tw_ix (j := 1) (by decide) (by decide)).1 dL_law_1757 ?_
  refine tw_cv (v := xs 1) rfl ?_
  refine lv_aload_n hx hb dL_law_1758 rfl (lv_at hl 4 rfl) ?_
  refine lv_iload hx hb dL_law_1759 (lv_at hl 0 rfl) ?_
  refine lv_iconst (v := 2) hx hb dL_law_1761 (by decide) ?_
  refine lv_iadd hx hb dL_law_1762 ?_
  refine tw_cv (v := (2 : Int32)) (by decide) ?_
  refine va_sld hx hb hX hbl hbA h2.1.2.2 (tw_ix (j := 2) (by decide) (by decide)).1 dL_law_1763 ?_
  refine tw_cv (v := xs 2) rfl ?_
  refine lv_aload_n hx hb dL_law_1764 rfl (lv_at hl 4 rfl) ?_
  refine lv_iload hx hb dL_law_1765 (lv_at hl 0 rfl) ?_
  refine lv_iconst (v := 3) hx hb dL_law_1767 (by decide) ?_
  refine lv_iadd hx hb dL_law_1768 ?_
  refine tw_cv (v := (3 : Int32)) (by decide) ?_
  refine va_sld hx hb hX hbl hbA h2.1.2.2 (tw_ix (j := 3) (by decide) (by decide)).1 dL_law_1769 ?_
  refine tw_cv (v := xs 3) rfl ?_
  refine lv_aload_n hx hb dL_law_1770 rfl (lv_at hl 4 rfl) ?_
  refine lv_iload hx hb dL_law_1771 (lv_at hl 0 rfl) ?_
  refine lv_iconst (v := 4) hx hb dL_law_1773 (by decide) ?_
  refine lv_iadd hx hb dL_law_1774 ?_
  refine tw_cv (v := (4 : Int32)) (by decide) ?_
  refine va_sld hx hb hX hbl hbA h2.1.2.2 (tw_ix (j := 4) (by decide) (by decide)).1 dL_law_1775 ?_
  refine tw_cv (v := xs 4) rfl ?_
  refine tw_calli_2 F h2 (tw_runV (r := 0) (As := [.int (xs 1), .int (xs 2), .int (xs 3), .int (xs 4)]) (rest := [.int (-1 : Int32)]) F h2.2.1 (c_X12_known l G ad2 w2 H.size (xs 1) ((xs 1).toInt) rfl (xs 2) ((xs 2).toInt) rfl (xs 3) ((xs 3).toInt) rfl (xs 4) ((xs 4).toInt) rfl k2_0) (tw_gl kw_1764 rfl) km_X12_known kv_X12_known rfl rfl ⟨(Nat.le_of_ble_eq_true rfl), (Nat.le_of_ble_eq_true rfl)⟩ (by decide) k2_0 rfl rfl hl.1 rfl (Nat.le_of_ble_eq_true rfl) dL_law_1776 ⟨(Nat.le_of_ble_eq_true rfl), (Nat.le_of_ble_eq_true rfl)⟩) (fun r5 wv6 H locs hp7 h2 => ?_)
  obtain ⟨rfl, hc8⟩ := hp7
  refine lv_icmp_eq (tgt := 1975) hx hb dL_law_1779 (by decide) (fun _ => ?_) (fun c => absurd c (by decide))
  exact law_tail F hr hlk hX hbl h2.1.2.2 (Nat.le_of_ble_eq_true rfl) (Nat.le_of_ble_eq_true rfl) (lv_sub hl [0, 1, 2, 3, 4] rfl)
set_option maxHeartbeats 4000000 in
set_option maxRecDepth 100000 in
theorem law_case_36 {p : Program} {l : Launch} {e : Env} {s : State} {m : MethodId} {below : List Frame} {meth : Method} {c : Code} {G : tw_G} {b : Nat} {xs : Nat → Int32} (hst : l.stackTraces = false) (F : tw_F p m c code 7 s #[Value.ref b] RL G (fun q => s.heap.size ≤ q)) (hr : meth.sig.returnType = ret) (hlk : meth.locks = false) (hX : va_X b 7 xs s s.heap) (hbl : b < s.heap.size) {ad1 ad2 : Nat → Nat} {w1 w2 : Nat → va_E} {ao : Nat} (k1_0 : w1 0 = .inr (11, [.ref (ad1 4), .ref (ad1 14), .ref (ad1 156), .ref (ad1 221), .ref (ad1 225), .ref (ad1 233), .ref (ad1 236), .int (0 : Int32), .ref (ad1 237), .int (0 : Int32), .ref (ad1 238)])) (k1_14 : w1 14 = .inr (2, [.ref (ad1 4), .ref (ad1 1), .ref (ad1 15), .ref (ad1 16), .ref (ad1 17), .int (0 : Int32), .int (0 : Int32), .int (0 : Int32)])) (k2_0 : w2 0 = .inr (12, [.int (0 : Int32), .int (2 : Int32), .int (1 : Int32), .ref (ad2 1), .ref (ad2 2), .ref (ad2 3), .ref (ad2 4), .ref (ad2 5), .int (0 : Int32), .ref (ad2 6), .ref (ad2 7), .ref (ad2 8), .int (0 : Int32), .ref (ad2 9), .ref (ad2 10), .ref (ad2 11), .ref (ad2 12), .int (0 : Int32), .ref (ad2 13), .ref (ad2 14), .ref (ad2 15), .ref (ad2 16), .ref (ad2 17), .ref (ad2 18), .ref (ad2 19), .ref (ad2 20), .ref (ad2 21), .ref (ad2 22), .ref (ad2 23), .ref (ad2 24), .ref (ad2 25), .ref (ad2 26), .ref (ad2 27), .ref (ad2 28), .ref (ad2 29), .ref (ad2 30), .ref (ad2 31), .ref (ad2 32), .ref (ad2 33), .ref (ad2 34), .int (0 : Int32), .int (0 : Int32), .int (0 : Int32), .ref (G.2.2 (100 + 10)), .ref (ad2 35), .ref (ad2 36), .ref (ad2 37), .int (0 : Int32), .ref (ad2 38), .ref (ad2 39), .ref (ad2 40), .ref (ad2 41), .ref (ad2 42), .ref (ad2 43), .ref (ad2 44), .ref (ad2 45), .ref (ad2 46), .ref (ad2 47), .ref (ad2 48), .ref (ad2 49), .ref (ad2 50), .ref (ad2 51), .ref (ad2 52), .ref (ad2 53), .ref (ad2 54), .ref (ad2 55), .ref (ad2 56), .ref (ad2 57), .ref (ad2 58), .ref (ad2 59), .int (0 : Int32), .ref (ad2 60), .int (0 : Int32), .ref (ad2 61), .ref (ad2 62), .int (0 : Int32), .ref (ad2 63), .ref (ad2 64), .ref (ad2 65), .ref (ad2 66), .ref (ad2 67), .ref (ad2 68), .int (0 : Int32), .ref (ad2 69), .ref (ad2 70), .ref (ad2 71), .ref (ad2 72), .ref (ad2 73), .int (0 : Int32), .int (0 : Int32), .int (0 : Int32), .ref (ad2 74), .ref (ad2 75), .ref (ad2 76), .ref (ad2 77), .ref (ad2 78), .ref (ad2 79)])) {H : Heap} {locs : List Loc} (h2 : tw_2 G 244 ad1 w1 80 ad2 w2 (fun q => s.heap.size ≤ q) s H locs) {ls : Array Slot} (hl : lv_has ls 7 [(4, .int (0 : Int32)), (3, .ref ao), (2, .ref (ad2 0)), (1, .ref (ad1 0)), (0, .ref b)]) {cells slots : Nat} (h3 : cells ≤ 1000) (h4 : slots ≤ 20000) : W p l e room_1 s m #[Value.ref b] below meth c H locs cells slots (lw_Z below #[Value.ref b] s) (F0 m 1784 ls []) := by
  refine W.widen (k := 1000) (n := 20000) h3 h4 ?_
  have hx := F.1.1
  have hb := F.1.2.1
  have hbA : ¬ (fun q : Nat => s.heap.size ≤ q) b := Nat.not_le.mpr hbl
  refine lv_aload_n hx hb dL_law_1784 rfl (lv_at hl 3 rfl) ?_
  refine lv_aload_n hx hb dL_law_1785 rfl (lv_at hl 4 rfl) ?_
  refine lv_iload hx hb dL_law_1786 (lv_at hl 0 rfl) ?_
  refine lv_iconst (v := 1) hx hb dL_law_1788 (by decide) ?_
  refine lv_iadd hx hb dL_law_1789 ?_
  refine tw_cv (v := (1 : Int32)) (by decide) ?_
  refine va_sld hx hb hX hbl hbA h2.1.2.2 (tw_ix (j := 1) (by decide) (by decide)).1 dL_law_1790 ?_
  refine tw_cv (v := xs 1) rfl ?_
  refine lv_aload_n hx hb dL_law_1791 rfl (lv_at hl 4 rfl) ?_
  refine lv_iload hx hb dL_law_1792 (lv_at hl 0 rfl) ?_
  refine lv_iconst (v := 2) hx hb dL_law_1794 (by decide) ?_
  refine lv_iadd hx hb dL_law_1795 ?_
  refine tw_cv (v := (2 : Int32)) (by decide) ?_
  refine va_sld hx hb hX hbl hbA h2.1.2.2 (tw_ix (j := 2) (by decide) (by decide)).1 dL_law_1796 ?_
  refine tw_cv (v := xs 2) rfl ?_
  refine lv_aload_n hx hb dL_law_1797 rfl (lv_at hl 4 rfl) ?_
  refine lv_iload hx hb dL_law_1798 (lv_at hl 0 rfl) ?_
  refine lv_iconst (v := 3) hx hb dL_law_1800 (by decide) ?_
  refine lv_iadd hx hb dL_law_1801 ?_
  refine tw_cv (v := (3 : Int32)) (by decide) ?_
  refine va_sld hx hb hX hbl hbA h2.1.2.2 (tw_ix (j := 3) (by decide) (by decide)).1 dL_law_1802 ?_
  refine tw_cv (v := xs 3) rfl ?_
  refine lv_aload_n hx hb dL_law_1803 rfl (lv_at hl 4 rfl) ?_
  refine lv_iload hx hb dL_law_1804 (lv_at hl 0 rfl) ?_
  refine lv_iconst (v := 4) hx hb dL_law_1806 (by decide) ?_
  refine lv_iadd hx hb dL_law_1807 ?_
  refine tw_cv (v := (4 : Int32)) (by decide) ?_
  refine va_sld hx hb hX hbl hbA h2.1.2.2 (tw_ix (j := 4) (by decide) (by decide)).1 dL_law_1808 ?_
  refine tw_cv (v := xs 4) rfl ?_
  refine tw_calli_1 F h2 (tw_runV (r := 0) (As := [.int (xs 1), .int (xs 2), .int (xs 3), .int (xs 4)]) (rest := []) F h2.1 (c_X11_ahead l G ad1 w1 H.size (xs 1) ((xs 1).toInt) rfl (xs 2) ((xs 2).toInt) rfl (xs 3) ((xs 3).toInt) rfl (xs 4) ((xs 4).toInt) rfl k1_0 k1_14) (tw_gl kw_1232 rfl) km_X11_ahead kv_X11_ahead rfl rfl ⟨(Nat.le_of_ble_eq_true rfl), (Nat.le_of_ble_eq_true rfl)⟩ (by decide) k1_0 rfl rfl hl.1 rfl (Nat.le_of_ble_eq_true rfl) dL_law_1809 ⟨(Nat.le_of_ble_eq_true rfl), (Nat.le_of_ble_eq_true rfl)⟩) (fun r1 wv2 H locs hp3 h2 => ?_)
  obtain ⟨rfl, hc4⟩ := hp3
  refine lv_aload_n hx hb dL_law_1812 rfl (lv_at hl 2 rfl) ?_
  refine lv_aload_n hx hb dL_law_1813 rfl (lv_at hl 4 rfl) ?_
  refine lv_iload hx hb dL_law_1814 (lv_at hl 0 rfl) ?_
  refine lv_iconst (v := 1) hx hb dL_law_1816 (by decide) ?_
  refine lv_iadd hx hb dL_law_1817 ?_
  refine tw_cv (v := (1 : Int32)) (by decide) ?_
  refine va_sld hx hb hX hbl hbA h2.1.2.2 (tw_ix (j := 1) (by decide) (by decide)).1 dL_law_1818 ?_
  refine tw_cv (v := xs 1) rfl ?_
  refine lv_aload_n hx hb dL_law_1819 rfl (lv_at hl 4 rfl) ?_
  refine lv_iload hx hb dL_law_1820 (lv_at hl 0 rfl) ?_
  refine lv_iconst (v := 2) hx hb dL_law_1822 (by decide) ?_
  refine lv_iadd hx hb dL_law_1823 ?_
  refine tw_cv (v := (2 : Int32)) (by decide) ?_
  refine va_sld hx hb hX hbl hbA h2.1.2.2 (tw_ix (j := 2) (by decide) (by decide)).1 dL_law_1824 ?_
  refine tw_cv (v := xs 2) rfl ?_
  refine lv_aload_n hx hb dL_law_1825 rfl (lv_at hl 4 rfl) ?_
  refine lv_iload hx hb dL_law_1826 (lv_at hl 0 rfl) ?_
  refine lv_iconst (v := 3) hx hb dL_law_1828 (by decide) ?_
  refine lv_iadd hx hb dL_law_1829 ?_
  refine tw_cv (v := (3 : Int32)) (by decide) ?_
  refine va_sld hx hb hX hbl hbA h2.1.2.2 (tw_ix (j := 3) (by decide) (by decide)).1 dL_law_1830 ?_
  refine tw_cv (v := xs 3) rfl ?_
  refine lv_aload_n hx hb dL_law_1831 rfl (lv_at hl 4 rfl) ?_
  refine lv_iload hx hb dL_law_1832 (lv_at hl 0 rfl) ?_
  refine lv_iconst (v := 4) hx hb dL_law_1834 (by decide) ?_
  refine lv_iadd hx hb dL_law_1835 ?_
  refine tw_cv (v := (4 : Int32)) (by decide) ?_
  refine va_sld hx hb hX hbl hbA h2.1.2.2 (tw_ix (j := 4) (by decide) (by decide)).1 dL_law_1836 ?_
  refine tw_cv (v := xs 4) rfl ?_
  refine tw_calli_2 F h2 (tw_runV (r := 0) (As := [.int (xs 1), .int (xs 2), .int (xs 3), .int (xs 4)]) (rest := [.int (-1 : Int32)]) F h2.2.1 (c_X12_ahead l G ad2 w2 H.size (xs 1) ((xs 1).toInt) rfl (xs 2) ((xs 2).toInt) rfl (xs 3) ((xs 3).toInt) rfl (xs 4) ((xs 4).toInt) rfl k2_0) (tw_gl kw_1772 rfl) km_X12_ahead kv_X12_ahead rfl rfl ⟨(Nat.le_of_ble_eq_true rfl), (Nat.le_of_ble_eq_true rfl)⟩ (by decide) k2_0 rfl rfl hl.1 rfl (Nat.le_of_ble_eq_true rfl) dL_law_1837 ⟨(Nat.le_of_ble_eq_true rfl), (Nat.le_of_ble_eq_true rfl)⟩) (fun r5 wv6 H locs hp7 h2 => ?_)
  obtain ⟨rfl, hc8⟩ := hp7
  refine lv_icmp_eq (tgt := 1975) hx hb dL_law_1840 (by decide) (fun _ => ?_) (fun c => absurd c (by decide))
  exact law_tail F hr hlk hX hbl h2.1.2.2 (Nat.le_of_ble_eq_true rfl) (Nat.le_of_ble_eq_true rfl) (lv_sub hl [0, 1, 2, 3, 4] rfl)
set_option maxHeartbeats 4000000 in
set_option maxRecDepth 100000 in
theorem law_case_37 {p : Program} {l : Launch} {e : Env} {s : State} {m : MethodId} {below : List Frame} {meth : Method} {c : Code} {G : tw_G} {b : Nat} {xs : Nat → Int32} (hst : l.stackTraces = false) (F : tw_F p m c code 7 s #[Value.ref b] RL G (fun q => s.heap.size ≤ q)) (hr : meth.sig.returnType = ret) (hlk : meth.locks = false) (hX : va_X b 7 xs s s.heap) (hbl : b < s.heap.size) {ad1 ad2 : Nat → Nat} {w1 w2 : Nat → va_E} {ao : Nat} (k1_0 : w1 0 = .inr (11, [.ref (ad1 4), .ref (ad1 14), .ref (ad1 156), .ref (ad1 221), .ref (ad1 225), .ref (ad1 233), .ref (ad1 236), .int (0 : Int32), .ref (ad1 237), .int (0 : Int32), .ref (ad1 238)])) (k1_14 : w1 14 = .inr (2, [.ref (ad1 4), .ref (ad1 1), .ref (ad1 15), .ref (ad1 16), .ref (ad1 17), .int (0 : Int32), .int (0 : Int32), .int (0 : Int32)])) (k2_0 : w2 0 = .inr (12, [.int (0 : Int32), .int (2 : Int32), .int (1 : Int32), .ref (ad2 1), .ref (ad2 2), .ref (ad2 3), .ref (ad2 4), .ref (ad2 5), .int (0 : Int32), .ref (ad2 6), .ref (ad2 7), .ref (ad2 8), .int (0 : Int32), .ref (ad2 9), .ref (ad2 10), .ref (ad2 11), .ref (ad2 12), .int (0 : Int32), .ref (ad2 13), .ref (ad2 14), .ref (ad2 15), .ref (ad2 16), .ref (ad2 17), .ref (ad2 18), .ref (ad2 19), .ref (ad2 20), .ref (ad2 21), .ref (ad2 22), .ref (ad2 23), .ref (ad2 24), .ref (ad2 25), .ref (ad2 26), .ref (ad2 27), .ref (ad2 28), .ref (ad2 29), .ref (ad2 30), .ref (ad2 31), .ref (ad2 32), .ref (ad2 33), .ref (ad2 34), .int (0 : Int32), .int (0 : Int32), .int (0 : Int32), .ref (G.2.2 (100 + 10)), .ref (ad2 35), .ref (ad2 36), .ref (ad2 37), .int (0 : Int32), .ref (ad2 38), .ref (ad2 39), .ref (ad2 40), .ref (ad2 41), .ref (ad2 42), .ref (ad2 43), .ref (ad2 44), .ref (ad2 45), .ref (ad2 46), .ref (ad2 47), .ref (ad2 48), .ref (ad2 49), .ref (ad2 50), .ref (ad2 51), .ref (ad2 52), .ref (ad2 53), .ref (ad2 54), .ref (ad2 55), .ref (ad2 56), .ref (ad2 57), .ref (ad2 58), .ref (ad2 59), .int (0 : Int32), .ref (ad2 60), .int (0 : Int32), .ref (ad2 61), .ref (ad2 62), .int (0 : Int32), .ref (ad2 63), .ref (ad2 64), .ref (ad2 65), .ref (ad2 66), .ref (ad2 67), .ref (ad2 68), .int (0 : Int32), .ref (ad2 69), .ref (ad2 70), .ref (ad2 71), .ref (ad2 72), .ref (ad2 73), .int (0 : Int32), .int (0 : Int32), .int (0 : Int32), .ref (ad2 74), .ref (ad2 75), .ref (ad2 76), .ref (ad2 77), .ref (ad2 78), .ref (ad2 79)])) {H : Heap} {locs : List Loc} (h2 : tw_2 G 244 ad1 w1 80 ad2 w2 (fun q => s.heap.size ≤ q) s H locs) {ls : Array Slot} (hl : lv_has ls 7 [(4, .int (0 : Int32)), (3, .ref ao), (2, .ref (ad2 0)), (1, .ref (ad1 0)), (0, .ref b)]) {cells slots : Nat} (h3 : cells ≤ 1000) (h4 : slots ≤ 20000) : W p l e room_1 s m #[Value.ref b] below meth c H locs cells slots (lw_Z below #[Value.ref b] s) (F0 m 1845 ls []) := by
  refine W.widen (k := 1000) (n := 20000) h3 h4 ?_
  have hx := F.1.1
  have hb := F.1.2.1
  have hbA : ¬ (fun q : Nat => s.heap.size ≤ q) b := Nat.not_le.mpr hbl
  refine lv_aload_n hx hb dL_law_1845 rfl (lv_at hl 3 rfl) ?_
  refine lv_aload_n hx hb dL_law_1846 rfl (lv_at hl 4 rfl) ?_
  refine lv_iload hx hb dL_law_1847 (lv_at hl 0 rfl) ?_
  refine lv_iconst (v := 1) hx hb dL_law_1849 (by decide) ?_
  refine lv_iadd hx hb dL_law_1850 ?_
  refine tw_cv (v := (1 : Int32)) (by decide) ?_
  refine va_sld hx hb hX hbl hbA h2.1.2.2 (tw_ix (j := 1) (by decide) (by decide)).1 dL_law_1851 ?_
  refine tw_cv (v := xs 1) rfl ?_
  refine lv_aload_n hx hb dL_law_1852 rfl (lv_at hl 4 rfl) ?_
  refine lv_iload hx hb dL_law_1853 (lv_at hl 0 rfl) ?_
  refine lv_iconst (v := 2) hx hb dL_law_1855 (by decide) ?_
  refine lv_iadd hx hb dL_law_1856 ?_
  refine tw_cv (v := (2 : Int32)) (by decide) ?_
  refine va_sld hx hb hX hbl hbA h2.1.2.2 (tw_ix (j := 2) (by decide) (by decide)).1 dL_law_1857 ?_
  refine tw_cv (v := xs 2) rfl ?_
  refine tw_calli_1 F h2 (tw_runV (r := 0) (As := [.int (xs 1), .int (xs 2)]) (rest := []) F h2.1 (c_X11_wall l G ad1 w1 H.size (xs 1) ((xs 1).toInt) rfl (xs 2) ((xs 2).toInt) rfl k1_0 k1_14) (tw_gl kw_1236 rfl) km_X11_wall kv_X11_wall rfl rfl ⟨(Nat.le_of_ble_eq_true rfl), (Nat.le_of_ble_eq_true rfl)⟩ (by decide) k1_0 rfl rfl hl.1 rfl (Nat.le_of_ble_eq_true rfl) dL_law_1858 ⟨(Nat.le_of_ble_eq_true rfl), (Nat.le_of_ble_eq_true rfl)⟩) (fun r1 wv2 H locs hp3 h2 => ?_)
  obtain ⟨rfl, hc4⟩ := hp3
  refine lv_aload_n hx hb dL_law_1861 rfl (lv_at hl 2 rfl) ?_
  refine lv_aload_n hx hb dL_law_1862 rfl (lv_at hl 4 rfl) ?_
  refine lv_iload hx hb dL_law_1863 (lv_at hl 0 rfl) ?_
  refine lv_iconst (v := 1) hx hb dL_law_1865 (by decide) ?_
  refine lv_iadd hx hb dL_law_1866 ?_
  refine tw_cv (v := (1 : Int32)) (by decide) ?_
  refine va_sld hx hb hX hbl hbA h2.1.2.2 (tw_ix (j := 1) (by decide) (by decide)).1 dL_law_1867 ?_
  refine tw_cv (v := xs 1) rfl ?_
  refine lv_aload_n hx hb dL_law_1868 rfl (lv_at hl 4 rfl) ?_
  refine lv_iload hx hb dL_law_1869 (lv_at hl 0 rfl) ?_
  refine lv_iconst (v := 2) hx hb dL_law_1871 (by decide) ?_
  refine lv_iadd hx hb dL_law_1872 ?_
  refine tw_cv (v := (2 : Int32)) (by decide) ?_
  refine va_sld hx hb hX hbl hbA h2.1.2.2 (tw_ix (j := 2) (by decide) (by decide)).1 dL_law_1873 ?_
  refine tw_cv (v := xs 2) rfl ?_
  refine tw_calli_2 F h2 (tw_runV (r := 0) (As := [.int (xs 1), .int (xs 2)]) (rest := [.int (-1 : Int32)]) F h2.2.1 (c_X12_wall l G ad2 w2 H.size (xs 1) ((xs 1).toInt) rfl (xs 2) ((xs 2).toInt) rfl k2_0) (tw_gl kw_1776 rfl) km_X12_wall kv_X12_wall rfl rfl ⟨(Nat.le_of_ble_eq_true rfl), (Nat.le_of_ble_eq_true rfl)⟩ (by decide) k2_0 rfl rfl hl.1 rfl (Nat.le_of_ble_eq_true rfl) dL_law_1874 ⟨(Nat.le_of_ble_eq_true rfl), (Nat.le_of_ble_eq_true rfl)⟩) (fun r5 wv6 H locs hp7 h2 => ?_)
  obtain ⟨rfl, hc8⟩ := hp7
  refine lv_icmp_eq (tgt := 1975) hx hb dL_law_1877 (by decide) (fun _ => ?_) (fun c => absurd c (by decide))
  exact law_tail F hr hlk hX hbl h2.1.2.2 (Nat.le_of_ble_eq_true rfl) (Nat.le_of_ble_eq_true rfl) (lv_sub hl [0, 1, 2, 3, 4] rfl)
set_option maxHeartbeats 4000000 in
set_option maxRecDepth 100000 in
theorem law_case_38 {p : Program} {l : Launch} {e : Env} {s : State} {m : MethodId} {below : List Frame} {meth : Method} {c : Code} {G : tw_G} {b : Nat} {xs : Nat → Int32} (hst : l.stackTraces = false) (F : tw_F p m c code 7 s #[Value.ref b] RL G (fun q => s.heap.size ≤ q)) (hr : meth.sig.returnType = ret) (hlk : meth.locks = false) (hX : va_X b 7 xs s s.heap) (hbl : b < s.heap.size) {ad1 ad2 : Nat → Nat} {w1 w2 : Nat → va_E} {ao : Nat} (k1_0 : w1 0 = .inr (11, [.ref (ad1 4), .ref (ad1 14), .ref (ad1 156), .ref (ad1 221), .ref (ad1 225), .ref (ad1 233), .ref (ad1 236), .int (0 : Int32), .ref (ad1 237), .int (0 : Int32), .ref (ad1 238)])) (k1_14 : w1 14 = .inr (2, [.ref (ad1 4), .ref (ad1 1), .ref (ad1 15), .ref (ad1 16), .ref (ad1 17), .int (0 : Int32), .int (0 : Int32), .int (0 : Int32)])) (k2_0 : w2 0 = .inr (12, [.int (0 : Int32), .int (2 : Int32), .int (1 : Int32), .ref (ad2 1), .ref (ad2 2), .ref (ad2 3), .ref (ad2 4), .ref (ad2 5), .int (0 : Int32), .ref (ad2 6), .ref (ad2 7), .ref (ad2 8), .int (0 : Int32), .ref (ad2 9), .ref (ad2 10), .ref (ad2 11), .ref (ad2 12), .int (0 : Int32), .ref (ad2 13), .ref (ad2 14), .ref (ad2 15), .ref (ad2 16), .ref (ad2 17), .ref (ad2 18), .ref (ad2 19), .ref (ad2 20), .ref (ad2 21), .ref (ad2 22), .ref (ad2 23), .ref (ad2 24), .ref (ad2 25), .ref (ad2 26), .ref (ad2 27), .ref (ad2 28), .ref (ad2 29), .ref (ad2 30), .ref (ad2 31), .ref (ad2 32), .ref (ad2 33), .ref (ad2 34), .int (0 : Int32), .int (0 : Int32), .int (0 : Int32), .ref (G.2.2 (100 + 10)), .ref (ad2 35), .ref (ad2 36), .ref (ad2 37), .int (0 : Int32), .ref (ad2 38), .ref (ad2 39), .ref (ad2 40), .ref (ad2 41), .ref (ad2 42), .ref (ad2 43), .ref (ad2 44), .ref (ad2 45), .ref (ad2 46), .ref (ad2 47), .ref (ad2 48), .ref (ad2 49), .ref (ad2 50), .ref (ad2 51), .ref (ad2 52), .ref (ad2 53), .ref (ad2 54), .ref (ad2 55), .ref (ad2 56), .ref (ad2 57), .ref (ad2 58), .ref (ad2 59), .int (0 : Int32), .ref (ad2 60), .int (0 : Int32), .ref (ad2 61), .ref (ad2 62), .int (0 : Int32), .ref (ad2 63), .ref (ad2 64), .ref (ad2 65), .ref (ad2 66), .ref (ad2 67), .ref (ad2 68), .int (0 : Int32), .ref (ad2 69), .ref (ad2 70), .ref (ad2 71), .ref (ad2 72), .ref (ad2 73), .int (0 : Int32), .int (0 : Int32), .int (0 : Int32), .ref (ad2 74), .ref (ad2 75), .ref (ad2 76), .ref (ad2 77), .ref (ad2 78), .ref (ad2 79)])) {H : Heap} {locs : List Loc} (h2 : tw_2 G 244 ad1 w1 80 ad2 w2 (fun q => s.heap.size ≤ q) s H locs) {ls : Array Slot} (hl : lv_has ls 7 [(4, .int (0 : Int32)), (3, .ref ao), (2, .ref (ad2 0)), (1, .ref (ad1 0)), (0, .ref b)]) {cells slots : Nat} (h3 : cells ≤ 1000) (h4 : slots ≤ 20000) : W p l e room_1 s m #[Value.ref b] below meth c H locs cells slots (lw_Z below #[Value.ref b] s) (F0 m 1882 ls []) := by
  refine W.widen (k := 1000) (n := 20000) h3 h4 ?_
  have hx := F.1.1
  have hb := F.1.2.1
  have hbA : ¬ (fun q : Nat => s.heap.size ≤ q) b := Nat.not_le.mpr hbl
  refine lv_aload_n hx hb dL_law_1882 rfl (lv_at hl 3 rfl) ?_
  refine lv_aload_n hx hb dL_law_1883 rfl (lv_at hl 4 rfl) ?_
  refine lv_iload hx hb dL_law_1884 (lv_at hl 0 rfl) ?_
  refine lv_iconst (v := 1) hx hb dL_law_1886 (by decide) ?_
  refine lv_iadd hx hb dL_law_1887 ?_
  refine tw_cv (v := (1 : Int32)) (by decide) ?_
  refine va_sld hx hb hX hbl hbA h2.1.2.2 (tw_ix (j := 1) (by decide) (by decide)).1 dL_law_1888 ?_
  refine tw_cv (v := xs 1) rfl ?_
  refine lv_aload_n hx hb dL_law_1889 rfl (lv_at hl 4 rfl) ?_
  refine lv_iload hx hb dL_law_1890 (lv_at hl 0 rfl) ?_
  refine lv_iconst (v := 2) hx hb dL_law_1892 (by decide) ?_
  refine lv_iadd hx hb dL_law_1893 ?_
  refine tw_cv (v := (2 : Int32)) (by decide) ?_
  refine va_sld hx hb hX hbl hbA h2.1.2.2 (tw_ix (j := 2) (by decide) (by decide)).1 dL_law_1894 ?_
  refine tw_cv (v := xs 2) rfl ?_
  refine tw_calli_1 F h2 (tw_runV (r := 0) (As := [.int (xs 1), .int (xs 2)]) (rest := []) F h2.1 (c_X11_why l G ad1 w1 H.size (xs 1) ((xs 1).toInt) rfl (xs 2) ((xs 2).toInt) rfl k1_0 k1_14) (tw_gl kw_1248 rfl) km_X11_why kv_X11_why rfl rfl ⟨(Nat.le_of_ble_eq_true rfl), (Nat.le_of_ble_eq_true rfl)⟩ (by decide) k1_0 rfl rfl hl.1 rfl (Nat.le_of_ble_eq_true rfl) dL_law_1895 ⟨(Nat.le_of_ble_eq_true rfl), (Nat.le_of_ble_eq_true rfl)⟩) (fun r1 wv2 H locs hp3 h2 => ?_)
  obtain ⟨rfl, hc4⟩ := hp3
  refine lv_aload_n hx hb dL_law_1898 rfl (lv_at hl 2 rfl) ?_
  refine lv_aload_n hx hb dL_law_1899 rfl (lv_at hl 4 rfl) ?_
  refine lv_iload hx hb dL_law_1900 (lv_at hl 0 rfl) ?_
  refine lv_iconst (v := 1) hx hb dL_law_1902 (by decide) ?_
  refine lv_iadd hx hb dL_law_1903 ?_
  refine tw_cv (v := (1 : Int32)) (by decide) ?_
  refine va_sld hx hb hX hbl hbA h2.1.2.2 (tw_ix (j := 1) (by decide) (by decide)).1 dL_law_1904 ?_
  refine tw_cv (v := xs 1) rfl ?_
  refine lv_aload_n hx hb dL_law_1905 rfl (lv_at hl 4 rfl) ?_
  refine lv_iload hx hb dL_law_1906 (lv_at hl 0 rfl) ?_
  refine lv_iconst (v := 2) hx hb dL_law_1908 (by decide) ?_
  refine lv_iadd hx hb dL_law_1909 ?_
  refine tw_cv (v := (2 : Int32)) (by decide) ?_
  refine va_sld hx hb hX hbl hbA h2.1.2.2 (tw_ix (j := 2) (by decide) (by decide)).1 dL_law_1910 ?_
  refine tw_cv (v := xs 2) rfl ?_
  refine tw_calli_2 F h2 (tw_runV (r := 0) (As := [.int (xs 1), .int (xs 2)]) (rest := [.int (-1 : Int32)]) F h2.2.1 (c_X12_why l G ad2 w2 H.size (xs 1) ((xs 1).toInt) rfl (xs 2) ((xs 2).toInt) rfl k2_0) (tw_gl kw_1784 rfl) km_X12_why kv_X12_why rfl rfl ⟨(Nat.le_of_ble_eq_true rfl), (Nat.le_of_ble_eq_true rfl)⟩ (by decide) k2_0 rfl rfl hl.1 rfl (Nat.le_of_ble_eq_true rfl) dL_law_1911 ⟨(Nat.le_of_ble_eq_true rfl), (Nat.le_of_ble_eq_true rfl)⟩) (fun r5 wv6 H locs hp7 h2 => ?_)
  obtain ⟨rfl, hc8⟩ := hp7
  refine lv_icmp_eq (tgt := 1975) hx hb dL_law_1914 (by decide) (fun _ => ?_) (fun c => absurd c (by decide))
  exact law_tail F hr hlk hX hbl h2.1.2.2 (Nat.le_of_ble_eq_true rfl) (Nat.le_of_ble_eq_true rfl) (lv_sub hl [0, 1, 2, 3, 4] rfl)
set_option maxHeartbeats 4000000 in
set_option maxRecDepth 100000 in
theorem law_case_39 {p : Program} {l : Launch} {e : Env} {s : State} {m : MethodId} {below : List Frame} {meth : Method} {c : Code} {G : tw_G} {b : Nat} {xs : Nat → Int32} (hst : l.stackTraces = false) (F : tw_F p m c code 7 s #[Value.ref b] RL G (fun q => s.heap.size ≤ q)) (hr : meth.sig.returnType = ret) (hlk : meth.locks = false) (hX : va_X b 7 xs s s.heap) (hbl : b < s.heap.size) {ad1 ad2 : Nat → Nat} {w1 w2 : Nat → va_E} {ao : Nat} (k1_0 : w1 0 = .inr (11, [.ref (ad1 4), .ref (ad1 14), .ref (ad1 156), .ref (ad1 221), .ref (ad1 225), .ref (ad1 233), .ref (ad1 236), .int (0 : Int32), .ref (ad1 237), .int (0 : Int32), .ref (ad1 238)])) (k2_0 : w2 0 = .inr (12, [.int (0 : Int32), .int (2 : Int32), .int (1 : Int32), .ref (ad2 1), .ref (ad2 2), .ref (ad2 3), .ref (ad2 4), .ref (ad2 5), .int (0 : Int32), .ref (ad2 6), .ref (ad2 7), .ref (ad2 8), .int (0 : Int32), .ref (ad2 9), .ref (ad2 10), .ref (ad2 11), .ref (ad2 12), .int (0 : Int32), .ref (ad2 13), .ref (ad2 14), .ref (ad2 15), .ref (ad2 16), .ref (ad2 17), .ref (ad2 18), .ref (ad2 19), .ref (ad2 20), .ref (ad2 21), .ref (ad2 22), .ref (ad2 23), .ref (ad2 24), .ref (ad2 25), .ref (ad2 26), .ref (ad2 27), .ref (ad2 28), .ref (ad2 29), .ref (ad2 30), .ref (ad2 31), .ref (ad2 32), .ref (ad2 33), .ref (ad2 34), .int (0 : Int32), .int (0 : Int32), .int (0 : Int32), .ref (G.2.2 (100 + 10)), .ref (ad2 35), .ref (ad2 36), .ref (ad2 37), .int (0 : Int32), .ref (ad2 38), .ref (ad2 39), .ref (ad2 40), .ref (ad2 41), .ref (ad2 42), .ref (ad2 43), .ref (ad2 44), .ref (ad2 45), .ref (ad2 46), .ref (ad2 47), .ref (ad2 48), .ref (ad2 49), .ref (ad2 50), .ref (ad2 51), .ref (ad2 52), .ref (ad2 53), .ref (ad2 54), .ref (ad2 55), .ref (ad2 56), .ref (ad2 57), .ref (ad2 58), .ref (ad2 59), .int (0 : Int32), .ref (ad2 60), .int (0 : Int32), .ref (ad2 61), .ref (ad2 62), .int (0 : Int32), .ref (ad2 63), .ref (ad2 64), .ref (ad2 65), .ref (ad2 66), .ref (ad2 67), .ref (ad2 68), .int (0 : Int32), .ref (ad2 69), .ref (ad2 70), .ref (ad2 71), .ref (ad2 72), .ref (ad2 73), .int (0 : Int32), .int (0 : Int32), .int (0 : Int32), .ref (ad2 74), .ref (ad2 75), .ref (ad2 76), .ref (ad2 77), .ref (ad2 78), .ref (ad2 79)])) {H : Heap} {locs : List Loc} (h2 : tw_2 G 244 ad1 w1 80 ad2 w2 (fun q => s.heap.size ≤ q) s H locs) {ls : Array Slot} (hl : lv_has ls 7 [(4, .int (0 : Int32)), (3, .ref ao), (2, .ref (ad2 0)), (1, .ref (ad1 0)), (0, .ref b)]) {cells slots : Nat} (h3 : cells ≤ 1000) (h4 : slots ≤ 20000) : W p l e room_1 s m #[Value.ref b] below meth c H locs cells slots (lw_Z below #[Value.ref b] s) (F0 m 1919 ls []) := by
  refine W.widen (k := 1000) (n := 20000) h3 h4 ?_
  have hx := F.1.1
  have hb := F.1.2.1
  have hbA : ¬ (fun q : Nat => s.heap.size ≤ q) b := Nat.not_le.mpr hbl
  refine lv_aload_n hx hb dL_law_1919 rfl (lv_at hl 3 rfl) ?_
  refine lv_aload_n hx hb dL_law_1920 rfl (lv_at hl 4 rfl) ?_
  refine lv_iload hx hb dL_law_1921 (lv_at hl 0 rfl) ?_
  refine lv_iconst (v := 1) hx hb dL_law_1923 (by decide) ?_
  refine lv_iadd hx hb dL_law_1924 ?_
  refine tw_cv (v := (1 : Int32)) (by decide) ?_
  refine va_sld hx hb hX hbl hbA h2.1.2.2 (tw_ix (j := 1) (by decide) (by decide)).1 dL_law_1925 ?_
  refine tw_cv (v := xs 1) rfl ?_
  refine lv_aload_n hx hb dL_law_1926 rfl (lv_at hl 1 rfl) ?_
  refine tw_calli_1 F h2 (tw_runSW (n := 3) (hh := [(0, 9, 12, 13)]) (As := [.ref (ad1 0), .int (xs 1), .ref ao]) (rest := []) F h2.1 (c_L_row l G hst ad1 w1 H.size (xs 1) ((xs 1).toInt) rfl ao k1_0) (tw_gl kw_1334 rfl) (tw_gl kw_1335 rfl) (tw_gl kw_0 rfl) tw_g_row (by decide)  rfl rfl ⟨(Nat.le_of_ble_eq_true rfl), (Nat.le_of_ble_eq_true rfl)⟩ rfl hl.1 rfl (Nat.le_of_ble_eq_true rfl) dL_law_1927 ⟨(Nat.le_of_ble_eq_true rfl), (Nat.le_of_ble_eq_true rfl)⟩) (fun r1 wv2 H locs hp3 h2 => ?_)
  obtain ⟨rfl, -, rfl⟩ := hp3
  refine lv_istore (lv' := [(5, .int (1 : Int32)), (4, .int (0 : Int32)), (3, .ref ao), (2, .ref (ad2 0)), (1, .ref (ad1 0)), (0, .ref b)]) hx hb dL_law_1930 hl (by decide) rfl (fun ls hl => ?_)
  refine lv_aload_n hx hb dL_law_1932 rfl (lv_at hl 3 rfl) ?_
  refine lv_aload_n hx hb dL_law_1933 rfl (lv_at hl 5 rfl) ?_
  refine lv_iload hx hb dL_law_1934 (lv_at hl 1 rfl) ?_
  refine lv_iconst (v := 1) hx hb dL_law_1936 (by decide) ?_
  refine lv_iadd hx hb dL_law_1937 ?_
  refine tw_cv (v := (1 : Int32)) (by decide) ?_
  refine va_sld hx hb hX hbl hbA h2.1.2.2 (tw_ix (j := 1) (by decide) (by decide)).1 dL_law_1938 ?_
  refine tw_cv (v := xs 1) rfl ?_
  refine tw_calli_2 F h2 (tw_runV (r := 0) (As := [.int (xs 1)]) (rest := []) F h2.2.1 (c_X12_row l G ad2 w2 H.size (xs 1) ((xs 1).toInt) rfl k2_0) (tw_gl kw_2086 rfl) km_X12_row kv_X12_row rfl rfl ⟨(Nat.le_of_ble_eq_true rfl), (Nat.le_of_ble_eq_true rfl)⟩ (by decide) k2_0 rfl rfl hl.1 rfl (Nat.le_of_ble_eq_true rfl) dL_law_1939 ⟨(Nat.le_of_ble_eq_true rfl), (Nat.le_of_ble_eq_true rfl)⟩) (fun r5 wv6 H locs hp7 h2 => ?_)
  obtain ⟨rfl, hc8, hu9, -⟩ := hp7
  refine lv_istore (lv' := [(6, .int (0 : Int32)), (5, .int (1 : Int32)), (4, .int (0 : Int32)), (3, .ref ao), (2, .ref (ad2 0)), (1, .ref (ad1 0)), (0, .ref b)]) hx hb dL_law_1942 hl (by decide) rfl (fun ls hl => ?_)
  refine lv_aload_n hx hb dL_law_1944 rfl (lv_at hl 4 rfl) ?_
  refine tw_calli_2 F h2 (tw_runV (r := 0) (As := []) (rest := []) F h2.2.1 (c_X12_thrown l G ad2 wv6 H.size hu9) (tw_gl kw_1341 rfl) km_X12_thrown kv_X12_thrown rfl rfl ⟨(Nat.le_of_ble_eq_true rfl), (Nat.le_of_ble_eq_true rfl)⟩ (by decide) hu9 rfl rfl hl.1 rfl (Nat.le_of_ble_eq_true rfl) dL_law_1945 ⟨(Nat.le_of_ble_eq_true rfl), (Nat.le_of_ble_eq_true rfl)⟩) (fun r10 wv11 H locs hp12 h2 => ?_)
  obtain ⟨rfl, -, rfl⟩ := hp12
  refine lv_iload hx hb dL_law_1948 (lv_at hl 1 rfl) ?_
  refine lv_icmp_eq (tgt := 1955) hx hb dL_law_1950 (by decide) (fun _ => ?_) (fun c => absurd c (by decide))
  refine lv_iload hx hb dL_law_1955 (lv_at hl 1 rfl) ?_
  refine lv_if_ne (tgt := 1972) hx hb dL_law_1957 (by decide) (fun _ => ?_) (fun c => absurd c (by decide))
  refine lv_goto (tgt := 1975) hx hb dL_law_1972 (by decide) ?_
  exact law_tail F hr hlk hX hbl h2.1.2.2 (Nat.le_of_ble_eq_true rfl) (Nat.le_of_ble_eq_true rfl) (lv_sub hl [2, 3, 4, 5, 6] rfl)
