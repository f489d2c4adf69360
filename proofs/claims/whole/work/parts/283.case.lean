/-! the law's cases -/
set_option maxRecDepth 100000 in
set_option maxHeartbeats 4000000 in
theorem case_32 (l : Launch) (hlst : l.stackTraces = false) {p : Program} {e : Env} {s : State} {m : MethodId} {below : List Frame} {meth : Method} {c : Code} {cells slots : Nat} {Q : State → Prop} {b L i mm : Nat} {xs : Nat → Int32} {D : va_G} {g : xG} {M : xM} (h : LC p s m c b L xs D g) (hi : i + 6 ≤ L) (hR : RR mm M) (hm : mm < 536870912) (hc : cells + 6 ≤ 601024) (hs : slots + 36 ≤ 7293034)
    (kk : ∀ M2, RR (mm + 4000) M2 → WW p l e room_1 s m #[.ref b] below meth c (cells + 6) (slots + 36) Q 9 D g tbA 3076 (lvL b g i) [] M2) :
    WW p l e room_1 s m #[.ref b] below meth c cells slots Q 9 D g tbA 1402 (lvL b g i) [] M := by
  obtain ⟨C0, hX, hbl, hbA, hL⟩ := id h
  have hT := C0.2.2.2.2.2.2.1
  obtain ⟨k, r, M1, bv, M2, res, Mo, e1, e2, hR2, hk, hq, hcase⟩ := okT_use (s_wantedTexture hR  (xs (i + 1))) (by decide)
  refine r_aload_n C0 (kk := 1) 1 rfl dL_law_1402 ?_
  refine r_arg C0 hX hbl hbA (show i + 1 < L by omega) hL 0 4 rfl rfl (j := 1) rfl dL_law_1403 dL_law_1404 dL_law_1406 dL_law_1407 dL_law_1408 ?_
  refine r_aload_n C0 (kk := 3) 3 rfl dL_law_1409 ?_
  refine r_callSH C0 (As := [.ref (g.1 4 1664), .int (xs (i + 1)), .ref (g.1 9 5000)]) (rest := []) (c_L_wantedTexture l D g tbA hT hlst fbA oA e1 hk) w5_9 w5_10 w1_0 w5_11 hd_L_wantedTexture rfl ⟨rfl, rfl⟩ ⟨Nat.le_of_ble_eq_true rfl, Nat.le_of_ble_eq_true rfl⟩ (show cells + 1 ≤ 601024 by omega) (show slots + 6 * 1 ≤ 7293034 by omega) rfl (Nat.le_of_ble_eq_true rfl) dL_law_1410 ?_
  refine r_istore C0 (lv2 := (5, .int res) :: lvL b g i) (by decide) rfl dL_law_1413 ?_
  refine r_aload_n C0 (kk := 2) 3 rfl dL_law_1415 ?_
  refine r_arg C0 hX hbl hbA (show i + 1 < L by omega) hL 1 5 rfl rfl (j := 1) rfl dL_law_1416 dL_law_1417 dL_law_1419 dL_law_1420 dL_law_1421 ?_
  refine r_fcall C0 (As := [.int (xs (i + 1))]) (rest := []) (c_X7_wantedTexture l D g (tbX ++ tbM) (T_XM hT) mdXM e2) hq w7_205 w7_206 w7_207 w1_14 w7_208 (x_rec5 C0 mdA.1) hd_X7_wantedTexture rfl ⟨rfl, rfl⟩ ⟨Nat.le_of_ble_eq_true rfl, Nat.le_of_ble_eq_true rfl⟩ (show cells + 1 + 0 ≤ 601024 by omega) (show slots + 6 * 1 + 0 ≤ 7293034 by omega) rfl (Nat.le_of_ble_eq_true rfl) dL_law_1422 ?_
  refine r_tail h hcase (show cells + 1 ≤ 601024 by omega) (show slots + 6 * 1 ≤ 7293034 by omega) dL_law_1425 dL_law_1427 dL_law_1428 dL_law_1431 dL_law_1433 dL_law_1438 dL_law_1440 dL_law_1443 dL_law_1444 dL_law_1445 dL_law_1446 dL_law_1448 dL_law_1449 dL_law_1450 dL_law_1455 (by decide) ?_
  refine WW.widen (k := cells + 6) (n := slots + 36) (by omega) (by omega) ?_
  exact kk _ (RR_o (RR_mono hR2 (by omega)))
set_option maxRecDepth 100000 in
set_option maxHeartbeats 4000000 in
theorem case_33 (l : Launch) (hlst : l.stackTraces = false) {p : Program} {e : Env} {s : State} {m : MethodId} {below : List Frame} {meth : Method} {c : Code} {cells slots : Nat} {Q : State → Prop} {b L i mm : Nat} {xs : Nat → Int32} {D : va_G} {g : xG} {M : xM} (h : LC p s m c b L xs D g) (hi : i + 6 ≤ L) (hR : RR mm M) (hm : mm < 536870912) (hc : cells + 6 ≤ 601024) (hs : slots + 36 ≤ 7293034)
    (kk : ∀ M2, RR (mm + 4000) M2 → WW p l e room_1 s m #[.ref b] below meth c (cells + 6) (slots + 36) Q 9 D g tbA 3076 (lvL b g i) [] M2) :
    WW p l e room_1 s m #[.ref b] below meth c cells slots Q 9 D g tbA 1458 (lvL b g i) [] M := by
  obtain ⟨C0, hX, hbl, hbA, hL⟩ := id h
  have hT := C0.2.2.2.2.2.2.1
  obtain ⟨k, r, M1, bv, M2, res, Mo, e1, e2, hR2, hk, hq, hcase⟩ := okT_use (s_speedOf hR  (xs (i + 1))) (by decide)
  refine r_aload_n C0 (kk := 1) 1 rfl dL_law_1458 ?_
  refine r_arg C0 hX hbl hbA (show i + 1 < L by omega) hL 0 4 rfl rfl (j := 1) rfl dL_law_1459 dL_law_1460 dL_law_1462 dL_law_1463 dL_law_1464 ?_
  refine r_aload_n C0 (kk := 3) 3 rfl dL_law_1465 ?_
  refine r_callSH C0 (As := [.ref (g.1 4 1664), .int (xs (i + 1)), .ref (g.1 9 5000)]) (rest := []) (c_L_speedOf l D g tbA hT hlst fbA oA e1 hk) w5_16 w5_17 w1_0 w5_18 hd_L_speedOf rfl ⟨rfl, rfl⟩ ⟨Nat.le_of_ble_eq_true rfl, Nat.le_of_ble_eq_true rfl⟩ (show cells + 1 ≤ 601024 by omega) (show slots + 6 * 1 ≤ 7293034 by omega) rfl (Nat.le_of_ble_eq_true rfl) dL_law_1466 ?_
  refine r_istore C0 (lv2 := (5, .int res) :: lvL b g i) (by decide) rfl dL_law_1469 ?_
  refine r_aload_n C0 (kk := 2) 3 rfl dL_law_1471 ?_
  refine r_arg C0 hX hbl hbA (show i + 1 < L by omega) hL 1 5 rfl rfl (j := 1) rfl dL_law_1472 dL_law_1473 dL_law_1475 dL_law_1476 dL_law_1477 ?_
  refine r_fcall C0 (As := [.int (xs (i + 1))]) (rest := []) (c_X7_speedOf l D g (tbX ++ tbM) (T_XM hT) mdXM e2) hq w7_209 w7_210 w7_211 w1_14 w7_212 (x_rec5 C0 mdA.1) hd_X7_speedOf rfl ⟨rfl, rfl⟩ ⟨Nat.le_of_ble_eq_true rfl, Nat.le_of_ble_eq_true rfl⟩ (show cells + 1 + 0 ≤ 601024 by omega) (show slots + 6 * 1 + 0 ≤ 7293034 by omega) rfl (Nat.le_of_ble_eq_true rfl) dL_law_1478 ?_
  refine r_tail h hcase (show cells + 1 ≤ 601024 by omega) (show slots + 6 * 1 ≤ 7293034 by omega) dL_law_1481 dL_law_1483 dL_law_1484 dL_law_1487 dL_law_1489 dL_law_1494 dL_law_1496 dL_law_1499 dL_law_1500 dL_law_1501 dL_law_1502 dL_law_1504 dL_law_1505 dL_law_1506 dL_law_1511 (by decide) ?_
  refine WW.widen (k := cells + 6) (n := slots + 36) (by omega) (by omega) ?_
  exact kk _ (RR_o (RR_mono hR2 (by omega)))
set_option maxRecDepth 100000 in
set_option maxHeartbeats 4000000 in
theorem case_34 (l : Launch) (hlst : l.stackTraces = false) {p : Program} {e : Env} {s : State} {m : MethodId} {below : List Frame} {meth : Method} {c : Code} {cells slots : Nat} {Q : State → Prop} {b L i mm : Nat} {xs : Nat → Int32} {D : va_G} {g : xG} {M : xM} (h : LC p s m c b L xs D g) (hi : i + 6 ≤ L) (hR : RR mm M) (hm : mm < 536870912) (hc : cells + 6 ≤ 601024) (hs : slots + 36 ≤ 7293034)
    (kk : ∀ M2, RR (mm + 4000) M2 → WW p l e room_1 s m #[.ref b] below meth c (cells + 6) (slots + 36) Q 9 D g tbA 3076 (lvL b g i) [] M2) :
    WW p l e room_1 s m #[.ref b] below meth c cells slots Q 9 D g tbA 1514 (lvL b g i) [] M := by
  obtain ⟨C0, hX, hbl, hbA, hL⟩ := id h
  have hT := C0.2.2.2.2.2.2.1
  obtain ⟨k, r, M1, bv, M2, res, Mo, e1, e2, hR2, hk, hq, hcase⟩ := okT_use (s_heldFrom hR  (xs (i + 1))) (by decide)
  refine r_aload_n C0 (kk := 1) 1 rfl dL_law_1514 ?_
  refine r_arg C0 hX hbl hbA (show i + 1 < L by omega) hL 0 4 rfl rfl (j := 1) rfl dL_law_1515 dL_law_1516 dL_law_1518 dL_law_1519 dL_law_1520 ?_
  refine r_aload_n C0 (kk := 3) 3 rfl dL_law_1521 ?_
  refine r_callSH C0 (As := [.ref (g.1 4 1664), .int (xs (i + 1)), .ref (g.1 9 5000)]) (rest := []) (c_L_heldFrom l D g tbA hT hlst fbA oA e1 hk) w5_23 w5_24 w1_0 w5_25 hd_L_heldFrom rfl ⟨rfl, rfl⟩ ⟨Nat.le_of_ble_eq_true rfl, Nat.le_of_ble_eq_true rfl⟩ (show cells + 1 ≤ 601024 by omega) (show slots + 6 * 1 ≤ 7293034 by omega) rfl (Nat.le_of_ble_eq_true rfl) dL_law_1522 ?_
  refine r_istore C0 (lv2 := (5, .int res) :: lvL b g i) (by decide) rfl dL_law_1525 ?_
  refine r_aload_n C0 (kk := 2) 3 rfl dL_law_1527 ?_
  refine r_arg C0 hX hbl hbA (show i + 1 < L by omega) hL 1 5 rfl rfl (j := 1) rfl dL_law_1528 dL_law_1529 dL_law_1531 dL_law_1532 dL_law_1533 ?_
  refine r_fcall C0 (As := [.int (xs (i + 1))]) (rest := []) (c_X7_heldFrom l D g (tbX ++ tbM) (T_XM hT) mdXM e2) hq w7_213 w7_214 w7_215 w1_14 w7_216 (x_rec5 C0 mdA.1) hd_X7_heldFrom rfl ⟨rfl, rfl⟩ ⟨Nat.le_of_ble_eq_true rfl, Nat.le_of_ble_eq_true rfl⟩ (show cells + 1 + 0 ≤ 601024 by omega) (show slots + 6 * 1 + 0 ≤ 7293034 by omega) rfl (Nat.le_of_ble_eq_true rfl) dL_law_1534 ?_
  refine r_tail h hcase (show cells + 1 ≤ 601024 by omega) (show slots + 6 * 1 ≤ 7293034 by omega) dL_law_1537 dL_law_1539 dL_law_1540 dL_law_1543 dL_law_1545 dL_law_1550 dL_law_1552 dL_law_1555 dL_law_1556 dL_law_1557 dL_law_1558 dL_law_1560 dL_law_1561 dL_law_1562 dL_law_1567 (by decide) ?_
  refine WW.widen (k := cells + 6) (n := slots + 36) (by omega) (by omega) ?_
  exact kk _ (RR_o (RR_mono hR2 (by omega)))
set_option maxRecDepth 100000 in
set_option maxHeartbeats 4000000 in
theorem case_35 (l : Launch) (hlst : l.stackTraces = false) {p : Program} {e : Env} {s : State} {m : MethodId} {below : List Frame} {meth : Method} {c : Code} {cells slots : Nat} {Q : State → Prop} {b L i mm : Nat} {xs : Nat → Int32} {D : va_G} {g : xG} {M : xM} (h : LC p s m c b L xs D g) (hi : i + 6 ≤ L) (hR : RR mm M) (hm : mm < 536870912) (hc : cells + 6 ≤ 601024) (hs : slots + 36 ≤ 7293034)
    (kk : ∀ M2, RR (mm + 4000) M2 → WW p l e room_1 s m #[.ref b] below meth c (cells + 6) (slots + 36) Q 9 D g tbA 3076 (lvL b g i) [] M2) :
    WW p l e room_1 s m #[.ref b] below meth c cells slots Q 9 D g tbA 1570 (lvL b g i) [] M := by
  obtain ⟨C0, hX, hbl, hbA, hL⟩ := id h
  have hT := C0.2.2.2.2.2.2.1
  obtain ⟨k, r, M1, bv, M2, res, Mo, e1, e2, hR2, hk, hq, hcase⟩ := okT_use (s_debtOf hR  (xs (i + 1))) (by decide)
  refine r_aload_n C0 (kk := 1) 1 rfl dL_law_1570 ?_
  refine r_arg C0 hX hbl hbA (show i + 1 < L by omega) hL 0 4 rfl rfl (j := 1) rfl dL_law_1571 dL_law_1572 dL_law_1574 dL_law_1575 dL_law_1576 ?_
  refine r_aload_n C0 (kk := 3) 3 rfl dL_law_1577 ?_
  refine r_callSH C0 (As := [.ref (g.1 4 1664), .int (xs (i + 1)), .ref (g.1 9 5000)]) (rest := []) (c_L_debtOf l D g tbA hT hlst fbA oA e1 hk) w5_30 w5_31 w1_0 w5_32 hd_L_debtOf rfl ⟨rfl, rfl⟩ ⟨Nat.le_of_ble_eq_true rfl, Nat.le_of_ble_eq_true rfl⟩ (show cells + 1 ≤ 601024 by omega) (show slots + 6 * 1 ≤ 7293034 by omega) rfl (Nat.le_of_ble_eq_true rfl) dL_law_1578 ?_
  refine r_istore C0 (lv2 := (5, .int res) :: lvL b g i) (by decide) rfl dL_law_1581 ?_
  refine r_aload_n C0 (kk := 2) 3 rfl dL_law_1583 ?_
  refine r_arg C0 hX hbl hbA (show i + 1 < L by omega) hL 1 5 rfl rfl (j := 1) rfl dL_law_1584 dL_law_1585 dL_law_1587 dL_law_1588 dL_law_1589 ?_
  refine r_fcall C0 (As := [.int (xs (i + 1))]) (rest := []) (c_X7_debtOf l D g (tbX ++ tbM) (T_XM hT) mdXM e2) hq w7_217 w7_218 w7_219 w1_14 w7_220 (x_rec5 C0 mdA.1) hd_X7_debtOf rfl ⟨rfl, rfl⟩ ⟨Nat.le_of_ble_eq_true rfl, Nat.le_of_ble_eq_true rfl⟩ (show cells + 1 + 0 ≤ 601024 by omega) (show slots + 6 * 1 + 0 ≤ 7293034 by omega) rfl (Nat.le_of_ble_eq_true rfl) dL_law_1590 ?_
  refine r_tail h hcase (show cells + 1 ≤ 601024 by omega) (show slots + 6 * 1 ≤ 7293034 by omega) dL_law_1593 dL_law_1595 dL_law_1596 dL_law_1599 dL_law_1601 dL_law_1606 dL_law_1608 dL_law_1611 dL_law_1612 dL_law_1613 dL_law_1614 dL_law_1616 dL_law_1617 dL_law_1618 dL_law_1623 (by decide) ?_
  refine WW.widen (k := cells + 6) (n := slots + 36) (by omega) (by omega) ?_
  exact kk _ (RR_o (RR_mono hR2 (by omega)))
set_option maxRecDepth 100000 in
set_option maxHeartbeats 4000000 in
theorem case_36 (l : Launch) (hlst : l.stackTraces = false) {p : Program} {e : Env} {s : State} {m : MethodId} {below : List Frame} {meth : Method} {c : Code} {cells slots : Nat} {Q : State → Prop} {b L i mm : Nat} {xs : Nat → Int32} {D : va_G} {g : xG} {M : xM} (h : LC p s m c b L xs D g) (hi : i + 6 ≤ L) (hR : RR mm M) (hm : mm < 536870912) (hc : cells + 6 ≤ 601024) (hs : slots + 36 ≤ 7293034)
    (kk : ∀ M2, RR (mm + 4000) M2 → WW p l e room_1 s m #[.ref b] below meth c (cells + 6) (slots + 36) Q 9 D g tbA 3076 (lvL b g i) [] M2) :
    WW p l e room_1 s m #[.ref b] below meth c cells slots Q 9 D g tbA 1626 (lvL b g i) [] M := by
  obtain ⟨C0, hX, hbl, hbA, hL⟩ := id h
  have hT := C0.2.2.2.2.2.2.1
  obtain ⟨k, r, M1, bv, M2, res, Mo, e1, e2, hR2, hk, hq, hcase⟩ := okT_use (s_avoidedBy hR  (xs (i + 1))) (by decide)
  refine r_aload_n C0 (kk := 1) 1 rfl dL_law_1626 ?_
  refine r_arg C0 hX hbl hbA (show i + 1 < L by omega) hL 0 4 rfl rfl (j := 1) rfl dL_law_1627 dL_law_1628 dL_law_1630 dL_law_1631 dL_law_1632 ?_
  refine r_aload_n C0 (kk := 3) 3 rfl dL_law_1633 ?_
  refine r_callSH C0 (As := [.ref (g.1 4 1664), .int (xs (i + 1)), .ref (g.1 9 5000)]) (rest := []) (c_L_avoidedBy l D g tbA hT hlst fbA oA e1 hk) w5_37 w5_38 w1_0 w5_39 hd_L_avoidedBy rfl ⟨rfl, rfl⟩ ⟨Nat.le_of_ble_eq_true rfl, Nat.le_of_ble_eq_true rfl⟩ (show cells + 1 ≤ 601024 by omega) (show slots + 6 * 1 ≤ 7293034 by omega) rfl (Nat.le_of_ble_eq_true rfl) dL_law_1634 ?_
  refine r_istore C0 (lv2 := (5, .int res) :: lvL b g i) (by decide) rfl dL_law_1637 ?_
  refine r_aload_n C0 (kk := 2) 3 rfl dL_law_1639 ?_
  refine r_arg C0 hX hbl hbA (show i + 1 < L by omega) hL 1 5 rfl rfl (j := 1) rfl dL_law_1640 dL_law_1641 dL_law_1643 dL_law_1644 dL_law_1645 ?_
  refine r_fcall C0 (As := [.int (xs (i + 1))]) (rest := []) (c_X7_avoidedBy l D g (tbX ++ tbM) (T_XM hT) mdXM e2) hq w7_221 w7_222 w7_223 w1_14 w7_224 (x_rec5 C0 mdA.1) hd_X7_avoidedBy rfl ⟨rfl, rfl⟩ ⟨Nat.le_of_ble_eq_true rfl, Nat.le_of_ble_eq_true rfl⟩ (show cells + 1 + 0 ≤ 601024 by omega) (show slots + 6 * 1 + 0 ≤ 7293034 by omega) rfl (Nat.le_of_ble_eq_true rfl) dL_law_1646 ?_
  refine r_tail h hcase (show cells + 1 ≤ 601024 by omega) (show slots + 6 * 1 ≤ 7293034 by omega) dL_law_1649 dL_law_1651 dL_law_1652 dL_law_1655 dL_law_1657 dL_law_1662 dL_law_1664 dL_law_1667 dL_law_1668 dL_law_1669 dL_law_1670 dL_law_1672 dL_law_1673 dL_law_1674 dL_law_1679 (by decide) ?_
  refine WW.widen (k := cells + 6) (n := slots + 36) (by omega) (by omega) ?_
  exact kk _ (RR_o (RR_mono hR2 (by omega)))
set_option maxRecDepth 100000 in
set_option maxHeartbeats 4000000 in
theorem case_37 (l : Launch) (hlst : l.stackTraces = false) {p : Program} {e : Env} {s : State} {m : MethodId} {below : List Frame} {meth : Method} {c : Code} {cells slots : Nat} {Q : State → Prop} {b L i mm : Nat} {xs : Nat → Int32} {D : va_G} {g : xG} {M : xM} (h : LC p s m c b L xs D g) (hi : i + 6 ≤ L) (hR : RR mm M) (hm : mm < 536870912) (hc : cells + 6 ≤ 601024) (hs : slots + 36 ≤ 7293034)
    (kk : ∀ M2, RR (mm + 4000) M2 → WW p l e room_1 s m #[.ref b] below meth c (cells + 6) (slots + 36) Q 9 D g tbA 3076 (lvL b g i) [] M2) :
    WW p l e room_1 s m #[.ref b] below meth c cells slots Q 9 D g tbA 1682 (lvL b g i) [] M := by
  obtain ⟨C0, hX, hbl, hbA, hL⟩ := id h
  have hT := C0.2.2.2.2.2.2.1
  obtain ⟨k, r, M1, bv, M2, res, Mo, e1, e2, hR2, hk, hq, hcase⟩ := okT_use (s_boughtBy hR  (xs (i + 1))) (by decide)
  refine r_aload_n C0 (kk := 1) 1 rfl dL_law_1682 ?_
  refine r_arg C0 hX hbl hbA (show i + 1 < L by omega) hL 0 4 rfl rfl (j := 1) rfl dL_law_1683 dL_law_1684 dL_law_1686 dL_law_1687 dL_law_1688 ?_
  refine r_aload_n C0 (kk := 3) 3 rfl dL_law_1689 ?_
  refine r_callSH C0 (As := [.ref (g.1 4 1664), .int (xs (i + 1)), .ref (g.1 9 5000)]) (rest := []) (c_L_boughtBy l D g tbA hT hlst fbA oA e1 hk) w5_44 w5_45 w1_0 w5_46 hd_L_boughtBy rfl ⟨rfl, rfl⟩ ⟨Nat.le_of_ble_eq_true rfl, Nat.le_of_ble_eq_true rfl⟩ (show cells + 1 ≤ 601024 by omega) (show slots + 6 * 1 ≤ 7293034 by omega) rfl (Nat.le_of_ble_eq_true rfl) dL_law_1690 ?_
  refine r_istore C0 (lv2 := (5, .int res) :: lvL b g i) (by decide) rfl dL_law_1693 ?_
  refine r_aload_n C0 (kk := 2) 3 rfl dL_law_1695 ?_
  refine r_arg C0 hX hbl hbA (show i + 1 < L by omega) hL 1 5 rfl rfl (j := 1) rfl dL_law_1696 dL_law_1697 dL_law_1699 dL_law_1700 dL_law_1701 ?_
  refine r_fcall C0 (As := [.int (xs (i + 1))]) (rest := []) (c_X7_boughtBy l D g (tbX ++ tbM) (T_XM hT) mdXM e2) hq w7_225 w7_226 w7_227 w1_14 w7_228 (x_rec5 C0 mdA.1) hd_X7_boughtBy rfl ⟨rfl, rfl⟩ ⟨Nat.le_of_ble_eq_true rfl, Nat.le_of_ble_eq_true rfl⟩ (show cells + 1 + 0 ≤ 601024 by omega) (show slots + 6 * 1 + 0 ≤ 7293034 by omega) rfl (Nat.le_of_ble_eq_true rfl) dL_law_1702 ?_
  refine r_tail h hcase (show cells + 1 ≤ 601024 by omega) (show slots + 6 * 1 ≤ 7293034 by omega) dL_law_1705 dL_law_1707 dL_law_1708 dL_law_1711 dL_law_1713 dL_law_1718 dL_law_1720 dL_law_1723 dL_law_1724 dL_law_1725 dL_law_1726 dL_law_1728 dL_law_1729 dL_law_1730 dL_law_1735 (by decide) ?_
  refine WW.widen (k := cells + 6) (n := slots + 36) (by omega) (by omega) ?_
  exact kk _ (RR_o (RR_mono hR2 (by omega)))
set_option maxRecDepth 100000 in
set_option maxHeartbeats 4000000 in
theorem case_38 (l : Launch) (hlst : l.stackTraces = false) {p : Program} {e : Env} {s : State} {m : MethodId} {below : List Frame} {meth : Method} {c : Code} {cells slots : Nat} {Q : State → Prop} {b L i mm : Nat} {xs : Nat → Int32} {D : va_G} {g : xG} {M : xM} (h : LC p s m c b L xs D g) (hi : i + 6 ≤ L) (hR : RR mm M) (hm : mm < 536870912) (hc : cells + 6 ≤ 601024) (hs : slots + 36 ≤ 7293034)
    (kk : ∀ M2, RR (mm + 4000) M2 → WW p l e room_1 s m #[.ref b] below meth c (cells + 6) (slots + 36) Q 9 D g tbA 3076 (lvL b g i) [] M2) :
    WW p l e room_1 s m #[.ref b] below meth c cells slots Q 9 D g tbA 1738 (lvL b g i) [] M := by
  obtain ⟨C0, hX, hbl, hbA, hL⟩ := id h
  have hT := C0.2.2.2.2.2.2.1
  obtain ⟨k, r, M1, bv, M2, res, Mo, e1, e2, hR2, hk, hq, hcase⟩ := okT_use (s_targetOf hR (by omega) (xs (i + 1))) (by decide)
  refine r_aload_n C0 (kk := 1) 1 rfl dL_law_1738 ?_
  refine r_arg C0 hX hbl hbA (show i + 1 < L by omega) hL 0 4 rfl rfl (j := 1) rfl dL_law_1739 dL_law_1740 dL_law_1742 dL_law_1743 dL_law_1744 ?_
  refine r_aload_n C0 (kk := 3) 3 rfl dL_law_1745 ?_
  refine r_callSH C0 (As := [.ref (g.1 4 1664), .int (xs (i + 1)), .ref (g.1 9 5000)]) (rest := []) (c_L_targetOf l D g tbA hT hlst fbA oA e1 hk) w5_51 w5_52 w1_0 w5_53 hd_L_targetOf rfl ⟨rfl, rfl⟩ ⟨Nat.le_of_ble_eq_true rfl, Nat.le_of_ble_eq_true rfl⟩ (show cells + 1 ≤ 601024 by omega) (show slots + 6 * 1 ≤ 7293034 by omega) rfl (Nat.le_of_ble_eq_true rfl) dL_law_1746 ?_
  refine r_istore C0 (lv2 := (5, .int res) :: lvL b g i) (by decide) rfl dL_law_1749 ?_
  refine r_aload_n C0 (kk := 2) 3 rfl dL_law_1751 ?_
  refine r_arg C0 hX hbl hbA (show i + 1 < L by omega) hL 1 5 rfl rfl (j := 1) rfl dL_law_1752 dL_law_1753 dL_law_1755 dL_law_1756 dL_law_1757 ?_
  refine r_fcall C0 (As := [.int (xs (i + 1))]) (rest := []) (c_X7_targetOf l D g (tbX ++ tbM) (T_XM hT) mdXM e2) hq w7_229 w7_230 w7_231 w1_14 w7_232 (x_rec5 C0 mdA.1) hd_X7_targetOf rfl ⟨rfl, rfl⟩ ⟨Nat.le_of_ble_eq_true rfl, Nat.le_of_ble_eq_true rfl⟩ (show cells + 1 + 0 ≤ 601024 by omega) (show slots + 6 * 1 + 0 ≤ 7293034 by omega) rfl (Nat.le_of_ble_eq_true rfl) dL_law_1758 ?_
  refine r_tail h hcase (show cells + 1 ≤ 601024 by omega) (show slots + 6 * 1 ≤ 7293034 by omega) dL_law_1761 dL_law_1763 dL_law_1764 dL_law_1767 dL_law_1769 dL_law_1774 dL_law_1776 dL_law_1779 dL_law_1780 dL_law_1781 dL_law_1782 dL_law_1784 dL_law_1785 dL_law_1786 dL_law_1791 (by decide) ?_
  refine WW.widen (k := cells + 6) (n := slots + 36) (by omega) (by omega) ?_
  exact kk _ (RR_o (RR_mono hR2 (by omega)))
set_option maxRecDepth 100000 in
set_option maxHeartbeats 4000000 in
theorem case_39 (l : Launch) (hlst : l.stackTraces = false) {p : Program} {e : Env} {s : State} {m : MethodId} {below : List Frame} {meth : Method} {c : Code} {cells slots : Nat} {Q : State → Prop} {b L i mm : Nat} {xs : Nat → Int32} {D : va_G} {g : xG} {M : xM} (h : LC p s m c b L xs D g) (hi : i + 6 ≤ L) (hR : RR mm M) (hm : mm < 536870912) (hc : cells + 6 ≤ 601024) (hs : slots + 36 ≤ 7293034)
    (kk : ∀ M2, RR (mm + 4000) M2 → WW p l e room_1 s m #[.ref b] below meth c (cells + 6) (slots + 36) Q 9 D g tbA 3076 (lvL b g i) [] M2) :
    WW p l e room_1 s m #[.ref b] below meth c cells slots Q 9 D g tbA 1794 (lvL b g i) [] M := by
  obtain ⟨C0, hX, hbl, hbA, hL⟩ := id h
  have hT := C0.2.2.2.2.2.2.1
  obtain ⟨k, r, M1, bv, M2, res, Mo, e1, e2, hR2, hk, hq, hcase⟩ := okT_use (s_touch hR  (xs (i + 1)) (xs (i + 2))) (by decide)
  refine r_aload_n C0 (kk := 1) 1 rfl dL_law_1794 ?_
  refine r_arg C0 hX hbl hbA (show i + 1 < L by omega) hL 0 4 rfl rfl (j := 1) rfl dL_law_1795 dL_law_1796 dL_law_1798 dL_law_1799 dL_law_1800 ?_
  refine r_arg C0 hX hbl hbA (show i + 2 < L by omega) hL 0 4 rfl rfl (j := 2) rfl dL_law_1801 dL_law_1802 dL_law_1804 dL_law_1805 dL_law_1806 ?_
  refine r_aload_n C0 (kk := 3) 3 rfl dL_law_1807 ?_
  refine r_callSH C0 (As := [.ref (g.1 4 1664), .int (xs (i + 1)), .int (xs (i + 2)), .ref (g.1 9 5000)]) (rest := []) (c_L_touch l D g tbA hT hlst fbA oA e1 hk) w5_60 w5_61 w1_0 w5_62 hd_L_touch rfl ⟨rfl, rfl⟩ ⟨Nat.le_of_ble_eq_true rfl, Nat.le_of_ble_eq_true rfl⟩ (show cells + 2 ≤ 601024 by omega) (show slots + 6 * 2 ≤ 7293034 by omega) rfl (Nat.le_of_ble_eq_true rfl) dL_law_1808 ?_
  refine r_istore C0 (lv2 := (5, .int res) :: lvL b g i) (by decide) rfl dL_law_1811 ?_
  refine r_aload_n C0 (kk := 2) 3 rfl dL_law_1813 ?_
  refine r_arg C0 hX hbl hbA (show i + 1 < L by omega) hL 1 5 rfl rfl (j := 1) rfl dL_law_1814 dL_law_1815 dL_law_1817 dL_law_1818 dL_law_1819 ?_
  refine r_arg C0 hX hbl hbA (show i + 2 < L by omega) hL 1 5 rfl rfl (j := 2) rfl dL_law_1820 dL_law_1821 dL_law_1823 dL_law_1824 dL_law_1825 ?_
  refine r_fcall C0 (As := [.int (xs (i + 1)), .int (xs (i + 2))]) (rest := []) (c_X7_touch l D g (tbX ++ tbM) (T_XM hT) mdXM e2) hq w7_233 w7_234 w7_235 w1_14 w7_236 (x_rec5 C0 mdA.1) hd_X7_touch rfl ⟨rfl, rfl⟩ ⟨Nat.le_of_ble_eq_true rfl, Nat.le_of_ble_eq_true rfl⟩ (show cells + 2 + 0 ≤ 601024 by omega) (show slots + 6 * 2 + 0 ≤ 7293034 by omega) rfl (Nat.le_of_ble_eq_true rfl) dL_law_1826 ?_
  refine r_tail h hcase (show cells + 2 ≤ 601024 by omega) (show slots + 6 * 2 ≤ 7293034 by omega) dL_law_1829 dL_law_1831 dL_law_1832 dL_law_1835 dL_law_1837 dL_law_1842 dL_law_1844 dL_law_1847 dL_law_1848 dL_law_1849 dL_law_1850 dL_law_1852 dL_law_1853 dL_law_1854 dL_law_1859 (by decide) ?_
  refine WW.widen (k := cells + 6) (n := slots + 36) (by omega) (by omega) ?_
  exact kk _ (RR_o (RR_mono hR2 (by omega)))
set_option maxRecDepth 100000 in
set_option maxHeartbeats 4000000 in
theorem case_40 (l : Launch) (hlst : l.stackTraces = false) {p : Program} {e : Env} {s : State} {m : MethodId} {below : List Frame} {meth : Method} {c : Code} {cells slots : Nat} {Q : State → Prop} {b L i mm : Nat} {xs : Nat → Int32} {D : va_G} {g : xG} {M : xM} (h : LC p s m c b L xs D g) (hi : i + 6 ≤ L) (hR : RR mm M) (hm : mm < 536870912) (hc : cells + 6 ≤ 601024) (hs : slots + 36 ≤ 7293034)
    (kk : ∀ M2, RR (mm + 4000) M2 → WW p l e room_1 s m #[.ref b] below meth c (cells + 6) (slots + 36) Q 9 D g tbA 3076 (lvL b g i) [] M2) :
    WW p l e room_1 s m #[.ref b] below meth c cells slots Q 9 D g tbA 1862 (lvL b g i) [] M := by
  obtain ⟨C0, hX, hbl, hbA, hL⟩ := id h
  have hT := C0.2.2.2.2.2.2.1
  obtain ⟨r, M1, M2, e1, e2, hR2⟩ := s_coinsInAll hR  
  refine r_aload_n C0 (kk := 1) 1 rfl dL_law_1862 ?_
  refine r_callVi C0 (As := []) (rest := []) (c_X6_coinsInAll l D g tbA hT fbA e1) w3_226 w3_227 w3_228 w1_1 w3_229 (x_rec4 C0 fbA.1) hd_X6_coinsInAll rfl ⟨rfl, rfl⟩ ⟨Nat.le_of_ble_eq_true rfl, Nat.le_of_ble_eq_true rfl⟩ (show cells + 0 ≤ 601024 by omega) (show slots + 0 ≤ 7293034 by omega) rfl (Nat.le_of_ble_eq_true rfl) dL_law_1863 ?_
  refine r_aload_n C0 (kk := 2) 2 rfl dL_law_1866 ?_
  refine r_callVi C0 (As := []) (rest := [.int r]) (c_X7_coinsInAll l D g tbA hT mdA e2) w7_237 w7_238 w7_239 w1_14 w8_0 (x_rec5 C0 mdA.1) hd_X7_coinsInAll rfl ⟨rfl, rfl⟩ ⟨Nat.le_of_ble_eq_true rfl, Nat.le_of_ble_eq_true rfl⟩ (show cells + 0 ≤ 601024 by omega) (show slots + 0 ≤ 7293034 by omega) rfl (Nat.le_of_ble_eq_true rfl) dL_law_1867 ?_
  refine r_icmp_eq C0 (tgt := 3076) (by decide) dL_law_1870 (fun q => ?_) (fun q => absurd rfl q)
  refine WW.widen (k := cells + 6) (n := slots + 36) (by omega) (by omega) ?_
  exact kk _ (RR_mono hR2 (by omega))
set_option maxRecDepth 100000 in
set_option maxHeartbeats 4000000 in
theorem case_41 (l : Launch) (hlst : l.stackTraces = false) {p : Program} {e : Env} {s : State} {m : MethodId} {below : List Frame} {meth : Method} {c : Code} {cells slots : Nat} {Q : State → Prop} {b L i mm : Nat} {xs : Nat → Int32} {D : va_G} {g : xG} {M : xM} (h : LC p s m c b L xs D g) (hi : i + 6 ≤ L) (hR : RR mm M) (hm : mm < 536870912) (hc : cells + 6 ≤ 601024) (hs : slots + 36 ≤ 7293034)
    (kk : ∀ M2, RR (mm + 4000) M2 → WW p l e room_1 s m #[.ref b] below meth c (cells + 6) (slots + 36) Q 9 D g tbA 3076 (lvL b g i) [] M2) :
    WW p l e room_1 s m #[.ref b] below meth c cells slots Q 9 D g tbA 1875 (lvL b g i) [] M := by
  obtain ⟨C0, hX, hbl, hbA, hL⟩ := id h
  have hT := C0.2.2.2.2.2.2.1
  obtain ⟨r, M1, M2, e1, e2, hR2⟩ := s_consistencyError hR  
  refine r_aload_n C0 (kk := 1) 1 rfl dL_law_1875 ?_
  refine r_callVi C0 (As := []) (rest := []) (c_X6_consistencyError l D g tbA hT fbA e1) w3_234 w3_235 w3_236 w1_1 w3_237 (x_rec4 C0 fbA.1) hd_X6_consistencyError rfl ⟨rfl, rfl⟩ ⟨Nat.le_of_ble_eq_true rfl, Nat.le_of_ble_eq_true rfl⟩ (show cells + 0 ≤ 601024 by omega) (show slots + 0 ≤ 7293034 by omega) rfl (Nat.le_of_ble_eq_true rfl) dL_law_1876 ?_
  refine r_aload_n C0 (kk := 2) 2 rfl dL_law_1879 ?_
  refine r_callVi C0 (As := []) (rest := [.int r]) (c_X7_consistencyError l D g tbA hT mdA e2) w8_5 w8_6 w8_7 w1_14 w8_8 (x_rec5 C0 mdA.1) hd_X7_consistencyError rfl ⟨rfl, rfl⟩ ⟨Nat.le_of_ble_eq_true rfl, Nat.le_of_ble_eq_true rfl⟩ (show cells + 0 ≤ 601024 by omega) (show slots + 0 ≤ 7293034 by omega) rfl (Nat.le_of_ble_eq_true rfl) dL_law_1880 ?_
  refine r_icmp_eq C0 (tgt := 3076) (by decide) dL_law_1883 (fun q => ?_) (fun q => absurd rfl q)
  refine WW.widen (k := cells + 6) (n := slots + 36) (by omega) (by omega) ?_
  exact kk _ (RR_mono hR2 (by omega))
set_option maxRecDepth 100000 in
set_option maxHeartbeats 4000000 in
theorem case_42 (l : Launch) (hlst : l.stackTraces = false) {p : Program} {e : Env} {s : State} {m : MethodId} {below : List Frame} {meth : Method} {c : Code} {cells slots : Nat} {Q : State → Prop} {b L i mm : Nat} {xs : Nat → Int32} {D : va_G} {g : xG} {M : xM} (h : LC p s m c b L xs D g) (hi : i + 6 ≤ L) (hR : RR mm M) (hm : mm < 536870912) (hc : cells + 6 ≤ 601024) (hs : slots + 36 ≤ 7293034)
    (kk : ∀ M2, RR (mm + 4000) M2 → WW p l e room_1 s m #[.ref b] below meth c (cells + 6) (slots + 36) Q 9 D g tbA 3076 (lvL b g i) [] M2) :
    WW p l e room_1 s m #[.ref b] below meth c cells slots Q 9 D g tbA 1888 (lvL b g i) [] M := by
  obtain ⟨C0, hX, hbl, hbA, hL⟩ := id h
  have hT := C0.2.2.2.2.2.2.1
  obtain ⟨S, E, a1, a2, a3, a4, hR2⟩ := s_meanPaid hR
  have hv := dq_n E S
  refine r_aload_n C0 (kk := 1) 1 rfl dL_law_1888 ?_
  refine r_callVd C0 (As := []) (rest := []) (c_X6_meanPaid l D g tbA hT fbA a1 a2) w4_3 w4_4 w4_5 w1_1 w4_6 (x_rec4 C0 fbA.1) hd_X6_meanPaid rfl ⟨rfl, rfl⟩ ⟨Nat.le_of_ble_eq_true rfl, Nat.le_of_ble_eq_true rfl⟩ (show cells + 0 ≤ 601024 by omega) (show slots + 0 ≤ 7293034 by omega) rfl (Nat.le_of_ble_eq_true rfl) dL_law_1889 ?_
  refine r_dstore C0 (lv2 := (5, .double (dq E S)) :: lvL b g i) (by decide) rfl dL_law_1892 ?_
  refine r_aload_n C0 (kk := 2) 3 rfl dL_law_1894 ?_
  refine r_callVd C0 (As := []) (rest := []) (c_X7_meanPaid l D g tbA hT mdA a3 a4) w8_10 w8_11 w8_12 w1_14 w8_13 (x_rec5 C0 mdA.1) hd_X7_meanPaid rfl ⟨rfl, rfl⟩ ⟨Nat.le_of_ble_eq_true rfl, Nat.le_of_ble_eq_true rfl⟩ (show cells + 0 ≤ 601024 by omega) (show slots + 0 ≤ 7293034 by omega) rfl (Nat.le_of_ble_eq_true rfl) dL_law_1895 ?_
  refine r_dstore C0 (lv2 := [(7, .double (dq E S)), (5, .double (dq E S))] ++ lvL b g i) (by decide) rfl dL_law_1898 ?_
  refine r_dload C0 1 rfl dL_law_1900 ?_
  refine r_dload C0 0 rfl dL_law_1902 ?_
  refine r_dcmp C0 dL_law_1904 ?_
  refine r_if_eq C0 (tgt := 1926) (by decide) dL_law_1905 (fun q => ?_) (fun q => absurd (dcmp_z hv _) q)
  refine r_goto C0 (tgt := 3076) (by decide) dL_law_1926 ?_
  refine WW.sub [2, 3, 4, 5, 6] rfl ?_
  refine WW.widen (k := cells + 6) (n := slots + 36) (by omega) (by omega) ?_
  exact kk _ (RR_mono hR2 (by omega))
set_option maxRecDepth 100000 in
set_option maxHeartbeats 4000000 in
theorem case_43 (l : Launch) (hlst : l.stackTraces = false) {p : Program} {e : Env} {s : State} {m : MethodId} {below : List Frame} {meth : Method} {c : Code} {cells slots : Nat} {Q : State → Prop} {b L i mm : Nat} {xs : Nat → Int32} {D : va_G} {g : xG} {M : xM} (h : LC p s m c b L xs D g) (hi : i + 6 ≤ L) (hR : RR mm M) (hm : mm < 536870912) (hc : cells + 6 ≤ 601024) (hs : slots + 36 ≤ 7293034)
    (kk : ∀ M2, RR (mm + 4000) M2 → WW p l e room_1 s m #[.ref b] below meth c (cells + 6) (slots + 36) Q 9 D g tbA 3076 (lvL b g i) [] M2) :
    WW p l e room_1 s m #[.ref b] below meth c cells slots Q 9 D g tbA 1929 (lvL b g i) [] M := by
  obtain ⟨C0, hX, hbl, hbA, hL⟩ := id h
  have hT := C0.2.2.2.2.2.2.1
  obtain ⟨ns, hn, hM9, a3, a4, hR2⟩ := s_spoiledShare hR
  have hv := fq_n (SI (fun i => M (23 + 9 * i + 6)) ns) (SI (fun i => M (23 + 9 * i + 8)) ns)
  refine r_aload_n C0 (kk := 1) 1 rfl dL_law_1929 ?_
  refine r_callVf C0 (As := []) (rest := []) (c_X6_spoiledShare l D g tbA hT fbA hn hM9) w4_11 w4_12 w4_13 w1_1 w4_14 (x_rec4 C0 fbA.1) hd_X6_spoiledShare rfl ⟨rfl, rfl⟩ ⟨Nat.le_of_ble_eq_true rfl, Nat.le_of_ble_eq_true rfl⟩ (show cells + 0 ≤ 601024 by omega) (show slots + 0 ≤ 7293034 by omega) rfl (Nat.le_of_ble_eq_true rfl) dL_law_1930 ?_
  refine r_f2d C0 (n64_of hv) dL_law_1933 ?_
  refine r_dstore C0 (lv2 := (5, .double (FP.f2d (fq (SI (fun i => M (23 + 9 * i + 6)) ns) (SI (fun i => M (23 + 9 * i + 8)) ns)))) :: lvL b g i) (by decide) rfl dL_law_1934 ?_
  refine r_aload_n C0 (kk := 2) 3 rfl dL_law_1936 ?_
  refine r_callVf C0 (As := []) (rest := []) (c_X7_spoiledShare l D g tbA hT mdA a3 a4) w8_14 w8_15 w8_16 w1_14 w8_17 (x_rec5 C0 mdA.1) hd_X7_spoiledShare rfl ⟨rfl, rfl⟩ ⟨Nat.le_of_ble_eq_true rfl, Nat.le_of_ble_eq_true rfl⟩ (show cells + 0 ≤ 601024 by omega) (show slots + 0 ≤ 7293034 by omega) rfl (Nat.le_of_ble_eq_true rfl) dL_law_1937 ?_
  refine r_f2d C0 (n64_of hv) dL_law_1940 ?_
  refine r_dstore C0 (lv2 := [(7, .double (FP.f2d (fq (SI (fun i => M (23 + 9 * i + 6)) ns) (SI (fun i => M (23 + 9 * i + 8)) ns)))), (5, .double (FP.f2d (fq (SI (fun i => M (23 + 9 * i + 6)) ns) (SI (fun i => M (23 + 9 * i + 8)) ns))))] ++ lvL b g i) (by decide) rfl dL_law_1941 ?_
  refine r_dload C0 1 rfl dL_law_1943 ?_
  refine r_dload C0 0 rfl dL_law_1945 ?_
  refine r_dcmp C0 dL_law_1947 ?_
  refine r_if_eq C0 (tgt := 1969) (by decide) dL_law_1948 (fun q => ?_) (fun q => absurd (dcmp_z hv _) q)
  refine r_goto C0 (tgt := 3076) (by decide) dL_law_1969 ?_
  refine WW.sub [2, 3, 4, 5, 6] rfl ?_
  refine WW.widen (k := cells + 6) (n := slots + 36) (by omega) (by omega) ?_
  exact kk _ (RR_mono hR2 (by omega))
set_option maxRecDepth 100000 in
set_option maxHeartbeats 4000000 in
theorem case_44 (l : Launch) (hlst : l.stackTraces = false) {p : Program} {e : Env} {s : State} {m : MethodId} {below : List Frame} {meth : Method} {c : Code} {cells slots : Nat} {Q : State → Prop} {b L i mm : Nat} {xs : Nat → Int32} {D : va_G} {g : xG} {M : xM} (h : LC p s m c b L xs D g) (hi : i + 6 ≤ L) (hR : RR mm M) (hm : mm < 536870912) (hc : cells + 6 ≤ 601024) (hs : slots + 36 ≤ 7293034)
    (kk : ∀ M2, RR (mm + 4000) M2 → WW p l e room_1 s m #[.ref b] below meth c (cells + 6) (slots + 36) Q 9 D g tbA 3076 (lvL b g i) [] M2) :
    WW p l e room_1 s m #[.ref b] below meth c cells slots Q 9 D g tbA 1972 (lvL b g i) [] M := by
  obtain ⟨C0, hX, hbl, hbA, hL⟩ := id h
  have hT := C0.2.2.2.2.2.2.1
  obtain ⟨k, r, M1, bv, M2, res, Mo, e1, e2, hR2, hk, hq, hcase⟩ := okT_use (s_minutesToPay hR (by omega) (xs (i + 1))) (by decide)
  refine r_aload_n C0 (kk := 1) 1 rfl dL_law_1972 ?_
  refine r_arg C0 hX hbl hbA (show i + 1 < L by omega) hL 0 4 rfl rfl (j := 1) rfl dL_law_1973 dL_law_1974 dL_law_1976 dL_law_1977 dL_law_1978 ?_
  refine r_aload_n C0 (kk := 3) 3 rfl dL_law_1979 ?_
  refine r_callSH C0 (As := [.ref (g.1 4 1664), .int (xs (i + 1)), .ref (g.1 9 5000)]) (rest := []) (c_L_minutesToPay l D g tbA hT hlst fbA oA e1 hk) w5_68 w5_69 w1_0 w5_70 hd_L_minutesToPay rfl ⟨rfl, rfl⟩ ⟨Nat.le_of_ble_eq_true rfl, Nat.le_of_ble_eq_true rfl⟩ (show cells + 1 ≤ 601024 by omega) (show slots + 6 * 1 ≤ 7293034 by omega) rfl (Nat.le_of_ble_eq_true rfl) dL_law_1980 ?_
  refine r_istore C0 (lv2 := (5, .int res) :: lvL b g i) (by decide) rfl dL_law_1983 ?_
  refine r_aload_n C0 (kk := 2) 3 rfl dL_law_1985 ?_
  refine r_arg C0 hX hbl hbA (show i + 1 < L by omega) hL 1 5 rfl rfl (j := 1) rfl dL_law_1986 dL_law_1987 dL_law_1989 dL_law_1990 dL_law_1991 ?_
  refine r_fcall C0 (As := [.int (xs (i + 1))]) (rest := []) (c_X7_minutesToPay l D g (tbX ++ tbM) (T_XM hT) mdXM e2) hq w8_18 w8_19 w8_20 w1_14 w8_21 (x_rec5 C0 mdA.1) hd_X7_minutesToPay rfl ⟨rfl, rfl⟩ ⟨Nat.le_of_ble_eq_true rfl, Nat.le_of_ble_eq_true rfl⟩ (show cells + 1 + 0 ≤ 601024 by omega) (show slots + 6 * 1 + 0 ≤ 7293034 by omega) rfl (Nat.le_of_ble_eq_true rfl) dL_law_1992 ?_
  refine r_tail h hcase (show cells + 1 ≤ 601024 by omega) (show slots + 6 * 1 ≤ 7293034 by omega) dL_law_1995 dL_law_1997 dL_law_1998 dL_law_2001 dL_law_2003 dL_law_2008 dL_law_2010 dL_law_2013 dL_law_2014 dL_law_2015 dL_law_2016 dL_law_2018 dL_law_2019 dL_law_2020 dL_law_2025 (by decide) ?_
  refine WW.widen (k := cells + 6) (n := slots + 36) (by omega) (by omega) ?_
  exact kk _ (RR_o (RR_mono hR2 (by omega)))
set_option maxRecDepth 100000 in
set_option maxHeartbeats 4000000 in
theorem case_45 (l : Launch) (hlst : l.stackTraces = false) {p : Program} {e : Env} {s : State} {m : MethodId} {below : List Frame} {meth : Method} {c : Code} {cells slots : Nat} {Q : State → Prop} {b L i mm : Nat} {xs : Nat → Int32} {D : va_G} {g : xG} {M : xM} (h : LC p s m c b L xs D g) (hi : i + 6 ≤ L) (hR : RR mm M) (hm : mm < 536870912) (hc : cells + 6 ≤ 601024) (hs : slots + 36 ≤ 7293034)
    (kk : ∀ M2, RR (mm + 4000) M2 → WW p l e room_1 s m #[.ref b] below meth c (cells + 6) (slots + 36) Q 9 D g tbA 3076 (lvL b g i) [] M2) :
    WW p l e room_1 s m #[.ref b] below meth c cells slots Q 9 D g tbA 2028 (lvL b g i) [] M := by
  obtain ⟨C0, hX, hbl, hbA, hL⟩ := id h
  have hT := C0.2.2.2.2.2.2.1
  obtain ⟨k, r, M1, bv, M2, res, Mo, e1, e2, hR2, hk, hq, hcase⟩ := okT_use (s_earningsAfter hR (by omega) (xs (i + 1)) (xs (i + 2))) (by decide)
  refine r_aload_n C0 (kk := 1) 1 rfl dL_law_2028 ?_
  refine r_arg C0 hX hbl hbA (show i + 1 < L by omega) hL 0 4 rfl rfl (j := 1) rfl dL_law_2029 dL_law_2030 dL_law_2032 dL_law_2033 dL_law_2034 ?_
  refine r_arg C0 hX hbl hbA (show i + 2 < L by omega) hL 0 4 rfl rfl (j := 2) rfl dL_law_2035 dL_law_2036 dL_law_2038 dL_law_2039 dL_law_2040 ?_
  refine r_aload_n C0 (kk := 3) 3 rfl dL_law_2041 ?_
  refine r_callSH C0 (As := [.ref (g.1 4 1664), .int (xs (i + 1)), .int (xs (i + 2)), .ref (g.1 9 5000)]) (rest := []) (c_L_earningsAfter l D g tbA hT hlst fbA oA e1 hk) w5_75 w5_76 w1_0 w5_77 hd_L_earningsAfter rfl ⟨rfl, rfl⟩ ⟨Nat.le_of_ble_eq_true rfl, Nat.le_of_ble_eq_true rfl⟩ (show cells + 2 ≤ 601024 by omega) (show slots + 6 * 2 ≤ 7293034 by omega) rfl (Nat.le_of_ble_eq_true rfl) dL_law_2042 ?_
  refine r_istore C0 (lv2 := (5, .int res) :: lvL b g i) (by decide) rfl dL_law_2045 ?_
  refine r_aload_n C0 (kk := 2) 3 rfl dL_law_2047 ?_
  refine r_arg C0 hX hbl hbA (show i + 1 < L by omega) hL 1 5 rfl rfl (j := 1) rfl dL_law_2048 dL_law_2049 dL_law_2051 dL_law_2052 dL_law_2053 ?_
  refine r_arg C0 hX hbl hbA (show i + 2 < L by omega) hL 1 5 rfl rfl (j := 2) rfl dL_law_2054 dL_law_2055 dL_law_2057 dL_law_2058 dL_law_2059 ?_
  refine r_fcall C0 (As := [.int (xs (i + 1)), .int (xs (i + 2))]) (rest := []) (c_X7_earningsAfter l D g (tbX ++ tbM) (T_XM hT) mdXM e2) hq w8_30 w8_31 w8_32 w1_14 w8_33 (x_rec5 C0 mdA.1) hd_X7_earningsAfter rfl ⟨rfl, rfl⟩ ⟨Nat.le_of_ble_eq_true rfl, Nat.le_of_ble_eq_true rfl⟩ (show cells + 2 + 0 ≤ 601024 by omega) (show slots + 6 * 2 + 0 ≤ 7293034 by omega) rfl (Nat.le_of_ble_eq_true rfl) dL_law_2060 ?_
  refine r_tail h hcase (show cells + 2 ≤ 601024 by omega) (show slots + 6 * 2 ≤ 7293034 by omega) dL_law_2063 dL_law_2065 dL_law_2066 dL_law_2069 dL_law_2071 dL_law_2076 dL_law_2078 dL_law_2081 dL_law_2082 dL_law_2083 dL_law_2084 dL_law_2086 dL_law_2087 dL_law_2088 dL_law_2093 (by decide) ?_
  refine WW.widen (k := cells + 6) (n := slots + 36) (by omega) (by omega) ?_
  exact kk _ (RR_o (RR_mono hR2 (by omega)))
set_option maxRecDepth 100000 in
set_option maxHeartbeats 4000000 in
theorem case_46 (l : Launch) (hlst : l.stackTraces = false) {p : Program} {e : Env} {s : State} {m : MethodId} {below : List Frame} {meth : Method} {c : Code} {cells slots : Nat} {Q : State → Prop} {b L i mm : Nat} {xs : Nat → Int32} {D : va_G} {g : xG} {M : xM} (h : LC p s m c b L xs D g) (hi : i + 6 ≤ L) (hR : RR mm M) (hm : mm < 536870912) (hc : cells + 6 ≤ 601024) (hs : slots + 36 ≤ 7293034)
    (kk : ∀ M2, RR (mm + 4000) M2 → WW p l e room_1 s m #[.ref b] below meth c (cells + 6) (slots + 36) Q 9 D g tbA 3076 (lvL b g i) [] M2) :
    WW p l e room_1 s m #[.ref b] below meth c cells slots Q 9 D g tbA 2096 (lvL b g i) [] M := by
  obtain ⟨C0, hX, hbl, hbA, hL⟩ := id h
  have hT := C0.2.2.2.2.2.2.1
  obtain ⟨k, r, M1, bv, M2, res, Mo, e1, e2, hR2, hk, hq, hcase⟩ := okT_use (s_bestPrice hR (by omega) (xs (i + 1))) (by decide)
  refine r_aload_n C0 (kk := 1) 1 rfl dL_law_2096 ?_
  refine r_arg C0 hX hbl hbA (show i + 1 < L by omega) hL 0 4 rfl rfl (j := 1) rfl dL_law_2097 dL_law_2098 dL_law_2100 dL_law_2101 dL_law_2102 ?_
  refine r_aload_n C0 (kk := 3) 3 rfl dL_law_2103 ?_
  refine r_callSH C0 (As := [.ref (g.1 4 1664), .int (xs (i + 1)), .ref (g.1 9 5000)]) (rest := []) (c_L_bestPrice l D g tbA hT hlst fbA oA e1 hk) w5_82 w5_83 w1_0 w5_84 hd_L_bestPrice rfl ⟨rfl, rfl⟩ ⟨Nat.le_of_ble_eq_true rfl, Nat.le_of_ble_eq_true rfl⟩ (show cells + 1 ≤ 601024 by omega) (show slots + 6 * 1 ≤ 7293034 by omega) rfl (Nat.le_of_ble_eq_true rfl) dL_law_2104 ?_
  refine r_istore C0 (lv2 := (5, .int res) :: lvL b g i) (by decide) rfl dL_law_2107 ?_
  refine r_aload_n C0 (kk := 2) 3 rfl dL_law_2109 ?_
  refine r_arg C0 hX hbl hbA (show i + 1 < L by omega) hL 1 5 rfl rfl (j := 1) rfl dL_law_2110 dL_law_2111 dL_law_2113 dL_law_2114 dL_law_2115 ?_
  refine r_fcall C0 (As := [.int (xs (i + 1))]) (rest := []) (c_X7_bestPrice l D g (tbX ++ tbM) (T_XM hT) mdXM e2) hq w8_38 w8_39 w8_40 w1_14 w8_41 (x_rec5 C0 mdA.1) hd_X7_bestPrice rfl ⟨rfl, rfl⟩ ⟨Nat.le_of_ble_eq_true rfl, Nat.le_of_ble_eq_true rfl⟩ (show cells + 1 + 0 ≤ 601024 by omega) (show slots + 6 * 1 + 0 ≤ 7293034 by omega) rfl (Nat.le_of_ble_eq_true rfl) dL_law_2116 ?_
  refine r_tail h hcase (show cells + 1 ≤ 601024 by omega) (show slots + 6 * 1 ≤ 7293034 by omega) dL_law_2119 dL_law_2121 dL_law_2122 dL_law_2125 dL_law_2127 dL_law_2132 dL_law_2134 dL_law_2137 dL_law_2138 dL_law_2139 dL_law_2140 dL_law_2142 dL_law_2143 dL_law_2144 dL_law_2149 (by decide) ?_
  refine WW.widen (k := cells + 6) (n := slots + 36) (by omega) (by omega) ?_
  exact kk _ (RR_o (RR_mono hR2 (by omega)))
set_option maxRecDepth 100000 in
set_option maxHeartbeats 4000000 in
theorem case_47 (l : Launch) (hlst : l.stackTraces = false) {p : Program} {e : Env} {s : State} {m : MethodId} {below : List Frame} {meth : Method} {c : Code} {cells slots : Nat} {Q : State → Prop} {b L i mm : Nat} {xs : Nat → Int32} {D : va_G} {g : xG} {M : xM} (h : LC p s m c b L xs D g) (hi : i + 6 ≤ L) (hR : RR mm M) (hm : mm < 536870912) (hc : cells + 6 ≤ 601024) (hs : slots + 36 ≤ 7293034)
    (kk : ∀ M2, RR (mm + 4000) M2 → WW p l e room_1 s m #[.ref b] below meth c (cells + 6) (slots + 36) Q 9 D g tbA 3076 (lvL b g i) [] M2) :
    WW p l e room_1 s m #[.ref b] below meth c cells slots Q 9 D g tbA 2152 (lvL b g i) [] M := by
  obtain ⟨C0, hX, hbl, hbA, hL⟩ := id h
  have hT := C0.2.2.2.2.2.2.1
  obtain ⟨k, r, M1, bv, M2, res, Mo, e1, e2, hR2, hk, hq, hcase⟩ := okT_use (s_bestLantern hR (by omega) (xs (i + 1))) (by decide)
  refine r_aload_n C0 (kk := 1) 1 rfl dL_law_2152 ?_
  refine r_arg C0 hX hbl hbA (show i + 1 < L by omega) hL 0 4 rfl rfl (j := 1) rfl dL_law_2153 dL_law_2154 dL_law_2156 dL_law_2157 dL_law_2158 ?_
  refine r_aload_n C0 (kk := 3) 3 rfl dL_law_2159 ?_
  refine r_callSH C0 (As := [.ref (g.1 4 1664), .int (xs (i + 1)), .ref (g.1 9 5000)]) (rest := []) (c_L_bestLantern l D g tbA hT hlst fbA oA e1 hk) w5_89 w5_90 w1_0 w5_91 hd_L_bestLantern rfl ⟨rfl, rfl⟩ ⟨Nat.le_of_ble_eq_true rfl, Nat.le_of_ble_eq_true rfl⟩ (show cells + 1 ≤ 601024 by omega) (show slots + 6 * 1 ≤ 7293034 by omega) rfl (Nat.le_of_ble_eq_true rfl) dL_law_2160 ?_
  refine r_istore C0 (lv2 := (5, .int res) :: lvL b g i) (by decide) rfl dL_law_2163 ?_
  refine r_aload_n C0 (kk := 2) 3 rfl dL_law_2165 ?_
  refine r_arg C0 hX hbl hbA (show i + 1 < L by omega) hL 1 5 rfl rfl (j := 1) rfl dL_law_2166 dL_law_2167 dL_law_2169 dL_law_2170 dL_law_2171 ?_
  refine r_fcall C0 (As := [.int (xs (i + 1))]) (rest := []) (c_X7_bestLantern l D g (tbX ++ tbM) (T_XM hT) mdXM e2) hq w8_46 w8_47 w8_48 w1_14 w8_49 (x_rec5 C0 mdA.1) hd_X7_bestLantern rfl ⟨rfl, rfl⟩ ⟨Nat.le_of_ble_eq_true rfl, Nat.le_of_ble_eq_true rfl⟩ (show cells + 1 + 0 ≤ 601024 by omega) (show slots + 6 * 1 + 0 ≤ 7293034 by omega) rfl (Nat.le_of_ble_eq_true rfl) dL_law_2172 ?_
  refine r_tail h hcase (show cells + 1 ≤ 601024 by omega) (show slots + 6 * 1 ≤ 7293034 by omega) dL_law_2175 dL_law_2177 dL_law_2178 dL_law_2181 dL_law_2183 dL_law_2188 dL_law_2190 dL_law_2193 dL_law_2194 dL_law_2195 dL_law_2196 dL_law_2198 dL_law_2199 dL_law_2200 dL_law_2205 (by decide) ?_
  refine WW.widen (k := cells + 6) (n := slots + 36) (by omega) (by omega) ?_
  exact kk _ (RR_o (RR_mono hR2 (by omega)))
